/-! throws of the class's own -/
def q_nm : List String := ["java/lang/RuntimeException", "java/lang/Exception"]
theorem q_nmf : ∀ n ∈ q_nm, Bundle.fit n = true := by decide +kernel
theorem q_fit56 : Bundle.fit "java/lang/IllegalArgumentException" = true := by decide +kernel
theorem q_fit125 : Bundle.fit "java/lang/IllegalStateException" = true := by decide +kernel
theorem q_fit306 : Bundle.fit "java/lang/IndexOutOfBoundsException" = true := by decide +kernel
theorem q_na56 : ∀ w ∈ (vx_atS RX4 56 "java/lang/IllegalArgumentException" q_nm).filter (fun w => !goodWord w), w ∈ q_xw := by decide +kernel
theorem q_na125 : ∀ w ∈ (vx_atS RX4 125 "java/lang/IllegalStateException" q_nm).filter (fun w => !goodWord w), w ∈ q_xw := by decide +kernel
theorem q_na306 : ∀ w ∈ (vx_atS RX4 306 "java/lang/IndexOutOfBoundsException" q_nm).filter (fun w => !goodWord w), w ∈ q_xw := by decide +kernel
theorem q_ot56 : ∀ w ∈ Cond.classLink RX4 52 "java/lang/IllegalArgumentException" :: Cond.initialized "java/lang/IllegalArgumentException" :: vx_atS RX4 56 "java/lang/IllegalArgumentException" q_nm, vx_ot w = true := by decide +kernel
theorem q_ot125 : ∀ w ∈ Cond.classLink RX4 121 "java/lang/IllegalStateException" :: Cond.initialized "java/lang/IllegalStateException" :: vx_atS RX4 125 "java/lang/IllegalStateException" q_nm, vx_ot w = true := by decide +kernel
theorem q_ot306 : ∀ w ∈ Cond.classLink RX4 302 "java/lang/IndexOutOfBoundsException" :: Cond.initialized "java/lang/IndexOutOfBoundsException" :: vx_atS RX4 306 "java/lang/IndexOutOfBoundsException" q_nm, vx_ot w = true := by decide +kernel
theorem q_xw_b {args : Array Value} {s : State} (hV : q_Wo s) : ∀ w ∈ q_xw, w.before args s = true := fun w hw => by
  rcases q_xw_form w hw with ⟨a, b, rfl⟩ | ⟨x, rfl⟩
  · exact va_tabs (A := #[]) (u := s) rfl rfl (hV.1 _ hw)
  · exact va_tabs (A := #[]) (u := s) rfl rfl (hV.1 _ hw)
theorem tsw_out {x : Int32} {hi : Nat} (hh : hi < 2 ^ 31) (h : decide (nI 0 ≤ x ∧ x ≤ nI hi) = false) : x.toInt < 0 ∨ (hi : Int) < x.toInt := by
  have h1 := of_decide_eq_false h
  by_cases q : x.toInt < 0
  · exact Or.inl q
  · by_cases r : (hi : Int) < x.toInt
    · exact Or.inr r
    · have q := Int.not_lt.mp q
      have r := Int.not_lt.mp r
      refine absurd ⟨?_, ?_⟩ h1
      · rw [Int32.le_iff_toInt_le, nI_toInt (by decide)]; exact q
      · rw [Int32.le_iff_toInt_le, nI_toInt hh]; exact r
section QThr2
variable {p : Program} {l : Launch} {e : Env} {s : State} {m : MethodId} {args : Array Value} {below : List Frame} {meth : Method} {c : Code} {H : Heap} {locs : List Loc} {cc : ByteArray} {pc : Nat} {ls : Array Slot}
theorem q_thrS {fr lo : Nat} {is ik ic : Nat} {text cls : String} {ws : va_W} {C : q_C} (hx : p.tables.exec = Jvm.exec) (hb : c.code = cc) (hl0 : l.stackTraces = false) (hsx : (is, text) ∈ q_sx) (hcls : Bundle.fit cls = true) (hna : ∀ w ∈ (vx_atS RX4 ic cls q_nm).filter (fun w => !goodWord w), w ∈ q_xw) (hot : ∀ w ∈ Cond.classLink RX4 ik cls :: Cond.initialized cls :: vx_atS RX4 ic cls q_nm, vx_ot w = true)
    (hown : s.vm.findClass RX4 = some m.cls) (hk : (Cond.classLink RX4 ik cls).before args s = true) (hini : (Cond.initialized cls).before args s = true) (hin : ∀ w ∈ (vx_atS RX4 ic cls q_nm).filter goodWord, w.before args s = true) (hV : q_Wo s) (hE : q_E (q_A ws s) s s.heap) (hP : va_P C.1 vwCl ws H) (hS : va_S (q_A ws s) s.heap H locs) (hsize : ls.size = c.maxLocals) (htab : ∀ x ∈ c.exceptionTable.toList, False) (hlocks : meth.locks = false) (hfr : 6 ≤ fr) (hlo : 82 ≤ lo)
    (d0 : decode cc pc = .ok (.new ik, 3)) (d3 : decode cc (pc + 3) = .ok (.dup, 1)) (d4 : decode cc (pc + 4) = .ok (.ldc is, 2)) (d7 : decode cc (pc + 6) = .ok (.invokespecial ic, 3)) (d10 : decode cc (pc + 9) = .ok (.athrow, 1)) :
    W p l e (q_R1 fr lo) s m args below meth c H locs 0 0 (q_GT C below ws cls args s) (F0 m pc ls []) := by
  obtain ⟨sa, hsa⟩ := hV.2.1 _ hsx
  exact vx_throwS (names := q_nm) (A := q_A ws s) hx hb hl0 hown hcls q_nmf hk hini hsa (vx_hat hin hna (q_xw_b hV)) hot hE.1 hE.2.1 hS hsize d0 d3 d4 d7 d10 (fun x hx => (htab x hx).elim) (show 6 ≤ fr from hfr) (show 0 + (13 * (2 + 1) + 43) ≤ lo by omega) (Nat.le_refl 1) (Nat.le_refl 6) hlocks (fun t ht h1 h2 => q_xcT hP hS h1 h2) hS.2.2 (Nat.le_refl 1) (Nat.le_refl 6)
theorem q_thrSW {fr lo : Nat} {is ik ic : Nat} {text cls : String} {ws : va_W} {C : q_C} (hx : p.tables.exec = Jvm.exec) (hb : c.code = cc) (hl0 : l.stackTraces = false) (hsx : (is, text) ∈ q_sx) (hcls : Bundle.fit cls = true) (hna : ∀ w ∈ (vx_atS RX4 ic cls q_nm).filter (fun w => !goodWord w), w ∈ q_xw) (hot : ∀ w ∈ Cond.classLink RX4 ik cls :: Cond.initialized cls :: vx_atS RX4 ic cls q_nm, vx_ot w = true)
    (hown : s.vm.findClass RX4 = some m.cls) (hk : (Cond.classLink RX4 ik cls).before args s = true) (hini : (Cond.initialized cls).before args s = true) (hin : ∀ w ∈ (vx_atS RX4 ic cls q_nm).filter goodWord, w.before args s = true) (hV : q_Wo s) (hE : q_E (q_A ws s) s s.heap) (hP : va_P C.1 vwCl ws H) (hS : va_S (q_A ws s) s.heap H locs) (hsize : ls.size = c.maxLocals) (htab : ∀ x ∈ c.exceptionTable.toList, False) (hlocks : meth.locks = false) (hfr : 6 ≤ fr) (hlo : 82 ≤ lo)
    (d0 : decode cc pc = .ok (.new ik, 3)) (d3 : decode cc (pc + 3) = .ok (.dup, 1)) (d4 : decode cc (pc + 4) = .ok (.ldc_w is, 3)) (d7 : decode cc (pc + 7) = .ok (.invokespecial ic, 3)) (d10 : decode cc (pc + 10) = .ok (.athrow, 1)) :
    W p l e (q_R1 fr lo) s m args below meth c H locs 0 0 (q_GT C below ws cls args s) (F0 m pc ls []) := by
  obtain ⟨sa, hsa⟩ := hV.2.1 _ hsx
  exact vx_throwSW (names := q_nm) (A := q_A ws s) hx hb hl0 hown hcls q_nmf hk hini hsa (vx_hat hin hna (q_xw_b hV)) hot hE.1 hE.2.1 hS hsize d0 d3 d4 d7 d10 (fun x hx => (htab x hx).elim) (show 6 ≤ fr from hfr) (show 0 + (13 * (2 + 1) + 43) ≤ lo by omega) (Nat.le_refl 1) (Nat.le_refl 6) hlocks (fun t ht h1 h2 => q_xcT hP hS h1 h2) hS.2.2 (Nat.le_refl 1) (Nat.le_refl 6)
end QThr2
set_option maxHeartbeats 4000000 in
set_option maxRecDepth 100000 in
theorem t_X4_needState (l : Launch) (hl0 : l.stackTraces = false) (C : q_C) (x y : Int32) (hxx : (decide (nI 0 ≤ x ∧ x ≤ nI 3) && decide (nI 0 ≤ y ∧ y ≤ nI 3)) = false) : q_T C l yX4_needState wsX4_needState 6 82 [.int x, .int y] (([] : va_W)) "java/lang/IndexOutOfBoundsException" := by
  refine q_headT (cc := cX4_needState) (maxL := 2) (ret := none) (by decide +kernel) rfl (Nat.le_of_ble_eq_true rfl) ?_
  intro p e s m below meth c hx hb hr hlocks hml hown hts hK hV hE hP hD hS hA htab ls hl
  have hl : lv_has ls 2 [(0, .int x), (1, .int y)] := hl
  refine lv_iload_n hx hb dX4_needState_0 rfl (lv_at hl 0 rfl) ?_
  refine lv_iconst (v := nI 0) hx hb dX4_needState_1 (by decide) ?_
  refine lv_iconst (v := nI 3) hx hb dX4_needState_2 (by decide) ?_
  refine q_S (As := [.int x, .int (nI 0), .int (nI 3)]) (rest := []) ⟨hx, hb, hml, hown, hts⟩ (c_X4_isWithin l C x (nI 0) (nI 3)) (va_cwS 3 hts gX4_needState_X4_isWithin rfl rfl rfl (by decide +kernel) ⟨Nat.le_of_ble_eq_true rfl, Nat.le_of_ble_eq_true rfl⟩) hK hP hD hS hA [] (by decide) rfl rfl hl.1 rfl (Nat.le_of_ble_eq_true rfl) dX4_needState_3 (Nat.zero_le _) (Nat.zero_le _) (fun r w1 H locs hQ hP hD hS => ?_)
  obtain ⟨rfl, rfl⟩ := hQ
  refine W.eq (g2 := F0 m 6 ls [.int (q_b (decide (nI 0 ≤ x ∧ x ≤ nI 3)))]) rfl ?_
  refine lv_if_eq (tgt := 18) hx hb dX4_needState_6 (by decide) (fun c6 => ?_) (fun c6 => ?_)
  · have c6 : decide (nI 0 ≤ x ∧ x ≤ nI 3) = false := q_b0.mp c6
    exact q_thrSW (is := 307) (text := "there is no such arm or state") hx hb hl0 (by decide +kernel) q_fit306 q_na306 q_ot306 hown (hts (.classLink RX4 302 "java/lang/IndexOutOfBoundsException") (by decide +kernel)) (hts (.initialized "java/lang/IndexOutOfBoundsException") (by decide +kernel)) (fun w hw9 => hts w (List.mem_cons_of_mem _ (List.mem_append_right _ hw9))) hV hE hP hS (hl.1.trans hml.symm) htab hlocks (Nat.le_of_ble_eq_true rfl) (Nat.le_of_ble_eq_true rfl) dX4_needState_18 dX4_needState_21 dX4_needState_22 dX4_needState_25 dX4_needState_28
  · have c6 : decide (nI 0 ≤ x ∧ x ≤ nI 3) = true := q_b1.mp c6
    refine lv_iload_n hx hb dX4_needState_9 rfl (lv_at hl 1 rfl) ?_
    refine lv_iconst (v := nI 0) hx hb dX4_needState_10 (by decide) ?_
    refine lv_iconst (v := nI 3) hx hb dX4_needState_11 (by decide) ?_
    refine q_S (As := [.int y, .int (nI 0), .int (nI 3)]) (rest := []) ⟨hx, hb, hml, hown, hts⟩ (c_X4_isWithin l C y (nI 0) (nI 3)) (va_cwS 3 hts gX4_needState_X4_isWithin rfl rfl rfl (by decide +kernel) ⟨Nat.le_of_ble_eq_true rfl, Nat.le_of_ble_eq_true rfl⟩) hK hP hD hS hA [] (by decide) rfl rfl hl.1 rfl (Nat.le_of_ble_eq_true rfl) dX4_needState_12 (Nat.zero_le _) (Nat.zero_le _) (fun r w1 H locs hQ hP hD hS => ?_)
    obtain ⟨rfl, rfl⟩ := hQ
    refine W.eq (g2 := F0 m 15 ls [.int (q_b (decide (nI 0 ≤ y ∧ y ≤ nI 3)))]) rfl ?_
    refine lv_if_ne (tgt := 29) hx hb dX4_needState_15 (by decide) (fun c15 => ?_) (fun c15 => ?_)
    · have c15 : decide (nI 0 ≤ y ∧ y ≤ nI 3) = true := q_b1.mp c15
      exact absurd hxx (by rw [c6, c15]; decide)
    have c15 : decide (nI 0 ≤ y ∧ y ≤ nI 3) = false := q_b0.mp c15
    exact q_thrSW (is := 307) (text := "there is no such arm or state") hx hb hl0 (by decide +kernel) q_fit306 q_na306 q_ot306 hown (hts (.classLink RX4 302 "java/lang/IndexOutOfBoundsException") (by decide +kernel)) (hts (.initialized "java/lang/IndexOutOfBoundsException") (by decide +kernel)) (fun w hw9 => hts w (List.mem_cons_of_mem _ (List.mem_append_right _ hw9))) hV hE hP hS (hl.1.trans hml.symm) htab hlocks (Nat.le_of_ble_eq_true rfl) (Nat.le_of_ble_eq_true rfl) dX4_needState_18 dX4_needState_21 dX4_needState_22 dX4_needState_25 dX4_needState_28
set_option maxHeartbeats 4000000 in
set_option maxRecDepth 100000 in
theorem t_X4_needArm (l : Launch) (hl0 : l.stackTraces = false) (C : q_C) (x : Int32) (hxx : decide (nI 0 ≤ x ∧ x ≤ nI 3) = false) : q_T C l yX4_needArm wsX4_needArm 6 82 [.int x] (([] : va_W)) "java/lang/IndexOutOfBoundsException" := by
  refine q_headT (cc := cX4_needArm) (maxL := 1) (ret := none) (by decide +kernel) rfl (Nat.le_of_ble_eq_true rfl) ?_
  intro p e s m below meth c hx hb hr hlocks hml hown hts hK hV hE hP hD hS hA htab ls hl
  have hl : lv_has ls 1 [(0, .int x)] := hl
  refine lv_iload_n hx hb dX4_needArm_0 rfl (lv_at hl 0 rfl) ?_
  refine lv_iconst (v := nI 0) hx hb dX4_needArm_1 (by decide) ?_
  refine lv_iconst (v := nI 3) hx hb dX4_needArm_2 (by decide) ?_
  refine q_S (As := [.int x, .int (nI 0), .int (nI 3)]) (rest := []) ⟨hx, hb, hml, hown, hts⟩ (c_X4_isWithin l C x (nI 0) (nI 3)) (va_cwS 3 hts gX4_needArm_X4_isWithin rfl rfl rfl (by decide +kernel) ⟨Nat.le_of_ble_eq_true rfl, Nat.le_of_ble_eq_true rfl⟩) hK hP hD hS hA [] (by decide) rfl rfl hl.1 rfl (Nat.le_of_ble_eq_true rfl) dX4_needArm_3 (Nat.zero_le _) (Nat.zero_le _) (fun r w1 H locs hQ hP hD hS => ?_)
  obtain ⟨rfl, rfl⟩ := hQ
  refine W.eq (g2 := F0 m 6 ls [.int (q_b (decide (nI 0 ≤ x ∧ x ≤ nI 3)))]) rfl ?_
  refine lv_if_ne (tgt := 20) hx hb dX4_needArm_6 (by decide) (fun c6 => ?_) (fun c6 => ?_)
  · have c6 : decide (nI 0 ≤ x ∧ x ≤ nI 3) = true := q_b1.mp c6
    exact absurd hxx (by rw [c6]; decide)
  have c6 : decide (nI 0 ≤ x ∧ x ≤ nI 3) = false := q_b0.mp c6
  exact q_thrSW (is := 304) (text := "there is no such arm") hx hb hl0 (by decide +kernel) q_fit306 q_na306 q_ot306 hown (hts (.classLink RX4 302 "java/lang/IndexOutOfBoundsException") (by decide +kernel)) (hts (.initialized "java/lang/IndexOutOfBoundsException") (by decide +kernel)) (fun w hw9 => hts w (List.mem_cons_of_mem _ (List.mem_append_right _ hw9))) hV hE hP hS (hl.1.trans hml.symm) htab hlocks (Nat.le_of_ble_eq_true rfl) (Nat.le_of_ble_eq_true rfl) dX4_needArm_9 dX4_needArm_12 dX4_needArm_13 dX4_needArm_16 dX4_needArm_19
set_option maxHeartbeats 4000000 in
set_option maxRecDepth 100000 in
theorem t_X4_needSetting (l : Launch) (hl0 : l.stackTraces = false) (C : q_C) (x : Int32) (hxx : decide (nI 0 ≤ x ∧ x ≤ nI 3) = false) : q_T C l yX4_needSetting wsX4_needSetting 6 82 [.int x] (([] : va_W)) "java/lang/IndexOutOfBoundsException" := by
  refine q_headT (cc := cX4_needSetting) (maxL := 1) (ret := none) (by decide +kernel) rfl (Nat.le_of_ble_eq_true rfl) ?_
  intro p e s m below meth c hx hb hr hlocks hml hown hts hK hV hE hP hD hS hA htab ls hl
  have hl : lv_has ls 1 [(0, .int x)] := hl
  refine lv_iload_n hx hb dX4_needSetting_0 rfl (lv_at hl 0 rfl) ?_
  refine lv_iconst (v := nI 0) hx hb dX4_needSetting_1 (by decide) ?_
  refine lv_iconst (v := nI 3) hx hb dX4_needSetting_2 (by decide) ?_
  refine q_S (As := [.int x, .int (nI 0), .int (nI 3)]) (rest := []) ⟨hx, hb, hml, hown, hts⟩ (c_X4_isWithin l C x (nI 0) (nI 3)) (va_cwS 3 hts gX4_needSetting_X4_isWithin rfl rfl rfl (by decide +kernel) ⟨Nat.le_of_ble_eq_true rfl, Nat.le_of_ble_eq_true rfl⟩) hK hP hD hS hA [] (by decide) rfl rfl hl.1 rfl (Nat.le_of_ble_eq_true rfl) dX4_needSetting_3 (Nat.zero_le _) (Nat.zero_le _) (fun r w1 H locs hQ hP hD hS => ?_)
  obtain ⟨rfl, rfl⟩ := hQ
  refine W.eq (g2 := F0 m 6 ls [.int (q_b (decide (nI 0 ≤ x ∧ x ≤ nI 3)))]) rfl ?_
  refine lv_if_ne (tgt := 20) hx hb dX4_needSetting_6 (by decide) (fun c6 => ?_) (fun c6 => ?_)
  · have c6 : decide (nI 0 ≤ x ∧ x ≤ nI 3) = true := q_b1.mp c6
    exact absurd hxx (by rw [c6]; decide)
  have c6 : decide (nI 0 ≤ x ∧ x ≤ nI 3) = false := q_b0.mp c6
  exact q_thrSW (is := 309) (text := "there is no such setting") hx hb hl0 (by decide +kernel) q_fit306 q_na306 q_ot306 hown (hts (.classLink RX4 302 "java/lang/IndexOutOfBoundsException") (by decide +kernel)) (hts (.initialized "java/lang/IndexOutOfBoundsException") (by decide +kernel)) (fun w hw9 => hts w (List.mem_cons_of_mem _ (List.mem_append_right _ hw9))) hV hE hP hS (hl.1.trans hml.symm) htab hlocks (Nat.le_of_ble_eq_true rfl) (Nat.le_of_ble_eq_true rfl) dX4_needSetting_9 dX4_needSetting_12 dX4_needSetting_13 dX4_needSetting_16 dX4_needSetting_19
set_option maxHeartbeats 4000000 in
set_option maxRecDepth 100000 in
theorem t_X4_needRule (l : Launch) (hl0 : l.stackTraces = false) (C : q_C) (x : Int32) (hxx : decide (nI 0 ≤ x ∧ x ≤ nI 2) = false) : q_T C l yX4_needRule wsX4_needRule 6 82 [.int x] (([] : va_W)) "java/lang/IllegalArgumentException" := by
  refine q_headT (cc := cX4_needRule) (maxL := 1) (ret := none) (by decide +kernel) rfl (Nat.le_of_ble_eq_true rfl) ?_
  intro p e s m below meth c hx hb hr hlocks hml hown hts hK hV hE hP hD hS hA htab ls hl
  have hl : lv_has ls 1 [(0, .int x)] := hl
  refine lv_iload_n hx hb dX4_needRule_0 rfl (lv_at hl 0 rfl) ?_
  refine lv_iconst (v := nI 0) hx hb dX4_needRule_1 (by decide) ?_
  refine lv_iconst (v := nI 2) hx hb dX4_needRule_2 (by decide) ?_
  refine q_S (As := [.int x, .int (nI 0), .int (nI 2)]) (rest := []) ⟨hx, hb, hml, hown, hts⟩ (c_X4_isWithin l C x (nI 0) (nI 2)) (va_cwS 3 hts gX4_needRule_X4_isWithin rfl rfl rfl (by decide +kernel) ⟨Nat.le_of_ble_eq_true rfl, Nat.le_of_ble_eq_true rfl⟩) hK hP hD hS hA [] (by decide) rfl rfl hl.1 rfl (Nat.le_of_ble_eq_true rfl) dX4_needRule_3 (Nat.zero_le _) (Nat.zero_le _) (fun r w1 H locs hQ hP hD hS => ?_)
  obtain ⟨rfl, rfl⟩ := hQ
  refine W.eq (g2 := F0 m 6 ls [.int (q_b (decide (nI 0 ≤ x ∧ x ≤ nI 2)))]) rfl ?_
  refine lv_if_ne (tgt := 20) hx hb dX4_needRule_6 (by decide) (fun c6 => ?_) (fun c6 => ?_)
  · have c6 : decide (nI 0 ≤ x ∧ x ≤ nI 2) = true := q_b1.mp c6
    exact absurd hxx (by rw [c6]; decide)
  have c6 : decide (nI 0 ≤ x ∧ x ≤ nI 2) = false := q_b0.mp c6
  exact q_thrSW (is := 311) (text := "a rule is 0 to 2") hx hb hl0 (by decide +kernel) q_fit56 q_na56 q_ot56 hown (hts (.classLink RX4 52 "java/lang/IllegalArgumentException") (by decide +kernel)) (hts (.initialized "java/lang/IllegalArgumentException") (by decide +kernel)) (fun w hw9 => hts w (List.mem_cons_of_mem _ (List.mem_append_right _ hw9))) hV hE hP hS (hl.1.trans hml.symm) htab hlocks (Nat.le_of_ble_eq_true rfl) (Nat.le_of_ble_eq_true rfl) dX4_needRule_9 dX4_needRule_12 dX4_needRule_13 dX4_needRule_16 dX4_needRule_19
set_option maxHeartbeats 4000000 in
set_option maxRecDepth 100000 in
theorem t_X4_needPulls (l : Launch) (hl0 : l.stackTraces = false) (C : q_C) (x : Int32) (hxx : decide (nI 1 ≤ x ∧ x ≤ nI 99) = false) : q_T C l yX4_needPulls wsX4_needPulls 6 82 [.int x] (([] : va_W)) "java/lang/IllegalArgumentException" := by
  refine q_headT (cc := cX4_needPulls) (maxL := 1) (ret := none) (by decide +kernel) rfl (Nat.le_of_ble_eq_true rfl) ?_
  intro p e s m below meth c hx hb hr hlocks hml hown hts hK hV hE hP hD hS hA htab ls hl
  have hl : lv_has ls 1 [(0, .int x)] := hl
  refine lv_iload_n hx hb dX4_needPulls_0 rfl (lv_at hl 0 rfl) ?_
  refine lv_iconst (v := nI 1) hx hb dX4_needPulls_1 (by decide) ?_
  refine lv_bipush (v := nI 99) hx hb dX4_needPulls_2 (by decide) ?_
  refine q_S (As := [.int x, .int (nI 1), .int (nI 99)]) (rest := []) ⟨hx, hb, hml, hown, hts⟩ (c_X4_isWithin l C x (nI 1) (nI 99)) (va_cwS 3 hts gX4_needPulls_X4_isWithin rfl rfl rfl (by decide +kernel) ⟨Nat.le_of_ble_eq_true rfl, Nat.le_of_ble_eq_true rfl⟩) hK hP hD hS hA [] (by decide) rfl rfl hl.1 rfl (Nat.le_of_ble_eq_true rfl) dX4_needPulls_4 (Nat.zero_le _) (Nat.zero_le _) (fun r w1 H locs hQ hP hD hS => ?_)
  obtain ⟨rfl, rfl⟩ := hQ
  refine W.eq (g2 := F0 m 7 ls [.int (q_b (decide (nI 1 ≤ x ∧ x ≤ nI 99)))]) rfl ?_
  refine lv_if_ne (tgt := 21) hx hb dX4_needPulls_7 (by decide) (fun c7 => ?_) (fun c7 => ?_)
  · have c7 : decide (nI 1 ≤ x ∧ x ≤ nI 99) = true := q_b1.mp c7
    exact absurd hxx (by rw [c7]; decide)
  have c7 : decide (nI 1 ≤ x ∧ x ≤ nI 99) = false := q_b0.mp c7
  exact q_thrSW (is := 313) (text := "the pulls are 1 to 99") hx hb hl0 (by decide +kernel) q_fit56 q_na56 q_ot56 hown (hts (.classLink RX4 52 "java/lang/IllegalArgumentException") (by decide +kernel)) (hts (.initialized "java/lang/IllegalArgumentException") (by decide +kernel)) (fun w hw9 => hts w (List.mem_cons_of_mem _ (List.mem_append_right _ hw9))) hV hE hP hS (hl.1.trans hml.symm) htab hlocks (Nat.le_of_ble_eq_true rfl) (Nat.le_of_ble_eq_true rfl) dX4_needPulls_10 dX4_needPulls_13 dX4_needPulls_14 dX4_needPulls_17 dX4_needPulls_20
set_option maxHeartbeats 4000000 in
set_option maxRecDepth 100000 in
theorem t1_X4_gift (l : Launch) (hl0 : l.stackTraces = false) (C : q_C) (x : Nat) (y z g : Int32) (hxx : (decide (nI 0 ≤ y ∧ y ≤ nI 3) && decide (nI 0 ≤ z ∧ z ≤ nI 3)) = false) : q_T C l yX4_gift wsX4_gift 7 103 [.ref x, .int y, .int z, .int g] (([] : va_W)) "java/lang/IndexOutOfBoundsException" := by
  refine q_headT (cc := cX4_gift) (maxL := 6) (ret := (some .int)) (by decide +kernel) rfl (Nat.le_of_ble_eq_true rfl) ?_
  intro p e s m below meth c hx hb hr hlocks hml hown hts hK hV hE hP hD hS hA htab ls hl
  have hl : lv_has ls 6 [(0, .ref x), (1, .int y), (2, .int z), (3, .int g)] := hl
  refine lv_iload_n hx hb dX4_gift_0 rfl (lv_at hl 1 rfl) ?_
  refine lv_iload_n hx hb dX4_gift_1 rfl (lv_at hl 2 rfl) ?_
  refine q_TS (As := [.int y, .int z]) (rest := []) ⟨hx, hb, hml, hown, hts⟩ (t_X4_needState l hl0 C y z hxx) (va_cwS 2 hts gX4_gift_X4_needState rfl rfl rfl (by decide +kernel) ⟨Nat.le_of_ble_eq_true rfl, Nat.le_of_ble_eq_true rfl⟩) hK hV hE hP hD hS hA [] (by decide) rfl rfl hl.1 rfl (Nat.le_of_ble_eq_true rfl) dX4_gift_2 (Nat.le_of_ble_eq_true rfl) (Nat.le_of_ble_eq_true rfl) (fun ce q9 H locs hP hS hce hcv hcl => ?_)
  exact q_outT htab hlocks hP hS hce hcv hcl
set_option maxHeartbeats 4000000 in
set_option maxRecDepth 100000 in
theorem t2_X4_gift (l : Launch) (hl0 : l.stackTraces = false) (C : q_C) (x : Nat) (a t0 : Nat) (g : Int32) (ha : a < 4) (ht : t0 < 4) (hxx : decide (nI 0 ≤ g ∧ g ≤ nI 99) = false) : q_T C l yX4_gift wsX4_gift 6 82 [.ref x, .int (nI a), .int (nI t0), .int g] (([] : va_W)) "java/lang/IllegalArgumentException" := by
  refine q_headT (cc := cX4_gift) (maxL := 6) (ret := (some .int)) (by decide +kernel) rfl (Nat.le_of_ble_eq_true rfl) ?_
  intro p e s m below meth c hx hb hr hlocks hml hown hts hK hV hE hP hD hS hA htab ls hl
  have hl : lv_has ls 6 [(0, .ref x), (1, .int (nI a)), (2, .int (nI t0)), (3, .int g)] := hl
  refine lv_iload_n hx hb dX4_gift_0 rfl (lv_at hl 1 rfl) ?_
  refine lv_iload_n hx hb dX4_gift_1 rfl (lv_at hl 2 rfl) ?_
  refine q_S (As := [.int (nI a), .int (nI t0)]) (rest := []) ⟨hx, hb, hml, hown, hts⟩ (c_X4_needState l C a t0 (by omega) (by omega)) (va_cwS 2 hts gX4_gift_X4_needState rfl rfl rfl (by decide +kernel) ⟨Nat.le_of_ble_eq_true rfl, Nat.le_of_ble_eq_true rfl⟩) hK hP hD hS hA [] (by decide) rfl rfl hl.1 rfl (Nat.le_of_ble_eq_true rfl) dX4_gift_2 (Nat.zero_le _) (Nat.zero_le _) (fun r w1 H locs hQ hP hD hS => ?_)
  obtain ⟨rfl, rfl⟩ := hQ
  refine W.eq (g2 := F0 m 5 ls []) rfl ?_
  refine lv_iload_n hx hb dX4_gift_5 rfl (lv_at hl 3 rfl) ?_
  refine lv_iconst (v := nI 0) hx hb dX4_gift_6 (by decide) ?_
  refine lv_bipush (v := nI 99) hx hb dX4_gift_7 (by decide) ?_
  refine q_S (As := [.int g, .int (nI 0), .int (nI 99)]) (rest := []) ⟨hx, hb, hml, hown, hts⟩ (c_X4_isWithin l C g (nI 0) (nI 99)) (va_cwS 3 hts gX4_gift_X4_isWithin rfl rfl rfl (by decide +kernel) ⟨Nat.le_of_ble_eq_true rfl, Nat.le_of_ble_eq_true rfl⟩) hK hP hD hS hA [] (by decide) rfl rfl hl.1 rfl (Nat.le_of_ble_eq_true rfl) dX4_gift_9 (Nat.zero_le _) (Nat.zero_le _) (fun r w1 H locs hQ hP hD hS => ?_)
  obtain ⟨rfl, rfl⟩ := hQ
  refine W.eq (g2 := F0 m 12 ls [.int (q_b (decide (nI 0 ≤ g ∧ g ≤ nI 99)))]) rfl ?_
  refine lv_if_ne (tgt := 25) hx hb dX4_gift_12 (by decide) (fun c12 => ?_) (fun c12 => ?_)
  · have c12 : decide (nI 0 ≤ g ∧ g ≤ nI 99) = true := q_b1.mp c12
    exact absurd hxx (by rw [c12]; decide)
  have c12 : decide (nI 0 ≤ g ∧ g ≤ nI 99) = false := q_b0.mp c12
  exact q_thrS (is := 54) (text := "a gift is 0 to 99") hx hb hl0 (by decide +kernel) q_fit56 q_na56 q_ot56 hown (hts (.classLink RX4 52 "java/lang/IllegalArgumentException") (by decide +kernel)) (hts (.initialized "java/lang/IllegalArgumentException") (by decide +kernel)) (fun w hw9 => hts w (List.mem_cons_of_mem _ (List.mem_append_left _ (List.mem_append_right _ hw9)))) hV hE hP hS (hl.1.trans hml.symm) htab hlocks (Nat.le_of_ble_eq_true rfl) (Nat.le_of_ble_eq_true rfl) dX4_gift_15 dX4_gift_18 dX4_gift_19 dX4_gift_21 dX4_gift_24
set_option maxHeartbeats 4000000 in
set_option maxRecDepth 100000 in
theorem t1a_X4_way (l : Launch) (hl0 : l.stackTraces = false) (C : q_C) (x : Nat) (y z g1 g2 g3 : Int32) (hxx : (decide (nI 0 ≤ y ∧ y ≤ nI 3) && decide (nI 0 ≤ z ∧ z ≤ nI 3)) = false) : q_T C l yX4_way wsX4_way 7 103 [.ref x, .int y, .int z, .int g1, .int g2, .int g3] (([] : va_W)) "java/lang/IndexOutOfBoundsException" := by
  refine q_headT (cc := cX4_way) (maxL := 8) (ret := (some .int)) (by decide +kernel) rfl (Nat.le_of_ble_eq_true rfl) ?_
  intro p e s m below meth c hx hb hr hlocks hml hown hts hK hV hE hP hD hS hA htab ls hl
  have hl : lv_has ls 8 [(0, .ref x), (1, .int y), (2, .int z), (3, .int g1), (4, .int g2), (5, .int g3)] := hl
  refine lv_iload_n hx hb dX4_way_0 rfl (lv_at hl 1 rfl) ?_
  refine lv_iload_n hx hb dX4_way_1 rfl (lv_at hl 2 rfl) ?_
  refine q_TS (As := [.int y, .int z]) (rest := []) ⟨hx, hb, hml, hown, hts⟩ (t_X4_needState l hl0 C y z hxx) (va_cwS 2 hts gX4_way_X4_needState rfl rfl rfl (by decide +kernel) ⟨Nat.le_of_ble_eq_true rfl, Nat.le_of_ble_eq_true rfl⟩) hK hV hE hP hD hS hA [] (by decide) rfl rfl hl.1 rfl (Nat.le_of_ble_eq_true rfl) dX4_way_2 (Nat.le_of_ble_eq_true rfl) (Nat.le_of_ble_eq_true rfl) (fun ce q9 H locs hP hS hce hcv hcl => ?_)
  exact q_outT htab hlocks hP hS hce hcv hcl
set_option maxHeartbeats 4000000 in
set_option maxRecDepth 100000 in
theorem t1b_X4_way (l : Launch) (hl0 : l.stackTraces = false) (C : q_C) (x : Nat) (a t0 : Nat) (g1 g2 g3 : Int32) (ha : a < 4) (ht : t0 < 4) (hxx : (decide (nI 0 ≤ nI a ∧ nI a ≤ nI 3) && decide (nI 0 ≤ g1 ∧ g1 ≤ nI 3)) = false) : q_T C l yX4_way wsX4_way 7 103 [.ref x, .int (nI a), .int (nI t0), .int g1, .int g2, .int g3] (([] : va_W)) "java/lang/IndexOutOfBoundsException" := by
  refine q_headT (cc := cX4_way) (maxL := 8) (ret := (some .int)) (by decide +kernel) rfl (Nat.le_of_ble_eq_true rfl) ?_
  intro p e s m below meth c hx hb hr hlocks hml hown hts hK hV hE hP hD hS hA htab ls hl
  have hl : lv_has ls 8 [(0, .ref x), (1, .int (nI a)), (2, .int (nI t0)), (3, .int g1), (4, .int g2), (5, .int g3)] := hl
  refine lv_iload_n hx hb dX4_way_0 rfl (lv_at hl 1 rfl) ?_
  refine lv_iload_n hx hb dX4_way_1 rfl (lv_at hl 2 rfl) ?_
  refine q_S (As := [.int (nI a), .int (nI t0)]) (rest := []) ⟨hx, hb, hml, hown, hts⟩ (c_X4_needState l C a t0 (by omega) (by omega)) (va_cwS 2 hts gX4_way_X4_needState rfl rfl rfl (by decide +kernel) ⟨Nat.le_of_ble_eq_true rfl, Nat.le_of_ble_eq_true rfl⟩) hK hP hD hS hA [] (by decide) rfl rfl hl.1 rfl (Nat.le_of_ble_eq_true rfl) dX4_way_2 (Nat.zero_le _) (Nat.zero_le _) (fun r w1 H locs hQ hP hD hS => ?_)
  obtain ⟨rfl, rfl⟩ := hQ
  refine W.eq (g2 := F0 m 5 ls []) rfl ?_
  refine lv_iload_n hx hb dX4_way_5 rfl (lv_at hl 1 rfl) ?_
  refine lv_iload_n hx hb dX4_way_6 rfl (lv_at hl 3 rfl) ?_
  refine q_TS (As := [.int (nI a), .int g1]) (rest := []) ⟨hx, hb, hml, hown, hts⟩ (t_X4_needState l hl0 C (nI a) g1 hxx) (va_cwS 2 hts gX4_way_X4_needState rfl rfl rfl (by decide +kernel) ⟨Nat.le_of_ble_eq_true rfl, Nat.le_of_ble_eq_true rfl⟩) hK hV hE hP hD hS hA [] (by decide) rfl rfl hl.1 rfl (Nat.le_of_ble_eq_true rfl) dX4_way_7 (Nat.le_of_ble_eq_true rfl) (Nat.le_of_ble_eq_true rfl) (fun ce q9 H locs hP hS hce hcv hcl => ?_)
  exact q_outT htab hlocks hP hS hce hcv hcl
set_option maxHeartbeats 4000000 in
set_option maxRecDepth 100000 in
theorem t1c_X4_way (l : Launch) (hl0 : l.stackTraces = false) (C : q_C) (x : Nat) (a t0 x1 : Nat) (g2 g3 : Int32) (ha : a < 4) (ht : t0 < 4) (h1 : x1 < 4) (hxx : (decide (nI 0 ≤ nI a ∧ nI a ≤ nI 3) && decide (nI 0 ≤ g2 ∧ g2 ≤ nI 3)) = false) : q_T C l yX4_way wsX4_way 7 103 [.ref x, .int (nI a), .int (nI t0), .int (nI x1), .int g2, .int g3] (([] : va_W)) "java/lang/IndexOutOfBoundsException" := by
  refine q_headT (cc := cX4_way) (maxL := 8) (ret := (some .int)) (by decide +kernel) rfl (Nat.le_of_ble_eq_true rfl) ?_
  intro p e s m below meth c hx hb hr hlocks hml hown hts hK hV hE hP hD hS hA htab ls hl
  have hl : lv_has ls 8 [(0, .ref x), (1, .int (nI a)), (2, .int (nI t0)), (3, .int (nI x1)), (4, .int g2), (5, .int g3)] := hl
  refine lv_iload_n hx hb dX4_way_0 rfl (lv_at hl 1 rfl) ?_
  refine lv_iload_n hx hb dX4_way_1 rfl (lv_at hl 2 rfl) ?_
  refine q_S (As := [.int (nI a), .int (nI t0)]) (rest := []) ⟨hx, hb, hml, hown, hts⟩ (c_X4_needState l C a t0 (by omega) (by omega)) (va_cwS 2 hts gX4_way_X4_needState rfl rfl rfl (by decide +kernel) ⟨Nat.le_of_ble_eq_true rfl, Nat.le_of_ble_eq_true rfl⟩) hK hP hD hS hA [] (by decide) rfl rfl hl.1 rfl (Nat.le_of_ble_eq_true rfl) dX4_way_2 (Nat.zero_le _) (Nat.zero_le _) (fun r w1 H locs hQ hP hD hS => ?_)
  obtain ⟨rfl, rfl⟩ := hQ
  refine W.eq (g2 := F0 m 5 ls []) rfl ?_
  refine lv_iload_n hx hb dX4_way_5 rfl (lv_at hl 1 rfl) ?_
  refine lv_iload_n hx hb dX4_way_6 rfl (lv_at hl 3 rfl) ?_
  refine q_S (As := [.int (nI a), .int (nI x1)]) (rest := []) ⟨hx, hb, hml, hown, hts⟩ (c_X4_needState l C a x1 (by omega) (by omega)) (va_cwS 2 hts gX4_way_X4_needState rfl rfl rfl (by decide +kernel) ⟨Nat.le_of_ble_eq_true rfl, Nat.le_of_ble_eq_true rfl⟩) hK hP hD hS hA [] (by decide) rfl rfl hl.1 rfl (Nat.le_of_ble_eq_true rfl) dX4_way_7 (Nat.zero_le _) (Nat.zero_le _) (fun r w1 H locs hQ hP hD hS => ?_)
  obtain ⟨rfl, rfl⟩ := hQ
  refine W.eq (g2 := F0 m 10 ls []) rfl ?_
  refine lv_iload_n hx hb dX4_way_10 rfl (lv_at hl 1 rfl) ?_
  refine lv_iload hx hb dX4_way_11 (lv_at hl 4 rfl) ?_
  refine q_TS (As := [.int (nI a), .int g2]) (rest := []) ⟨hx, hb, hml, hown, hts⟩ (t_X4_needState l hl0 C (nI a) g2 hxx) (va_cwS 2 hts gX4_way_X4_needState rfl rfl rfl (by decide +kernel) ⟨Nat.le_of_ble_eq_true rfl, Nat.le_of_ble_eq_true rfl⟩) hK hV hE hP hD hS hA [] (by decide) rfl rfl hl.1 rfl (Nat.le_of_ble_eq_true rfl) dX4_way_13 (Nat.le_of_ble_eq_true rfl) (Nat.le_of_ble_eq_true rfl) (fun ce q9 H locs hP hS hce hcv hcl => ?_)
  exact q_outT htab hlocks hP hS hce hcv hcl
set_option maxHeartbeats 4000000 in
set_option maxRecDepth 100000 in
theorem t2_X4_way (l : Launch) (hl0 : l.stackTraces = false) (C : q_C) (x : Nat) (a t0 x1 x2 : Nat) (g3 : Int32) (ha : a < 4) (ht : t0 < 4) (h1 : x1 < 4) (h2 : x2 < 4) (hxx : decide (nI 0 ≤ g3 ∧ g3 ≤ nI 8) = false) : q_T C l yX4_way wsX4_way 6 82 [.ref x, .int (nI a), .int (nI t0), .int (nI x1), .int (nI x2), .int g3] (([] : va_W)) "java/lang/IllegalArgumentException" := by
  refine q_headT (cc := cX4_way) (maxL := 8) (ret := (some .int)) (by decide +kernel) rfl (Nat.le_of_ble_eq_true rfl) ?_
  intro p e s m below meth c hx hb hr hlocks hml hown hts hK hV hE hP hD hS hA htab ls hl
  have hl : lv_has ls 8 [(0, .ref x), (1, .int (nI a)), (2, .int (nI t0)), (3, .int (nI x1)), (4, .int (nI x2)), (5, .int g3)] := hl
  refine lv_iload_n hx hb dX4_way_0 rfl (lv_at hl 1 rfl) ?_
  refine lv_iload_n hx hb dX4_way_1 rfl (lv_at hl 2 rfl) ?_
  refine q_S (As := [.int (nI a), .int (nI t0)]) (rest := []) ⟨hx, hb, hml, hown, hts⟩ (c_X4_needState l C a t0 (by omega) (by omega)) (va_cwS 2 hts gX4_way_X4_needState rfl rfl rfl (by decide +kernel) ⟨Nat.le_of_ble_eq_true rfl, Nat.le_of_ble_eq_true rfl⟩) hK hP hD hS hA [] (by decide) rfl rfl hl.1 rfl (Nat.le_of_ble_eq_true rfl) dX4_way_2 (Nat.zero_le _) (Nat.zero_le _) (fun r w1 H locs hQ hP hD hS => ?_)
  obtain ⟨rfl, rfl⟩ := hQ
  refine W.eq (g2 := F0 m 5 ls []) rfl ?_
  refine lv_iload_n hx hb dX4_way_5 rfl (lv_at hl 1 rfl) ?_
  refine lv_iload_n hx hb dX4_way_6 rfl (lv_at hl 3 rfl) ?_
  refine q_S (As := [.int (nI a), .int (nI x1)]) (rest := []) ⟨hx, hb, hml, hown, hts⟩ (c_X4_needState l C a x1 (by omega) (by omega)) (va_cwS 2 hts gX4_way_X4_needState rfl rfl rfl (by decide +kernel) ⟨Nat.le_of_ble_eq_true rfl, Nat.le_of_ble_eq_true rfl⟩) hK hP hD hS hA [] (by decide) rfl rfl hl.1 rfl (Nat.le_of_ble_eq_true rfl) dX4_way_7 (Nat.zero_le _) (Nat.zero_le _) (fun r w1 H locs hQ hP hD hS => ?_)
  obtain ⟨rfl, rfl⟩ := hQ
  refine W.eq (g2 := F0 m 10 ls []) rfl ?_
  refine lv_iload_n hx hb dX4_way_10 rfl (lv_at hl 1 rfl) ?_
  refine lv_iload hx hb dX4_way_11 (lv_at hl 4 rfl) ?_
  refine q_S (As := [.int (nI a), .int (nI x2)]) (rest := []) ⟨hx, hb, hml, hown, hts⟩ (c_X4_needState l C a x2 (by omega) (by omega)) (va_cwS 2 hts gX4_way_X4_needState rfl rfl rfl (by decide +kernel) ⟨Nat.le_of_ble_eq_true rfl, Nat.le_of_ble_eq_true rfl⟩) hK hP hD hS hA [] (by decide) rfl rfl hl.1 rfl (Nat.le_of_ble_eq_true rfl) dX4_way_13 (Nat.zero_le _) (Nat.zero_le _) (fun r w1 H locs hQ hP hD hS => ?_)
  obtain ⟨rfl, rfl⟩ := hQ
  refine W.eq (g2 := F0 m 16 ls []) rfl ?_
  refine lv_iload hx hb dX4_way_16 (lv_at hl 5 rfl) ?_
  refine lv_iconst (v := nI 0) hx hb dX4_way_18 (by decide) ?_
  refine lv_bipush (v := nI 8) hx hb dX4_way_19 (by decide) ?_
  refine q_S (As := [.int g3, .int (nI 0), .int (nI 8)]) (rest := []) ⟨hx, hb, hml, hown, hts⟩ (c_X4_isWithin l C g3 (nI 0) (nI 8)) (va_cwS 3 hts gX4_way_X4_isWithin rfl rfl rfl (by decide +kernel) ⟨Nat.le_of_ble_eq_true rfl, Nat.le_of_ble_eq_true rfl⟩) hK hP hD hS hA [] (by decide) rfl rfl hl.1 rfl (Nat.le_of_ble_eq_true rfl) dX4_way_21 (Nat.zero_le _) (Nat.zero_le _) (fun r w1 H locs hQ hP hD hS => ?_)
  obtain ⟨rfl, rfl⟩ := hQ
  refine W.eq (g2 := F0 m 24 ls [.int (q_b (decide (nI 0 ≤ g3 ∧ g3 ≤ nI 8)))]) rfl ?_
  refine lv_if_ne (tgt := 37) hx hb dX4_way_24 (by decide) (fun c24 => ?_) (fun c24 => ?_)
  · have c24 : decide (nI 0 ≤ g3 ∧ g3 ≤ nI 8) = true := q_b1.mp c24
    exact absurd hxx (by rw [c24]; decide)
  have c24 : decide (nI 0 ≤ g3 ∧ g3 ≤ nI 8) = false := q_b0.mp c24
  exact q_thrS (is := 83) (text := "a chance is 0 to 8") hx hb hl0 (by decide +kernel) q_fit56 q_na56 q_ot56 hown (hts (.classLink RX4 52 "java/lang/IllegalArgumentException") (by decide +kernel)) (hts (.initialized "java/lang/IllegalArgumentException") (by decide +kernel)) (fun w hw9 => hts w (List.mem_cons_of_mem _ (List.mem_append_left _ (List.mem_append_right _ hw9)))) hV hE hP hS (hl.1.trans hml.symm) htab hlocks (Nat.le_of_ble_eq_true rfl) (Nat.le_of_ble_eq_true rfl) dX4_way_27 dX4_way_30 dX4_way_31 dX4_way_33 dX4_way_36
set_option maxHeartbeats 4000000 in
set_option maxRecDepth 100000 in
theorem t1_X4_put (l : Launch) (hl0 : l.stackTraces = false) (C : q_C) (x : Nat) (y z : Int32) (hxx : (decide (nI 0 ≤ y ∧ y ≤ nI 3) && decide (nI 0 ≤ z ∧ z ≤ nI 3)) = false) : q_T C l yX4_put wsX4_put 7 103 [.ref x, .int y, .int z] (([] : va_W)) "java/lang/IndexOutOfBoundsException" := by
  refine q_headT (cc := cX4_put) (maxL := 4) (ret := (some .int)) (by decide +kernel) rfl (Nat.le_of_ble_eq_true rfl) ?_
  intro p e s m below meth c hx hb hr hlocks hml hown hts hK hV hE hP hD hS hA htab ls hl
  have hl : lv_has ls 4 [(0, .ref x), (1, .int y), (2, .int z)] := hl
  refine lv_iload_n hx hb dX4_put_0 rfl (lv_at hl 1 rfl) ?_
  refine lv_iload_n hx hb dX4_put_1 rfl (lv_at hl 2 rfl) ?_
  refine q_TS (As := [.int y, .int z]) (rest := []) ⟨hx, hb, hml, hown, hts⟩ (t_X4_needState l hl0 C y z hxx) (va_cwS 2 hts gX4_put_X4_needState rfl rfl rfl (by decide +kernel) ⟨Nat.le_of_ble_eq_true rfl, Nat.le_of_ble_eq_true rfl⟩) hK hV hE hP hD hS hA [] (by decide) rfl rfl hl.1 rfl (Nat.le_of_ble_eq_true rfl) dX4_put_2 (Nat.le_of_ble_eq_true rfl) (Nat.le_of_ble_eq_true rfl) (fun ce q9 H locs hP hS hce hcv hcl => ?_)
  exact q_outT htab hlocks hP hS hce hcv hcl
set_option maxHeartbeats 4000000 in
set_option maxRecDepth 100000 in
theorem t1_X4_pull (l : Launch) (hl0 : l.stackTraces = false) (C : q_C) (x : Nat) (y : Int32) (hxx : decide (nI 0 ≤ y ∧ y ≤ nI 3) = false) : q_T C l yX4_pull wsX4_pull 7 102 [.ref x, .int y] (([] : va_W)) "java/lang/IndexOutOfBoundsException" := by
  refine q_headT (cc := cX4_pull) (maxL := 2) (ret := (some .int)) (by decide +kernel) rfl (Nat.le_of_ble_eq_true rfl) ?_
  intro p e s m below meth c hx hb hr hlocks hml hown hts hK hV hE hP hD hS hA htab ls hl
  have hl : lv_has ls 2 [(0, .ref x), (1, .int y)] := hl
  refine lv_iload_n hx hb dX4_pull_0 rfl (lv_at hl 1 rfl) ?_
  refine q_TS (As := [.int y]) (rest := []) ⟨hx, hb, hml, hown, hts⟩ (t_X4_needArm l hl0 C y hxx) (va_cwS 1 hts gX4_pull_X4_needArm rfl rfl rfl (by decide +kernel) ⟨Nat.le_of_ble_eq_true rfl, Nat.le_of_ble_eq_true rfl⟩) hK hV hE hP hD hS hA [] (by decide) rfl rfl hl.1 rfl (Nat.le_of_ble_eq_true rfl) dX4_pull_1 (Nat.le_of_ble_eq_true rfl) (Nat.le_of_ble_eq_true rfl) (fun ce q9 H locs hP hS hce hcv hcl => ?_)
  exact q_outT htab hlocks hP hS hce hcv hcl
set_option maxHeartbeats 4000000 in
set_option maxRecDepth 100000 in
theorem t2_X4_pull (l : Launch) (hl0 : l.stackTraces = false) (C : q_C) (x : Nat) (nw tr hq iq tt : Nat → Nat) (sc : Nat) (z : Nat → Int) (b : Bd) (a : Nat) (ha : a < 4) (hU : sumU b = 9999) : q_T C l yX4_pull wsX4_pull 6 82 [.ref x, .int (nI a)] (wA C x nw tr hq iq tt sc z ++ wB C nw b) "java/lang/IllegalStateException" := by
  refine q_headT (cc := cX4_pull) (maxL := 2) (ret := (some .int)) (by decide +kernel) rfl (Nat.le_of_ble_eq_true rfl) ?_
  intro p e s m below meth c hx hb hr hlocks hml hown hts hK hV hE hP hD hS hA htab ls hl
  have hl : lv_has ls 2 [(0, .ref x), (1, .int (nI a))] := hl
  have hf10 := hts (.fieldLink RX4 10 "RestedArms" "now" "LRestedArms$Board;") (by decide +kernel)
  have hin4 : ∀ w ∈ u_ws RX4 TX4 6, w ∈ wsX4_pull := by decide +kernel
  refine lv_iload_n hx hb dX4_pull_0 rfl (lv_at hl 1 rfl) ?_
  refine q_S (As := [.int (nI a)]) (rest := []) ⟨hx, hb, hml, hown, hts⟩ (c_X4_needArm l C a (by omega)) (va_cwS 1 hts gX4_pull_X4_needArm rfl rfl rfl (by decide +kernel) ⟨Nat.le_of_ble_eq_true rfl, Nat.le_of_ble_eq_true rfl⟩) hK hP hD hS hA [] (by decide) rfl rfl hl.1 rfl (Nat.le_of_ble_eq_true rfl) dX4_pull_1 (Nat.zero_le _) (Nat.zero_le _) (fun r w1 H locs hQ hP hD hS => ?_)
  obtain ⟨rfl, rfl⟩ := hQ
  refine W.eq (g2 := F0 m 4 ls []) rfl ?_
  refine lv_aload_n hx hb dX4_pull_4 rfl (lv_at hl 0 rfl) ?_
  refine va_get (ci := 4) (v := .ref (nw 0)) (C := RX4) (T := TX4) (N := 6) hx hb hts hin4 hown hK.1 hP 0 rfl rfl 0 (by decide) hf10 (fun _ h9 => h9) rfl dX4_pull_5 ?_
  refine q_V (As := []) (rest := []) ⟨hx, hb, hml, hown, hts⟩ (c_X0_allPulls l C nw b ) (cwV 0 hts gX4_pull_X0_allPulls rfl rfl rfl (by decide +kernel) ⟨Nat.le_of_ble_eq_true rfl, Nat.le_of_ble_eq_true rfl⟩) hK hP hD hS hA [2, 3, 4, 5, 6, 7, 8, 9] (by decide) rfl 2 rfl rfl rfl rfl hl.1 rfl (Nat.le_of_ble_eq_true rfl) dX4_pull_8 (Nat.zero_le _) (Nat.zero_le _) (fun r w1 H locs hQ hP hD hS => ?_)
  obtain ⟨rfl, rfl⟩ := hQ
  have hP : va_P C.1 vwCl (wA C x nw tr hq iq tt sc z ++ wB C nw b) H := hP
  have hD : va_D (q_A (wA C x nw tr hq iq tt sc z ++ wB C nw b) s) (wA C x nw tr hq iq tt sc z ++ wB C nw b) := hD
  refine W.eq (g2 := F0 m 11 ls [.int (nI (sumU b))]) rfl ?_
  refine lv_sipush (v := nI 9999) hx hb dX4_pull_11 (by decide) ?_
  refine lv_icmp_lt (tgt := 27) hx hb dX4_pull_14 (by decide) (fun c14 => ?_) (fun c14 => ?_)
  · have c14 : (sumU b) < 9999 := q_nlt (by omega) (by omega) c14
    exact absurd hU (by omega)
  have c14 : 9999 ≤ (sumU b) := q_nlt' (by omega) (by omega) c14
  exact q_thrS (is := 123) (text := "9999 pulls were made") hx hb hl0 (by decide +kernel) q_fit125 q_na125 q_ot125 hown (hts (.classLink RX4 121 "java/lang/IllegalStateException") (by decide +kernel)) (hts (.initialized "java/lang/IllegalStateException") (by decide +kernel)) (fun w hw9 => hts w (List.mem_cons_of_mem _ (List.mem_append_left _ (List.mem_append_right _ hw9)))) hV hE hP hS (hl.1.trans hml.symm) htab hlocks (Nat.le_of_ble_eq_true rfl) (Nat.le_of_ble_eq_true rfl) dX4_pull_17 dX4_pull_20 dX4_pull_21 dX4_pull_23 dX4_pull_26
set_option maxHeartbeats 4000000 in
set_option maxRecDepth 100000 in
theorem t1a_X4_play (l : Launch) (hl0 : l.stackTraces = false) (C : q_C) (x : Nat) (y z : Int32) (hxx : decide (nI 0 ≤ y ∧ y ≤ nI 2) = false) : q_T C l yX4_play wsX4_play 7 102 [.ref x, .int y, .int z] (([] : va_W)) "java/lang/IllegalArgumentException" := by
  refine q_headT (cc := cX4_play) (maxL := 4) (ret := (some .int)) (by decide +kernel) rfl (Nat.le_of_ble_eq_true rfl) ?_
  intro p e s m below meth c hx hb hr hlocks hml hown hts hK hV hE hP hD hS hA htab ls hl
  have hl : lv_has ls 4 [(0, .ref x), (1, .int y), (2, .int z)] := hl
  refine lv_iload_n hx hb dX4_play_0 rfl (lv_at hl 1 rfl) ?_
  refine q_TS (As := [.int y]) (rest := []) ⟨hx, hb, hml, hown, hts⟩ (t_X4_needRule l hl0 C y hxx) (va_cwS 1 hts gX4_play_X4_needRule rfl rfl rfl (by decide +kernel) ⟨Nat.le_of_ble_eq_true rfl, Nat.le_of_ble_eq_true rfl⟩) hK hV hE hP hD hS hA [] (by decide) rfl rfl hl.1 rfl (Nat.le_of_ble_eq_true rfl) dX4_play_1 (Nat.le_of_ble_eq_true rfl) (Nat.le_of_ble_eq_true rfl) (fun ce q9 H locs hP hS hce hcv hcl => ?_)
  exact q_outT htab hlocks hP hS hce hcv hcl
set_option maxHeartbeats 4000000 in
set_option maxRecDepth 100000 in
theorem t1b_X4_play (l : Launch) (hl0 : l.stackTraces = false) (C : q_C) (x : Nat) (rule : Nat) (z : Int32) (hr3 : rule < 3) (hxx : decide (nI 1 ≤ z ∧ z ≤ nI 99) = false) : q_T C l yX4_play wsX4_play 7 102 [.ref x, .int (nI rule), .int z] (([] : va_W)) "java/lang/IllegalArgumentException" := by
  refine q_headT (cc := cX4_play) (maxL := 4) (ret := (some .int)) (by decide +kernel) rfl (Nat.le_of_ble_eq_true rfl) ?_
  intro p e s m below meth c hx hb hr hlocks hml hown hts hK hV hE hP hD hS hA htab ls hl
  have hl : lv_has ls 4 [(0, .ref x), (1, .int (nI rule)), (2, .int z)] := hl
  refine lv_iload_n hx hb dX4_play_0 rfl (lv_at hl 1 rfl) ?_
  refine q_S (As := [.int (nI rule)]) (rest := []) ⟨hx, hb, hml, hown, hts⟩ (c_X4_needRule l C rule (by omega)) (va_cwS 1 hts gX4_play_X4_needRule rfl rfl rfl (by decide +kernel) ⟨Nat.le_of_ble_eq_true rfl, Nat.le_of_ble_eq_true rfl⟩) hK hP hD hS hA [] (by decide) rfl rfl hl.1 rfl (Nat.le_of_ble_eq_true rfl) dX4_play_1 (Nat.zero_le _) (Nat.zero_le _) (fun r w1 H locs hQ hP hD hS => ?_)
  obtain ⟨rfl, rfl⟩ := hQ
  refine W.eq (g2 := F0 m 4 ls []) rfl ?_
  refine lv_iload_n hx hb dX4_play_4 rfl (lv_at hl 2 rfl) ?_
  refine q_TS (As := [.int z]) (rest := []) ⟨hx, hb, hml, hown, hts⟩ (t_X4_needPulls l hl0 C z hxx) (va_cwS 1 hts gX4_play_X4_needPulls rfl rfl rfl (by decide +kernel) ⟨Nat.le_of_ble_eq_true rfl, Nat.le_of_ble_eq_true rfl⟩) hK hV hE hP hD hS hA [] (by decide) rfl rfl hl.1 rfl (Nat.le_of_ble_eq_true rfl) dX4_play_5 (Nat.le_of_ble_eq_true rfl) (Nat.le_of_ble_eq_true rfl) (fun ce q9 H locs hP hS hce hcv hcl => ?_)
  exact q_outT htab hlocks hP hS hce hcv hcl
set_option maxHeartbeats 4000000 in
set_option maxRecDepth 100000 in
theorem t2_X4_play (l : Launch) (hl0 : l.stackTraces = false) (C : q_C) (x : Nat) (nw tr hq iq tt : Nat → Nat) (sc : Nat) (z : Nat → Int) (b : Bd) (rule k : Nat) (hr3 : rule < 3) (h1 : 1 ≤ k) (h2 : k ≤ 99) (hs : sumU b ≤ 9999) (hU : 9999 < sumU b + k) : q_T C l yX4_play wsX4_play 6 82 [.ref x, .int (nI rule), .int (nI k)] (wA C x nw tr hq iq tt sc z ++ wB C nw b) "java/lang/IllegalStateException" := by
  refine q_headT (cc := cX4_play) (maxL := 4) (ret := (some .int)) (by decide +kernel) rfl (Nat.le_of_ble_eq_true rfl) ?_
  intro p e s m below meth c hx hb hr hlocks hml hown hts hK hV hE hP hD hS hA htab ls hl
  have hl : lv_has ls 4 [(0, .ref x), (1, .int (nI rule)), (2, .int (nI k))] := hl
  have hf10 := hts (.fieldLink RX4 10 "RestedArms" "now" "LRestedArms$Board;") (by decide +kernel)
  have hin4 : ∀ w ∈ u_ws RX4 TX4 6, w ∈ wsX4_play := by decide +kernel
  refine lv_iload_n hx hb dX4_play_0 rfl (lv_at hl 1 rfl) ?_
  refine q_S (As := [.int (nI rule)]) (rest := []) ⟨hx, hb, hml, hown, hts⟩ (c_X4_needRule l C rule (by omega)) (va_cwS 1 hts gX4_play_X4_needRule rfl rfl rfl (by decide +kernel) ⟨Nat.le_of_ble_eq_true rfl, Nat.le_of_ble_eq_true rfl⟩) hK hP hD hS hA [] (by decide) rfl rfl hl.1 rfl (Nat.le_of_ble_eq_true rfl) dX4_play_1 (Nat.zero_le _) (Nat.zero_le _) (fun r w1 H locs hQ hP hD hS => ?_)
  obtain ⟨rfl, rfl⟩ := hQ
  refine W.eq (g2 := F0 m 4 ls []) rfl ?_
  refine lv_iload_n hx hb dX4_play_4 rfl (lv_at hl 2 rfl) ?_
  refine q_S (As := [.int (nI k)]) (rest := []) ⟨hx, hb, hml, hown, hts⟩ (c_X4_needPulls l C k (by omega) (by omega)) (va_cwS 1 hts gX4_play_X4_needPulls rfl rfl rfl (by decide +kernel) ⟨Nat.le_of_ble_eq_true rfl, Nat.le_of_ble_eq_true rfl⟩) hK hP hD hS hA [] (by decide) rfl rfl hl.1 rfl (Nat.le_of_ble_eq_true rfl) dX4_play_5 (Nat.zero_le _) (Nat.zero_le _) (fun r w1 H locs hQ hP hD hS => ?_)
  obtain ⟨rfl, rfl⟩ := hQ
  refine W.eq (g2 := F0 m 8 ls []) rfl ?_
  refine lv_aload_n hx hb dX4_play_8 rfl (lv_at hl 0 rfl) ?_
  refine va_get (ci := 4) (v := .ref (nw 0)) (C := RX4) (T := TX4) (N := 6) hx hb hts hin4 hown hK.1 hP 0 rfl rfl 0 (by decide) hf10 (fun _ h9 => h9) rfl dX4_play_9 ?_
  refine q_V (As := []) (rest := []) ⟨hx, hb, hml, hown, hts⟩ (c_X0_allPulls l C nw b ) (cwV 0 hts gX4_play_X0_allPulls rfl rfl rfl (by decide +kernel) ⟨Nat.le_of_ble_eq_true rfl, Nat.le_of_ble_eq_true rfl⟩) hK hP hD hS hA [2, 3, 4, 5, 6, 7, 8, 9] (by decide) rfl 2 rfl rfl rfl rfl hl.1 rfl (Nat.le_of_ble_eq_true rfl) dX4_play_12 (Nat.zero_le _) (Nat.zero_le _) (fun r w1 H locs hQ hP hD hS => ?_)
  obtain ⟨rfl, rfl⟩ := hQ
  have hP : va_P C.1 vwCl (wA C x nw tr hq iq tt sc z ++ wB C nw b) H := hP
  have hD : va_D (q_A (wA C x nw tr hq iq tt sc z ++ wB C nw b) s) (wA C x nw tr hq iq tt sc z ++ wB C nw b) := hD
  refine W.eq (g2 := F0 m 15 ls [.int (nI (sumU b))]) rfl ?_
  refine lv_iload_n hx hb dX4_play_15 rfl (lv_at hl 2 rfl) ?_
  refine lv_iadd hx hb dX4_play_16 ?_
  refine q_ti (y := nI ((sumU b) + k)) (nI_add _ _) ?_
  refine lv_sipush (v := nI 9999) hx hb dX4_play_17 (by decide) ?_
  refine lv_icmp_le (tgt := 33) hx hb dX4_play_20 (by decide) (fun c20 => ?_) (fun c20 => ?_)
  · have c20 : ((sumU b) + k) ≤ 9999 := q_nle (by omega) (by omega) c20
    exact absurd hU (by omega)
  have c20 : 9999 < ((sumU b) + k) := q_nle' (by omega) (by omega) c20
  exact q_thrS (is := 135) (text := "there would be more than 9999 pulls") hx hb hl0 (by decide +kernel) q_fit125 q_na125 q_ot125 hown (hts (.classLink RX4 121 "java/lang/IllegalStateException") (by decide +kernel)) (hts (.initialized "java/lang/IllegalStateException") (by decide +kernel)) (fun w hw9 => hts w (List.mem_cons_of_mem _ (List.mem_append_left _ (List.mem_append_right _ hw9)))) hV hE hP hS (hl.1.trans hml.symm) htab hlocks (Nat.le_of_ble_eq_true rfl) (Nat.le_of_ble_eq_true rfl) dX4_play_23 dX4_play_26 dX4_play_27 dX4_play_29 dX4_play_32
set_option maxHeartbeats 4000000 in
set_option maxRecDepth 100000 in
theorem t1_X4_append (l : Launch) (hl0 : l.stackTraces = false) (C : q_C) (x : Nat) (y : Int32) (hxx : decide (nI 33 ≤ y ∧ y ≤ nI 126) = false) : q_T C l yX4_append wsX4_append 6 82 [.ref x, .int y] (([] : va_W)) "java/lang/IllegalArgumentException" := by
  refine q_headT (cc := cX4_append) (maxL := 2) (ret := (some .int)) (by decide +kernel) rfl (Nat.le_of_ble_eq_true rfl) ?_
  intro p e s m below meth c hx hb hr hlocks hml hown hts hK hV hE hP hD hS hA htab ls hl
  have hl : lv_has ls 2 [(0, .ref x), (1, .int y)] := hl
  refine lv_iload_n hx hb dX4_append_0 rfl (lv_at hl 1 rfl) ?_
  refine lv_bipush (v := nI 33) hx hb dX4_append_1 (by decide) ?_
  refine lv_bipush (v := nI 126) hx hb dX4_append_3 (by decide) ?_
  refine q_S (As := [.int y, .int (nI 33), .int (nI 126)]) (rest := []) ⟨hx, hb, hml, hown, hts⟩ (c_X4_isWithin l C y (nI 33) (nI 126)) (va_cwS 3 hts gX4_append_X4_isWithin rfl rfl rfl (by decide +kernel) ⟨Nat.le_of_ble_eq_true rfl, Nat.le_of_ble_eq_true rfl⟩) hK hP hD hS hA [] (by decide) rfl rfl hl.1 rfl (Nat.le_of_ble_eq_true rfl) dX4_append_5 (Nat.zero_le _) (Nat.zero_le _) (fun r w1 H locs hQ hP hD hS => ?_)
  obtain ⟨rfl, rfl⟩ := hQ
  refine W.eq (g2 := F0 m 8 ls [.int (q_b (decide (nI 33 ≤ y ∧ y ≤ nI 126)))]) rfl ?_
  refine lv_if_ne (tgt := 21) hx hb dX4_append_8 (by decide) (fun c8 => ?_) (fun c8 => ?_)
  · have c8 : decide (nI 33 ≤ y ∧ y ≤ nI 126) = true := q_b1.mp c8
    exact absurd hxx (by rw [c8]; decide)
  have c8 : decide (nI 33 ≤ y ∧ y ≤ nI 126) = false := q_b0.mp c8
  exact q_thrS (is := 152) (text := "a character code is 33 to 126") hx hb hl0 (by decide +kernel) q_fit56 q_na56 q_ot56 hown (hts (.classLink RX4 52 "java/lang/IllegalArgumentException") (by decide +kernel)) (hts (.initialized "java/lang/IllegalArgumentException") (by decide +kernel)) (fun w hw9 => hts w (List.mem_cons_of_mem _ (List.mem_append_left _ (List.mem_append_right _ hw9)))) hV hE hP hS (hl.1.trans hml.symm) htab hlocks (Nat.le_of_ble_eq_true rfl) (Nat.le_of_ble_eq_true rfl) dX4_append_11 dX4_append_14 dX4_append_15 dX4_append_17 dX4_append_20
set_option maxHeartbeats 4000000 in
set_option maxRecDepth 100000 in
theorem t2_X4_append (l : Launch) (hl0 : l.stackTraces = false) (C : q_C) (x : Nat) (nw tr hq iq tt : Nat → Nat) (sc : Nat) (z : Nat → Int) (cd : Nat → Nat) (cx : Nat) (h1 : 33 ≤ cx) (h2 : cx ≤ 126) : q_T C l yX4_append wsX4_append 6 82 [.ref x, .int (nI cx)] (wA C x nw tr hq iq tt sc z ++ wT C tt 60 cd) "java/lang/IllegalStateException" := by
  refine q_headT (cc := cX4_append) (maxL := 2) (ret := (some .int)) (by decide +kernel) rfl (Nat.le_of_ble_eq_true rfl) ?_
  intro p e s m below meth c hx hb hr hlocks hml hown hts hK hV hE hP hD hS hA htab ls hl
  have hl : lv_has ls 2 [(0, .ref x), (1, .int (nI cx))] := hl
  have hf154 := hts (.fieldLink RX4 154 "RestedArms$Text" "length" "I") (by decide +kernel)
  have hf36 := hts (.fieldLink RX4 36 "RestedArms" "text" "LRestedArms$Text;") (by decide +kernel)
  have hin3 : ∀ w ∈ u_ws RX3 TX3 2, w ∈ wsX4_append := by decide +kernel
  have hin4 : ∀ w ∈ u_ws RX4 TX4 6, w ∈ wsX4_append := by decide +kernel
  refine lv_iload_n hx hb dX4_append_0 rfl (lv_at hl 1 rfl) ?_
  refine lv_bipush (v := nI 33) hx hb dX4_append_1 (by decide) ?_
  refine lv_bipush (v := nI 126) hx hb dX4_append_3 (by decide) ?_
  refine q_S (As := [.int (nI cx), .int (nI 33), .int (nI 126)]) (rest := []) ⟨hx, hb, hml, hown, hts⟩ (c_isWithinN l C cx 33 126 (by omega) (by decide) (by decide)) (va_cwS 3 hts gX4_append_X4_isWithin rfl rfl rfl (by decide +kernel) ⟨Nat.le_of_ble_eq_true rfl, Nat.le_of_ble_eq_true rfl⟩) hK hP hD hS hA [] (by decide) rfl rfl hl.1 rfl (Nat.le_of_ble_eq_true rfl) dX4_append_5 (Nat.zero_le _) (Nat.zero_le _) (fun r w1 H locs hQ hP hD hS => ?_)
  obtain ⟨rfl, rfl⟩ := hQ
  refine W.eq (g2 := F0 m 8 ls [.int (q_b (decide (33 ≤ cx ∧ cx ≤ 126)))]) rfl ?_
  refine lv_if_ne (tgt := 21) hx hb dX4_append_8 (by decide) (fun c8 => ?_) (fun c8 => ?_)
  · have c8 : decide (33 ≤ cx ∧ cx ≤ 126) = true := q_b1.mp c8
    refine lv_aload_n hx hb dX4_append_21 rfl (lv_at hl 0 rfl) ?_
    refine va_get (ci := 4) (v := .ref (tt 0)) (C := RX4) (T := TX4) (N := 6) hx hb hts hin4 hown hK.1 hP 0 rfl rfl 4 (by decide) hf36 (fun _ h9 => h9) rfl dX4_append_22 ?_
    refine va_get (ci := 3) (v := .int (nI 60)) (C := RX3) (T := TX3) (N := 2) hx hb hts hin3 hown hK.1 hP 2 rfl rfl 1 (by decide) hf154 (fun _ h9 => h9) rfl dX4_append_25 ?_
    refine lv_bipush (v := nI 60) hx hb dX4_append_28 (by decide) ?_
    refine lv_icmp_lt (tgt := 43) hx hb dX4_append_30 (by decide) (fun c => absurd c (by decide)) (fun _ => ?_)
    exact q_thrS (is := 157) (text := "the buffer is full") hx hb hl0 (by decide +kernel) q_fit125 q_na125 q_ot125 hown (hts (.classLink RX4 121 "java/lang/IllegalStateException") (by decide +kernel)) (hts (.initialized "java/lang/IllegalStateException") (by decide +kernel)) (fun w hw9 => hts w (List.mem_cons_of_mem _ (List.mem_append_right _ hw9))) hV hE hP hS (hl.1.trans hml.symm) htab hlocks (Nat.le_of_ble_eq_true rfl) (Nat.le_of_ble_eq_true rfl) dX4_append_33 dX4_append_36 dX4_append_37 dX4_append_39 dX4_append_42
  · have c8 : decide (33 ≤ cx ∧ cx ≤ 126) = false := q_b0.mp c8
    exact absurd (show _ ∧ _ from ⟨by omega, by omega⟩) (of_decide_eq_false c8)
set_option maxHeartbeats 4000000 in
set_option maxRecDepth 100000 in
theorem t1_X4_read (l : Launch) (hl0 : l.stackTraces = false) (C : q_C) (x : Nat) (nw tr hq iq tt : Nat → Nat) (sc : Nat) (z : Nat → Int) (y : Nat) (cd : Nat → Nat) (hn60 : y ≤ 60) (hcd : ∀ k, k < y → cd k < 2 ^ 31) (hw : wholeN cd y = false) : q_T C l yX4_read wsX4_read 6 85 [.ref x] (wA C x nw tr hq iq tt sc z ++ wT C tt y cd) "java/lang/IllegalArgumentException" := by
  refine q_headT (cc := cX4_read) (maxL := 2) (ret := (some .int)) (by decide +kernel) rfl (Nat.le_of_ble_eq_true rfl) ?_
  intro p e s m below meth c hx hb hr hlocks hml hown hts hK hV hE hP hD hS hA htab ls hl
  have hl : lv_has ls 2 [(0, .ref x)] := hl
  have hf36 := hts (.fieldLink RX4 36 "RestedArms" "text" "LRestedArms$Text;") (by decide +kernel)
  have hin4 : ∀ w ∈ u_ws RX4 TX4 6, w ∈ wsX4_read := by decide +kernel
  refine lv_aload_n hx hb dX4_read_0 rfl (lv_at hl 0 rfl) ?_
  refine va_get (ci := 4) (v := .ref (tt 0)) (C := RX4) (T := TX4) (N := 6) hx hb hts hin4 hown hK.1 hP 0 rfl rfl 4 (by decide) hf36 (fun _ h9 => h9) rfl dX4_read_1 ?_
  refine q_V (As := []) (rest := []) ⟨hx, hb, hml, hown, hts⟩ (c_X3_isWhole l C tt y cd hn60 hcd) (cwV 0 hts gX4_read_X3_isWhole rfl rfl rfl (by decide +kernel) ⟨Nat.le_of_ble_eq_true rfl, Nat.le_of_ble_eq_true rfl⟩) hK hP hD hS hA [2, 3] (by decide) rfl 2 rfl rfl rfl rfl hl.1 rfl (Nat.le_of_ble_eq_true rfl) dX4_read_4 (Nat.zero_le _) (Nat.zero_le _) (fun r w1 H locs hQ hP hD hS => ?_)
  obtain ⟨rfl, rfl⟩ := hQ
  have hP : va_P C.1 vwCl (wA C x nw tr hq iq tt sc z ++ wT C tt y cd) H := hP
  have hD : va_D (q_A (wA C x nw tr hq iq tt sc z ++ wT C tt y cd) s) (wA C x nw tr hq iq tt sc z ++ wT C tt y cd) := hD
  refine W.eq (g2 := F0 m 7 ls [.int (q_b (wholeN cd y))]) rfl ?_
  refine lv_if_ne (tgt := 20) hx hb dX4_read_7 (by decide) (fun c7 => ?_) (fun c7 => ?_)
  · have c7 : wholeN cd y = true := q_b1.mp c7
    exact absurd hw (by rw [c7]; decide)
  have c7 : wholeN cd y = false := q_b0.mp c7
  exact q_thrS (is := 169) (text := "the buffer is not complete states as a text") hx hb hl0 (by decide +kernel) q_fit56 q_na56 q_ot56 hown (hts (.classLink RX4 52 "java/lang/IllegalArgumentException") (by decide +kernel)) (hts (.initialized "java/lang/IllegalArgumentException") (by decide +kernel)) (fun w hw9 => hts w (List.mem_cons_of_mem _ (List.mem_append_right _ hw9))) hV hE hP hS (hl.1.trans hml.symm) htab hlocks (Nat.le_of_ble_eq_true rfl) (Nat.le_of_ble_eq_true rfl) dX4_read_10 dX4_read_13 dX4_read_14 dX4_read_16 dX4_read_19
set_option maxHeartbeats 4000000 in
set_option maxRecDepth 100000 in
theorem t1_X4_undo (l : Launch) (hl0 : l.stackTraces = false) (C : q_C) (x : Nat) (nw tr hq iq tt : Nat → Nat) (sc : Nat) (z : Nat → Int) (ba : Nat → Nat → Nat) (r : Nat) : q_T C l yX4_undo wsX4_undo 6 82 [.ref x] (wA C x nw tr hq iq tt sc z ++ wHa C hq ba r 0) "java/lang/IllegalStateException" := by
  refine q_headT (cc := cX4_undo) (maxL := 1) (ret := (some .int)) (by decide +kernel) rfl (Nat.le_of_ble_eq_true rfl) ?_
  intro p e s m below meth c hx hb hr hlocks hml hown hts hK hV hE hP hD hS hA htab ls hl
  have hl : lv_has ls 1 [(0, .ref x)] := hl
  have hf175 := hts (.fieldLink RX4 175 "RestedArms$History" "count" "I") (by decide +kernel)
  have hf22 := hts (.fieldLink RX4 22 "RestedArms" "history" "LRestedArms$History;") (by decide +kernel)
  have hin1 : ∀ w ∈ u_ws RX1 TX1 2, w ∈ wsX4_undo := by decide +kernel
  have hin4 : ∀ w ∈ u_ws RX4 TX4 6, w ∈ wsX4_undo := by decide +kernel
  refine lv_aload_n hx hb dX4_undo_0 rfl (lv_at hl 0 rfl) ?_
  refine va_get (ci := 4) (v := .ref (hq 0)) (C := RX4) (T := TX4) (N := 6) hx hb hts hin4 hown hK.1 hP 0 rfl rfl 2 (by decide) hf22 (fun _ h9 => h9) rfl dX4_undo_1 ?_
  refine va_get (ci := 1) (v := .int (nI 0)) (C := RX1) (T := TX1) (N := 2) hx hb hts hin1 hown hK.1 hP 2 rfl rfl 1 (by decide) hf175 (fun _ h9 => h9) rfl dX4_undo_4 ?_
  refine lv_if_ne (tgt := 20) hx hb dX4_undo_7 (by decide) (fun c => absurd c (by decide)) (fun _ => ?_)
  exact q_thrS (is := 178) (text := "no state is saved") hx hb hl0 (by decide +kernel) q_fit125 q_na125 q_ot125 hown (hts (.classLink RX4 121 "java/lang/IllegalStateException") (by decide +kernel)) (hts (.initialized "java/lang/IllegalStateException") (by decide +kernel)) (fun w hw9 => hts w (List.mem_cons_of_mem _ (List.mem_append_right _ hw9))) hV hE hP hS (hl.1.trans hml.symm) htab hlocks (Nat.le_of_ble_eq_true rfl) (Nat.le_of_ble_eq_true rfl) dX4_undo_10 dX4_undo_13 dX4_undo_14 dX4_undo_16 dX4_undo_19
set_option maxHeartbeats 4000000 in
set_option maxRecDepth 100000 in
theorem t1_X4_stateOf (l : Launch) (hl0 : l.stackTraces = false) (C : q_C) (x : Nat) (y z g : Int32) (hxx : (decide (nI 0 ≤ y ∧ y ≤ nI 3) && decide (nI 0 ≤ z ∧ z ≤ nI 3)) = false) : q_T C l yX4_stateOf wsX4_stateOf 7 103 [.ref x, .int y, .int z, .int g] (([] : va_W)) "java/lang/IndexOutOfBoundsException" := by
  refine q_headT (cc := cX4_stateOf) (maxL := 5) (ret := (some .int)) (by decide +kernel) rfl (Nat.le_of_ble_eq_true rfl) ?_
  intro p e s m below meth c hx hb hr hlocks hml hown hts hK hV hE hP hD hS hA htab ls hl
  have hl : lv_has ls 5 [(0, .ref x), (1, .int y), (2, .int z), (3, .int g)] := hl
  refine lv_iload_n hx hb dX4_stateOf_0 rfl (lv_at hl 1 rfl) ?_
  refine lv_iload_n hx hb dX4_stateOf_1 rfl (lv_at hl 2 rfl) ?_
  refine q_TS (As := [.int y, .int z]) (rest := []) ⟨hx, hb, hml, hown, hts⟩ (t_X4_needState l hl0 C y z hxx) (va_cwS 2 hts gX4_stateOf_X4_needState rfl rfl rfl (by decide +kernel) ⟨Nat.le_of_ble_eq_true rfl, Nat.le_of_ble_eq_true rfl⟩) hK hV hE hP hD hS hA [] (by decide) rfl rfl hl.1 rfl (Nat.le_of_ble_eq_true rfl) dX4_stateOf_2 (Nat.le_of_ble_eq_true rfl) (Nat.le_of_ble_eq_true rfl) (fun ce q9 H locs hP hS hce hcv hcl => ?_)
  exact q_outT htab hlocks hP hS hce hcv hcl
set_option maxHeartbeats 4000000 in
set_option maxRecDepth 100000 in
theorem t2_X4_stateOf (l : Launch) (hl0 : l.stackTraces = false) (C : q_C) (x : Nat) (a t0 : Nat) (g : Int32) (ha : a < 4) (ht : t0 < 4) (hxx : decide (nI 0 ≤ g ∧ g ≤ nI 4) = false) : q_T C l yX4_stateOf wsX4_stateOf 6 82 [.ref x, .int (nI a), .int (nI t0), .int g] (([] : va_W)) "java/lang/IllegalArgumentException" := by
  refine q_headT (cc := cX4_stateOf) (maxL := 5) (ret := (some .int)) (by decide +kernel) rfl (Nat.le_of_ble_eq_true rfl) ?_
  intro p e s m below meth c hx hb hr hlocks hml hown hts hK hV hE hP hD hS hA htab ls hl
  have hl : lv_has ls 5 [(0, .ref x), (1, .int (nI a)), (2, .int (nI t0)), (3, .int g)] := hl
  refine lv_iload_n hx hb dX4_stateOf_0 rfl (lv_at hl 1 rfl) ?_
  refine lv_iload_n hx hb dX4_stateOf_1 rfl (lv_at hl 2 rfl) ?_
  refine q_S (As := [.int (nI a), .int (nI t0)]) (rest := []) ⟨hx, hb, hml, hown, hts⟩ (c_X4_needState l C a t0 (by omega) (by omega)) (va_cwS 2 hts gX4_stateOf_X4_needState rfl rfl rfl (by decide +kernel) ⟨Nat.le_of_ble_eq_true rfl, Nat.le_of_ble_eq_true rfl⟩) hK hP hD hS hA [] (by decide) rfl rfl hl.1 rfl (Nat.le_of_ble_eq_true rfl) dX4_stateOf_2 (Nat.zero_le _) (Nat.zero_le _) (fun r w1 H locs hQ hP hD hS => ?_)
  obtain ⟨rfl, rfl⟩ := hQ
  refine W.eq (g2 := F0 m 5 ls []) rfl ?_
  refine lv_iload_n hx hb dX4_stateOf_5 rfl (lv_at hl 1 rfl) ?_
  refine lv_iload_n hx hb dX4_stateOf_6 rfl (lv_at hl 2 rfl) ?_
  refine q_S (As := [.int (nI a), .int (nI t0)]) (rest := []) ⟨hx, hb, hml, hown, hts⟩ (c_X4_slotOf l C a t0) (va_cwS 2 hts gX4_stateOf_X4_slotOf rfl rfl rfl (by decide +kernel) ⟨Nat.le_of_ble_eq_true rfl, Nat.le_of_ble_eq_true rfl⟩) hK hP hD hS hA [] (by decide) rfl rfl hl.1 rfl (Nat.le_of_ble_eq_true rfl) dX4_stateOf_7 (Nat.zero_le _) (Nat.zero_le _) (fun r w1 H locs hQ hP hD hS => ?_)
  obtain ⟨rfl, rfl⟩ := hQ
  refine W.eq (g2 := F0 m 10 ls [.int (nI (4 * a + t0))]) rfl ?_
  refine lv_istore (lv' := [(4, .int (nI (4 * a + t0))), (0, .ref x), (1, .int (nI a)), (2, .int (nI t0)), (3, .int g)]) hx hb dX4_stateOf_10 hl (by decide) rfl (fun ls hl => ?_)
  refine lv_iload_n hx hb dX4_stateOf_12 rfl (lv_at hl 4 rfl) ?_
  refine lv_tableOut (tgt := 107) hx hb dX4_stateOf_13 (tsw_out (by decide) hxx) (by decide) ?_
  exact q_thrS (is := 186) (text := "a state has the properties 0 to 4") hx hb hl0 (by decide +kernel) q_fit56 q_na56 q_ot56 hown (hts (.classLink RX4 52 "java/lang/IllegalArgumentException") (by decide +kernel)) (hts (.initialized "java/lang/IllegalArgumentException") (by decide +kernel)) (fun w hw9 => hts w (List.mem_cons_of_mem _ (List.mem_append_left _ (List.mem_append_right _ hw9)))) hV hE hP hS (hl.1.trans hml.symm) htab hlocks (Nat.le_of_ble_eq_true rfl) (Nat.le_of_ble_eq_true rfl) dX4_stateOf_107 dX4_stateOf_110 dX4_stateOf_111 dX4_stateOf_113 dX4_stateOf_116
set_option maxHeartbeats 4000000 in
set_option maxRecDepth 100000 in
theorem t1_X4_index (l : Launch) (hl0 : l.stackTraces = false) (C : q_C) (x : Nat) (y z : Int32) (hxx : (decide (nI 0 ≤ y ∧ y ≤ nI 3) && decide (nI 0 ≤ z ∧ z ≤ nI 3)) = false) : q_T C l yX4_index wsX4_index 7 103 [.ref x, .int y, .int z] (([] : va_W)) "java/lang/IndexOutOfBoundsException" := by
  refine q_headT (cc := cX4_index) (maxL := 3) (ret := (some .long)) (by decide +kernel) rfl (Nat.le_of_ble_eq_true rfl) ?_
  intro p e s m below meth c hx hb hr hlocks hml hown hts hK hV hE hP hD hS hA htab ls hl
  have hl : lv_has ls 3 [(0, .ref x), (1, .int y), (2, .int z)] := hl
  refine lv_iload_n hx hb dX4_index_0 rfl (lv_at hl 1 rfl) ?_
  refine lv_iload_n hx hb dX4_index_1 rfl (lv_at hl 2 rfl) ?_
  refine q_TS (As := [.int y, .int z]) (rest := []) ⟨hx, hb, hml, hown, hts⟩ (t_X4_needState l hl0 C y z hxx) (va_cwS 2 hts gX4_index_X4_needState rfl rfl rfl (by decide +kernel) ⟨Nat.le_of_ble_eq_true rfl, Nat.le_of_ble_eq_true rfl⟩) hK hV hE hP hD hS hA [] (by decide) rfl rfl hl.1 rfl (Nat.le_of_ble_eq_true rfl) dX4_index_2 (Nat.le_of_ble_eq_true rfl) (Nat.le_of_ble_eq_true rfl) (fun ce q9 H locs hP hS hce hcv hcl => ?_)
  exact q_outT htab hlocks hP hS hce hcv hcl
set_option maxHeartbeats 4000000 in
set_option maxRecDepth 100000 in
theorem t1_X4_arm (l : Launch) (hl0 : l.stackTraces = false) (C : q_C) (x : Nat) (y z : Int32) (hxx : decide (nI 0 ≤ y ∧ y ≤ nI 3) = false) : q_T C l yX4_arm wsX4_arm 7 102 [.ref x, .int y, .int z] (([] : va_W)) "java/lang/IndexOutOfBoundsException" := by
  refine q_headT (cc := cX4_arm) (maxL := 3) (ret := (some .int)) (by decide +kernel) rfl (Nat.le_of_ble_eq_true rfl) ?_
  intro p e s m below meth c hx hb hr hlocks hml hown hts hK hV hE hP hD hS hA htab ls hl
  have hl : lv_has ls 3 [(0, .ref x), (1, .int y), (2, .int z)] := hl
  refine lv_iload_n hx hb dX4_arm_0 rfl (lv_at hl 1 rfl) ?_
  refine q_TS (As := [.int y]) (rest := []) ⟨hx, hb, hml, hown, hts⟩ (t_X4_needArm l hl0 C y hxx) (va_cwS 1 hts gX4_arm_X4_needArm rfl rfl rfl (by decide +kernel) ⟨Nat.le_of_ble_eq_true rfl, Nat.le_of_ble_eq_true rfl⟩) hK hV hE hP hD hS hA [] (by decide) rfl rfl hl.1 rfl (Nat.le_of_ble_eq_true rfl) dX4_arm_1 (Nat.le_of_ble_eq_true rfl) (Nat.le_of_ble_eq_true rfl) (fun ce q9 H locs hP hS hce hcv hcl => ?_)
  exact q_outT htab hlocks hP hS hce hcv hcl
set_option maxHeartbeats 4000000 in
set_option maxRecDepth 100000 in
theorem t2_X4_arm (l : Launch) (hl0 : l.stackTraces = false) (C : q_C) (x : Nat) (a : Nat) (g : Int32) (ha : a < 4) (hxx : decide (nI 0 ≤ g ∧ g ≤ nI 3) = false) : q_T C l yX4_arm wsX4_arm 6 82 [.ref x, .int (nI a), .int g] (([] : va_W)) "java/lang/IllegalArgumentException" := by
  refine q_headT (cc := cX4_arm) (maxL := 3) (ret := (some .int)) (by decide +kernel) rfl (Nat.le_of_ble_eq_true rfl) ?_
  intro p e s m below meth c hx hb hr hlocks hml hown hts hK hV hE hP hD hS hA htab ls hl
  have hl : lv_has ls 3 [(0, .ref x), (1, .int (nI a)), (2, .int g)] := hl
  refine lv_iload_n hx hb dX4_arm_0 rfl (lv_at hl 1 rfl) ?_
  refine q_S (As := [.int (nI a)]) (rest := []) ⟨hx, hb, hml, hown, hts⟩ (c_X4_needArm l C a (by omega)) (va_cwS 1 hts gX4_arm_X4_needArm rfl rfl rfl (by decide +kernel) ⟨Nat.le_of_ble_eq_true rfl, Nat.le_of_ble_eq_true rfl⟩) hK hP hD hS hA [] (by decide) rfl rfl hl.1 rfl (Nat.le_of_ble_eq_true rfl) dX4_arm_1 (Nat.zero_le _) (Nat.zero_le _) (fun r w1 H locs hQ hP hD hS => ?_)
  obtain ⟨rfl, rfl⟩ := hQ
  refine W.eq (g2 := F0 m 4 ls []) rfl ?_
  refine lv_iload_n hx hb dX4_arm_4 rfl (lv_at hl 2 rfl) ?_
  refine lv_tableOut (tgt := 90) hx hb dX4_arm_5 (tsw_out (by decide) hxx) (by decide) ?_
  exact q_thrS (is := 204) (text := "an arm has the properties 0 to 3") hx hb hl0 (by decide +kernel) q_fit56 q_na56 q_ot56 hown (hts (.classLink RX4 52 "java/lang/IllegalArgumentException") (by decide +kernel)) (hts (.initialized "java/lang/IllegalArgumentException") (by decide +kernel)) (fun w hw9 => hts w (List.mem_cons_of_mem _ (List.mem_append_left _ (List.mem_append_right _ hw9)))) hV hE hP hS (hl.1.trans hml.symm) htab hlocks (Nat.le_of_ble_eq_true rfl) (Nat.le_of_ble_eq_true rfl) dX4_arm_90 dX4_arm_93 dX4_arm_94 dX4_arm_96 dX4_arm_99
set_option maxHeartbeats 4000000 in
set_option maxRecDepth 100000 in
theorem t1_X4_count (l : Launch) (hl0 : l.stackTraces = false) (C : q_C) (x : Nat) (y : Int32) (hxx : decide (nI 0 ≤ y ∧ y ≤ nI 3) = false) : q_T C l yX4_count wsX4_count 6 82 [.ref x, .int y] (([] : va_W)) "java/lang/IllegalArgumentException" := by
  refine q_headT (cc := cX4_count) (maxL := 2) (ret := (some .int)) (by decide +kernel) rfl (Nat.le_of_ble_eq_true rfl) ?_
  intro p e s m below meth c hx hb hr hlocks hml hown hts hK hV hE hP hD hS hA htab ls hl
  have hl : lv_has ls 2 [(0, .ref x), (1, .int y)] := hl
  refine lv_iload_n hx hb dX4_count_0 rfl (lv_at hl 1 rfl) ?_
  refine lv_tableOut (tgt := 64) hx hb dX4_count_1 (tsw_out (by decide) hxx) (by decide) ?_
  exact q_thrS (is := 209) (text := "there are the numbers 0 to 3") hx hb hl0 (by decide +kernel) q_fit56 q_na56 q_ot56 hown (hts (.classLink RX4 52 "java/lang/IllegalArgumentException") (by decide +kernel)) (hts (.initialized "java/lang/IllegalArgumentException") (by decide +kernel)) (fun w hw9 => hts w (List.mem_cons_of_mem _ (List.mem_append_right _ hw9))) hV hE hP hS (hl.1.trans hml.symm) htab hlocks (Nat.le_of_ble_eq_true rfl) (Nat.le_of_ble_eq_true rfl) dX4_count_64 dX4_count_67 dX4_count_68 dX4_count_70 dX4_count_73
set_option maxHeartbeats 4000000 in
set_option maxRecDepth 100000 in
theorem t1_X4_sum (l : Launch) (hl0 : l.stackTraces = false) (C : q_C) (x : Nat) (y : Int32) (hxx : decide (nI 0 ≤ y ∧ y ≤ nI 2) = false) : q_T C l yX4_sum wsX4_sum 6 82 [.ref x, .int y] (([] : va_W)) "java/lang/IllegalArgumentException" := by
  refine q_headT (cc := cX4_sum) (maxL := 2) (ret := (some .long)) (by decide +kernel) rfl (Nat.le_of_ble_eq_true rfl) ?_
  intro p e s m below meth c hx hb hr hlocks hml hown hts hK hV hE hP hD hS hA htab ls hl
  have hl : lv_has ls 2 [(0, .ref x), (1, .int y)] := hl
  refine lv_iload_n hx hb dX4_sum_0 rfl (lv_at hl 1 rfl) ?_
  refine lv_tableOut (tgt := 52) hx hb dX4_sum_1 (tsw_out (by decide) hxx) (by decide) ?_
  exact q_thrS (is := 221) (text := "there are the sums 0 to 2") hx hb hl0 (by decide +kernel) q_fit56 q_na56 q_ot56 hown (hts (.classLink RX4 52 "java/lang/IllegalArgumentException") (by decide +kernel)) (hts (.initialized "java/lang/IllegalArgumentException") (by decide +kernel)) (fun w hw9 => hts w (List.mem_cons_of_mem _ (List.mem_append_right _ hw9))) hV hE hP hS (hl.1.trans hml.symm) htab hlocks (Nat.le_of_ble_eq_true rfl) (Nat.le_of_ble_eq_true rfl) dX4_sum_52 dX4_sum_55 dX4_sum_56 dX4_sum_58 dX4_sum_61
set_option maxHeartbeats 4000000 in
set_option maxRecDepth 100000 in
theorem t1_X4_setting (l : Launch) (hl0 : l.stackTraces = false) (C : q_C) (x : Nat) (y : Int32) (hxx : decide (nI 0 ≤ y ∧ y ≤ nI 3) = false) : q_T C l yX4_setting wsX4_setting 7 102 [.ref x, .int y] (([] : va_W)) "java/lang/IndexOutOfBoundsException" := by
  refine q_headT (cc := cX4_setting) (maxL := 2) (ret := (some .int)) (by decide +kernel) rfl (Nat.le_of_ble_eq_true rfl) ?_
  intro p e s m below meth c hx hb hr hlocks hml hown hts hK hV hE hP hD hS hA htab ls hl
  have hl : lv_has ls 2 [(0, .ref x), (1, .int y)] := hl
  refine lv_iload_n hx hb dX4_setting_0 rfl (lv_at hl 1 rfl) ?_
  refine q_TS (As := [.int y]) (rest := []) ⟨hx, hb, hml, hown, hts⟩ (t_X4_needSetting l hl0 C y hxx) (va_cwS 1 hts gX4_setting_X4_needSetting rfl rfl rfl (by decide +kernel) ⟨Nat.le_of_ble_eq_true rfl, Nat.le_of_ble_eq_true rfl⟩) hK hV hE hP hD hS hA [] (by decide) rfl rfl hl.1 rfl (Nat.le_of_ble_eq_true rfl) dX4_setting_1 (Nat.le_of_ble_eq_true rfl) (Nat.le_of_ble_eq_true rfl) (fun ce q9 H locs hP hS hce hcv hcl => ?_)
  exact q_outT htab hlocks hP hS hce hcv hcl
set_option maxHeartbeats 4000000 in
set_option maxRecDepth 100000 in
theorem t1_X4_choice (l : Launch) (hl0 : l.stackTraces = false) (C : q_C) (x : Nat) (y : Int32) (hxx : decide (nI 0 ≤ y ∧ y ≤ nI 2) = false) : q_T C l yX4_choice wsX4_choice 7 102 [.ref x, .int y] (([] : va_W)) "java/lang/IllegalArgumentException" := by
  refine q_headT (cc := cX4_choice) (maxL := 2) (ret := (some .int)) (by decide +kernel) rfl (Nat.le_of_ble_eq_true rfl) ?_
  intro p e s m below meth c hx hb hr hlocks hml hown hts hK hV hE hP hD hS hA htab ls hl
  have hl : lv_has ls 2 [(0, .ref x), (1, .int y)] := hl
  refine lv_iload_n hx hb dX4_choice_0 rfl (lv_at hl 1 rfl) ?_
  refine q_TS (As := [.int y]) (rest := []) ⟨hx, hb, hml, hown, hts⟩ (t_X4_needRule l hl0 C y hxx) (va_cwS 1 hts gX4_choice_X4_needRule rfl rfl rfl (by decide +kernel) ⟨Nat.le_of_ble_eq_true rfl, Nat.le_of_ble_eq_true rfl⟩) hK hV hE hP hD hS hA [] (by decide) rfl rfl hl.1 rfl (Nat.le_of_ble_eq_true rfl) dX4_choice_1 (Nat.le_of_ble_eq_true rfl) (Nat.le_of_ble_eq_true rfl) (fun ce q9 H locs hP hS hce hcv hcl => ?_)
  exact q_outT htab hlocks hP hS hce hcv hcl
set_option maxHeartbeats 4000000 in
set_option maxRecDepth 100000 in
theorem t1a_X4_ifPlayed (l : Launch) (hl0 : l.stackTraces = false) (C : q_C) (x : Nat) (y z : Int32) (hxx : decide (nI 0 ≤ y ∧ y ≤ nI 2) = false) : q_T C l yX4_ifPlayed wsX4_ifPlayed 7 102 [.ref x, .int y, .int z] (([] : va_W)) "java/lang/IllegalArgumentException" := by
  refine q_headT (cc := cX4_ifPlayed) (maxL := 3) (ret := (some .long)) (by decide +kernel) rfl (Nat.le_of_ble_eq_true rfl) ?_
  intro p e s m below meth c hx hb hr hlocks hml hown hts hK hV hE hP hD hS hA htab ls hl
  have hl : lv_has ls 3 [(0, .ref x), (1, .int y), (2, .int z)] := hl
  refine lv_iload_n hx hb dX4_ifPlayed_0 rfl (lv_at hl 1 rfl) ?_
  refine q_TS (As := [.int y]) (rest := []) ⟨hx, hb, hml, hown, hts⟩ (t_X4_needRule l hl0 C y hxx) (va_cwS 1 hts gX4_ifPlayed_X4_needRule rfl rfl rfl (by decide +kernel) ⟨Nat.le_of_ble_eq_true rfl, Nat.le_of_ble_eq_true rfl⟩) hK hV hE hP hD hS hA [] (by decide) rfl rfl hl.1 rfl (Nat.le_of_ble_eq_true rfl) dX4_ifPlayed_1 (Nat.le_of_ble_eq_true rfl) (Nat.le_of_ble_eq_true rfl) (fun ce q9 H locs hP hS hce hcv hcl => ?_)
  exact q_outT htab hlocks hP hS hce hcv hcl
set_option maxHeartbeats 4000000 in
set_option maxRecDepth 100000 in
theorem t1b_X4_ifPlayed (l : Launch) (hl0 : l.stackTraces = false) (C : q_C) (x : Nat) (rule : Nat) (z : Int32) (hr3 : rule < 3) (hxx : decide (nI 1 ≤ z ∧ z ≤ nI 99) = false) : q_T C l yX4_ifPlayed wsX4_ifPlayed 7 102 [.ref x, .int (nI rule), .int z] (([] : va_W)) "java/lang/IllegalArgumentException" := by
  refine q_headT (cc := cX4_ifPlayed) (maxL := 3) (ret := (some .long)) (by decide +kernel) rfl (Nat.le_of_ble_eq_true rfl) ?_
  intro p e s m below meth c hx hb hr hlocks hml hown hts hK hV hE hP hD hS hA htab ls hl
  have hl : lv_has ls 3 [(0, .ref x), (1, .int (nI rule)), (2, .int z)] := hl
  refine lv_iload_n hx hb dX4_ifPlayed_0 rfl (lv_at hl 1 rfl) ?_
  refine q_S (As := [.int (nI rule)]) (rest := []) ⟨hx, hb, hml, hown, hts⟩ (c_X4_needRule l C rule (by omega)) (va_cwS 1 hts gX4_ifPlayed_X4_needRule rfl rfl rfl (by decide +kernel) ⟨Nat.le_of_ble_eq_true rfl, Nat.le_of_ble_eq_true rfl⟩) hK hP hD hS hA [] (by decide) rfl rfl hl.1 rfl (Nat.le_of_ble_eq_true rfl) dX4_ifPlayed_1 (Nat.zero_le _) (Nat.zero_le _) (fun r w1 H locs hQ hP hD hS => ?_)
  obtain ⟨rfl, rfl⟩ := hQ
  refine W.eq (g2 := F0 m 4 ls []) rfl ?_
  refine lv_iload_n hx hb dX4_ifPlayed_4 rfl (lv_at hl 2 rfl) ?_
  refine q_TS (As := [.int z]) (rest := []) ⟨hx, hb, hml, hown, hts⟩ (t_X4_needPulls l hl0 C z hxx) (va_cwS 1 hts gX4_ifPlayed_X4_needPulls rfl rfl rfl (by decide +kernel) ⟨Nat.le_of_ble_eq_true rfl, Nat.le_of_ble_eq_true rfl⟩) hK hV hE hP hD hS hA [] (by decide) rfl rfl hl.1 rfl (Nat.le_of_ble_eq_true rfl) dX4_ifPlayed_5 (Nat.le_of_ble_eq_true rfl) (Nat.le_of_ble_eq_true rfl) (fun ce q9 H locs hP hS hce hcv hcl => ?_)
  exact q_outT htab hlocks hP hS hce hcv hcl
set_option maxHeartbeats 4000000 in
set_option maxRecDepth 100000 in
theorem t1_X4_bestRule (l : Launch) (hl0 : l.stackTraces = false) (C : q_C) (x : Nat) (y : Int32) (hxx : decide (nI 1 ≤ y ∧ y ≤ nI 99) = false) : q_T C l yX4_bestRule wsX4_bestRule 7 102 [.ref x, .int y] (([] : va_W)) "java/lang/IllegalArgumentException" := by
  refine q_headT (cc := cX4_bestRule) (maxL := 8) (ret := (some .int)) (by decide +kernel) rfl (Nat.le_of_ble_eq_true rfl) ?_
  intro p e s m below meth c hx hb hr hlocks hml hown hts hK hV hE hP hD hS hA htab ls hl
  have hl : lv_has ls 8 [(0, .ref x), (1, .int y)] := hl
  refine lv_iload_n hx hb dX4_bestRule_0 rfl (lv_at hl 1 rfl) ?_
  refine q_TS (As := [.int y]) (rest := []) ⟨hx, hb, hml, hown, hts⟩ (t_X4_needPulls l hl0 C y hxx) (va_cwS 1 hts gX4_bestRule_X4_needPulls rfl rfl rfl (by decide +kernel) ⟨Nat.le_of_ble_eq_true rfl, Nat.le_of_ble_eq_true rfl⟩) hK hV hE hP hD hS hA [] (by decide) rfl rfl hl.1 rfl (Nat.le_of_ble_eq_true rfl) dX4_bestRule_1 (Nat.le_of_ble_eq_true rfl) (Nat.le_of_ble_eq_true rfl) (fun ce q9 H locs hP hS hce hcv hcl => ?_)
  exact q_outT htab hlocks hP hS hce hcv hcl
set_option maxHeartbeats 4000000 in
set_option maxRecDepth 100000 in
theorem t1_X4_giftFor (l : Launch) (hl0 : l.stackTraces = false) (C : q_C) (x : Nat) (y z : Int32) (hxx : (decide (nI 0 ≤ y ∧ y ≤ nI 3) && decide (nI 0 ≤ z ∧ z ≤ nI 3)) = false) : q_T C l yX4_giftFor wsX4_giftFor 7 103 [.ref x, .int y, .int z] (([] : va_W)) "java/lang/IndexOutOfBoundsException" := by
  refine q_headT (cc := cX4_giftFor) (maxL := 7) (ret := (some .int)) (by decide +kernel) rfl (Nat.le_of_ble_eq_true rfl) ?_
  intro p e s m below meth c hx hb hr hlocks hml hown hts hK hV hE hP hD hS hA htab ls hl
  have hl : lv_has ls 7 [(0, .ref x), (1, .int y), (2, .int z)] := hl
  refine lv_iload_n hx hb dX4_giftFor_0 rfl (lv_at hl 1 rfl) ?_
  refine lv_iload_n hx hb dX4_giftFor_1 rfl (lv_at hl 2 rfl) ?_
  refine q_TS (As := [.int y, .int z]) (rest := []) ⟨hx, hb, hml, hown, hts⟩ (t_X4_needState l hl0 C y z hxx) (va_cwS 2 hts gX4_giftFor_X4_needState rfl rfl rfl (by decide +kernel) ⟨Nat.le_of_ble_eq_true rfl, Nat.le_of_ble_eq_true rfl⟩) hK hV hE hP hD hS hA [] (by decide) rfl rfl hl.1 rfl (Nat.le_of_ble_eq_true rfl) dX4_giftFor_2 (Nat.le_of_ble_eq_true rfl) (Nat.le_of_ble_eq_true rfl) (fun ce q9 H locs hP hS hce hcv hcl => ?_)
  exact q_outT htab hlocks hP hS hce hcv hcl
set_option maxHeartbeats 4000000 in
set_option maxRecDepth 100000 in
theorem t1_X4_set (l : Launch) (hl0 : l.stackTraces = false) (C : q_C) (x : Nat) (y z : Int32) (hxx : decide (nI 0 ≤ y ∧ y ≤ nI 3) = false) : q_T C l yX4_set wsX4_set 7 102 [.ref x, .int y, .int z] (([] : va_W)) "java/lang/IndexOutOfBoundsException" := by
  refine q_headT (cc := cX4_set) (maxL := 4) (ret := (some .int)) (by decide +kernel) rfl (Nat.le_of_ble_eq_true rfl) ?_
  intro p e s m below meth c hx hb hr hlocks hml hown hts hK hV hE hP hD hS hA htab ls hl
  have hl : lv_has ls 4 [(0, .ref x), (1, .int y), (2, .int z)] := hl
  refine lv_iload_n hx hb dX4_set_0 rfl (lv_at hl 1 rfl) ?_
  refine q_TS (As := [.int y]) (rest := []) ⟨hx, hb, hml, hown, hts⟩ (t_X4_needSetting l hl0 C y hxx) (va_cwS 1 hts gX4_set_X4_needSetting rfl rfl rfl (by decide +kernel) ⟨Nat.le_of_ble_eq_true rfl, Nat.le_of_ble_eq_true rfl⟩) hK hV hE hP hD hS hA [] (by decide) rfl rfl hl.1 rfl (Nat.le_of_ble_eq_true rfl) dX4_set_1 (Nat.le_of_ble_eq_true rfl) (Nat.le_of_ble_eq_true rfl) (fun ce q9 H locs hP hS hce hcv hcl => ?_)
  exact q_outT htab hlocks hP hS hce hcv hcl
set_option maxHeartbeats 4000000 in
set_option maxRecDepth 100000 in
theorem t2_X4_set (l : Launch) (hl0 : l.stackTraces = false) (C : q_C) (x : Nat) (k : Nat) (g : Int32) (hk : k < 4) (hxx : decide (nI (leS k) ≤ g ∧ g ≤ nI (grS k)) = false) : q_T C l yX4_set wsX4_set 6 82 [.ref x, .int (nI k), .int g] (([] : va_W)) "java/lang/IllegalArgumentException" := by
  refine q_headT (cc := cX4_set) (maxL := 4) (ret := (some .int)) (by decide +kernel) rfl (Nat.le_of_ble_eq_true rfl) ?_
  intro p e s m below meth c hx hb hr hlocks hml hown hts hK hV hE hP hD hS hA htab ls hl
  have hl : lv_has ls 4 [(0, .ref x), (1, .int (nI k)), (2, .int g)] := hl
  have hf100 := hts (.fieldLink RX4 100 "RestedArms" "LEAST_SETTING" "[I") (by decide +kernel)
  have hf103 := hts (.fieldLink RX4 103 "RestedArms" "GREATEST_SETTING" "[I") (by decide +kernel)
  obtain ⟨hE1, hE2, a0, a1, ⟨hz0, hx0, hb0, hn0⟩, hz1, hx1, hb1, hn1⟩ := id hE
  refine lv_iload_n hx hb dX4_set_0 rfl (lv_at hl 1 rfl) ?_
  refine q_S (As := [.int (nI k)]) (rest := []) ⟨hx, hb, hml, hown, hts⟩ (c_X4_needSetting l C k (by omega)) (va_cwS 1 hts gX4_set_X4_needSetting rfl rfl rfl (by decide +kernel) ⟨Nat.le_of_ble_eq_true rfl, Nat.le_of_ble_eq_true rfl⟩) hK hP hD hS hA [] (by decide) rfl rfl hl.1 rfl (Nat.le_of_ble_eq_true rfl) dX4_set_1 (Nat.zero_le _) (Nat.zero_le _) (fun r w1 H locs hQ hP hD hS => ?_)
  obtain ⟨rfl, rfl⟩ := hQ
  refine W.eq (g2 := F0 m 4 ls []) rfl ?_
  refine lv_iload_n hx hb dX4_set_4 rfl (lv_at hl 2 rfl) ?_
  refine va_gets hx hb hz0 hS hown hf100 (fun _ h9 => h9) dX4_set_5 ?_
  refine lv_iload_n hx hb dX4_set_8 rfl (lv_at hl 1 rfl) ?_
  refine q_SX (f := fun k => nI (leS k)) (N := 4) (rest := [.int g]) ⟨hx, hb, hml, hown, hts⟩ (by omega) (by decide) (va_cwS 2 hts gX4_set_X4_at rfl rfl rfl (by decide +kernel) ⟨Nat.le_of_ble_eq_true rfl, Nat.le_of_ble_eq_true rfl⟩) hK (hx0.kept (hS.2.1 _ hb0 hn0)) (Nat.lt_of_lt_of_le hb0 hS.1) hP hD hS hA rfl hl.1 rfl (Nat.le_of_ble_eq_true rfl) dX4_set_9 (Nat.zero_le _) (Nat.zero_le _) (fun H locs hP hS => ?_)
  refine W.eq (g2 := F0 m 12 ls [.int (nI (leS k)), .int g]) rfl ?_
  refine va_gets hx hb hz1 hS hown hf103 (fun _ h9 => h9) dX4_set_12 ?_
  refine lv_iload_n hx hb dX4_set_15 rfl (lv_at hl 1 rfl) ?_
  refine q_SX (f := fun k => nI (grS k)) (N := 4) (rest := [.int (nI (leS k)), .int g]) ⟨hx, hb, hml, hown, hts⟩ (by omega) (by decide) (va_cwS 2 hts gX4_set_X4_at rfl rfl rfl (by decide +kernel) ⟨Nat.le_of_ble_eq_true rfl, Nat.le_of_ble_eq_true rfl⟩) hK (hx1.kept (hS.2.1 _ hb1 hn1)) (Nat.lt_of_lt_of_le hb1 hS.1) hP hD hS hA rfl hl.1 rfl (Nat.le_of_ble_eq_true rfl) dX4_set_16 (Nat.zero_le _) (Nat.zero_le _) (fun H locs hP hS => ?_)
  refine W.eq (g2 := F0 m 19 ls [.int (nI (grS k)), .int (nI (leS k)), .int g]) rfl ?_
  refine q_S (As := [.int g, .int (nI (leS k)), .int (nI (grS k))]) (rest := []) ⟨hx, hb, hml, hown, hts⟩ (c_X4_isWithin l C g (nI (leS k)) (nI (grS k))) (va_cwS 3 hts gX4_set_X4_isWithin rfl rfl rfl (by decide +kernel) ⟨Nat.le_of_ble_eq_true rfl, Nat.le_of_ble_eq_true rfl⟩) hK hP hD hS hA [] (by decide) rfl rfl hl.1 rfl (Nat.le_of_ble_eq_true rfl) dX4_set_19 (Nat.zero_le _) (Nat.zero_le _) (fun r w1 H locs hQ hP hD hS => ?_)
  obtain ⟨rfl, rfl⟩ := hQ
  refine W.eq (g2 := F0 m 22 ls [.int (q_b (decide (nI (leS k) ≤ g ∧ g ≤ nI (grS k))))]) rfl ?_
  refine lv_if_ne (tgt := 35) hx hb dX4_set_22 (by decide) (fun c22 => ?_) (fun c22 => ?_)
  · have c22 : decide (nI (leS k) ≤ g ∧ g ≤ nI (grS k)) = true := q_b1.mp c22
    exact absurd hxx (by rw [c22]; decide)
  have c22 : decide (nI (leS k) ≤ g ∧ g ≤ nI (grS k)) = false := q_b0.mp c22
  exact q_thrS (is := 106) (text := "the setting has no such value") hx hb hl0 (by decide +kernel) q_fit56 q_na56 q_ot56 hown (hts (.classLink RX4 52 "java/lang/IllegalArgumentException") (by decide +kernel)) (hts (.initialized "java/lang/IllegalArgumentException") (by decide +kernel)) (fun w hw9 => hts w (List.mem_cons_of_mem _ (List.mem_append_left _ (List.mem_append_right _ hw9)))) hV hE hP hS (hl.1.trans hml.symm) htab hlocks (Nat.le_of_ble_eq_true rfl) (Nat.le_of_ble_eq_true rfl) dX4_set_25 dX4_set_28 dX4_set_29 dX4_set_31 dX4_set_34
set_option maxHeartbeats 4000000 in
set_option maxRecDepth 100000 in
theorem c_X4_set (l : Launch) (C : q_C) (x : Nat) (nw tr hq iq tt : Nat → Nat) (sc : Nat) (z : Nat → Int) (ba : Nat → Nat → Nat) (ph : Nat → Bd) (r n : Nat) (b : Bd) (t f v o : Nat → Nat) (kx g : Nat) (hr6 : r < 6) (hn6 : n ≤ 6) (hk : kx < 4) (h1 : leS kx ≤ g) (h2 : g ≤ grS kx) (h3 : grS kx ≤ 99) : q_ME C l yX4_set wsX4_set 3 83 [.ref x, .int (nI kx), .int (nI g)] (List.flatten [wA C x nw tr hq iq tt sc z, wB C nw b, wHa C hq ba r n, wB C (ba 0) (ph 0), wB C (ba 1) (ph 1), wB C (ba 2) (ph 2), wB C (ba 3) (ph 3), wB C (ba 4) (ph 4), wB C (ba 5) (ph 5), wX C iq t f v o]) (fun r2 w => r2 = some (.int (nI (bs b kx))) ∧ w = List.flatten [wA C x nw tr hq iq tt sc z, wB C nw (ss b (upN (bs b) kx g)), wHa C hq ba (kR n r) (kC n), wB C (ba 0) (upB ph (kJ n r) b 0), wB C (ba 1) (upB ph (kJ n r) b 1), wB C (ba 2) (upB ph (kJ n r) b 2), wB C (ba 3) (upB ph (kJ n r) b 3), wB C (ba 4) (upB ph (kJ n r) b 4), wB C (ba 5) (upB ph (kJ n r) b 5), wX C iq t (upN (upN (upN (upN f 0 0) 1 0) 2 0) 3 0) v o]) := by
  refine q_headE (cc := cX4_set) (maxL := 4) (ret := (some .int)) (by decide +kernel) rfl (Nat.le_of_ble_eq_true rfl) ?_
  intro p e s m below meth c hx hb hr hlocks hml hown hts hK hV hE hP hD hS hA ls hl
  have hl : lv_has ls 4 [(0, .ref x), (1, .int (nI kx)), (2, .int (nI g))] := hl
  have hf10 := hts (.fieldLink RX4 10 "RestedArms" "now" "LRestedArms$Board;") (by decide +kernel)
  have hf100 := hts (.fieldLink RX4 100 "RestedArms" "LEAST_SETTING" "[I") (by decide +kernel)
  have hf103 := hts (.fieldLink RX4 103 "RestedArms" "GREATEST_SETTING" "[I") (by decide +kernel)
  have hf108 := hts (.fieldLink RX4 108 "RestedArms$Board" "settings" "[I") (by decide +kernel)
  have hf22 := hts (.fieldLink RX4 22 "RestedArms" "history" "LRestedArms$History;") (by decide +kernel)
  have hf29 := hts (.fieldLink RX4 29 "RestedArms" "indices" "LRestedArms$Indices;") (by decide +kernel)
  have hin0 : ∀ w ∈ u_ws RX0 TX0 12, w ∈ wsX4_set := by decide +kernel
  have hin4 : ∀ w ∈ u_ws RX4 TX4 6, w ∈ wsX4_set := by decide +kernel
  obtain ⟨hE1, hE2, a0, a1, ⟨hz0, hx0, hb0, hn0⟩, hz1, hx1, hb1, hn1⟩ := id hE
  refine lv_iload_n hx hb dX4_set_0 rfl (lv_at hl 1 rfl) ?_
  refine q_S0 (As := [.int (nI kx)]) (rest := []) ⟨hx, hb, hml, hown, hts⟩ (c_X4_needSetting l C kx (by omega)) (va_cwS 1 hts gX4_set_X4_needSetting rfl rfl rfl (by decide +kernel) ⟨Nat.le_of_ble_eq_true rfl, Nat.le_of_ble_eq_true rfl⟩) hK hP hD hS hA [] (by decide) rfl rfl hl.1 rfl (Nat.le_of_ble_eq_true rfl) dX4_set_1 (Nat.zero_le _) (Nat.zero_le _) (fun H locs hP hS => ?_)
  refine W.eq (g2 := F0 m 4 ls []) rfl ?_
  refine lv_iload_n hx hb dX4_set_4 rfl (lv_at hl 2 rfl) ?_
  refine va_gets hx hb hz0 hS hown hf100 (fun _ h9 => h9) dX4_set_5 ?_
  refine lv_iload_n hx hb dX4_set_8 rfl (lv_at hl 1 rfl) ?_
  refine q_SX (f := fun k => nI (leS k)) (N := 4) (rest := [.int (nI g)]) ⟨hx, hb, hml, hown, hts⟩ (by omega) (by decide) (va_cwS 2 hts gX4_set_X4_at rfl rfl rfl (by decide +kernel) ⟨Nat.le_of_ble_eq_true rfl, Nat.le_of_ble_eq_true rfl⟩) hK (hx0.kept (hS.2.1 _ hb0 hn0)) (Nat.lt_of_lt_of_le hb0 hS.1) hP hD hS hA rfl hl.1 rfl (Nat.le_of_ble_eq_true rfl) dX4_set_9 (Nat.zero_le _) (Nat.zero_le _) (fun H locs hP hS => ?_)
  refine W.eq (g2 := F0 m 12 ls [.int (nI (leS kx)), .int (nI g)]) rfl ?_
  refine va_gets hx hb hz1 hS hown hf103 (fun _ h9 => h9) dX4_set_12 ?_
  refine lv_iload_n hx hb dX4_set_15 rfl (lv_at hl 1 rfl) ?_
  refine q_SX (f := fun k => nI (grS k)) (N := 4) (rest := [.int (nI (leS kx)), .int (nI g)]) ⟨hx, hb, hml, hown, hts⟩ (by omega) (by decide) (va_cwS 2 hts gX4_set_X4_at rfl rfl rfl (by decide +kernel) ⟨Nat.le_of_ble_eq_true rfl, Nat.le_of_ble_eq_true rfl⟩) hK (hx1.kept (hS.2.1 _ hb1 hn1)) (Nat.lt_of_lt_of_le hb1 hS.1) hP hD hS hA rfl hl.1 rfl (Nat.le_of_ble_eq_true rfl) dX4_set_16 (Nat.zero_le _) (Nat.zero_le _) (fun H locs hP hS => ?_)
  refine W.eq (g2 := F0 m 19 ls [.int (nI (grS kx)), .int (nI (leS kx)), .int (nI g)]) rfl ?_
  refine q_S0 (As := [.int (nI g), .int (nI (leS kx)), .int (nI (grS kx))]) (rest := []) ⟨hx, hb, hml, hown, hts⟩ (c_X4_isWithin l C (nI g) (nI (leS kx)) (nI (grS kx))) (va_cwS 3 hts gX4_set_X4_isWithin rfl rfl rfl (by decide +kernel) ⟨Nat.le_of_ble_eq_true rfl, Nat.le_of_ble_eq_true rfl⟩) hK hP hD hS hA [] (by decide) rfl rfl hl.1 rfl (Nat.le_of_ble_eq_true rfl) dX4_set_19 (Nat.zero_le _) (Nat.zero_le _) (fun H locs hP hS => ?_)
  refine W.eq (g2 := F0 m 22 ls [.int (q_b (decide (nI (leS kx) ≤ nI g ∧ nI g ≤ nI (grS kx))))]) rfl ?_
  refine lv_if_ne (tgt := 35) hx hb dX4_set_22 (by decide) (fun c22 => ?_) (fun c22 => ?_)
  · have c22 : decide (nI (leS kx) ≤ nI g ∧ nI g ≤ nI (grS kx)) = true := q_b1.mp c22
    refine lv_aload_n hx hb dX4_set_35 rfl (lv_at hl 0 rfl) ?_
    refine va_get (ci := 4) (v := .ref (hq 0)) (C := RX4) (T := TX4) (N := 6) hx hb hts hin4 hown hK.1 hP 0 rfl rfl 2 (by decide) hf22 (fun _ h9 => h9) rfl dX4_set_36 ?_
    refine lv_aload_n hx hb dX4_set_39 rfl (lv_at hl 0 rfl) ?_
    refine va_get (ci := 4) (v := .ref (nw 0)) (C := RX4) (T := TX4) (N := 6) hx hb hts hin4 hown hK.1 hP 0 rfl rfl 0 (by decide) hf10 (fun _ h9 => h9) rfl dX4_set_40 ?_
    refine q_VB (cs := [wHa C hq ba r n, wB C (ba 0) (ph 0), wB C (ba 1) (ph 1), wB C (ba 2) (ph 2), wB C (ba 3) (ph 3), wB C (ba 4) (ph 4), wB C (ba 5) (ph 5), wB C nw b]) (As := [.ref (nw 0)]) (rest := []) ⟨hx, hb, hml, hown, hts⟩ (c_X1_keep l C hq ba ph r n nw b hr6 hn6) (cwV 1 hts gX4_set_X1_keep rfl rfl rfl (by decide +kernel) ⟨Nat.le_of_ble_eq_true rfl, Nat.le_of_ble_eq_true rfl⟩) hK hP hD hS hA [2, 3, 4, 5, 6, 7, 8, 1] (by decide) rfl 10 rfl rfl rfl rfl hl.1 rfl (Nat.le_of_ble_eq_true rfl) dX4_set_43 (Nat.zero_le _) (Nat.zero_le _) (fun r w1 H locs hQ hF hS => ?_)
    obtain ⟨rfl, rfl⟩ := hQ
    obtain ⟨hP, hD⟩ := hF [wHa C hq ba (kR n r) (kC n), wB C (ba 0) (upB ph (kJ n r) b 0), wB C (ba 1) (upB ph (kJ n r) b 1), wB C (ba 2) (upB ph (kJ n r) b 2), wB C (ba 3) (upB ph (kJ n r) b 3), wB C (ba 4) (upB ph (kJ n r) b 4), wB C (ba 5) (upB ph (kJ n r) b 5), wB C nw b] rfl rfl
    have hP : va_P C.1 vwCl (List.flatten [wA C x nw tr hq iq tt sc z, wB C nw b, wHa C hq ba (kR n r) (kC n), wB C (ba 0) (upB ph (kJ n r) b 0), wB C (ba 1) (upB ph (kJ n r) b 1), wB C (ba 2) (upB ph (kJ n r) b 2), wB C (ba 3) (upB ph (kJ n r) b 3), wB C (ba 4) (upB ph (kJ n r) b 4), wB C (ba 5) (upB ph (kJ n r) b 5), wX C iq t f v o]) H := hP
    have hD : va_D (q_A (List.flatten [wA C x nw tr hq iq tt sc z, wB C nw b, wHa C hq ba r n, wB C (ba 0) (ph 0), wB C (ba 1) (ph 1), wB C (ba 2) (ph 2), wB C (ba 3) (ph 3), wB C (ba 4) (ph 4), wB C (ba 5) (ph 5), wX C iq t f v o]) s) (List.flatten [wA C x nw tr hq iq tt sc z, wB C nw b, wHa C hq ba (kR n r) (kC n), wB C (ba 0) (upB ph (kJ n r) b 0), wB C (ba 1) (upB ph (kJ n r) b 1), wB C (ba 2) (upB ph (kJ n r) b 2), wB C (ba 3) (upB ph (kJ n r) b 3), wB C (ba 4) (upB ph (kJ n r) b 4), wB C (ba 5) (upB ph (kJ n r) b 5), wX C iq t f v o]) := hD
    refine W.eq (g2 := F0 m 46 ls []) rfl ?_
    refine lv_aload_n hx hb dX4_set_46 rfl (lv_at hl 0 rfl) ?_
    refine va_get (ci := 4) (v := .ref (nw 0)) (C := RX4) (T := TX4) (N := 6) hx hb hts hin4 hown hK.1 hP 0 rfl rfl 0 (by decide) hf10 (fun _ h9 => h9) rfl dX4_set_47 ?_
    refine va_get (ci := 0) (v := .ref (nw 7)) (C := RX0) (T := TX0) (N := 12) hx hb hts hin0 hown hK.1 hP 2 rfl rfl 6 (by decide) hf108 (fun _ h9 => h9) rfl dX4_set_50 ?_
    refine lv_iload_n hx hb dX4_set_53 rfl (lv_at hl 1 rfl) ?_
    refine q_S0 (As := [.ref (nw 7), .int (nI kx)]) (rest := []) ⟨hx, hb, hml, hown, hts⟩ (c_X4_at l C (nw 7) 4 kx (fun k => nI (bs b k)) (by omega) (by decide)) (va_cwS 2 hts gX4_set_X4_at rfl rfl rfl (by decide +kernel) ⟨Nat.le_of_ble_eq_true rfl, Nat.le_of_ble_eq_true rfl⟩) hK hP hD hS hA [9] (by decide) rfl rfl hl.1 rfl (Nat.le_of_ble_eq_true rfl) dX4_set_54 (Nat.zero_le _) (Nat.zero_le _) (fun H locs hP hS => ?_)
    refine W.eq (g2 := F0 m 57 ls [.int (nI (bs b kx))]) rfl ?_
    refine lv_istore_n (lv' := [(3, .int (nI (bs b kx))), (0, .ref x), (1, .int (nI kx)), (2, .int (nI g))]) hx hb dX4_set_57 rfl hl (by decide) rfl (fun ls hl => ?_)
    refine lv_aload_n hx hb dX4_set_58 rfl (lv_at hl 1 rfl) ?_
    refine va_get (ci := 4) (v := .ref (nw 0)) (C := RX4) (T := TX4) (N := 6) hx hb hts hin4 hown hK.1 hP 0 rfl rfl 0 (by decide) hf10 (fun _ h9 => h9) rfl dX4_set_59 ?_
    refine va_get (ci := 0) (v := .ref (nw 7)) (C := RX0) (T := TX0) (N := 12) hx hb hts hin0 hown hK.1 hP 2 rfl rfl 6 (by decide) hf108 (fun _ h9 => h9) rfl dX4_set_62 ?_
    refine lv_iload_n hx hb dX4_set_65 rfl (lv_at hl 2 rfl) ?_
    refine lv_iload_n hx hb dX4_set_66 rfl (lv_at hl 3 rfl) ?_
    refine q_S (As := [.ref (nw 7), .int (nI kx), .int (nI g)]) (rest := []) ⟨hx, hb, hml, hown, hts⟩ (c_X4_store l C (nw 7) 4 kx (fun k => nI (bs b k)) (nI g) (by omega) (by decide)) (va_cwS 3 hts gX4_set_X4_store rfl rfl rfl (by decide +kernel) ⟨Nat.le_of_ble_eq_true rfl, Nat.le_of_ble_eq_true rfl⟩) hK hP hD hS hA [9] (by decide) rfl rfl hl.1 rfl (Nat.le_of_ble_eq_true rfl) dX4_set_67 (Nat.zero_le _) (Nat.zero_le _) (fun r w1 H locs hQ hP hD hS => ?_)
    obtain ⟨rfl, rfl⟩ := hQ
    have hP : va_P C.1 vwCl ((List.flatten [wA C x nw tr hq iq tt sc z, wB C nw b, wHa C hq ba (kR n r) (kC n), wB C (ba 0) (upB ph (kJ n r) b 0), wB C (ba 1) (upB ph (kJ n r) b 1), wB C (ba 2) (upB ph (kJ n r) b 2), wB C (ba 3) (upB ph (kJ n r) b 3), wB C (ba 4) (upB ph (kJ n r) b 4), wB C (ba 5) (upB ph (kJ n r) b 5), wX C iq t f v o]).set 9 (nw 7, .inl (C.2.1, 4, .inl (upd (fun k => nI (bs b k)) kx (nI g))))) H := hP
    have hD : va_D _ ((List.flatten [wA C x nw tr hq iq tt sc z, wB C nw b, wHa C hq ba (kR n r) (kC n), wB C (ba 0) (upB ph (kJ n r) b 0), wB C (ba 1) (upB ph (kJ n r) b 1), wB C (ba 2) (upB ph (kJ n r) b 2), wB C (ba 3) (upB ph (kJ n r) b 3), wB C (ba 4) (upB ph (kJ n r) b 4), wB C (ba 5) (upB ph (kJ n r) b 5), wX C iq t f v o]).set 9 (nw 7, .inl (C.2.1, 4, .inl (upd (fun k => nI (bs b k)) kx (nI g))))) := hD
    rw [q_fset [wA C x nw tr hq iq tt sc z, wB C nw b, wHa C hq ba (kR n r) (kC n), wB C (ba 0) (upB ph (kJ n r) b 0), wB C (ba 1) (upB ph (kJ n r) b 1), wB C (ba 2) (upB ph (kJ n r) b 2), wB C (ba 3) (upB ph (kJ n r) b 3), wB C (ba 4) (upB ph (kJ n r) b 4), wB C (ba 5) (upB ph (kJ n r) b 5), wX C iq t f v o] 1 7 9 (B := wB C nw b) rfl (Nat.le_of_ble_eq_true rfl) rfl, q_upd] at hP hD
    have hP : va_P C.1 vwCl (List.flatten [wA C x nw tr hq iq tt sc z, ([(nw 0, .inr (0, [.ref (nw 1), .ref (nw 2), .ref (nw 3), .ref (nw 4), .ref (nw 5), .ref (nw 6), .ref (nw 7), .int (nI (bx b)), .int (nI (bl b) - 1), .long (br b), .long (lN (bw b)), .long (bz b)])), (nw 1, .inl (C.2.1, 16, .inl (fun k => nI (bg b k)))), (nw 2, .inl (C.2.1, 16, .inl (fun k => nI (bo b k)))), (nw 3, .inl (C.2.1, 16, .inl (fun k => nI (bb b k)))), (nw 4, .inl (C.2.1, 16, .inl (fun k => nI (bc b k)))), (nw 5, .inl (C.2.1, 4, .inl (fun k => nI (bp b k)))), (nw 6, .inl (C.2.1, 4, .inl (fun k => nI (bu b k)))), (nw 7, .inl (C.2.1, 4, .inl (fun k => nI (upN (bs b) kx g k))))] : va_W), wHa C hq ba (kR n r) (kC n), wB C (ba 0) (upB ph (kJ n r) b 0), wB C (ba 1) (upB ph (kJ n r) b 1), wB C (ba 2) (upB ph (kJ n r) b 2), wB C (ba 3) (upB ph (kJ n r) b 3), wB C (ba 4) (upB ph (kJ n r) b 4), wB C (ba 5) (upB ph (kJ n r) b 5), wX C iq t f v o]) H := hP
    have hD : va_D (q_A (List.flatten [wA C x nw tr hq iq tt sc z, wB C nw b, wHa C hq ba r n, wB C (ba 0) (ph 0), wB C (ba 1) (ph 1), wB C (ba 2) (ph 2), wB C (ba 3) (ph 3), wB C (ba 4) (ph 4), wB C (ba 5) (ph 5), wX C iq t f v o]) s) (List.flatten [wA C x nw tr hq iq tt sc z, ([(nw 0, .inr (0, [.ref (nw 1), .ref (nw 2), .ref (nw 3), .ref (nw 4), .ref (nw 5), .ref (nw 6), .ref (nw 7), .int (nI (bx b)), .int (nI (bl b) - 1), .long (br b), .long (lN (bw b)), .long (bz b)])), (nw 1, .inl (C.2.1, 16, .inl (fun k => nI (bg b k)))), (nw 2, .inl (C.2.1, 16, .inl (fun k => nI (bo b k)))), (nw 3, .inl (C.2.1, 16, .inl (fun k => nI (bb b k)))), (nw 4, .inl (C.2.1, 16, .inl (fun k => nI (bc b k)))), (nw 5, .inl (C.2.1, 4, .inl (fun k => nI (bp b k)))), (nw 6, .inl (C.2.1, 4, .inl (fun k => nI (bu b k)))), (nw 7, .inl (C.2.1, 4, .inl (fun k => nI (upN (bs b) kx g k))))] : va_W), wHa C hq ba (kR n r) (kC n), wB C (ba 0) (upB ph (kJ n r) b 0), wB C (ba 1) (upB ph (kJ n r) b 1), wB C (ba 2) (upB ph (kJ n r) b 2), wB C (ba 3) (upB ph (kJ n r) b 3), wB C (ba 4) (upB ph (kJ n r) b 4), wB C (ba 5) (upB ph (kJ n r) b 5), wX C iq t f v o]) := hD
    refine W.eq (g2 := F0 m 70 ls []) rfl ?_
    have hP : va_P C.1 vwCl (List.flatten [wA C x nw tr hq iq tt sc z, wB C nw (ss b (upN (bs b) kx g)), wHa C hq ba (kR n r) (kC n), wB C (ba 0) (upB ph (kJ n r) b 0), wB C (ba 1) (upB ph (kJ n r) b 1), wB C (ba 2) (upB ph (kJ n r) b 2), wB C (ba 3) (upB ph (kJ n r) b 3), wB C (ba 4) (upB ph (kJ n r) b 4), wB C (ba 5) (upB ph (kJ n r) b 5), wX C iq t f v o]) H := hP
    have hD : va_D (q_A (List.flatten [wA C x nw tr hq iq tt sc z, wB C nw b, wHa C hq ba r n, wB C (ba 0) (ph 0), wB C (ba 1) (ph 1), wB C (ba 2) (ph 2), wB C (ba 3) (ph 3), wB C (ba 4) (ph 4), wB C (ba 5) (ph 5), wX C iq t f v o]) s) (List.flatten [wA C x nw tr hq iq tt sc z, wB C nw (ss b (upN (bs b) kx g)), wHa C hq ba (kR n r) (kC n), wB C (ba 0) (upB ph (kJ n r) b 0), wB C (ba 1) (upB ph (kJ n r) b 1), wB C (ba 2) (upB ph (kJ n r) b 2), wB C (ba 3) (upB ph (kJ n r) b 3), wB C (ba 4) (upB ph (kJ n r) b 4), wB C (ba 5) (upB ph (kJ n r) b 5), wX C iq t f v o]) := hD
    refine lv_aload_n hx hb dX4_set_70 rfl (lv_at hl 1 rfl) ?_
    refine va_get (ci := 4) (v := .ref (iq 0)) (C := RX4) (T := TX4) (N := 6) hx hb hts hin4 hown hK.1 hP 0 rfl rfl 3 (by decide) hf29 (fun _ h9 => h9) rfl dX4_set_71 ?_
    refine q_VB (cs := [wX C iq t f v o]) (As := []) (rest := []) ⟨hx, hb, hml, hown, hts⟩ (c_X2_forgetAll l C iq t f v o ) (cwV 0 hts gX4_set_X2_forgetAll rfl rfl rfl (by decide +kernel) ⟨Nat.le_of_ble_eq_true rfl, Nat.le_of_ble_eq_true rfl⟩) hK hP hD hS hA [9] (by decide) rfl 60 rfl rfl rfl rfl hl.1 rfl (Nat.le_of_ble_eq_true rfl) dX4_set_74 (Nat.zero_le _) (Nat.zero_le _) (fun r w1 H locs hQ hF hS => ?_)
    obtain ⟨rfl, rfl⟩ := hQ
    obtain ⟨hP, hD⟩ := hF [wX C iq t (upN (upN (upN (upN f 0 0) 1 0) 2 0) 3 0) v o] rfl rfl
    have hP : va_P C.1 vwCl (List.flatten [wA C x nw tr hq iq tt sc z, wB C nw (ss b (upN (bs b) kx g)), wHa C hq ba (kR n r) (kC n), wB C (ba 0) (upB ph (kJ n r) b 0), wB C (ba 1) (upB ph (kJ n r) b 1), wB C (ba 2) (upB ph (kJ n r) b 2), wB C (ba 3) (upB ph (kJ n r) b 3), wB C (ba 4) (upB ph (kJ n r) b 4), wB C (ba 5) (upB ph (kJ n r) b 5), wX C iq t (upN (upN (upN (upN f 0 0) 1 0) 2 0) 3 0) v o]) H := hP
    have hD : va_D (q_A (List.flatten [wA C x nw tr hq iq tt sc z, wB C nw b, wHa C hq ba r n, wB C (ba 0) (ph 0), wB C (ba 1) (ph 1), wB C (ba 2) (ph 2), wB C (ba 3) (ph 3), wB C (ba 4) (ph 4), wB C (ba 5) (ph 5), wX C iq t f v o]) s) (List.flatten [wA C x nw tr hq iq tt sc z, wB C nw (ss b (upN (bs b) kx g)), wHa C hq ba (kR n r) (kC n), wB C (ba 0) (upB ph (kJ n r) b 0), wB C (ba 1) (upB ph (kJ n r) b 1), wB C (ba 2) (upB ph (kJ n r) b 2), wB C (ba 3) (upB ph (kJ n r) b 3), wB C (ba 4) (upB ph (kJ n r) b 4), wB C (ba 5) (upB ph (kJ n r) b 5), wX C iq t (upN (upN (upN (upN f 0 0) 1 0) 2 0) 3 0) v o]) := hD
    refine W.eq (g2 := F0 m 77 ls []) rfl ?_
    refine lv_iload_n hx hb dX4_set_77 rfl (lv_at hl 0 rfl) ?_
    exact q_iret hx hb hr hlocks (w1 := List.flatten [wA C x nw tr hq iq tt sc z, wB C nw (ss b (upN (bs b) kx g)), wHa C hq ba (kR n r) (kC n), wB C (ba 0) (upB ph (kJ n r) b 0), wB C (ba 1) (upB ph (kJ n r) b 1), wB C (ba 2) (upB ph (kJ n r) b 2), wB C (ba 3) (upB ph (kJ n r) b 3), wB C (ba 4) (upB ph (kJ n r) b 4), wB C (ba 5) (upB ph (kJ n r) b 5), wX C iq t (upN (upN (upN (upN f 0 0) 1 0) 2 0) 3 0) v o]) hP hS rfl dX4_set_78 (⟨rfl, rfl⟩)
  · have c22 : decide (nI (leS kx) ≤ nI g ∧ nI g ≤ nI (grS kx)) = false := q_b0.mp c22
    exact absurd (c22.symm.trans (inT h1 h2 (by omega))) (by decide)
