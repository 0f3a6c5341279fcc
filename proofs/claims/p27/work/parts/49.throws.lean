/-! throws of the class's own -/
def q_nm : List String := ["java/lang/RuntimeException", "java/lang/Exception"]
theorem q_nmf : ∀ n ∈ q_nm, Bundle.fit n = true := by decide +kernel
theorem q_fit125 : Bundle.fit "java/lang/IllegalStateException" = true := by decide +kernel
theorem q_na125 : ∀ w ∈ (vx_atS RX4 125 "java/lang/IllegalStateException" q_nm).filter (fun w => !goodWord w), w ∈ q_xw := by decide +kernel
theorem q_ot125 : ∀ w ∈ Cond.classLink RX4 121 "java/lang/IllegalStateException" :: Cond.initialized "java/lang/IllegalStateException" :: vx_atS RX4 125 "java/lang/IllegalStateException" q_nm, vx_ot w = true := by decide +kernel
theorem q_xw_b {args : Array Value} {s : State} (hV : q_Wo s) : ∀ w ∈ q_xw, w.before args s = true := fun w hw => by
  rcases q_xw_form w hw with ⟨a, b, rfl⟩ | ⟨x, rfl⟩
  · exact va_tabs (A := #[]) (u := s) rfl rfl (hV.1 _ hw)
  · exact va_tabs (A := #[]) (u := s) rfl rfl (hV.1 _ hw)
section QThr2
variable {p : Program} {l : Launch} {e : Env} {s : State} {m : MethodId} {args : Array Value} {below : List Frame} {meth : Method} {c : Code} {H : Heap} {locs : List Loc} {cc : ByteArray} {pc : Nat} {ls : Array Slot}
theorem q_thrS {fr lo : Nat} {is ik ic : Nat} {text cls : String} {ws : va_W} {C : q_C} (hx : p.tables.exec = Jvm.exec) (hb : c.code = cc) (hl0 : l.stackTraces = false) (hsx : (is, text) ∈ q_sx) (hcls : Bundle.fit cls = true) (hna : ∀ w ∈ (vx_atS RX4 ic cls q_nm).filter (fun w => !goodWord w), w ∈ q_xw) (hot : ∀ w ∈ Cond.classLink RX4 ik cls :: Cond.initialized cls :: vx_atS RX4 ic cls q_nm, vx_ot w = true)
    (hown : s.vm.findClass RX4 = some m.cls) (hk : (Cond.classLink RX4 ik cls).before args s = true) (hini : (Cond.initialized cls).before args s = true) (hin : ∀ w ∈ (vx_atS RX4 ic cls q_nm).filter goodWord, w.before args s = true) (hV : q_Wo s) (hE : q_E (q_A ws s) s s.heap) (hP : va_P C.1 vwCl ws H) (hS : va_S (q_A ws s) s.heap H locs) (hsize : ls.size = c.maxLocals) (htab : ∀ x ∈ c.exceptionTable.toList, False) (hlocks : meth.locks = false) (hfr : 6 ≤ fr) (hlo : 82 ≤ lo)
    (d0 : decode cc pc = .ok (.new ik, 3)) (d3 : decode cc (pc + 3) = .ok (.dup, 1)) (d4 : decode cc (pc + 4) = .ok (.ldc is, 2)) (d7 : decode cc (pc + 6) = .ok (.invokespecial ic, 3)) (d10 : decode cc (pc + 9) = .ok (.athrow, 1)) :
    W p l e (q_R1 fr lo) s m args below meth c H locs 0 0 (q_GT C below ws cls args s) (F0 m pc ls []) := by
  obtain ⟨sa, hsa⟩ := hV.2.1 _ hsx
  exact vx_throwS (names := q_nm) (A := q_A ws s) hx hb hl0 hown hcls q_nmf hk hini hsa (vx_hat hin hna (q_xw_b hV)) hot hE.1 hE.2.1 hS hsize d0 d3 d4 d7 d10 (fun x hx => (htab x hx).elim) (show 6 ≤ fr from hfr) (show 0 + (13 * (2 + 1) + 43) ≤ lo by omega) (Nat.le_refl 1) (Nat.le_refl 6) hlocks (fun t ht h1 h2 => q_xcT hP hS h1 h2) hS.2.2 (Nat.le_refl 1) (Nat.le_refl 6)
end QThr2
set_option maxHeartbeats 4000000 in
set_option maxRecDepth 100000 in
theorem t1_X4_undo (l : Launch) (hl0 : l.stackTraces = false) (C : q_C) (x : Nat) (nw tr hq iq tt : Nat → Nat) (sc : Nat) (z : Nat → Int) (ba : Nat → Nat → Nat) (r : Nat) : q_T C l yX4_undo wsX4_undo 6 82 [.ref x] (wA C x nw tr hq iq tt sc z ++ wHa C hq ba r 0) "java/lang/IllegalStateException" := by
  refine q_headT (cc := cX4_undo) (maxL := 1) (ret := (some .int)) (by decide +kernel) rfl (Nat.le_of_ble_eq_true rfl) ?_
  intro p e s m below meth c hx hb hr hlocks hml hown hts hK hV hE hP hD hS hA htab ls hl
  have hl : lv_has ls 1 [(0, .ref x)] := hl
  have hf175 := hts (.fieldLink RX4 175 "RestedArms$History" "count" "I") (by decide +kernel)
  have hf22 := hts (.fieldLink RX4 22 "RestedArms" "history" "LRestedArms$History;") (by decide +kernel)
  have hin1 : ∀ w ∈ u_ws RX1 TX1 2, w ∈ wsX4_undo := by decide +kernel
  have hin4 : ∀ w ∈ u_ws RX4 TX4 6, w ∈ wsX4_undo := by decide +kernel
  refine lv_aload_n hx hb dX4_undo_0 rfl (lv_at hl 0 rfl) ?_
  refine va_get (ci := 4) (v := .ref (hq 0)) (C := RX4) (T := TX4) (N := 6) hx hb hts hin4 hown hK.1 hP 0 rfl rfl 2 (by decide) hf22 (fun _ h9 => h9) rfl dX4_undo_1 ?_
  refine va_get (ci := 1) (v := .int (nI 0)) (C := RX1) (T := TX1) (N := 2) hx hb hts hin1 hown hK.1 hP 2 rfl rfl 1 (by decide) hf175 (fun _ h9 => h9) rfl dX4_undo_4 ?_
  refine lv_if_ne (tgt := 20) hx hb dX4_undo_7 (by decide) (fun c => absurd c (by decide)) (fun _ => ?_)
  exact q_thrS (is := 178) (text := "no state is saved") hx hb hl0 (by decide +kernel) q_fit125 q_na125 q_ot125 hown (hts (.classLink RX4 121 "java/lang/IllegalStateException") (by decide +kernel)) (hts (.initialized "java/lang/IllegalStateException") (by decide +kernel)) (fun w hw9 => hts w (List.mem_cons_of_mem _ (List.mem_append_right _ hw9))) hV hE hP hS (hl.1.trans hml.symm) htab hlocks (Nat.le_of_ble_eq_true rfl) (Nat.le_of_ble_eq_true rfl) dX4_undo_10 dX4_undo_13 dX4_undo_14 dX4_undo_16 dX4_undo_19
set_option maxHeartbeats 4000000 in
set_option maxRecDepth 100000 in
theorem c_X4_set (l : Launch) (C : q_C) (x : Nat) (nw tr hq iq tt : Nat → Nat) (sc : Nat) (z : Nat → Int) (ba : Nat → Nat → Nat) (ph : Nat → Bd) (r n : Nat) (b : Bd) (t f v o : Nat → Nat) (kx g : Nat) (hr6 : r < 6) (hn6 : n ≤ 6) (hk : kx < 4) (h1 : leS kx ≤ g) (h2 : g ≤ grS kx) (h3 : grS kx ≤ 99) : q_ME C l yX4_set wsX4_set 3 83 [.ref x, .int (nI kx), .int (nI g)] (List.flatten [wA C x nw tr hq iq tt sc z, wB C nw b, wHa C hq ba r n, wB C (ba 0) (ph 0), wB C (ba 1) (ph 1), wB C (ba 2) (ph 2), wB C (ba 3) (ph 3), wB C (ba 4) (ph 4), wB C (ba 5) (ph 5), wX C iq t f v o]) (fun r2 w => r2 = some (.int (nI (bs b kx))) ∧ w = List.flatten [wA C x nw tr hq iq tt sc z, wB C nw (ss b (upN (bs b) kx g)), wHa C hq ba (kR n r) (kC n), wB C (ba 0) (upB ph (kJ n r) b 0), wB C (ba 1) (upB ph (kJ n r) b 1), wB C (ba 2) (upB ph (kJ n r) b 2), wB C (ba 3) (upB ph (kJ n r) b 3), wB C (ba 4) (upB ph (kJ n r) b 4), wB C (ba 5) (upB ph (kJ n r) b 5), wX C iq t (upN (upN (upN (upN f 0 0) 1 0) 2 0) 3 0) v o]) := by
  refine q_headE (cc := cX4_set) (maxL := 4) (ret := (some .int)) (by decide +kernel) rfl (Nat.le_of_ble_eq_true rfl) ?_
  intro p e s m below meth c hx hb hr hlocks hml hown hts hK hV hE hP hD hS hA ls hl
  have hl : lv_has ls 4 [(0, .ref x), (1, .int (nI kx)), (2, .int (nI g))] := hl
  have hf10 := hts (.fieldLink RX4 10 "RestedArms" "now" "LRestedArms$Board;") (by decide +kernel)
  have hf100 := hts (.fieldLink RX4 100 "RestedArms" "LEAST_SETTING" "[I") (by decide +kernel)
  have hf103 := hts (.fieldLink RX4 103 "RestedArms" "GREATEST_SETTING" "[I") (by decide +kernel)
  have hf108 := hts (.fieldLink RX4 108 "RestedArms$Board" "settings" "[I") (by decide +kernel)
  have hf22 := hts (.fieldLink RX4 22 "RestedArms" "history" "LRestedArms$History;") (by decide +kernel)
  have hf29 := hts (.fieldLink RX4 29 "RestedArms" "indices" "LRestedArms$Indices;") (by decide +kernel)
  have hin0 : ∀ w ∈ u_ws RX0 TX0 12, w ∈ wsX4_set := by decide +kernel
  have hin4 : ∀ w ∈ u_ws RX4 TX4 6, w ∈ wsX4_set := by decide +kernel
  obtain ⟨hE1, hE2, a0, a1, ⟨hz0, hx0, hb0, hn0⟩, hz1, hx1, hb1, hn1⟩ := id hE
  refine lv_iload_n hx hb dX4_set_0 rfl (lv_at hl 1 rfl) ?_
  refine q_S0 (As := [.int (nI kx)]) (rest := []) ⟨hx, hb, hml, hown, hts⟩ (c_X4_needSetting l C kx (by omega)) (va_cwS 1 hts gX4_set_X4_needSetting rfl rfl rfl (by decide +kernel) ⟨Nat.le_of_ble_eq_true rfl, Nat.le_of_ble_eq_true rfl⟩) hK hP hD hS hA [] (by decide) rfl rfl hl.1 rfl (Nat.le_of_ble_eq_true rfl) dX4_set_1 (Nat.zero_le _) (Nat.zero_le _) (fun H locs hP hS => ?_)
  refine W.eq (g2 := F0 m 4 ls []) rfl ?_
  refine lv_iload_n hx hb dX4_set_4 rfl (lv_at hl 2 rfl) ?_
  refine va_gets hx hb hz0 hS hown hf100 (fun _ h9 => h9) dX4_set_5 ?_
  refine lv_iload_n hx hb dX4_set_8 rfl (lv_at hl 1 rfl) ?_
  refine q_SX (f := fun k => nI (leS k)) (N := 4) (rest := [.int (nI g)]) ⟨hx, hb, hml, hown, hts⟩ (by omega) (by decide) (va_cwS 2 hts gX4_set_X4_at rfl rfl rfl (by decide +kernel) ⟨Nat.le_of_ble_eq_true rfl, Nat.le_of_ble_eq_true rfl⟩) hK (hx0.kept (hS.2.1 _ hb0 hn0)) (Nat.lt_of_lt_of_le hb0 hS.1) hP hD hS hA rfl hl.1 rfl (Nat.le_of_ble_eq_true rfl) dX4_set_9 (Nat.zero_le _) (Nat.zero_le _) (fun H locs hP hS => ?_)
  refine W.eq (g2 := F0 m 12 ls [.int (nI (leS kx)), .int (nI g)]) rfl ?_
  refine va_gets hx hb hz1 hS hown hf103 (fun _ h9 => h9) dX4_set_12 ?_
  refine lv_iload_n hx hb dX4_set_15 rfl (lv_at hl 1 rfl) ?_
  refine q_SX (f := fun k => nI (grS k)) (N := 4) (rest := [.int (nI (leS kx)), .int (nI g)]) ⟨hx, hb, hml, hown, hts⟩ (by omega) (by decide) (va_cwS 2 hts gX4_set_X4_at rfl rfl rfl (by decide +kernel) ⟨Nat.le_of_ble_eq_true rfl, Nat.le_of_ble_eq_true rfl⟩) hK (hx1.kept (hS.2.1 _ hb1 hn1)) (Nat.lt_of_lt_of_le hb1 hS.1) hP hD hS hA rfl hl.1 rfl (Nat.le_of_ble_eq_true rfl) dX4_set_16 (Nat.zero_le _) (Nat.zero_le _) (fun H locs hP hS => ?_)
  refine W.eq (g2 := F0 m 19 ls [.int (nI (grS kx)), .int (nI (leS kx)), .int (nI g)]) rfl ?_
  refine q_S0 (As := [.int (nI g), .int (nI (leS kx)), .int (nI (grS kx))]) (rest := []) ⟨hx, hb, hml, hown, hts⟩ (c_X4_isWithin l C (nI g) (nI (leS kx)) (nI (grS kx))) (va_cwS 3 hts gX4_set_X4_isWithin rfl rfl rfl (by decide +kernel) ⟨Nat.le_of_ble_eq_true rfl, Nat.le_of_ble_eq_true rfl⟩) hK hP hD hS hA [] (by decide) rfl rfl hl.1 rfl (Nat.le_of_ble_eq_true rfl) dX4_set_19 (Nat.zero_le _) (Nat.zero_le _) (fun H locs hP hS => ?_)
  refine W.eq (g2 := F0 m 22 ls [.int (q_b (decide (nI (leS kx) ≤ nI g ∧ nI g ≤ nI (grS kx))))]) rfl ?_
  refine lv_if_ne (tgt := 35) hx hb dX4_set_22 (by decide) (fun c22 => ?_) (fun c22 => ?_)
  · have c22 : decide (nI (leS kx) ≤ nI g ∧ nI g ≤ nI (grS kx)) = true := q_b1.mp c22
    refine lv_aload_n hx hb dX4_set_35 rfl (lv_at hl 0 rfl) ?_
    refine va_get (ci := 4) (v := .ref (hq 0)) (C := RX4) (T := TX4) (N := 6) hx hb hts hin4 hown hK.1 hP 0 rfl rfl 2 (by decide) hf22 (fun _ h9 => h9) rfl dX4_set_36 ?_
    refine lv_aload_n hx hb dX4_set_39 rfl (lv_at hl 0 rfl) ?_
    refine va_get (ci := 4) (v := .ref (nw 0)) (C := RX4) (T := TX4) (N := 6) hx hb hts hin4 hown hK.1 hP 0 rfl rfl 0 (by decide) hf10 (fun _ h9 => h9) rfl dX4_set_40 ?_
    refine q_VB (cs := [wHa C hq ba r n, wB C (ba 0) (ph 0), wB C (ba 1) (ph 1), wB C (ba 2) (ph 2), wB C (ba 3) (ph 3), wB C (ba 4) (ph 4), wB C (ba 5) (ph 5), wB C nw b]) (As := [.ref (nw 0)]) (rest := []) ⟨hx, hb, hml, hown, hts⟩ (c_X1_keep l C hq ba ph r n nw b hr6 hn6) (cwV 1 hts gX4_set_X1_keep rfl rfl rfl (by decide +kernel) ⟨Nat.le_of_ble_eq_true rfl, Nat.le_of_ble_eq_true rfl⟩) hK hP hD hS hA [2, 3, 4, 5, 6, 7, 8, 1] (by decide) rfl 10 rfl rfl rfl rfl hl.1 rfl (Nat.le_of_ble_eq_true rfl) dX4_set_43 (Nat.zero_le _) (Nat.zero_le _) (fun r w1 H locs hQ hF hS => ?_)
    obtain ⟨rfl, rfl⟩ := hQ
    obtain ⟨hP, hD⟩ := hF [wHa C hq ba (kR n r) (kC n), wB C (ba 0) (upB ph (kJ n r) b 0), wB C (ba 1) (upB ph (kJ n r) b 1), wB C (ba 2) (upB ph (kJ n r) b 2), wB C (ba 3) (upB ph (kJ n r) b 3), wB C (ba 4) (upB ph (kJ n r) b 4), wB C (ba 5) (upB ph (kJ n r) b 5), wB C nw b] rfl rfl
    have hP : va_P C.1 vwCl (List.flatten [wA C x nw tr hq iq tt sc z, wB C nw b, wHa C hq ba (kR n r) (kC n), wB C (ba 0) (upB ph (kJ n r) b 0), wB C (ba 1) (upB ph (kJ n r) b 1), wB C (ba 2) (upB ph (kJ n r) b 2), wB C (ba 3) (upB ph (kJ n r) b 3), wB C (ba 4) (upB ph (kJ n r) b 4), wB C (ba 5) (upB ph (kJ n r) b 5), wX C iq t f v o]) H := hP
    have hD : va_D (q_A (List.flatten [wA C x nw tr hq iq tt sc z, wB C nw b, wHa C hq ba r n, wB C (ba 0) (ph 0), wB C (ba 1) (ph 1), wB C (ba 2) (ph 2), wB C (ba 3) (ph 3), wB C (ba 4) (ph 4), wB C (ba 5) (ph 5), wX C iq t f v o]) s) (List.flatten [wA C x nw tr hq iq tt sc z, wB C nw b, wHa C hq ba (kR n r) (kC n), wB C (ba 0) (upB ph (kJ n r) b 0), wB C (ba 1) (upB ph (kJ n r) b 1), wB C (ba 2) (upB ph (kJ n r) b 2), wB C (ba 3) (upB ph (kJ n r) b 3), wB C (ba 4) (upB ph (kJ n r) b 4), wB C (ba 5) (upB ph (kJ n r) b 5), wX C iq t f v o]) := hD
    refine W.eq (g2 := F0 m 46 ls []) rfl ?_
    refine lv_aload_n hx hb dX4_set_46 rfl (lv_at hl 0 rfl) ?_
    refine va_get (ci := 4) (v := .ref (nw 0)) (C := RX4) (T := TX4) (N := 6) hx hb hts hin4 hown hK.1 hP 0 rfl rfl 0 (by decide) hf10 (fun _ h9 => h9) rfl dX4_set_47 ?_
    refine va_get (ci := 0) (v := .ref (nw 7)) (C := RX0) (T := TX0) (N := 12) hx hb hts hin0 hown hK.1 hP 2 rfl rfl 6 (by decide) hf108 (fun _ h9 => h9) rfl dX4_set_50 ?_
    refine lv_iload_n hx hb dX4_set_53 rfl (lv_at hl 1 rfl) ?_
    refine q_S0 (As := [.ref (nw 7), .int (nI kx)]) (rest := []) ⟨hx, hb, hml, hown, hts⟩ (c_X4_at l C (nw 7) 4 kx (fun k => nI (bs b k)) (by omega) (by decide)) (va_cwS 2 hts gX4_set_X4_at rfl rfl rfl (by decide +kernel) ⟨Nat.le_of_ble_eq_true rfl, Nat.le_of_ble_eq_true rfl⟩) hK hP hD hS hA [9] (by decide) rfl rfl hl.1 rfl (Nat.le_of_ble_eq_true rfl) dX4_set_54 (Nat.zero_le _) (Nat.zero_le _) (fun H locs hP hS => ?_)
    refine W.eq (g2 := F0 m 57 ls [.int (nI (bs b kx))]) rfl ?_
    refine lv_istore_n (lv' := [(3, .int (nI (bs b kx))), (0, .ref x), (1, .int (nI kx)), (2, .int (nI g))]) hx hb dX4_set_57 rfl hl (by decide) rfl (fun ls hl => ?_)
    refine lv_aload_n hx hb dX4_set_58 rfl (lv_at hl 1 rfl) ?_
    refine va_get (ci := 4) (v := .ref (nw 0)) (C := RX4) (T := TX4) (N := 6) hx hb hts hin4 hown hK.1 hP 0 rfl rfl 0 (by decide) hf10 (fun _ h9 => h9) rfl dX4_set_59 ?_
    refine va_get (ci := 0) (v := .ref (nw 7)) (C := RX0) (T := TX0) (N := 12) hx hb hts hin0 hown hK.1 hP 2 rfl rfl 6 (by decide) hf108 (fun _ h9 => h9) rfl dX4_set_62 ?_
    refine lv_iload_n hx hb dX4_set_65 rfl (lv_at hl 2 rfl) ?_
    refine lv_iload_n hx hb dX4_set_66 rfl (lv_at hl 3 rfl) ?_
    refine q_S (As := [.ref (nw 7), .int (nI kx), .int (nI g)]) (rest := []) ⟨hx, hb, hml, hown, hts⟩ (c_X4_store l C (nw 7) 4 kx (fun k => nI (bs b k)) (nI g) (by omega) (by decide)) (va_cwS 3 hts gX4_set_X4_store rfl rfl rfl (by decide +kernel) ⟨Nat.le_of_ble_eq_true rfl, Nat.le_of_ble_eq_true rfl⟩) hK hP hD hS hA [9] (by decide) rfl rfl hl.1 rfl (Nat.le_of_ble_eq_true rfl) dX4_set_67 (Nat.zero_le _) (Nat.zero_le _) (fun r w1 H locs hQ hP hD hS => ?_)
    obtain ⟨rfl, rfl⟩ := hQ
    have hP : va_P C.1 vwCl ((List.flatten [wA C x nw tr hq iq tt sc z, wB C nw b, wHa C hq ba (kR n r) (kC n), wB C (ba 0) (upB ph (kJ n r) b 0), wB C (ba 1) (upB ph (kJ n r) b 1), wB C (ba 2) (upB ph (kJ n r) b 2), wB C (ba 3) (upB ph (kJ n r) b 3), wB C (ba 4) (upB ph (kJ n r) b 4), wB C (ba 5) (upB ph (kJ n r) b 5), wX C iq t f v o]).set 9 (nw 7, .inl (C.2.1, 4, .inl (upd (fun k => nI (bs b k)) kx (nI g))))) H := hP
    have hD : va_D _ ((List.flatten [wA C x nw tr hq iq tt sc z, wB C nw b, wHa C hq ba (kR n r) (kC n), wB C (ba 0) (upB ph (kJ n r) b 0), wB C (ba 1) (upB ph (kJ n r) b 1), wB C (ba 2) (upB ph (kJ n r) b 2), wB C (ba 3) (upB ph (kJ n r) b 3), wB C (ba 4) (upB ph (kJ n r) b 4), wB C (ba 5) (upB ph (kJ n r) b 5), wX C iq t f v o]).set 9 (nw 7, .inl (C.2.1, 4, .inl (upd (fun k => nI (bs b k)) kx (nI g))))) := hD
    rw [q_fset [wA C x nw tr hq iq tt sc z, wB C nw b, wHa C hq ba (kR n r) (kC n), wB C (ba 0) (upB ph (kJ n r) b 0), wB C (ba 1) (upB ph (kJ n r) b 1), wB C (ba 2) (upB ph (kJ n r) b 2), wB C (ba 3) (upB ph (kJ n r) b 3), wB C (ba 4) (upB ph (kJ n r) b 4), wB C (ba 5) (upB ph (kJ n r) b 5), wX C iq t f v o] 1 7 9 (B := wB C nw b) rfl (Nat.le_of_ble_eq_true rfl) rfl, q_upd] at hP hD
    have hP : va_P C.1 vwCl (List.flatten [wA C x nw tr hq iq tt sc z, ([(nw 0, .inr (0, [.ref (nw 1), .ref (nw 2), .ref (nw 3), .ref (nw 4), .ref (nw 5), .ref (nw 6), .ref (nw 7), .int (nI (bx b)), .int (nI (bl b) - 1), .long (br b), .long (lN (bw b)), .long (bz b)])), (nw 1, .inl (C.2.1, 16, .inl (fun k => nI (bg b k)))), (nw 2, .inl (C.2.1, 16, .inl (fun k => nI (bo b k)))), (nw 3, .inl (C.2.1, 16, .inl (fun k => nI (bb b k)))), (nw 4, .inl (C.2.1, 16, .inl (fun k => nI (bc b k)))), (nw 5, .inl (C.2.1, 4, .inl (fun k => nI (bp b k)))), (nw 6, .inl (C.2.1, 4, .inl (fun k => nI (bu b k)))), (nw 7, .inl (C.2.1, 4, .inl (fun k => nI (upN (bs b) kx g k))))] : va_W), wHa C hq ba (kR n r) (kC n), wB C (ba 0) (upB ph (kJ n r) b 0), wB C (ba 1) (upB ph (kJ n r) b 1), wB C (ba 2) (upB ph (kJ n r) b 2), wB C (ba 3) (upB ph (kJ n r) b 3), wB C (ba 4) (upB ph (kJ n r) b 4), wB C (ba 5) (upB ph (kJ n r) b 5), wX C iq t f v o]) H := hP
    have hD : va_D (q_A (List.flatten [wA C x nw tr hq iq tt sc z, wB C nw b, wHa C hq ba r n, wB C (ba 0) (ph 0), wB C (ba 1) (ph 1), wB C (ba 2) (ph 2), wB C (ba 3) (ph 3), wB C (ba 4) (ph 4), wB C (ba 5) (ph 5), wX C iq t f v o]) s) (List.flatten [wA C x nw tr hq iq tt sc z, ([(nw 0, .inr (0, [.ref (nw 1), .ref (nw 2), .ref (nw 3), .ref (nw 4), .ref (nw 5), .ref (nw 6), .ref (nw 7), .int (nI (bx b)), .int (nI (bl b) - 1), .long (br b), .long (lN (bw b)), .long (bz b)])), (nw 1, .inl (C.2.1, 16, .inl (fun k => nI (bg b k)))), (nw 2, .inl (C.2.1, 16, .inl (fun k => nI (bo b k)))), (nw 3, .inl (C.2.1, 16, .inl (fun k => nI (bb b k)))), (nw 4, .inl (C.2.1, 16, .inl (fun k => nI (bc b k)))), (nw 5, .inl (C.2.1, 4, .inl (fun k => nI (bp b k)))), (nw 6, .inl (C.2.1, 4, .inl (fun k => nI (bu b k)))), (nw 7, .inl (C.2.1, 4, .inl (fun k => nI (upN (bs b) kx g k))))] : va_W), wHa C hq ba (kR n r) (kC n), wB C (ba 0) (upB ph (kJ n r) b 0), wB C (ba 1) (upB ph (kJ n r) b 1), wB C (ba 2) (upB ph (kJ n r) b 2), wB C (ba 3) (upB ph (kJ n r) b 3), wB C (ba 4) (upB ph (kJ n r) b 4), wB C (ba 5) (upB ph (kJ n r) b 5), wX C iq t f v o]) := hD
    refine W.eq (g2 := F0 m 70 ls []) rfl ?_
    have hP : va_P C.1 vwCl (List.flatten [wA C x nw tr hq iq tt sc z, wB C nw (ss b (upN (bs b) kx g)), wHa C hq ba (kR n r) (kC n), wB C (ba 0) (upB ph (kJ n r) b 0), wB C (ba 1) (upB ph (kJ n r) b 1), wB C (ba 2) (upB ph (kJ n r) b 2), wB C (ba 3) (upB ph (kJ n r) b 3), wB C (ba 4) (upB ph (kJ n r) b 4), wB C (ba 5) (upB ph (kJ n r) b 5), wX C iq t f v o]) H := hP
    have hD : va_D (q_A (List.flatten [wA C x nw tr hq iq tt sc z, wB C nw b, wHa C hq ba r n, wB C (ba 0) (ph 0), wB C (ba 1) (ph 1), wB C (ba 2) (ph 2), wB C (ba 3) (ph 3), wB C (ba 4) (ph 4), wB C (ba 5) (ph 5), wX C iq t f v o]) s) (List.flatten [wA C x nw tr hq iq tt sc z, wB C nw (ss b (upN (bs b) kx g)), wHa C hq ba (kR n r) (kC n), wB C (ba 0) (upB ph (kJ n r) b 0), wB C (ba 1) (upB ph (kJ n r) b 1), wB C (ba 2) (upB ph (kJ n r) b 2), wB C (ba 3) (upB ph (kJ n r) b 3), wB C (ba 4) (upB ph (kJ n r) b 4), wB C (ba 5) (upB ph (kJ n r) b 5), wX C iq t f v o]) := hD
    refine lv_aload_n hx hb dX4_set_70 rfl (lv_at hl 1 rfl) ?_
    refine va_get (ci := 4) (v := .ref (iq 0)) (C := RX4) (T := TX4) (N := 6) hx hb hts hin4 hown hK.1 hP 0 rfl rfl 3 (by decide) hf29 (fun _ h9 => h9) rfl dX4_set_71 ?_
    refine q_VB (cs := [wX C iq t f v o]) (As := []) (rest := []) ⟨hx, hb, hml, hown, hts⟩ (c_X2_forgetAll l C iq t f v o ) (cwV 0 hts gX4_set_X2_forgetAll rfl rfl rfl (by decide +kernel) ⟨Nat.le_of_ble_eq_true rfl, Nat.le_of_ble_eq_true rfl⟩) hK hP hD hS hA [9] (by decide) rfl 60 rfl rfl rfl rfl hl.1 rfl (Nat.le_of_ble_eq_true rfl) dX4_set_74 (Nat.zero_le _) (Nat.zero_le _) (fun r w1 H locs hQ hF hS => ?_)
    obtain ⟨rfl, rfl⟩ := hQ
    obtain ⟨hP, hD⟩ := hF [wX C iq t (upN (upN (upN (upN f 0 0) 1 0) 2 0) 3 0) v o] rfl rfl
    have hP : va_P C.1 vwCl (List.flatten [wA C x nw tr hq iq tt sc z, wB C nw (ss b (upN (bs b) kx g)), wHa C hq ba (kR n r) (kC n), wB C (ba 0) (upB ph (kJ n r) b 0), wB C (ba 1) (upB ph (kJ n r) b 1), wB C (ba 2) (upB ph (kJ n r) b 2), wB C (ba 3) (upB ph (kJ n r) b 3), wB C (ba 4) (upB ph (kJ n r) b 4), wB C (ba 5) (upB ph (kJ n r) b 5), wX C iq t (upN (upN (upN (upN f 0 0) 1 0) 2 0) 3 0) v o]) H := hP
    have hD : va_D (q_A (List.flatten [wA C x nw tr hq iq tt sc z, wB C nw b, wHa C hq ba r n, wB C (ba 0) (ph 0), wB C (ba 1) (ph 1), wB C (ba 2) (ph 2), wB C (ba 3) (ph 3), wB C (ba 4) (ph 4), wB C (ba 5) (ph 5), wX C iq t f v o]) s) (List.flatten [wA C x nw tr hq iq tt sc z, wB C nw (ss b (upN (bs b) kx g)), wHa C hq ba (kR n r) (kC n), wB C (ba 0) (upB ph (kJ n r) b 0), wB C (ba 1) (upB ph (kJ n r) b 1), wB C (ba 2) (upB ph (kJ n r) b 2), wB C (ba 3) (upB ph (kJ n r) b 3), wB C (ba 4) (upB ph (kJ n r) b 4), wB C (ba 5) (upB ph (kJ n r) b 5), wX C iq t (upN (upN (upN (upN f 0 0) 1 0) 2 0) 3 0) v o]) := hD
    refine W.eq (g2 := F0 m 77 ls []) rfl ?_
    refine lv_iload_n hx hb dX4_set_77 rfl (lv_at hl 0 rfl) ?_
    exact q_iret hx hb hr hlocks (w1 := List.flatten [wA C x nw tr hq iq tt sc z, wB C nw (ss b (upN (bs b) kx g)), wHa C hq ba (kR n r) (kC n), wB C (ba 0) (upB ph (kJ n r) b 0), wB C (ba 1) (upB ph (kJ n r) b 1), wB C (ba 2) (upB ph (kJ n r) b 2), wB C (ba 3) (upB ph (kJ n r) b 3), wB C (ba 4) (upB ph (kJ n r) b 4), wB C (ba 5) (upB ph (kJ n r) b 5), wX C iq t (upN (upN (upN (upN f 0 0) 1 0) 2 0) 3 0) v o]) hP hS rfl dX4_set_78 (⟨rfl, rfl⟩)
  · have c22 : decide (nI (leS kx) ≤ nI g ∧ nI g ≤ nI (grS kx)) = false := q_b0.mp c22
    exact absurd (c22.symm.trans (inT h1 h2 (by omega))) (by decide)
