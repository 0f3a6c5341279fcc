/-! the model: private methods, the rest -/
set_option maxHeartbeats 4000000 in
set_option maxRecDepth 100000 in
theorem c_X5_fails (l : Launch) (C : q_C) (mo : Nat → Nat) (kp ty tw pl fl tl : Int32) (v o : Nat → Nat) (k0 : Nat) : q_M C l yX5_fails wsX5_fails 0 0 [.ref (mo 0), .int (nI k0)] (wO C mo (evm kp ty tw pl fl tl) v o) (fun r w => r = some (.int (nI 0)) ∧ w = wO C mo (evm kp ty (nI k0) pl fl tl) v o) := by
  refine q_head (cc := cX5_fails) (maxL := 2) (ret := (some .int)) (by decide +kernel) rfl (Nat.le_of_ble_eq_true rfl) ?_
  intro p e s m below meth c hx hb hr hlocks hml hown hts hK hP hD hS hA ls hl
  have hl : lv_has ls 2 [(0, .ref (mo 0)), (1, .int (nI k0))] := hl
  have hf42 := hts (.fieldLink RX5 42 "RestedArmsModel" "thrown" "I") (by decide +kernel)
  have hin5 : ∀ w ∈ u_ws RX5 TX5 13, w ∈ wsX5_fails := by decide +kernel
  refine lv_aload_n hx hb dX5_fails_0 rfl (lv_at hl 0 rfl) ?_
  refine lv_iload_n hx hb dX5_fails_1 rfl (lv_at hl 1 rfl) ?_
  refine va_put (ci := 5) (v := .int (nI k0)) (ty := .int) (C := RX5) (T := TX5) (N := 13) hx hb hts hin5 tyX5 tyX5_ok nmX5 hown hK.1 hP hD hS 0 rfl rfl 6 (by decide) hf42 (fun _ h9 => h9) rfl (by decide +kernel) rfl rfl (Nat.le_of_ble_eq_true rfl) dX5_fails_2 (fun H locs hP hD hS => ?_)
  have hP : va_P C.1 vwCl (wO C mo (evm kp ty (nI k0) pl fl tl) v o) H := hP
  have hD : va_D (q_A (wO C mo (evm kp ty tw pl fl tl) v o) s) (wO C mo (evm kp ty (nI k0) pl fl tl) v o) := hD
  refine lv_iconst (v := nI 0) hx hb dX5_fails_5 (by decide) ?_
  exact q_iret hx hb hr hlocks (w1 := wO C mo (evm kp ty (nI k0) pl fl tl) v o) hP hS rfl dX5_fails_6 (⟨rfl, rfl⟩)
set_option maxHeartbeats 4000000 in
set_option maxRecDepth 100000 in
theorem c_X5_thrown (l : Launch) (C : q_C) (mo : Nat → Nat) (kp ty tw pl fl tl : Int32) (v o : Nat → Nat) : q_M C l yX5_thrown wsX5_thrown 0 0 [.ref (mo 0)] (wO C mo (evm kp ty tw pl fl tl) v o) (fun r w => r = some (.int tw) ∧ w = wO C mo (evm kp ty tw pl fl tl) v o) := by
  refine q_head (cc := cX5_thrown) (maxL := 1) (ret := (some .int)) (by decide +kernel) rfl (Nat.le_of_ble_eq_true rfl) ?_
  intro p e s m below meth c hx hb hr hlocks hml hown hts hK hP hD hS hA ls hl
  have hl : lv_has ls 1 [(0, .ref (mo 0))] := hl
  have hf42 := hts (.fieldLink RX5 42 "RestedArmsModel" "thrown" "I") (by decide +kernel)
  have hin5 : ∀ w ∈ u_ws RX5 TX5 13, w ∈ wsX5_thrown := by decide +kernel
  refine lv_aload_n hx hb dX5_thrown_0 rfl (lv_at hl 0 rfl) ?_
  refine va_get (ci := 5) (v := .int tw) (C := RX5) (T := TX5) (N := 13) hx hb hts hin5 hown hK.1 hP 0 rfl rfl 6 (by decide) hf42 (fun _ h9 => h9) rfl dX5_thrown_1 ?_
  exact q_iret hx hb hr hlocks (w1 := wO C mo (evm kp ty tw pl fl tl) v o) hP hS rfl dX5_thrown_4 (⟨rfl, rfl⟩)
set_option maxHeartbeats 4000000 in
set_option maxRecDepth 100000 in
theorem c_X5_tries (l : Launch) (C : q_C) (mo : Nat → Nat) (kp ty tw pl fl tl : Int32) (v o : Nat → Nat) (b : Bd) (g : Nat → Int64) : q_M C l yX5_tries wsX5_tries 0 0 [.ref (mo 0)] (wO C mo (evm kp ty tw pl fl tl) v o ++ ([(mo 1, .inl (C.2.2.1, 82, .inr (.inl (mB b)))), (mo 2, .inl (C.2.2.1, 82, .inr (.inl g)))] : va_W)) (fun r w => r = none ∧ w = wO C mo (evm kp ty tw pl fl tl) v o ++ ([(mo 1, .inl (C.2.2.1, 82, .inr (.inl (mB b)))), (mo 2, .inl (C.2.2.1, 82, .inr (.inl (mB b))))] : va_W)) := by
  refine q_head (cc := cX5_tries) (maxL := 2) (ret := none) (by decide +kernel) rfl (Nat.le_of_ble_eq_true rfl) ?_
  intro p e s m below meth c hx hb hr hlocks hml hown hts hK hP hD hS hA ls hl
  have hl : lv_has ls 2 [(0, .ref (mo 0))] := hl
  have hf13 := hts (.fieldLink RX5 13 "RestedArmsModel" "then" "[J") (by decide +kernel)
  have hf7 := hts (.fieldLink RX5 7 "RestedArmsModel" "now" "[J") (by decide +kernel)
  have hin5 : ∀ w ∈ u_ws RX5 TX5 13, w ∈ wsX5_tries := by decide +kernel
  refine lv_iconst (v := nI 0) hx hb dX5_tries_0 (by decide) ?_
  refine lv_istore_n (lv' := [(1, .int (nI 0)), (0, .ref (mo 0))]) hx hb dX5_tries_1 rfl hl (by decide) rfl (fun ls hl => ?_)
  have K2 : ∀ (n2 i2 : Nat), ∀ (x2 : Nat → Int64), i2 ≤ 82 → 82 + 1 ≤ i2 + n2 → (∀ j, j < i2 → x2 j = mB b j) → ∀ (H : Heap) (locs : List Loc) (ls : Array Slot), va_P C.1 vwCl (wO C mo (evm kp ty tw pl fl tl) v o ++ ([(mo 1, .inl (C.2.2.1, 82, .inr (.inl (mB b)))), (mo 2, .inl (C.2.2.1, 82, .inr (.inl x2)))] : va_W)) H → va_D (q_A (wO C mo (evm kp ty tw pl fl tl) v o ++ ([(mo 1, .inl (C.2.2.1, 82, .inr (.inl (mB b)))), (mo 2, .inl (C.2.2.1, 82, .inr (.inl g)))] : va_W)) s) (wO C mo (evm kp ty tw pl fl tl) v o ++ ([(mo 1, .inl (C.2.2.1, 82, .inr (.inl (mB b)))), (mo 2, .inl (C.2.2.1, 82, .inr (.inl x2)))] : va_W)) → va_S (q_A (wO C mo (evm kp ty tw pl fl tl) v o ++ ([(mo 1, .inl (C.2.2.1, 82, .inr (.inl (mB b)))), (mo 2, .inl (C.2.2.1, 82, .inr (.inl g)))] : va_W)) s) s.heap H locs → lv_has ls 2 [(1, .int (nI i2)), (0, .ref (mo 0))] → W p l e (q_R 0 0) s m ([.ref (mo 0)] : List Value).toArray below meth c H locs 0 0 (q_G C below (wO C mo (evm kp ty tw pl fl tl) v o ++ ([(mo 1, .inl (C.2.2.1, 82, .inr (.inl (mB b)))), (mo 2, .inl (C.2.2.1, 82, .inr (.inl g)))] : va_W)) (fun r w => r = none ∧ w = wO C mo (evm kp ty tw pl fl tl) v o ++ ([(mo 1, .inl (C.2.2.1, 82, .inr (.inl (mB b)))), (mo 2, .inl (C.2.2.1, 82, .inr (.inl (mB b))))] : va_W)) ([.ref (mo 0)] : List Value).toArray s) (F0 m 2 ls []) := by
    intro n2
    induction n2 with
    | zero => intro i2 x2 q1 q2; exact absurd q2 (by omega)
    | succ n2 ih2 =>
      intro i2 x2 hi2 hn2 hx2 H locs ls hP hD hS hl
      refine lv_iload_n hx hb dX5_tries_2 rfl (lv_at hl 0 rfl) ?_
      refine lv_bipush (v := nI 82) hx hb dX5_tries_3 (by decide) ?_
      refine lv_icmp_ge (tgt := 26) hx hb dX5_tries_5 (by decide) (fun c5 => ?_) (fun c5 => ?_)
      · have c5 : 82 ≤ i2 := q_nge (by omega) (by omega) c5
        have hP := q_swpL (g := mB b) hP 4 rfl (fun j hj => hx2 j (by omega))
        have hD := hD.set (p := 4) (a := mo 2) (e := .inl (C.2.2.1, 82, .inr (.inl (mB b)))) rfl
        have hP : va_P C.1 vwCl (wO C mo (evm kp ty tw pl fl tl) v o ++ ([(mo 1, .inl (C.2.2.1, 82, .inr (.inl (mB b)))), (mo 2, .inl (C.2.2.1, 82, .inr (.inl (mB b))))] : va_W)) H := hP
        have hD : va_D (q_A (wO C mo (evm kp ty tw pl fl tl) v o ++ ([(mo 1, .inl (C.2.2.1, 82, .inr (.inl (mB b)))), (mo 2, .inl (C.2.2.1, 82, .inr (.inl g)))] : va_W)) s) (wO C mo (evm kp ty tw pl fl tl) v o ++ ([(mo 1, .inl (C.2.2.1, 82, .inr (.inl (mB b)))), (mo 2, .inl (C.2.2.1, 82, .inr (.inl (mB b))))] : va_W)) := hD
        exact q_vret hx hb hr hlocks (w1 := wO C mo (evm kp ty tw pl fl tl) v o ++ ([(mo 1, .inl (C.2.2.1, 82, .inr (.inl (mB b)))), (mo 2, .inl (C.2.2.1, 82, .inr (.inl (mB b))))] : va_W)) hP hS rfl dX5_tries_26 (⟨rfl, rfl⟩)
      · have c5 : i2 < 82 := q_nge' (by omega) (by omega) c5
        refine lv_aload_n hx hb dX5_tries_8 rfl (lv_at hl 1 rfl) ?_
        refine va_get (ci := 5) (v := .ref (mo 2)) (C := RX5) (T := TX5) (N := 13) hx hb hts hin5 hown hK.1 hP 0 rfl rfl 1 (by decide) hf13 (fun _ h9 => h9) rfl dX5_tries_9 ?_
        refine lv_iload_n hx hb dX5_tries_12 rfl (lv_at hl 0 rfl) ?_
        refine lv_aload_n hx hb dX5_tries_13 rfl (lv_at hl 1 rfl) ?_
        refine va_get (ci := 5) (v := .ref (mo 1)) (C := RX5) (T := TX5) (N := 13) hx hb hts hin5 hown hK.1 hP 0 rfl rfl 0 (by decide) hf7 (fun _ h9 => h9) rfl dX5_tries_14 ?_
        refine lv_iload_n hx hb dX5_tries_17 rfl (lv_at hl 0 rfl) ?_
        refine q_lald (n := i2) (v := mB b i2) hx hb hK hP 3 rfl (by omega) (by decide) rfl dX5_tries_18 ?_
        refine q_last (n := i2) hx hb hK hP hD hS 4 rfl (by omega) (by decide) dX5_tries_19 (fun H locs hP hD hS => ?_)
        have hP : va_P C.1 vwCl (wO C mo (evm kp ty tw pl fl tl) v o ++ ([(mo 1, .inl (C.2.2.1, 82, .inr (.inl (mB b)))), (mo 2, .inl (C.2.2.1, 82, .inr (.inl (vp_updL x2 i2 (mB b i2)))))] : va_W)) H := hP
        have hD : va_D (q_A (wO C mo (evm kp ty tw pl fl tl) v o ++ ([(mo 1, .inl (C.2.2.1, 82, .inr (.inl (mB b)))), (mo 2, .inl (C.2.2.1, 82, .inr (.inl g)))] : va_W)) s) (wO C mo (evm kp ty tw pl fl tl) v o ++ ([(mo 1, .inl (C.2.2.1, 82, .inr (.inl (mB b)))), (mo 2, .inl (C.2.2.1, 82, .inr (.inl (vp_updL x2 i2 (mB b i2)))))] : va_W)) := hD
        refine lv_iinc (v := nI (i2 + 1)) (lv' := [(1, .int (nI (i2 + 1))), (0, .ref (mo 0))]) hx hb dX5_tries_20 hl (k := 0) rfl (nI_1 _) (by decide) rfl (fun ls hl => ?_)
        refine lv_goto (tgt := 2) hx hb dX5_tries_23 (by decide) ?_
        exact ih2 (i2 + 1) (vp_updL x2 i2 (mB b i2)) (by omega) (by omega) (fun j hj => by
              by_cases q : j = i2
              · subst q; exact pk_uLs
              · rw [pk_uLn q]; exact hx2 j (by omega)) _ _ ls hP hD hS (lv_sub hl [0, 1] rfl)
  exact K2 (82 + 1 - 0) 0 g (by omega) (by omega) (fun j hj => absurd hj (Nat.not_lt_zero _)) _ _ ls hP hD hS (lv_sub hl [0, 1] rfl)
set_option maxHeartbeats 4000000 in
set_option maxRecDepth 100000 in
theorem c_X5_saves (l : Launch) (C : q_C) (mo : Nat → Nat) (ty tw pl fl tl : Int32) (v o : Nat → Nat) (ph : Nat → Bd) (r n : Nat) (pa : Nat → Int64) (b : Bd) (hr6 : r < 6) (hn6 : n ≤ 6) (hpa : mH ph r n pa) : q_M C l yX5_saves wsX5_saves 0 0 [.ref (mo 0)] (wO C mo (evm (nI n) ty tw pl fl tl) v o ++ ([(mo 1, .inl (C.2.2.1, 82, .inr (.inl (mB b)))), (mo 3, .inl (C.2.2.1, 492, .inr (.inl pa)))] : va_W)) (fun r2 w => ∃ pa1, r2 = none ∧ w = wO C mo (evm (nI (kC n)) ty tw pl fl tl) v o ++ ([(mo 1, .inl (C.2.2.1, 82, .inr (.inl (mB b)))), (mo 3, .inl (C.2.2.1, 492, .inr (.inl pa1)))] : va_W) ∧ mH (upB ph (kJ n r) b) (kR n r) (kC n) pa1) := by
  refine q_head (cc := cX5_saves) (maxL := 2) (ret := none) (by decide +kernel) rfl (Nat.le_of_ble_eq_true rfl) ?_
  intro p e s m below meth c hx hb hr hlocks hml hown hts hK hP hD hS hA ls hl
  have hl : lv_has ls 2 [(0, .ref (mo 0))] := hl
  have hf16 := hts (.fieldLink RX5 16 "RestedArmsModel" "past" "[J") (by decide +kernel)
  have hf50 := hts (.fieldLink RX5 50 "RestedArmsModel" "kept" "I") (by decide +kernel)
  have hf7 := hts (.fieldLink RX5 7 "RestedArmsModel" "now" "[J") (by decide +kernel)
  have hin5 : ∀ w ∈ u_ws RX5 TX5 13, w ∈ wsX5_saves := by decide +kernel
  refine lv_aload_n hx hb dX5_saves_0 rfl (lv_at hl 0 rfl) ?_
  refine va_get (ci := 5) (v := .int (nI n)) (C := RX5) (T := TX5) (N := 13) hx hb hts hin5 hown hK.1 hP 0 rfl rfl 3 (by decide) hf50 (fun _ h9 => h9) rfl dX5_saves_1 ?_
  refine lv_bipush (v := nI 6) hx hb dX5_saves_4 (by decide) ?_
  refine lv_icmp_ne (tgt := 49) hx hb dX5_saves_6 (by decide) (fun c6 => ?_) (fun c6 => ?_)
  · have c6 : n ≠ 6 := q_nne (by omega) (by omega) c6
    refine lv_iconst (v := nI 0) hx hb dX5_saves_49 (by decide) ?_
    refine lv_istore_n (lv' := [(1, .int (nI 0)), (0, .ref (mo 0))]) hx hb dX5_saves_50 rfl hl (by decide) rfl (fun ls hl => ?_)
    have K51 : ∀ (n51 i51 : Nat), ∀ (x51 : Nat → Int64), i51 ≤ 82 → 82 + 1 ≤ i51 + n51 → (∀ j, j < i51 → x51 (82 * n + j) = mB b j) → (∀ j, j < 82 * n → x51 j = pa j) → ∀ (H : Heap) (locs : List Loc) (ls : Array Slot), va_P C.1 vwCl (wO C mo (evm (nI n) ty tw pl fl tl) v o ++ ([(mo 1, .inl (C.2.2.1, 82, .inr (.inl (mB b)))), (mo 3, .inl (C.2.2.1, 492, .inr (.inl x51)))] : va_W)) H → va_D (q_A (wO C mo (evm (nI n) ty tw pl fl tl) v o ++ ([(mo 1, .inl (C.2.2.1, 82, .inr (.inl (mB b)))), (mo 3, .inl (C.2.2.1, 492, .inr (.inl pa)))] : va_W)) s) (wO C mo (evm (nI n) ty tw pl fl tl) v o ++ ([(mo 1, .inl (C.2.2.1, 82, .inr (.inl (mB b)))), (mo 3, .inl (C.2.2.1, 492, .inr (.inl x51)))] : va_W)) → va_S (q_A (wO C mo (evm (nI n) ty tw pl fl tl) v o ++ ([(mo 1, .inl (C.2.2.1, 82, .inr (.inl (mB b)))), (mo 3, .inl (C.2.2.1, 492, .inr (.inl pa)))] : va_W)) s) s.heap H locs → lv_has ls 2 [(1, .int (nI i51)), (0, .ref (mo 0))] → W p l e (q_R 0 0) s m ([.ref (mo 0)] : List Value).toArray below meth c H locs 0 0 (q_G C below (wO C mo (evm (nI n) ty tw pl fl tl) v o ++ ([(mo 1, .inl (C.2.2.1, 82, .inr (.inl (mB b)))), (mo 3, .inl (C.2.2.1, 492, .inr (.inl pa)))] : va_W)) (fun r2 w => ∃ pa1, r2 = none ∧ w = wO C mo (evm (nI (kC n)) ty tw pl fl tl) v o ++ ([(mo 1, .inl (C.2.2.1, 82, .inr (.inl (mB b)))), (mo 3, .inl (C.2.2.1, 492, .inr (.inl pa1)))] : va_W) ∧ mH (upB ph (kJ n r) b) (kR n r) (kC n) pa1) ([.ref (mo 0)] : List Value).toArray s) (F0 m 51 ls []) := by
      intro n51
      induction n51 with
      | zero => intro i51 x51 q1 q2; exact absurd q2 (by omega)
      | succ n51 ih51 =>
        intro i51 x51 hi51 hn51 hx51 hy51 H locs ls hP hD hS hl
        refine lv_iload_n hx hb dX5_saves_51 rfl (lv_at hl 0 rfl) ?_
        refine lv_bipush (v := nI 82) hx hb dX5_saves_52 (by decide) ?_
        refine lv_icmp_ge (tgt := 83) hx hb dX5_saves_54 (by decide) (fun c54 => ?_) (fun c54 => ?_)
        · have c54 : 82 ≤ i51 := q_nge (by omega) (by omega) c54
          refine lv_aload_n hx hb dX5_saves_83 rfl (lv_at hl 1 rfl) ?_
          refine lv_dup hx hb dX5_saves_84 rfl ?_
          refine va_get (ci := 5) (v := .int (nI n)) (C := RX5) (T := TX5) (N := 13) hx hb hts hin5 hown hK.1 hP 0 rfl rfl 3 (by decide) hf50 (fun _ h9 => h9) rfl dX5_saves_85 ?_
          refine lv_iconst (v := nI 1) hx hb dX5_saves_88 (by decide) ?_
          refine lv_iadd hx hb dX5_saves_89 ?_
          refine q_ti (y := nI (n + 1)) (nI_add _ _) ?_
          refine va_put (ci := 5) (v := .int (nI (n + 1))) (ty := .int) (C := RX5) (T := TX5) (N := 13) hx hb hts hin5 tyX5 tyX5_ok nmX5 hown hK.1 hP hD hS 0 rfl rfl 3 (by decide) hf50 (fun _ h9 => h9) rfl (by decide +kernel) rfl rfl (Nat.le_of_ble_eq_true rfl) dX5_saves_90 (fun H locs hP hD hS => ?_)
          have hP : va_P C.1 vwCl (wO C mo (evm (nI (n + 1)) ty tw pl fl tl) v o ++ ([(mo 1, .inl (C.2.2.1, 82, .inr (.inl (mB b)))), (mo 3, .inl (C.2.2.1, 492, .inr (.inl x51)))] : va_W)) H := hP
          have hD : va_D (q_A (wO C mo (evm (nI n) ty tw pl fl tl) v o ++ ([(mo 1, .inl (C.2.2.1, 82, .inr (.inl (mB b)))), (mo 3, .inl (C.2.2.1, 492, .inr (.inl pa)))] : va_W)) s) (wO C mo (evm (nI (n + 1)) ty tw pl fl tl) v o ++ ([(mo 1, .inl (C.2.2.1, 82, .inr (.inl (mB b)))), (mo 3, .inl (C.2.2.1, 492, .inr (.inl x51)))] : va_W)) := hD
          exact q_vret hx hb hr hlocks (w1 := wO C mo (evm (nI (n + 1)) ty tw pl fl tl) v o ++ ([(mo 1, .inl (C.2.2.1, 82, .inr (.inl (mB b)))), (mo 3, .inl (C.2.2.1, 492, .inr (.inl x51)))] : va_W)) hP hS rfl dX5_saves_93 (⟨_, rfl, congrArg (fun z => wO C mo (evm (nI z) ty tw pl fl tl) v o ++ ([(mo 1, .inl (C.2.2.1, 82, .inr (.inl (mB b)))), (mo 3, .inl (C.2.2.1, 492, .inr (.inl x51)))] : va_W)) (show n + 1 = kC n from by rw [kC, if_pos (by omega)]), mH_save hr6 hn6 hpa (fun _ => hy51) (fun q => absurd q c6) (fun k hk => by rw [kC, if_pos (show n < 6 by omega), show n + 1 - 1 = n by omega]; exact hx51 k (by omega))⟩)
        · have c54 : i51 < 82 := q_nge' (by omega) (by omega) c54
          refine lv_aload_n hx hb dX5_saves_57 rfl (lv_at hl 1 rfl) ?_
          refine va_get (ci := 5) (v := .ref (mo 3)) (C := RX5) (T := TX5) (N := 13) hx hb hts hin5 hown hK.1 hP 0 rfl rfl 2 (by decide) hf16 (fun _ h9 => h9) rfl dX5_saves_58 ?_
          refine lv_bipush (v := nI 82) hx hb dX5_saves_61 (by decide) ?_
          refine lv_aload_n hx hb dX5_saves_63 rfl (lv_at hl 1 rfl) ?_
          refine va_get (ci := 5) (v := .int (nI n)) (C := RX5) (T := TX5) (N := 13) hx hb hts hin5 hown hK.1 hP 0 rfl rfl 3 (by decide) hf50 (fun _ h9 => h9) rfl dX5_saves_64 ?_
          refine lv_imul hx hb dX5_saves_67 ?_
          refine q_ti (y := nI (82 * n)) (pk_mul _ _) ?_
          refine lv_iload_n hx hb dX5_saves_68 rfl (lv_at hl 0 rfl) ?_
          refine lv_iadd hx hb dX5_saves_69 ?_
          refine q_ti (y := nI ((82 * n) + i51)) (nI_add _ _) ?_
          refine lv_aload_n hx hb dX5_saves_70 rfl (lv_at hl 1 rfl) ?_
          refine va_get (ci := 5) (v := .ref (mo 1)) (C := RX5) (T := TX5) (N := 13) hx hb hts hin5 hown hK.1 hP 0 rfl rfl 0 (by decide) hf7 (fun _ h9 => h9) rfl dX5_saves_71 ?_
          refine lv_iload_n hx hb dX5_saves_74 rfl (lv_at hl 0 rfl) ?_
          refine q_lald (n := i51) (v := mB b i51) hx hb hK hP 3 rfl (by omega) (by decide) rfl dX5_saves_75 ?_
          refine q_last (n := ((82 * n) + i51)) hx hb hK hP hD hS 4 rfl (by omega) (by decide) dX5_saves_76 (fun H locs hP hD hS => ?_)
          have hP : va_P C.1 vwCl (wO C mo (evm (nI n) ty tw pl fl tl) v o ++ ([(mo 1, .inl (C.2.2.1, 82, .inr (.inl (mB b)))), (mo 3, .inl (C.2.2.1, 492, .inr (.inl (vp_updL x51 ((82 * n) + i51) (mB b i51)))))] : va_W)) H := hP
          have hD : va_D (q_A (wO C mo (evm (nI n) ty tw pl fl tl) v o ++ ([(mo 1, .inl (C.2.2.1, 82, .inr (.inl (mB b)))), (mo 3, .inl (C.2.2.1, 492, .inr (.inl pa)))] : va_W)) s) (wO C mo (evm (nI n) ty tw pl fl tl) v o ++ ([(mo 1, .inl (C.2.2.1, 82, .inr (.inl (mB b)))), (mo 3, .inl (C.2.2.1, 492, .inr (.inl (vp_updL x51 ((82 * n) + i51) (mB b i51)))))] : va_W)) := hD
          refine lv_iinc (v := nI (i51 + 1)) (lv' := [(1, .int (nI (i51 + 1))), (0, .ref (mo 0))]) hx hb dX5_saves_77 hl (k := 0) rfl (nI_1 _) (by decide) rfl (fun ls hl => ?_)
          refine lv_goto (tgt := 51) hx hb dX5_saves_80 (by decide) ?_
          exact ih51 (i51 + 1) (vp_updL x51 (82 * n + i51) (mB b i51)) (by omega) (by omega) (fun j hj => by
                by_cases q : j = i51
                · subst q; exact pk_uLs
                · rw [pk_uLn (by omega)]; exact hx51 j (by omega)) (fun j hj => by rw [pk_uLn (by omega)]; exact hy51 j hj) _ _ ls hP hD hS (lv_sub hl [0, 1] rfl)
    exact K51 (82 + 1 - 0) 0 pa (by omega) (by omega) (fun j hj => absurd hj (Nat.not_lt_zero _)) (fun _ _ => rfl) _ _ ls hP hD hS (lv_sub hl [0, 1] rfl)
  · have c6 : n = 6 := q_nne' (by omega) (by omega) c6
    refine lv_iconst (v := nI 0) hx hb dX5_saves_9 (by decide) ?_
    refine lv_istore_n (lv' := [(1, .int (nI 0)), (0, .ref (mo 0))]) hx hb dX5_saves_10 rfl hl (by decide) rfl (fun ls hl => ?_)
    have K11 : ∀ (n11 i11 : Nat), ∀ (x11 : Nat → Int64), i11 ≤ 410 → 410 + 1 ≤ i11 + n11 → (∀ j, j < i11 → x11 j = pa (j + 82)) → (∀ j, i11 ≤ j → x11 j = pa j) → ∀ (H : Heap) (locs : List Loc) (ls : Array Slot), va_P C.1 vwCl (wO C mo (evm (nI n) ty tw pl fl tl) v o ++ ([(mo 1, .inl (C.2.2.1, 82, .inr (.inl (mB b)))), (mo 3, .inl (C.2.2.1, 492, .inr (.inl x11)))] : va_W)) H → va_D (q_A (wO C mo (evm (nI n) ty tw pl fl tl) v o ++ ([(mo 1, .inl (C.2.2.1, 82, .inr (.inl (mB b)))), (mo 3, .inl (C.2.2.1, 492, .inr (.inl pa)))] : va_W)) s) (wO C mo (evm (nI n) ty tw pl fl tl) v o ++ ([(mo 1, .inl (C.2.2.1, 82, .inr (.inl (mB b)))), (mo 3, .inl (C.2.2.1, 492, .inr (.inl x11)))] : va_W)) → va_S (q_A (wO C mo (evm (nI n) ty tw pl fl tl) v o ++ ([(mo 1, .inl (C.2.2.1, 82, .inr (.inl (mB b)))), (mo 3, .inl (C.2.2.1, 492, .inr (.inl pa)))] : va_W)) s) s.heap H locs → lv_has ls 2 [(1, .int (nI i11)), (0, .ref (mo 0))] → W p l e (q_R 0 0) s m ([.ref (mo 0)] : List Value).toArray below meth c H locs 0 0 (q_G C below (wO C mo (evm (nI n) ty tw pl fl tl) v o ++ ([(mo 1, .inl (C.2.2.1, 82, .inr (.inl (mB b)))), (mo 3, .inl (C.2.2.1, 492, .inr (.inl pa)))] : va_W)) (fun r2 w => ∃ pa1, r2 = none ∧ w = wO C mo (evm (nI (kC n)) ty tw pl fl tl) v o ++ ([(mo 1, .inl (C.2.2.1, 82, .inr (.inl (mB b)))), (mo 3, .inl (C.2.2.1, 492, .inr (.inl pa1)))] : va_W) ∧ mH (upB ph (kJ n r) b) (kR n r) (kC n) pa1) ([.ref (mo 0)] : List Value).toArray s) (F0 m 11 ls []) := by
      intro n11
      induction n11 with
      | zero => intro i11 x11 q1 q2; exact absurd q2 (by omega)
      | succ n11 ih11 =>
        intro i11 x11 hi11 hn11 hx11 hy11 H locs ls hP hD hS hl
        refine lv_iload_n hx hb dX5_saves_11 rfl (lv_at hl 0 rfl) ?_
        refine lv_sipush (v := nI 410) hx hb dX5_saves_12 (by decide) ?_
        refine lv_icmp_ge (tgt := 39) hx hb dX5_saves_15 (by decide) (fun c15 => ?_) (fun c15 => ?_)
        · have c15 : 410 ≤ i11 := q_nge (by omega) (by omega) c15
          refine lv_aload_n hx hb dX5_saves_39 rfl (lv_at hl 1 rfl) ?_
          refine lv_dup hx hb dX5_saves_40 rfl ?_
          refine va_get (ci := 5) (v := .int (nI n)) (C := RX5) (T := TX5) (N := 13) hx hb hts hin5 hown hK.1 hP 0 rfl rfl 3 (by decide) hf50 (fun _ h9 => h9) rfl dX5_saves_41 ?_
          refine lv_iconst (v := nI 1) hx hb dX5_saves_44 (by decide) ?_
          refine lv_isub hx hb dX5_saves_45 ?_
          refine q_ti (y := nI (n - 1)) (pk_sub (by omega)) ?_
          refine q_ti (y := nI 5) (congrArg nI (by omega)) ?_
          refine va_put (ci := 5) (v := .int (nI 5)) (ty := .int) (C := RX5) (T := TX5) (N := 13) hx hb hts hin5 tyX5 tyX5_ok nmX5 hown hK.1 hP hD hS 0 rfl rfl 3 (by decide) hf50 (fun _ h9 => h9) rfl (by decide +kernel) rfl rfl (Nat.le_of_ble_eq_true rfl) dX5_saves_46 (fun H locs hP hD hS => ?_)
          have hP : va_P C.1 vwCl (wO C mo (evm (nI 5) ty tw pl fl tl) v o ++ ([(mo 1, .inl (C.2.2.1, 82, .inr (.inl (mB b)))), (mo 3, .inl (C.2.2.1, 492, .inr (.inl x11)))] : va_W)) H := hP
          have hD : va_D (q_A (wO C mo (evm (nI n) ty tw pl fl tl) v o ++ ([(mo 1, .inl (C.2.2.1, 82, .inr (.inl (mB b)))), (mo 3, .inl (C.2.2.1, 492, .inr (.inl pa)))] : va_W)) s) (wO C mo (evm (nI 5) ty tw pl fl tl) v o ++ ([(mo 1, .inl (C.2.2.1, 82, .inr (.inl (mB b)))), (mo 3, .inl (C.2.2.1, 492, .inr (.inl x11)))] : va_W)) := hD
          refine lv_iconst (v := nI 0) hx hb dX5_saves_49 (by decide) ?_
          refine lv_istore_n (lv' := [(1, .int (nI 0)), (0, .ref (mo 0))]) hx hb dX5_saves_50 rfl hl (by decide) rfl (fun ls hl => ?_)
          have K51 : ∀ (n51 i51 : Nat), ∀ (x51 : Nat → Int64), i51 ≤ 82 → 82 + 1 ≤ i51 + n51 → (∀ j, j < i51 → x51 (82 * 5 + j) = mB b j) → (∀ j, j < 82 * 5 → x51 j = x11 j) → ∀ (H : Heap) (locs : List Loc) (ls : Array Slot), va_P C.1 vwCl (wO C mo (evm (nI 5) ty tw pl fl tl) v o ++ ([(mo 1, .inl (C.2.2.1, 82, .inr (.inl (mB b)))), (mo 3, .inl (C.2.2.1, 492, .inr (.inl x51)))] : va_W)) H → va_D (q_A (wO C mo (evm (nI n) ty tw pl fl tl) v o ++ ([(mo 1, .inl (C.2.2.1, 82, .inr (.inl (mB b)))), (mo 3, .inl (C.2.2.1, 492, .inr (.inl pa)))] : va_W)) s) (wO C mo (evm (nI 5) ty tw pl fl tl) v o ++ ([(mo 1, .inl (C.2.2.1, 82, .inr (.inl (mB b)))), (mo 3, .inl (C.2.2.1, 492, .inr (.inl x51)))] : va_W)) → va_S (q_A (wO C mo (evm (nI n) ty tw pl fl tl) v o ++ ([(mo 1, .inl (C.2.2.1, 82, .inr (.inl (mB b)))), (mo 3, .inl (C.2.2.1, 492, .inr (.inl pa)))] : va_W)) s) s.heap H locs → lv_has ls 2 [(1, .int (nI i51)), (0, .ref (mo 0))] → W p l e (q_R 0 0) s m ([.ref (mo 0)] : List Value).toArray below meth c H locs 0 0 (q_G C below (wO C mo (evm (nI n) ty tw pl fl tl) v o ++ ([(mo 1, .inl (C.2.2.1, 82, .inr (.inl (mB b)))), (mo 3, .inl (C.2.2.1, 492, .inr (.inl pa)))] : va_W)) (fun r2 w => ∃ pa1, r2 = none ∧ w = wO C mo (evm (nI (kC n)) ty tw pl fl tl) v o ++ ([(mo 1, .inl (C.2.2.1, 82, .inr (.inl (mB b)))), (mo 3, .inl (C.2.2.1, 492, .inr (.inl pa1)))] : va_W) ∧ mH (upB ph (kJ n r) b) (kR n r) (kC n) pa1) ([.ref (mo 0)] : List Value).toArray s) (F0 m 51 ls []) := by
            intro n51
            induction n51 with
            | zero => intro i51 x51 q1 q2; exact absurd q2 (by omega)
            | succ n51 ih51 =>
              intro i51 x51 hi51 hn51 hx51 hy51 H locs ls hP hD hS hl
              refine lv_iload_n hx hb dX5_saves_51 rfl (lv_at hl 0 rfl) ?_
              refine lv_bipush (v := nI 82) hx hb dX5_saves_52 (by decide) ?_
              refine lv_icmp_ge (tgt := 83) hx hb dX5_saves_54 (by decide) (fun c54 => ?_) (fun c54 => ?_)
              · have c54 : 82 ≤ i51 := q_nge (by omega) (by omega) c54
                refine lv_aload_n hx hb dX5_saves_83 rfl (lv_at hl 1 rfl) ?_
                refine lv_dup hx hb dX5_saves_84 rfl ?_
                refine va_get (ci := 5) (v := .int (nI 5)) (C := RX5) (T := TX5) (N := 13) hx hb hts hin5 hown hK.1 hP 0 rfl rfl 3 (by decide) hf50 (fun _ h9 => h9) rfl dX5_saves_85 ?_
                refine lv_iconst (v := nI 1) hx hb dX5_saves_88 (by decide) ?_
                refine lv_iadd hx hb dX5_saves_89 ?_
                refine q_ti (y := nI 6) (by decide) ?_
                refine va_put (ci := 5) (v := .int (nI 6)) (ty := .int) (C := RX5) (T := TX5) (N := 13) hx hb hts hin5 tyX5 tyX5_ok nmX5 hown hK.1 hP hD hS 0 rfl rfl 3 (by decide) hf50 (fun _ h9 => h9) rfl (by decide +kernel) rfl rfl (Nat.le_of_ble_eq_true rfl) dX5_saves_90 (fun H locs hP hD hS => ?_)
                have hP : va_P C.1 vwCl (wO C mo (evm (nI 6) ty tw pl fl tl) v o ++ ([(mo 1, .inl (C.2.2.1, 82, .inr (.inl (mB b)))), (mo 3, .inl (C.2.2.1, 492, .inr (.inl x51)))] : va_W)) H := hP
                have hD : va_D (q_A (wO C mo (evm (nI n) ty tw pl fl tl) v o ++ ([(mo 1, .inl (C.2.2.1, 82, .inr (.inl (mB b)))), (mo 3, .inl (C.2.2.1, 492, .inr (.inl pa)))] : va_W)) s) (wO C mo (evm (nI 6) ty tw pl fl tl) v o ++ ([(mo 1, .inl (C.2.2.1, 82, .inr (.inl (mB b)))), (mo 3, .inl (C.2.2.1, 492, .inr (.inl x51)))] : va_W)) := hD
                exact q_vret hx hb hr hlocks (w1 := wO C mo (evm (nI 6) ty tw pl fl tl) v o ++ ([(mo 1, .inl (C.2.2.1, 82, .inr (.inl (mB b)))), (mo 3, .inl (C.2.2.1, 492, .inr (.inl x51)))] : va_W)) hP hS rfl dX5_saves_93 (⟨_, rfl, congrArg (fun z => wO C mo (evm (nI z) ty tw pl fl tl) v o ++ ([(mo 1, .inl (C.2.2.1, 82, .inr (.inl (mB b)))), (mo 3, .inl (C.2.2.1, 492, .inr (.inl x51)))] : va_W)) (show 6 = kC n from by rw [kC, if_neg (by omega)]), mH_save hr6 hn6 hpa (fun q => absurd q (by omega)) (fun _ k hk => (hy51 k hk).trans (hx11 k (by omega))) (fun k hk => by rw [kC, if_neg (show ¬ n < 6 by omega)]; exact hx51 k (by omega))⟩)
              · have c54 : i51 < 82 := q_nge' (by omega) (by omega) c54
                refine lv_aload_n hx hb dX5_saves_57 rfl (lv_at hl 1 rfl) ?_
                refine va_get (ci := 5) (v := .ref (mo 3)) (C := RX5) (T := TX5) (N := 13) hx hb hts hin5 hown hK.1 hP 0 rfl rfl 2 (by decide) hf16 (fun _ h9 => h9) rfl dX5_saves_58 ?_
                refine lv_bipush (v := nI 82) hx hb dX5_saves_61 (by decide) ?_
                refine lv_aload_n hx hb dX5_saves_63 rfl (lv_at hl 1 rfl) ?_
                refine va_get (ci := 5) (v := .int (nI 5)) (C := RX5) (T := TX5) (N := 13) hx hb hts hin5 hown hK.1 hP 0 rfl rfl 3 (by decide) hf50 (fun _ h9 => h9) rfl dX5_saves_64 ?_
                refine lv_imul hx hb dX5_saves_67 ?_
                refine q_ti (y := nI 410) (by decide) ?_
                refine lv_iload_n hx hb dX5_saves_68 rfl (lv_at hl 0 rfl) ?_
                refine lv_iadd hx hb dX5_saves_69 ?_
                refine q_ti (y := nI (410 + i51)) (nI_add _ _) ?_
                refine lv_aload_n hx hb dX5_saves_70 rfl (lv_at hl 1 rfl) ?_
                refine va_get (ci := 5) (v := .ref (mo 1)) (C := RX5) (T := TX5) (N := 13) hx hb hts hin5 hown hK.1 hP 0 rfl rfl 0 (by decide) hf7 (fun _ h9 => h9) rfl dX5_saves_71 ?_
                refine lv_iload_n hx hb dX5_saves_74 rfl (lv_at hl 0 rfl) ?_
                refine q_lald (n := i51) (v := mB b i51) hx hb hK hP 3 rfl (by omega) (by decide) rfl dX5_saves_75 ?_
                refine q_last (n := (410 + i51)) hx hb hK hP hD hS 4 rfl (by omega) (by decide) dX5_saves_76 (fun H locs hP hD hS => ?_)
                have hP : va_P C.1 vwCl (wO C mo (evm (nI 5) ty tw pl fl tl) v o ++ ([(mo 1, .inl (C.2.2.1, 82, .inr (.inl (mB b)))), (mo 3, .inl (C.2.2.1, 492, .inr (.inl (vp_updL x51 (410 + i51) (mB b i51)))))] : va_W)) H := hP
                have hD : va_D (q_A (wO C mo (evm (nI n) ty tw pl fl tl) v o ++ ([(mo 1, .inl (C.2.2.1, 82, .inr (.inl (mB b)))), (mo 3, .inl (C.2.2.1, 492, .inr (.inl pa)))] : va_W)) s) (wO C mo (evm (nI 5) ty tw pl fl tl) v o ++ ([(mo 1, .inl (C.2.2.1, 82, .inr (.inl (mB b)))), (mo 3, .inl (C.2.2.1, 492, .inr (.inl (vp_updL x51 (410 + i51) (mB b i51)))))] : va_W)) := hD
                refine lv_iinc (v := nI (i51 + 1)) (lv' := [(1, .int (nI (i51 + 1))), (0, .ref (mo 0))]) hx hb dX5_saves_77 hl (k := 0) rfl (nI_1 _) (by decide) rfl (fun ls hl => ?_)
                refine lv_goto (tgt := 51) hx hb dX5_saves_80 (by decide) ?_
                exact ih51 (i51 + 1) (vp_updL x51 (82 * 5 + i51) (mB b i51)) (by omega) (by omega) (fun j hj => by
                      by_cases q : j = i51
                      · subst q; exact pk_uLs
                      · rw [pk_uLn (by omega)]; exact hx51 j (by omega)) (fun j hj => by rw [pk_uLn (by omega)]; exact hy51 j hj) _ _ ls hP hD hS (lv_sub hl [0, 1] rfl)
          exact K51 (82 + 1 - 0) 0 x11 (by omega) (by omega) (fun j hj => absurd hj (Nat.not_lt_zero _)) (fun _ _ => rfl) _ _ ls hP hD hS (lv_sub hl [0, 1] rfl)
        · have c15 : i11 < 410 := q_nge' (by omega) (by omega) c15
          refine lv_aload_n hx hb dX5_saves_18 rfl (lv_at hl 1 rfl) ?_
          refine va_get (ci := 5) (v := .ref (mo 3)) (C := RX5) (T := TX5) (N := 13) hx hb hts hin5 hown hK.1 hP 0 rfl rfl 2 (by decide) hf16 (fun _ h9 => h9) rfl dX5_saves_19 ?_
          refine lv_iload_n hx hb dX5_saves_22 rfl (lv_at hl 0 rfl) ?_
          refine lv_aload_n hx hb dX5_saves_23 rfl (lv_at hl 1 rfl) ?_
          refine va_get (ci := 5) (v := .ref (mo 3)) (C := RX5) (T := TX5) (N := 13) hx hb hts hin5 hown hK.1 hP 0 rfl rfl 2 (by decide) hf16 (fun _ h9 => h9) rfl dX5_saves_24 ?_
          refine lv_iload_n hx hb dX5_saves_27 rfl (lv_at hl 0 rfl) ?_
          refine lv_bipush (v := nI 82) hx hb dX5_saves_28 (by decide) ?_
          refine lv_iadd hx hb dX5_saves_30 ?_
          refine q_ti (y := nI (i11 + 82)) (nI_add _ _) ?_
          refine q_lald (n := (i11 + 82)) (v := x11 (i11 + 82)) hx hb hK hP 4 rfl (by omega) (by decide) rfl dX5_saves_31 ?_
          refine q_last (n := i11) hx hb hK hP hD hS 4 rfl (by omega) (by decide) dX5_saves_32 (fun H locs hP hD hS => ?_)
          have hP : va_P C.1 vwCl (wO C mo (evm (nI n) ty tw pl fl tl) v o ++ ([(mo 1, .inl (C.2.2.1, 82, .inr (.inl (mB b)))), (mo 3, .inl (C.2.2.1, 492, .inr (.inl (vp_updL x11 i11 (x11 (i11 + 82))))))] : va_W)) H := hP
          have hD : va_D (q_A (wO C mo (evm (nI n) ty tw pl fl tl) v o ++ ([(mo 1, .inl (C.2.2.1, 82, .inr (.inl (mB b)))), (mo 3, .inl (C.2.2.1, 492, .inr (.inl pa)))] : va_W)) s) (wO C mo (evm (nI n) ty tw pl fl tl) v o ++ ([(mo 1, .inl (C.2.2.1, 82, .inr (.inl (mB b)))), (mo 3, .inl (C.2.2.1, 492, .inr (.inl (vp_updL x11 i11 (x11 (i11 + 82))))))] : va_W)) := hD
          refine lv_iinc (v := nI (i11 + 1)) (lv' := [(1, .int (nI (i11 + 1))), (0, .ref (mo 0))]) hx hb dX5_saves_33 hl (k := 0) rfl (nI_1 _) (by decide) rfl (fun ls hl => ?_)
          refine lv_goto (tgt := 11) hx hb dX5_saves_36 (by decide) ?_
          exact ih11 (i11 + 1) (vp_updL x11 i11 (x11 (i11 + 82))) (by omega) (by omega) (fun j hj => by
                by_cases q : j = i11
                · subst q; rw [pk_uLs]; exact hy11 _ (by omega)
                · rw [pk_uLn q]; exact hx11 j (by omega)) (fun j hj => by rw [pk_uLn (by omega)]; exact hy11 j (by omega)) _ _ ls hP hD hS (lv_sub hl [0, 1] rfl)
    exact K11 (410 + 1 - 0) 0 pa (by omega) (by omega) (fun j hj => absurd hj (Nat.not_lt_zero _)) (fun _ _ => rfl) _ _ ls hP hD hS (lv_sub hl [0, 1] rfl)
set_option maxHeartbeats 4000000 in
set_option maxRecDepth 100000 in
theorem c_X5_changes (l : Launch) (C : q_C) (mo : Nat → Nat) (kp ty tw pl fl tl : Int32) (v o : Nat → Nat) (g : Nat → Int64) (k n : Nat) (hk : k < 82) (hn : n < 2 ^ 31) : q_M C l yX5_changes wsX5_changes 0 0 [.ref (mo 0), .int (nI k), .int (nI n)] (wO C mo (evm kp ty tw pl fl tl) v o ++ ([(mo 1, .inl (C.2.2.1, 82, .inr (.inl g)))] : va_W)) (fun r w => r = some (.int (g k).toInt32) ∧ w = wO C mo (evm kp ty tw pl fl tl) v o ++ ([(mo 1, .inl (C.2.2.1, 82, .inr (.inl (vp_updL g k (lN n)))))] : va_W)) := by
  refine q_head (cc := cX5_changes) (maxL := 4) (ret := (some .int)) (by decide +kernel) rfl (Nat.le_of_ble_eq_true rfl) ?_
  intro p e s m below meth c hx hb hr hlocks hml hown hts hK hP hD hS hA ls hl
  have hl : lv_has ls 4 [(0, .ref (mo 0)), (1, .int (nI k)), (2, .int (nI n))] := hl
  have hf7 := hts (.fieldLink RX5 7 "RestedArmsModel" "now" "[J") (by decide +kernel)
  have hin5 : ∀ w ∈ u_ws RX5 TX5 13, w ∈ wsX5_changes := by decide +kernel
  refine lv_aload_n hx hb dX5_changes_0 rfl (lv_at hl 0 rfl) ?_
  refine va_get (ci := 5) (v := .ref (mo 1)) (C := RX5) (T := TX5) (N := 13) hx hb hts hin5 hown hK.1 hP 0 rfl rfl 0 (by decide) hf7 (fun _ h9 => h9) rfl dX5_changes_1 ?_
  refine lv_iload_n hx hb dX5_changes_4 rfl (lv_at hl 1 rfl) ?_
  refine q_lald (n := k) (v := g k) hx hb hK hP 3 rfl (by omega) (by decide) rfl dX5_changes_5 ?_
  refine lv_l2i (v := (g k).toInt32) hx hb dX5_changes_6 rfl ?_
  refine lv_istore_n (lv' := [(3, .int ((g k).toInt32)), (0, .ref (mo 0)), (1, .int (nI k)), (2, .int (nI n))]) hx hb dX5_changes_7 rfl hl (by decide) rfl (fun ls hl => ?_)
  refine lv_aload_n hx hb dX5_changes_8 rfl (lv_at hl 1 rfl) ?_
  refine va_get (ci := 5) (v := .ref (mo 1)) (C := RX5) (T := TX5) (N := 13) hx hb hts hin5 hown hK.1 hP 0 rfl rfl 0 (by decide) hf7 (fun _ h9 => h9) rfl dX5_changes_9 ?_
  refine lv_iload_n hx hb dX5_changes_12 rfl (lv_at hl 2 rfl) ?_
  refine lv_iload_n hx hb dX5_changes_13 rfl (lv_at hl 3 rfl) ?_
  refine lv_i2l (v := lN n) hx hb dX5_changes_14 (nI_l (by omega)) ?_
  refine q_last (n := k) hx hb hK hP hD hS 3 rfl (by omega) (by decide) dX5_changes_15 (fun H locs hP hD hS => ?_)
  have hP : va_P C.1 vwCl (wO C mo (evm kp ty tw pl fl tl) v o ++ ([(mo 1, .inl (C.2.2.1, 82, .inr (.inl (vp_updL g k (lN n)))))] : va_W)) H := hP
  have hD : va_D (q_A (wO C mo (evm kp ty tw pl fl tl) v o ++ ([(mo 1, .inl (C.2.2.1, 82, .inr (.inl g)))] : va_W)) s) (wO C mo (evm kp ty tw pl fl tl) v o ++ ([(mo 1, .inl (C.2.2.1, 82, .inr (.inl (vp_updL g k (lN n)))))] : va_W)) := hD
  refine lv_iload_n hx hb dX5_changes_16 rfl (lv_at hl 0 rfl) ?_
  exact q_iret hx hb hr hlocks (w1 := wO C mo (evm kp ty tw pl fl tl) v o ++ ([(mo 1, .inl (C.2.2.1, 82, .inr (.inl (vp_updL g k (lN n)))))] : va_W)) hP hS rfl dX5_changes_17 (⟨rfl, rfl⟩)
set_option maxHeartbeats 4000000 in
set_option maxRecDepth 100000 in
theorem c_X5_ways (l : Launch) (C : q_C) (mo : Nat → Nat) (kp ty tw pl fl tl : Int32) (v o : Nat → Nat) (b : Bd) (a t x1 x2 x3 : Nat) (ha : a < 4) (ht : t < 4) (h1 : x1 < 2 ^ 31) (h2 : x2 < 2 ^ 31) (h3 : x3 < 2 ^ 31) : q_M C l yX5_ways wsX5_ways 1 23 [.ref (mo 0), .int (nI a), .int (nI t), .int (nI x1), .int (nI x2), .int (nI x3)] (wO C mo (evm kp ty tw pl fl tl) v o ++ ([(mo 1, .inl (C.2.2.1, 82, .inr (.inl (mB b))))] : va_W)) (fun r w => r = some (.int (nI (100 * bo b (4 * a + t) + 10 * bb b (4 * a + t) + bc b (4 * a + t)))) ∧ w = wO C mo (evm kp ty tw pl fl tl) v o ++ ([(mo 1, .inl (C.2.2.1, 82, .inr (.inl (mB (sc (sb (so b (upN (bo b) (4 * a + t) x1)) (upN (bb b) (4 * a + t) x2)) (upN (bc b) (4 * a + t) x3))))))] : va_W)) := by
  refine q_head (cc := cX5_ways) (maxL := 7) (ret := (some .int)) (by decide +kernel) rfl (Nat.le_of_ble_eq_true rfl) ?_
  intro p e s m below meth c hx hb hr hlocks hml hown hts hK hP hD hS hA ls hl
  have hl : lv_has ls 7 [(0, .ref (mo 0)), (1, .int (nI a)), (2, .int (nI t)), (3, .int (nI x1)), (4, .int (nI x2)), (5, .int (nI x3))] := hl
  refine lv_bipush (v := nI 18) hx hb dX5_ways_0 (by decide) ?_
  refine lv_iconst (v := nI 4) hx hb dX5_ways_2 (by decide) ?_
  refine lv_iconst (v := nI 4) hx hb dX5_ways_3 (by decide) ?_
  refine lv_iload_n hx hb dX5_ways_4 rfl (lv_at hl 1 rfl) ?_
  refine lv_imul hx hb dX5_ways_5 ?_
  refine q_ti (y := nI (4 * a)) (pk_mul _ _) ?_
  refine lv_iload_n hx hb dX5_ways_6 rfl (lv_at hl 2 rfl) ?_
  refine lv_iadd hx hb dX5_ways_7 ?_
  refine q_ti (y := nI ((4 * a) + t)) (nI_add _ _) ?_
  refine lv_imul hx hb dX5_ways_8 ?_
  refine q_ti (y := nI (4 * ((4 * a) + t))) (pk_mul _ _) ?_
  refine lv_iadd hx hb dX5_ways_9 ?_
  refine q_ti (y := nI (18 + (4 * ((4 * a) + t)))) (nI_add _ _) ?_
  refine lv_istore (lv' := [(6, .int (nI (18 + (4 * ((4 * a) + t))))), (0, .ref (mo 0)), (1, .int (nI a)), (2, .int (nI t)), (3, .int (nI x1)), (4, .int (nI x2)), (5, .int (nI x3))]) hx hb dX5_ways_10 hl (by decide) rfl (fun ls hl => ?_)
  refine lv_bipush (v := nI 100) hx hb dX5_ways_12 (by decide) ?_
  refine lv_aload_n hx hb dX5_ways_14 rfl (lv_at hl 1 rfl) ?_
  refine lv_iload hx hb dX5_ways_15 (lv_at hl 0 rfl) ?_
  refine lv_iconst (v := nI 1) hx hb dX5_ways_17 (by decide) ?_
  refine lv_iadd hx hb dX5_ways_18 ?_
  refine q_ti (y := nI ((18 + (4 * ((4 * a) + t))) + 1)) (nI_add _ _) ?_
  refine lv_iload_n hx hb dX5_ways_19 rfl (lv_at hl 4 rfl) ?_
  refine q_V (As := [.int (nI ((18 + (4 * ((4 * a) + t))) + 1)), .int (nI x1)]) (rest := [.int (nI 100)]) ⟨hx, hb, hml, hown, hts⟩ (c_X5_changes l C mo kp ty tw pl fl tl v o (mB b) ((18 + (4 * ((4 * a) + t))) + 1) x1 (by omega) (by omega)) (cwV 2 hts gX5_ways_X5_changes rfl rfl rfl (by decide +kernel) ⟨Nat.le_of_ble_eq_true rfl, Nat.le_of_ble_eq_true rfl⟩) hK hP hD hS hA [0, 1, 2, 3] (by decide) rfl 0 rfl rfl rfl rfl hl.1 rfl (Nat.le_of_ble_eq_true rfl) dX5_ways_20 (Nat.zero_le _) (Nat.zero_le _) (fun r w1 H locs hQ hP hD hS => ?_)
  obtain ⟨rfl, rfl⟩ := hQ
  have hP : va_P C.1 vwCl (wO C mo (evm kp ty tw pl fl tl) v o ++ ([(mo 1, .inl (C.2.2.1, 82, .inr (.inl (vp_updL (mB b) ((18 + (4 * ((4 * a) + t))) + 1) (lN x1)))))] : va_W)) H := hP
  have hD : va_D (q_A (wO C mo (evm kp ty tw pl fl tl) v o ++ ([(mo 1, .inl (C.2.2.1, 82, .inr (.inl (mB b))))] : va_W)) s) (wO C mo (evm kp ty tw pl fl tl) v o ++ ([(mo 1, .inl (C.2.2.1, 82, .inr (.inl (vp_updL (mB b) ((18 + (4 * ((4 * a) + t))) + 1) (lN x1)))))] : va_W)) := hD
  refine W.eq (g2 := F0 m 23 ls [.int ((mB b ((18 + (4 * ((4 * a) + t))) + 1)).toInt32), .int (nI 100)]) rfl ?_
  rw [mB_wo _ (by omega)] at hP hD
  have hP : va_P C.1 vwCl (wO C mo (evm kp ty tw pl fl tl) v o ++ ([(mo 1, .inl (C.2.2.1, 82, .inr (.inl (mB (so b (upN (bo b) (4 * a + t) x1))))))] : va_W)) H := hP
  have hD : va_D (q_A (wO C mo (evm kp ty tw pl fl tl) v o ++ ([(mo 1, .inl (C.2.2.1, 82, .inr (.inl (mB b))))] : va_W)) s) (wO C mo (evm kp ty tw pl fl tl) v o ++ ([(mo 1, .inl (C.2.2.1, 82, .inr (.inl (mB (so b (upN (bo b) (4 * a + t) x1))))))] : va_W)) := hD
  refine q_ti (y := nI (bo b (4 * a + t))) (by rw [mB_of _ (by decide)]; exact lN_i _) ?_
  refine lv_imul hx hb dX5_ways_23 ?_
  refine q_ti (y := nI (100 * (bo b (4 * a + t)))) (pk_mul _ _) ?_
  refine lv_bipush (v := nI 10) hx hb dX5_ways_24 (by decide) ?_
  refine lv_aload_n hx hb dX5_ways_26 rfl (lv_at hl 1 rfl) ?_
  refine lv_iload hx hb dX5_ways_27 (lv_at hl 0 rfl) ?_
  refine lv_iconst (v := nI 2) hx hb dX5_ways_29 (by decide) ?_
  refine lv_iadd hx hb dX5_ways_30 ?_
  refine q_ti (y := nI ((18 + (4 * ((4 * a) + t))) + 2)) (nI_add _ _) ?_
  refine lv_iload hx hb dX5_ways_31 (lv_at hl 5 rfl) ?_
  refine q_V (As := [.int (nI ((18 + (4 * ((4 * a) + t))) + 2)), .int (nI x2)]) (rest := [.int (nI 10), .int (nI (100 * (bo b (4 * a + t))))]) ⟨hx, hb, hml, hown, hts⟩ (c_X5_changes l C mo kp ty tw pl fl tl v o (mB (so b (upN (bo b) (4 * a + t) x1))) ((18 + (4 * ((4 * a) + t))) + 2) x2 (by omega) (by omega)) (cwV 2 hts gX5_ways_X5_changes rfl rfl rfl (by decide +kernel) ⟨Nat.le_of_ble_eq_true rfl, Nat.le_of_ble_eq_true rfl⟩) hK hP hD hS hA [0, 1, 2, 3] (by decide) rfl 0 rfl rfl rfl rfl hl.1 rfl (Nat.le_of_ble_eq_true rfl) dX5_ways_33 (Nat.zero_le _) (Nat.zero_le _) (fun r w1 H locs hQ hP hD hS => ?_)
  obtain ⟨rfl, rfl⟩ := hQ
  have hP : va_P C.1 vwCl (wO C mo (evm kp ty tw pl fl tl) v o ++ ([(mo 1, .inl (C.2.2.1, 82, .inr (.inl (vp_updL (mB (so b (upN (bo b) (4 * a + t) x1))) ((18 + (4 * ((4 * a) + t))) + 2) (lN x2)))))] : va_W)) H := hP
  have hD : va_D (q_A (wO C mo (evm kp ty tw pl fl tl) v o ++ ([(mo 1, .inl (C.2.2.1, 82, .inr (.inl (mB b))))] : va_W)) s) (wO C mo (evm kp ty tw pl fl tl) v o ++ ([(mo 1, .inl (C.2.2.1, 82, .inr (.inl (vp_updL (mB (so b (upN (bo b) (4 * a + t) x1))) ((18 + (4 * ((4 * a) + t))) + 2) (lN x2)))))] : va_W)) := hD
  refine W.eq (g2 := F0 m 36 ls [.int ((mB (so b (upN (bo b) (4 * a + t) x1)) ((18 + (4 * ((4 * a) + t))) + 2)).toInt32), .int (nI 10), .int (nI (100 * (bo b (4 * a + t))))]) rfl ?_
  rw [mB_wb _ (by omega)] at hP hD
  have hP : va_P C.1 vwCl (wO C mo (evm kp ty tw pl fl tl) v o ++ ([(mo 1, .inl (C.2.2.1, 82, .inr (.inl (mB (sb (so b (upN (bo b) (4 * a + t) x1)) (upN (bb b) (4 * a + t) x2))))))] : va_W)) H := hP
  have hD : va_D (q_A (wO C mo (evm kp ty tw pl fl tl) v o ++ ([(mo 1, .inl (C.2.2.1, 82, .inr (.inl (mB b))))] : va_W)) s) (wO C mo (evm kp ty tw pl fl tl) v o ++ ([(mo 1, .inl (C.2.2.1, 82, .inr (.inl (mB (sb (so b (upN (bo b) (4 * a + t) x1)) (upN (bb b) (4 * a + t) x2))))))] : va_W)) := hD
  refine q_ti (y := nI (bb b (4 * a + t))) (by rw [mB_of _ (by decide)]; exact lN_i _) ?_
  refine lv_imul hx hb dX5_ways_36 ?_
  refine q_ti (y := nI (10 * (bb b (4 * a + t)))) (pk_mul _ _) ?_
  refine lv_iadd hx hb dX5_ways_37 ?_
  refine q_ti (y := nI ((100 * (bo b (4 * a + t))) + (10 * (bb b (4 * a + t))))) (nI_add _ _) ?_
  refine lv_aload_n hx hb dX5_ways_38 rfl (lv_at hl 1 rfl) ?_
  refine lv_iload hx hb dX5_ways_39 (lv_at hl 0 rfl) ?_
  refine lv_iconst (v := nI 3) hx hb dX5_ways_41 (by decide) ?_
  refine lv_iadd hx hb dX5_ways_42 ?_
  refine q_ti (y := nI ((18 + (4 * ((4 * a) + t))) + 3)) (nI_add _ _) ?_
  refine lv_iload hx hb dX5_ways_43 (lv_at hl 6 rfl) ?_
  refine q_V (As := [.int (nI ((18 + (4 * ((4 * a) + t))) + 3)), .int (nI x3)]) (rest := [.int (nI ((100 * (bo b (4 * a + t))) + (10 * (bb b (4 * a + t)))))]) ⟨hx, hb, hml, hown, hts⟩ (c_X5_changes l C mo kp ty tw pl fl tl v o (mB (sb (so b (upN (bo b) (4 * a + t) x1)) (upN (bb b) (4 * a + t) x2))) ((18 + (4 * ((4 * a) + t))) + 3) x3 (by omega) (by omega)) (cwV 2 hts gX5_ways_X5_changes rfl rfl rfl (by decide +kernel) ⟨Nat.le_of_ble_eq_true rfl, Nat.le_of_ble_eq_true rfl⟩) hK hP hD hS hA [0, 1, 2, 3] (by decide) rfl 0 rfl rfl rfl rfl hl.1 rfl (Nat.le_of_ble_eq_true rfl) dX5_ways_45 (Nat.zero_le _) (Nat.zero_le _) (fun r w1 H locs hQ hP hD hS => ?_)
  obtain ⟨rfl, rfl⟩ := hQ
  have hP : va_P C.1 vwCl (wO C mo (evm kp ty tw pl fl tl) v o ++ ([(mo 1, .inl (C.2.2.1, 82, .inr (.inl (vp_updL (mB (sb (so b (upN (bo b) (4 * a + t) x1)) (upN (bb b) (4 * a + t) x2))) ((18 + (4 * ((4 * a) + t))) + 3) (lN x3)))))] : va_W)) H := hP
  have hD : va_D (q_A (wO C mo (evm kp ty tw pl fl tl) v o ++ ([(mo 1, .inl (C.2.2.1, 82, .inr (.inl (mB b))))] : va_W)) s) (wO C mo (evm kp ty tw pl fl tl) v o ++ ([(mo 1, .inl (C.2.2.1, 82, .inr (.inl (vp_updL (mB (sb (so b (upN (bo b) (4 * a + t) x1)) (upN (bb b) (4 * a + t) x2))) ((18 + (4 * ((4 * a) + t))) + 3) (lN x3)))))] : va_W)) := hD
  refine W.eq (g2 := F0 m 48 ls [.int ((mB (sb (so b (upN (bo b) (4 * a + t) x1)) (upN (bb b) (4 * a + t) x2)) ((18 + (4 * ((4 * a) + t))) + 3)).toInt32), .int (nI ((100 * (bo b (4 * a + t))) + (10 * (bb b (4 * a + t)))))]) rfl ?_
  rw [mB_wc _ (by omega)] at hP hD
  have hP : va_P C.1 vwCl (wO C mo (evm kp ty tw pl fl tl) v o ++ ([(mo 1, .inl (C.2.2.1, 82, .inr (.inl (mB (sc (sb (so b (upN (bo b) (4 * a + t) x1)) (upN (bb b) (4 * a + t) x2)) (upN (bc b) (4 * a + t) x3))))))] : va_W)) H := hP
  have hD : va_D (q_A (wO C mo (evm kp ty tw pl fl tl) v o ++ ([(mo 1, .inl (C.2.2.1, 82, .inr (.inl (mB b))))] : va_W)) s) (wO C mo (evm kp ty tw pl fl tl) v o ++ ([(mo 1, .inl (C.2.2.1, 82, .inr (.inl (mB (sc (sb (so b (upN (bo b) (4 * a + t) x1)) (upN (bb b) (4 * a + t) x2)) (upN (bc b) (4 * a + t) x3))))))] : va_W)) := hD
  refine q_ti (y := nI (bc b (4 * a + t))) (by rw [mB_of _ (by decide)]; exact lN_i _) ?_
  refine lv_iadd hx hb dX5_ways_48 ?_
  refine q_ti (y := nI (((100 * (bo b (4 * a + t))) + (10 * (bb b (4 * a + t)))) + (bc b (4 * a + t)))) (nI_add _ _) ?_
  exact q_iret hx hb hr hlocks (w1 := wO C mo (evm kp ty tw pl fl tl) v o ++ ([(mo 1, .inl (C.2.2.1, 82, .inr (.inl (mB (sc (sb (so b (upN (bo b) (4 * a + t) x1)) (upN (bb b) (4 * a + t) x2)) (upN (bc b) (4 * a + t) x3))))))] : va_W)) hP hS rfl dX5_ways_49 (⟨rfl, rfl⟩)
set_option maxHeartbeats 4000000 in
set_option maxRecDepth 100000 in
theorem c_X5_isFor (l : Launch) (C : q_C) (k : Nat) (y : Int32) (hk : k < 4) : q_M C l yX5_isFor wsX5_isFor 1 23 [.int (nI k), .int y] (([] : va_W)) (fun r w => r = some (.int (q_b (decide (nI (leS k) ≤ y ∧ y ≤ nI (grS k))))) ∧ w = []) := by
  refine q_head (cc := cX5_isFor) (maxL := 2) (ret := (some .boolean)) (by decide +kernel) rfl (Nat.le_of_ble_eq_true rfl) ?_
  intro p e s m below meth c hx hb hr hlocks hml hown hts hK hP hD hS hA ls hl
  have hl : lv_has ls 2 [(0, .int (nI k)), (1, .int y)] := hl
  refine lv_iload_n hx hb dX5_isFor_0 rfl (lv_at hl 0 rfl) ?_
  refine lv_iconst (v := nI 1) hx hb dX5_isFor_1 (by decide) ?_
  refine lv_icmp_ne (tgt := 16) hx hb dX5_isFor_2 (by decide) (fun c2 => ?_) (fun c2 => ?_)
  · have c2 : k ≠ 1 := q_nne (by omega) (by omega) c2
    refine lv_iload_n hx hb dX5_isFor_16 rfl (lv_at hl 1 rfl) ?_
    refine lv_i2l (v := y.toInt64) hx hb dX5_isFor_17 rfl ?_
    refine lv_iconst (v := nI 0) hx hb dX5_isFor_18 (by decide) ?_
    refine lv_iload_n hx hb dX5_isFor_19 rfl (lv_at hl 0 rfl) ?_
    refine lv_iconst (v := nI 3) hx hb dX5_isFor_20 (by decide) ?_
    refine lv_icmp_ne (tgt := 28) hx hb dX5_isFor_21 (by decide) (fun c21 => ?_) (fun c21 => ?_)
    · have c21 : k ≠ 3 := q_nne (by omega) (by omega) c21
      refine lv_bipush (v := nI 99) hx hb dX5_isFor_28 (by decide) ?_
      refine q_S (As := [.long y.toInt64, .int (nI 0), .int (nI 99)]) (rest := []) ⟨hx, hb, hml, hown, hts⟩ (c_in32 l C y (nI 0) (nI 99)) (va_cwS 3 hts gX5_isFor_X5_in rfl rfl rfl (by decide +kernel) ⟨Nat.le_of_ble_eq_true rfl, Nat.le_of_ble_eq_true rfl⟩) hK hP hD hS hA [] (by decide) rfl rfl hl.1 rfl (Nat.le_of_ble_eq_true rfl) dX5_isFor_30 (Nat.zero_le _) (Nat.zero_le _) (fun r w1 H locs hQ hP hD hS => ?_)
      obtain ⟨rfl, rfl⟩ := hQ
      refine W.eq (g2 := F0 m 33 ls [.int (q_b (decide (nI 0 ≤ y ∧ y ≤ nI 99)))]) rfl ?_
      exact q_zret hx hb hr hlocks q_bn (w1 := ([] : va_W)) hP hS rfl dX5_isFor_33 (⟨congrArg (fun z => some (Value.int z)) (by rw [leS, grS, if_neg c2, if_neg c2, if_neg c21]), rfl⟩)
    · have c21 : k = 3 := q_nne' (by omega) (by omega) c21
      refine lv_iconst (v := nI 1) hx hb dX5_isFor_24 (by decide) ?_
      refine lv_goto (tgt := 30) hx hb dX5_isFor_25 (by decide) ?_
      refine q_S (As := [.long y.toInt64, .int (nI 0), .int (nI 1)]) (rest := []) ⟨hx, hb, hml, hown, hts⟩ (c_in32 l C y (nI 0) (nI 1)) (va_cwS 3 hts gX5_isFor_X5_in rfl rfl rfl (by decide +kernel) ⟨Nat.le_of_ble_eq_true rfl, Nat.le_of_ble_eq_true rfl⟩) hK hP hD hS hA [] (by decide) rfl rfl hl.1 rfl (Nat.le_of_ble_eq_true rfl) dX5_isFor_30 (Nat.zero_le _) (Nat.zero_le _) (fun r w1 H locs hQ hP hD hS => ?_)
      obtain ⟨rfl, rfl⟩ := hQ
      refine W.eq (g2 := F0 m 33 ls [.int (q_b (decide (nI 0 ≤ y ∧ y ≤ nI 1)))]) rfl ?_
      exact q_zret hx hb hr hlocks q_bn (w1 := ([] : va_W)) hP hS rfl dX5_isFor_33 (⟨congrArg (fun z => some (Value.int z)) (by rw [leS, grS, if_neg c2, if_neg c2, if_pos c21]), rfl⟩)
  · have c2 : k = 1 := q_nne' (by omega) (by omega) c2
    refine lv_iload_n hx hb dX5_isFor_5 rfl (lv_at hl 1 rfl) ?_
    refine lv_i2l (v := y.toInt64) hx hb dX5_isFor_6 rfl ?_
    refine lv_iconst (v := nI 1) hx hb dX5_isFor_7 (by decide) ?_
    refine lv_bipush (v := nI 60) hx hb dX5_isFor_8 (by decide) ?_
    refine q_S (As := [.long y.toInt64, .int (nI 1), .int (nI 60)]) (rest := []) ⟨hx, hb, hml, hown, hts⟩ (c_in32 l C y (nI 1) (nI 60)) (va_cwS 3 hts gX5_isFor_X5_in rfl rfl rfl (by decide +kernel) ⟨Nat.le_of_ble_eq_true rfl, Nat.le_of_ble_eq_true rfl⟩) hK hP hD hS hA [] (by decide) rfl rfl hl.1 rfl (Nat.le_of_ble_eq_true rfl) dX5_isFor_10 (Nat.zero_le _) (Nat.zero_le _) (fun r w1 H locs hQ hP hD hS => ?_)
    obtain ⟨rfl, rfl⟩ := hQ
    refine W.eq (g2 := F0 m 13 ls [.int (q_b (decide (nI 1 ≤ y ∧ y ≤ nI 60)))]) rfl ?_
    refine lv_goto (tgt := 33) hx hb dX5_isFor_13 (by decide) ?_
    exact q_zret hx hb hr hlocks q_bn (w1 := ([] : va_W)) hP hS rfl dX5_isFor_33 (⟨congrArg (fun z => some (Value.int z)) (by rw [leS, grS, if_pos c2, if_pos c2]), rfl⟩)
set_option maxHeartbeats 4000000 in
set_option maxRecDepth 100000 in
theorem c_X5_isPlay (l : Launch) (C : q_C) (x y : Int32) : q_M C l yX5_isPlay wsX5_isPlay 1 23 [.int x, .int y] (([] : va_W)) (fun r w => r = some (.int (q_b (decide (nI 0 ≤ x ∧ x ≤ nI 2) && decide (nI 1 ≤ y ∧ y ≤ nI 99)))) ∧ w = []) := by
  refine q_head (cc := cX5_isPlay) (maxL := 2) (ret := (some .boolean)) (by decide +kernel) rfl (Nat.le_of_ble_eq_true rfl) ?_
  intro p e s m below meth c hx hb hr hlocks hml hown hts hK hP hD hS hA ls hl
  have hl : lv_has ls 2 [(0, .int x), (1, .int y)] := hl
  refine lv_iload_n hx hb dX5_isPlay_0 rfl (lv_at hl 0 rfl) ?_
  refine lv_i2l (v := x.toInt64) hx hb dX5_isPlay_1 rfl ?_
  refine lv_iconst (v := nI 0) hx hb dX5_isPlay_2 (by decide) ?_
  refine lv_iconst (v := nI 2) hx hb dX5_isPlay_3 (by decide) ?_
  refine q_S (As := [.long x.toInt64, .int (nI 0), .int (nI 2)]) (rest := []) ⟨hx, hb, hml, hown, hts⟩ (c_in32 l C x (nI 0) (nI 2)) (va_cwS 3 hts gX5_isPlay_X5_in rfl rfl rfl (by decide +kernel) ⟨Nat.le_of_ble_eq_true rfl, Nat.le_of_ble_eq_true rfl⟩) hK hP hD hS hA [] (by decide) rfl rfl hl.1 rfl (Nat.le_of_ble_eq_true rfl) dX5_isPlay_4 (Nat.zero_le _) (Nat.zero_le _) (fun r w1 H locs hQ hP hD hS => ?_)
  obtain ⟨rfl, rfl⟩ := hQ
  refine W.eq (g2 := F0 m 7 ls [.int (q_b (decide (nI 0 ≤ x ∧ x ≤ nI 2)))]) rfl ?_
  refine lv_if_eq (tgt := 25) hx hb dX5_isPlay_7 (by decide) (fun c7 => ?_) (fun c7 => ?_)
  · have c7 : decide (nI 0 ≤ x ∧ x ≤ nI 2) = false := q_b0.mp c7
    refine lv_iconst (v := nI 0) hx hb dX5_isPlay_25 (by decide) ?_
    exact q_zret hx hb hr hlocks rfl (w1 := ([] : va_W)) hP hS rfl dX5_isPlay_26 (⟨congrArg (fun z => some (Value.int z)) (q_bf (by rw [c7]; rfl)), rfl⟩)
  · have c7 : decide (nI 0 ≤ x ∧ x ≤ nI 2) = true := q_b1.mp c7
    refine lv_iload_n hx hb dX5_isPlay_10 rfl (lv_at hl 1 rfl) ?_
    refine lv_i2l (v := y.toInt64) hx hb dX5_isPlay_11 rfl ?_
    refine lv_iconst (v := nI 1) hx hb dX5_isPlay_12 (by decide) ?_
    refine lv_bipush (v := nI 99) hx hb dX5_isPlay_13 (by decide) ?_
    refine q_S (As := [.long y.toInt64, .int (nI 1), .int (nI 99)]) (rest := []) ⟨hx, hb, hml, hown, hts⟩ (c_in32 l C y (nI 1) (nI 99)) (va_cwS 3 hts gX5_isPlay_X5_in rfl rfl rfl (by decide +kernel) ⟨Nat.le_of_ble_eq_true rfl, Nat.le_of_ble_eq_true rfl⟩) hK hP hD hS hA [] (by decide) rfl rfl hl.1 rfl (Nat.le_of_ble_eq_true rfl) dX5_isPlay_15 (Nat.zero_le _) (Nat.zero_le _) (fun r w1 H locs hQ hP hD hS => ?_)
    obtain ⟨rfl, rfl⟩ := hQ
    refine W.eq (g2 := F0 m 18 ls [.int (q_b (decide (nI 1 ≤ y ∧ y ≤ nI 99)))]) rfl ?_
    refine lv_if_eq (tgt := 25) hx hb dX5_isPlay_18 (by decide) (fun c18 => ?_) (fun c18 => ?_)
    · have c18 : decide (nI 1 ≤ y ∧ y ≤ nI 99) = false := q_b0.mp c18
      refine lv_iconst (v := nI 0) hx hb dX5_isPlay_25 (by decide) ?_
      exact q_zret hx hb hr hlocks rfl (w1 := ([] : va_W)) hP hS rfl dX5_isPlay_26 (⟨congrArg (fun z => some (Value.int z)) (q_bf (by rw [c7, c18]; rfl)), rfl⟩)
    · have c18 : decide (nI 1 ≤ y ∧ y ≤ nI 99) = true := q_b1.mp c18
      refine lv_iconst (v := nI 1) hx hb dX5_isPlay_21 (by decide) ?_
      refine lv_goto (tgt := 26) hx hb dX5_isPlay_22 (by decide) ?_
      exact q_zret hx hb hr hlocks rfl (w1 := ([] : va_W)) hP hS rfl dX5_isPlay_26 (⟨congrArg (fun z => some (Value.int z)) (q_bt (by rw [c7, c18]; rfl)), rfl⟩)
set_option maxHeartbeats 4000000 in
set_option maxRecDepth 100000 in
theorem c_X5_rounds (l : Launch) (C : q_C) (mo : Nat → Nat) (kp ty tw pl fl tl : Int32) (v o : Nat → Nat) (b : Bd) (a : Nat) (hB : OkB b) (ha : a < 4) : q_M C l yX5_rounds wsX5_rounds 4 95 [.ref (mo 0), .int (nI a)] (wO C mo (evm kp ty tw pl fl tl) v o ++ ([(mo 1, .inl (C.2.2.1, 82, .inr (.inl (mB b))))] : va_W)) (fun r w => ∃ v1 o1, r = some (.int (nI (leastN b a (bp b a) (idxN b a (bp b a))))) ∧ w = wO C mo (evm kp ty tw pl fl tl) v1 o1 ++ ([(mo 1, .inl (C.2.2.1, 82, .inr (.inl (mB b))))] : va_W)) := by
  obtain ⟨ok1, ok2, ⟨ok3, ok4, ok5, ok6, ok7⟩, ok8, ok9⟩ := id hB
  have hp4 := ok2 a ha
  refine q_head (cc := cX5_rounds) (maxL := 7) (ret := (some .int)) (by decide +kernel) rfl (Nat.le_of_ble_eq_true rfl) ?_
  intro p e s m below meth c hx hb hr hlocks hml hown hts hK hP hD hS hA ls hl
  have hl : lv_has ls 7 [(0, .ref (mo 0)), (1, .int (nI a))] := hl
  have hf7 := hts (.fieldLink RX5 7 "RestedArmsModel" "now" "[J") (by decide +kernel)
  have hin5 : ∀ w ∈ u_ws RX5 TX5 13, w ∈ wsX5_rounds := by decide +kernel
  refine lv_aload_n hx hb dX5_rounds_0 rfl (lv_at hl 0 rfl) ?_
  refine va_get (ci := 5) (v := .ref (mo 1)) (C := RX5) (T := TX5) (N := 13) hx hb hts hin5 hown hK.1 hP 0 rfl rfl 0 (by decide) hf7 (fun _ h9 => h9) rfl dX5_rounds_1 ?_
  refine lv_iload_n hx hb dX5_rounds_4 rfl (lv_at hl 1 rfl) ?_
  refine q_S (As := [.ref (mo 1), .int (nI a)]) (rest := []) ⟨hx, hb, hml, hown, hts⟩ (c_X5_stands l C (mo 1) b a (by omega)) (va_cwS 2 hts gX5_rounds_X5_stands rfl rfl rfl (by decide +kernel) ⟨Nat.le_of_ble_eq_true rfl, Nat.le_of_ble_eq_true rfl⟩) hK hP hD hS hA [3] (by decide) rfl rfl hl.1 rfl (Nat.le_of_ble_eq_true rfl) dX5_rounds_5 (Nat.zero_le _) (Nat.zero_le _) (fun r w1 H locs hQ hP hD hS => ?_)
  obtain ⟨rfl, rfl⟩ := hQ
  have hP : va_P C.1 vwCl (wO C mo (evm kp ty tw pl fl tl) v o ++ ([(mo 1, .inl (C.2.2.1, 82, .inr (.inl (mB b))))] : va_W)) H := hP
  have hD : va_D (q_A (wO C mo (evm kp ty tw pl fl tl) v o ++ ([(mo 1, .inl (C.2.2.1, 82, .inr (.inl (mB b))))] : va_W)) s) (wO C mo (evm kp ty tw pl fl tl) v o ++ ([(mo 1, .inl (C.2.2.1, 82, .inr (.inl (mB b))))] : va_W)) := hD
  refine W.eq (g2 := F0 m 8 ls [.int (nI (bp b a))]) rfl ?_
  refine lv_istore_n (lv' := [(2, .int (nI (bp b a))), (0, .ref (mo 0)), (1, .int (nI a))]) hx hb dX5_rounds_8 rfl hl (by decide) rfl (fun ls hl => ?_)
  refine lv_aload_n hx hb dX5_rounds_9 rfl (lv_at hl 1 rfl) ?_
  refine lv_aload_n hx hb dX5_rounds_10 rfl (lv_at hl 1 rfl) ?_
  refine va_get (ci := 5) (v := .ref (mo 1)) (C := RX5) (T := TX5) (N := 13) hx hb hts hin5 hown hK.1 hP 0 rfl rfl 0 (by decide) hf7 (fun _ h9 => h9) rfl dX5_rounds_11 ?_
  refine lv_iload_n hx hb dX5_rounds_14 rfl (lv_at hl 2 rfl) ?_
  refine lv_iload_n hx hb dX5_rounds_15 rfl (lv_at hl 0 rfl) ?_
  refine q_V (As := [.ref (mo 1), .int (nI a), .int (nI (bp b a))]) (rest := []) ⟨hx, hb, hml, hown, hts⟩ (c_X5_indexOf l C mo (evm kp ty tw pl fl tl) v o (mo 1) b a (bp b a) hB (by omega) (by omega)) (cwV 3 hts gX5_rounds_X5_indexOf rfl rfl rfl (by decide +kernel) ⟨Nat.le_of_ble_eq_true rfl, Nat.le_of_ble_eq_true rfl⟩) hK hP hD hS hA [0, 1, 2, 3] (by decide) rfl 0 rfl rfl rfl rfl hl.1 rfl (Nat.le_of_ble_eq_true rfl) dX5_rounds_16 (Nat.zero_le _) (Nat.zero_le _) (fun r w1 H locs hQ hP hD hS => ?_)
  obtain ⟨rfl, rfl⟩ := hQ
  have hP : va_P C.1 vwCl (wO C mo (evm kp ty tw pl fl tl) (valsN b a (bp b a) (bs b 1)) (ownsN b a (bp b a) o (bs b 1)) ++ ([(mo 1, .inl (C.2.2.1, 82, .inr (.inl (mB b))))] : va_W)) H := hP
  have hD : va_D (q_A (wO C mo (evm kp ty tw pl fl tl) v o ++ ([(mo 1, .inl (C.2.2.1, 82, .inr (.inl (mB b))))] : va_W)) s) (wO C mo (evm kp ty tw pl fl tl) (valsN b a (bp b a) (bs b 1)) (ownsN b a (bp b a) o (bs b 1)) ++ ([(mo 1, .inl (C.2.2.1, 82, .inr (.inl (mB b))))] : va_W)) := hD
  refine W.eq (g2 := F0 m 19 ls [.long (lN (idxN b a (bp b a)))]) rfl ?_
  refine lv_lstore_n (lv' := [(3, .long (lN (idxN b a (bp b a)))), (2, .int (nI (bp b a))), (0, .ref (mo 0)), (1, .int (nI a))]) hx hb dX5_rounds_19 rfl hl (by decide) rfl (fun ls hl => ?_)
  refine lv_aload_n hx hb dX5_rounds_20 rfl (lv_at hl 2 rfl) ?_
  refine q_V (As := []) (rest := []) ⟨hx, hb, hml, hown, hts⟩ (c_X5_begins l C mo (evm kp ty tw pl fl tl) (valsN b a (bp b a) (bs b 1)) (ownsN b a (bp b a) o (bs b 1)) ) (cwV 0 hts gX5_rounds_X5_begins rfl rfl rfl (by decide +kernel) ⟨Nat.le_of_ble_eq_true rfl, Nat.le_of_ble_eq_true rfl⟩) hK hP hD hS hA [0, 1, 2] (by decide) rfl 0 rfl rfl rfl rfl hl.1 rfl (Nat.le_of_ble_eq_true rfl) dX5_rounds_21 (Nat.zero_le _) (Nat.zero_le _) (fun r w1 H locs hQ hP hD hS => ?_)
  obtain ⟨rfl, rfl⟩ := hQ
  have hP : va_P C.1 vwCl (wO C mo (evm kp ty tw pl fl tl) (fun _ => 0) (ownsN b a (bp b a) o (bs b 1)) ++ ([(mo 1, .inl (C.2.2.1, 82, .inr (.inl (mB b))))] : va_W)) H := hP
  have hD : va_D (q_A (wO C mo (evm kp ty tw pl fl tl) v o ++ ([(mo 1, .inl (C.2.2.1, 82, .inr (.inl (mB b))))] : va_W)) s) (wO C mo (evm kp ty tw pl fl tl) (fun _ => 0) (ownsN b a (bp b a) o (bs b 1)) ++ ([(mo 1, .inl (C.2.2.1, 82, .inr (.inl (mB b))))] : va_W)) := hD
  refine W.eq (g2 := F0 m 24 ls []) rfl ?_
  refine lv_iconst (v := nI 0) hx hb dX5_rounds_24 (by decide) ?_
  refine lv_istore (lv' := [(5, .int (nI 0)), (3, .long (lN (idxN b a (bp b a)))), (2, .int (nI (bp b a))), (0, .ref (mo 0)), (1, .int (nI a))]) hx hb dX5_rounds_25 hl (by decide) rfl (fun ls hl => ?_)
  refine lv_iconst (v := nI 1) hx hb dX5_rounds_27 (by decide) ?_
  refine lv_istore (lv' := [(6, .int (nI 1)), (5, .int (nI 0)), (3, .long (lN (idxN b a (bp b a)))), (2, .int (nI (bp b a))), (0, .ref (mo 0)), (1, .int (nI a))]) hx hb dX5_rounds_28 hl (by decide) rfl (fun ls hl => ?_)
  have K30 : ∀ (n30 i30 : Nat), ∀ (m30 : Int32) (k30 : Nat) (v30 : Nat → Nat) (o30 : Nat → Nat), i30 ≤ (bs b 1) → (bs b 1) + 1 ≤ i30 + n30 → ((m30 = nI 1 ∧ i30 = k30 ∧ valsN b a (bp b a) i30 = v30 ∧ i30 < bs b 1 ∧ lrN b a (bp b a) (idxN b a (bp b a)) (bs b 1 - 1 - i30) (i30 + 1) = leastN b a (bp b a) (idxN b a (bp b a))) ∨ (m30 = nI 0 ∧ k30 = leastN b a (bp b a) (idxN b a (bp b a)))) → ∀ (H : Heap) (locs : List Loc) (ls : Array Slot), va_P C.1 vwCl (wO C mo (evm kp ty tw pl fl tl) v30 o30 ++ ([(mo 1, .inl (C.2.2.1, 82, .inr (.inl (mB b))))] : va_W)) H → va_D (q_A (wO C mo (evm kp ty tw pl fl tl) v o ++ ([(mo 1, .inl (C.2.2.1, 82, .inr (.inl (mB b))))] : va_W)) s) (wO C mo (evm kp ty tw pl fl tl) v30 o30 ++ ([(mo 1, .inl (C.2.2.1, 82, .inr (.inl (mB b))))] : va_W)) → va_S (q_A (wO C mo (evm kp ty tw pl fl tl) v o ++ ([(mo 1, .inl (C.2.2.1, 82, .inr (.inl (mB b))))] : va_W)) s) s.heap H locs → lv_has ls 7 [(6, .int m30), (5, .int (nI k30)), (3, .long (lN (idxN b a (bp b a)))), (2, .int (nI (bp b a))), (0, .ref (mo 0)), (1, .int (nI a))] → W p l e (q_R 4 95) s m ([.ref (mo 0), .int (nI a)] : List Value).toArray below meth c H locs 0 0 (q_G C below (wO C mo (evm kp ty tw pl fl tl) v o ++ ([(mo 1, .inl (C.2.2.1, 82, .inr (.inl (mB b))))] : va_W)) (fun r w => ∃ v1 o1, r = some (.int (nI (leastN b a (bp b a) (idxN b a (bp b a))))) ∧ w = wO C mo (evm kp ty tw pl fl tl) v1 o1 ++ ([(mo 1, .inl (C.2.2.1, 82, .inr (.inl (mB b))))] : va_W)) ([.ref (mo 0), .int (nI a)] : List Value).toArray s) (F0 m 30 ls []) := by
    intro n30
    induction n30 with
    | zero => intro i30 m30 k30 v30 o30 q1 q2; exact absurd q2 (by omega)
    | succ n30 ih30 =>
      intro i30 m30 k30 v30 o30 hi30 hn30 hR30 H locs ls hP hD hS hl
      refine lv_iload hx hb dX5_rounds_30 (lv_at hl 0 rfl) ?_
      rcases hR30 with ⟨q1, q2, q3, q4, q5⟩ | ⟨q1, q2⟩
      · subst q1
        subst q2 q3
        refine lv_if_eq (tgt := 72) hx hb dX5_rounds_32 (by decide) (fun c => absurd c (by decide)) (fun _ => ?_)
        refine lv_aload_n hx hb dX5_rounds_35 rfl (lv_at hl 4 rfl) ?_
        refine lv_aload_n hx hb dX5_rounds_36 rfl (lv_at hl 4 rfl) ?_
        refine va_get (ci := 5) (v := .ref (mo 1)) (C := RX5) (T := TX5) (N := 13) hx hb hts hin5 hown hK.1 hP 0 rfl rfl 0 (by decide) hf7 (fun _ h9 => h9) rfl dX5_rounds_37 ?_
        refine lv_iload_n hx hb dX5_rounds_40 rfl (lv_at hl 5 rfl) ?_
        refine lv_iload_n hx hb dX5_rounds_41 rfl (lv_at hl 3 rfl) ?_
        refine q_V (As := [.ref (mo 1), .int (nI a), .int (nI (bp b a))]) (rest := []) ⟨hx, hb, hml, hown, hts⟩ (c_X5_round l C mo (evm kp ty tw pl fl tl) (valsN b a (bp b a) i30) o30 (mo 1) b a (bp b a) hB (by omega) (by omega) (valsN_6M hB ha hp4 (by omega))) (cwV 3 hts gX5_rounds_X5_round rfl rfl rfl (by decide +kernel) ⟨Nat.le_of_ble_eq_true rfl, Nat.le_of_ble_eq_true rfl⟩) hK hP hD hS hA [0, 1, 2, 3] (by decide) rfl 0 rfl rfl rfl rfl hl.1 rfl (Nat.le_of_ble_eq_true rfl) dX5_rounds_42 (Nat.zero_le _) (Nat.zero_le _) (fun r w1 H locs hQ hP hD hS => ?_)
        obtain ⟨rfl, rfl⟩ := hQ
        have hP : va_P C.1 vwCl (wO C mo (evm kp ty tw pl fl tl) (rndN b a (bp b a) (valsN b a (bp b a) i30)) (ownN b a (valsN b a (bp b a) i30)) ++ ([(mo 1, .inl (C.2.2.1, 82, .inr (.inl (mB b))))] : va_W)) H := hP
        have hD : va_D (q_A (wO C mo (evm kp ty tw pl fl tl) v o ++ ([(mo 1, .inl (C.2.2.1, 82, .inr (.inl (mB b))))] : va_W)) s) (wO C mo (evm kp ty tw pl fl tl) (rndN b a (bp b a) (valsN b a (bp b a) i30)) (ownN b a (valsN b a (bp b a) i30)) ++ ([(mo 1, .inl (C.2.2.1, 82, .inr (.inl (mB b))))] : va_W)) := hD
        refine W.eq (g2 := F0 m 45 ls []) rfl ?_
        have hP : va_P C.1 vwCl (wO C mo (evm kp ty tw pl fl tl) (valsN b a (bp b a) (i30 + 1)) (ownN b a (valsN b a (bp b a) i30)) ++ ([(mo 1, .inl (C.2.2.1, 82, .inr (.inl (mB b))))] : va_W)) H := hP
        have hD : va_D (q_A (wO C mo (evm kp ty tw pl fl tl) v o ++ ([(mo 1, .inl (C.2.2.1, 82, .inr (.inl (mB b))))] : va_W)) s) (wO C mo (evm kp ty tw pl fl tl) (valsN b a (bp b a) (i30 + 1)) (ownN b a (valsN b a (bp b a) i30)) ++ ([(mo 1, .inl (C.2.2.1, 82, .inr (.inl (mB b))))] : va_W)) := hD
        refine lv_iinc (v := nI (i30 + 1)) (lv' := [(5, .int (nI (i30 + 1))), (6, .int (nI 1)), (3, .long (lN (idxN b a (bp b a)))), (2, .int (nI (bp b a))), (0, .ref (mo 0)), (1, .int (nI a))]) hx hb dX5_rounds_45 hl (k := 1) rfl (nI_1 _) (by decide) rfl (fun ls hl => ?_)
        refine lv_aload_n hx hb dX5_rounds_48 rfl (lv_at hl 4 rfl) ?_
        refine lv_aload_n hx hb dX5_rounds_49 rfl (lv_at hl 4 rfl) ?_
        refine va_get (ci := 5) (v := .ref (mo 1)) (C := RX5) (T := TX5) (N := 13) hx hb hts hin5 hown hK.1 hP 0 rfl rfl 0 (by decide) hf7 (fun _ h9 => h9) rfl dX5_rounds_50 ?_
        refine lv_iload_n hx hb dX5_rounds_53 rfl (lv_at hl 3 rfl) ?_
        refine q_V (As := [.ref (mo 1), .int (nI (bp b a))]) (rest := []) ⟨hx, hb, hml, hown, hts⟩ (c_X5_indexBy l C mo (evm kp ty tw pl fl tl) (valsN b a (bp b a) (i30 + 1)) (ownN b a (valsN b a (bp b a) i30)) (mo 1) b (bp b a) hB (by omega) (valsN_6M hB ha hp4 (by omega))) (cwV 2 hts gX5_rounds_X5_indexBy rfl rfl rfl (by decide +kernel) ⟨Nat.le_of_ble_eq_true rfl, Nat.le_of_ble_eq_true rfl⟩) hK hP hD hS hA [0, 1, 2, 3] (by decide) rfl 0 rfl rfl rfl rfl hl.1 rfl (Nat.le_of_ble_eq_true rfl) dX5_rounds_54 (Nat.zero_le _) (Nat.zero_le _) (fun r w1 H locs hQ hP hD hS => ?_)
        obtain ⟨rfl, rfl⟩ := hQ
        have hP : va_P C.1 vwCl (wO C mo (evm kp ty tw pl fl tl) (valsN b a (bp b a) (i30 + 1)) (ownN b a (valsN b a (bp b a) i30)) ++ ([(mo 1, .inl (C.2.2.1, 82, .inr (.inl (mB b))))] : va_W)) H := hP
        have hD : va_D (q_A (wO C mo (evm kp ty tw pl fl tl) v o ++ ([(mo 1, .inl (C.2.2.1, 82, .inr (.inl (mB b))))] : va_W)) s) (wO C mo (evm kp ty tw pl fl tl) (valsN b a (bp b a) (i30 + 1)) (ownN b a (valsN b a (bp b a) i30)) ++ ([(mo 1, .inl (C.2.2.1, 82, .inr (.inl (mB b))))] : va_W)) := hD
        refine W.eq (g2 := F0 m 57 ls [.long (lN (ixN b (bp b a) (valsN b a (bp b a) (i30 + 1))))]) rfl ?_
        refine lv_lload_n hx hb dX5_rounds_57 rfl (lv_at hl 2 rfl) ?_
        have q8 := (ixN_le (b := b) (h := bp b a) (valsN_6M hB ha hp4 (i := i30 + 1) (by omega) (bp b a) hp4)).2
        have q9 := idxN_le hB ha hp4
        refine W.lcmp hx hb dX5_rounds_58 ?_
        refine lv_if_eq (tgt := 66) hx hb dX5_rounds_59 (by decide) (fun c59 => ?_) (fun c59 => ?_)
        · have c59 : (ixN b (bp b a) (valsN b a (bp b a) (i30 + 1))) = (idxN b a (bp b a)) := q_Leq (by omega) (by omega) c59
          refine lv_iconst (v := nI 0) hx hb dX5_rounds_66 (by decide) ?_
          refine lv_istore (lv' := [(6, .int (nI 0)), (5, .int (nI (i30 + 1))), (3, .long (lN (idxN b a (bp b a)))), (2, .int (nI (bp b a))), (0, .ref (mo 0)), (1, .int (nI a))]) hx hb dX5_rounds_67 hl (by decide) rfl (fun ls hl => ?_)
          refine lv_goto (tgt := 30) hx hb dX5_rounds_69 (by decide) ?_
          exact ih30 (i30 + 1) (nI 0) (i30 + 1) (valsN b a (bp b a) (i30 + 1)) (ownN b a (valsN b a (bp b a) i30)) (by omega) (by omega) (Or.inr ⟨rfl, lrN_hit q5 c59⟩) _ _ ls hP hD hS (lv_sub hl [0, 1, 2, 3, 4, 5] rfl)
        · have c59 : (ixN b (bp b a) (valsN b a (bp b a) (i30 + 1))) ≠ (idxN b a (bp b a)) := q_Leq' (by omega) (by omega) c59
          refine lv_iconst (v := nI 1) hx hb dX5_rounds_62 (by decide) ?_
          refine lv_goto (tgt := 67) hx hb dX5_rounds_63 (by decide) ?_
          refine lv_istore (lv' := [(6, .int (nI 1)), (5, .int (nI (i30 + 1))), (3, .long (lN (idxN b a (bp b a)))), (2, .int (nI (bp b a))), (0, .ref (mo 0)), (1, .int (nI a))]) hx hb dX5_rounds_67 hl (by decide) rfl (fun ls hl => ?_)
          refine lv_goto (tgt := 30) hx hb dX5_rounds_69 (by decide) ?_
          exact ih30 (i30 + 1) (nI 1) (i30 + 1) (valsN b a (bp b a) (i30 + 1)) (ownN b a (valsN b a (bp b a) i30)) (by omega) (by omega) (Or.inl ⟨rfl, rfl, rfl, Nat.lt_of_le_of_ne (by omega) (fun q => c59 (by rw [q]; rfl)), by rw [show bs b 1 - 1 - (i30 + 1) = bs b 1 - 1 - i30 - 1 by omega]; exact lrN_s q5 (Nat.pos_of_ne_zero fun q => c59 (by rw [show i30 + 1 = bs b 1 by omega]; rfl)) c59⟩) _ _ ls hP hD hS (lv_sub hl [0, 1, 2, 3, 4, 5] rfl)
      · subst q1
        refine lv_if_eq (tgt := 72) hx hb dX5_rounds_32 (by decide) (fun _ => ?_) (fun c => absurd (by decide) c)
        refine lv_iload hx hb dX5_rounds_72 (lv_at hl 1 rfl) ?_
        exact q_iret hx hb hr hlocks (w1 := wO C mo (evm kp ty tw pl fl tl) v30 o30 ++ ([(mo 1, .inl (C.2.2.1, 82, .inr (.inl (mB b))))] : va_W)) hP hS rfl dX5_rounds_74 (⟨_, _, by rw [q2], rfl⟩)
  exact K30 ((bs b 1) + 1 - 0) 0 (nI 1) 0 (fun _ => 0) (ownsN b a (bp b a) o (bs b 1)) (by omega) (by omega) (Or.inl ⟨rfl, rfl, rfl, by omega, rfl⟩) _ _ ls hP hD hS (lv_sub hl [0, 1, 2, 3, 4, 5] rfl)
set_option maxHeartbeats 4000000 in
set_option maxRecDepth 100000 in
theorem c_X5_greatest (l : Launch) (C : q_C) (mo : Nat → Nat) (kp ty tw pl fl tl : Int32) (v o : Nat → Nat) (b : Bd) (a : Nat) (hB : OkB b) (ha : a < 4) : q_M C l yX5_greatest wsX5_greatest 4 95 [.ref (mo 0), .int (nI a)] (wO C mo (evm kp ty tw pl fl tl) v o ++ ([(mo 1, .inl (C.2.2.1, 82, .inr (.inl (mB b))))] : va_W)) (fun r w => ∃ v1 o1, r = some (.int (nI (bstN (idxT b) a 3))) ∧ w = wO C mo (evm kp ty tw pl fl tl) v1 o1 ++ ([(mo 1, .inl (C.2.2.1, 82, .inr (.inl (mB b))))] : va_W)) := by
  refine q_head (cc := cX5_greatest) (maxL := 4) (ret := (some .int)) (by decide +kernel) rfl (Nat.le_of_ble_eq_true rfl) ?_
  intro p e s m below meth c hx hb hr hlocks hml hown hts hK hP hD hS hA ls hl
  have hl : lv_has ls 4 [(0, .ref (mo 0)), (1, .int (nI a))] := hl
  have hf7 := hts (.fieldLink RX5 7 "RestedArmsModel" "now" "[J") (by decide +kernel)
  have hin5 : ∀ w ∈ u_ws RX5 TX5 13, w ∈ wsX5_greatest := by decide +kernel
  refine lv_iconst (v := nI 0) hx hb dX5_greatest_0 (by decide) ?_
  refine lv_istore_n (lv' := [(2, .int (nI 0)), (0, .ref (mo 0)), (1, .int (nI a))]) hx hb dX5_greatest_1 rfl hl (by decide) rfl (fun ls hl => ?_)
  refine lv_iconst (v := nI 1) hx hb dX5_greatest_2 (by decide) ?_
  refine lv_istore_n (lv' := [(3, .int (nI 1)), (2, .int (nI 0)), (0, .ref (mo 0)), (1, .int (nI a))]) hx hb dX5_greatest_3 rfl hl (by decide) rfl (fun ls hl => ?_)
  have K4 : ∀ (n4 i4 : Nat), ∀ (g4 : Nat) (v4 : Nat → Nat) (o4 : Nat → Nat), i4 ≤ 3 → 3 + 1 ≤ i4 + n4 → (bstN (idxT b) a i4 = g4) → (g4 ≤ i4) → ∀ (H : Heap) (locs : List Loc) (ls : Array Slot), va_P C.1 vwCl (wO C mo (evm kp ty tw pl fl tl) v4 o4 ++ ([(mo 1, .inl (C.2.2.1, 82, .inr (.inl (mB b))))] : va_W)) H → va_D (q_A (wO C mo (evm kp ty tw pl fl tl) v o ++ ([(mo 1, .inl (C.2.2.1, 82, .inr (.inl (mB b))))] : va_W)) s) (wO C mo (evm kp ty tw pl fl tl) v4 o4 ++ ([(mo 1, .inl (C.2.2.1, 82, .inr (.inl (mB b))))] : va_W)) → va_S (q_A (wO C mo (evm kp ty tw pl fl tl) v o ++ ([(mo 1, .inl (C.2.2.1, 82, .inr (.inl (mB b))))] : va_W)) s) s.heap H locs → lv_has ls 4 [(3, .int (nI (i4 + 1))), (2, .int (nI g4)), (0, .ref (mo 0)), (1, .int (nI a))] → W p l e (q_R 4 95) s m ([.ref (mo 0), .int (nI a)] : List Value).toArray below meth c H locs 0 0 (q_G C below (wO C mo (evm kp ty tw pl fl tl) v o ++ ([(mo 1, .inl (C.2.2.1, 82, .inr (.inl (mB b))))] : va_W)) (fun r w => ∃ v1 o1, r = some (.int (nI (bstN (idxT b) a 3))) ∧ w = wO C mo (evm kp ty tw pl fl tl) v1 o1 ++ ([(mo 1, .inl (C.2.2.1, 82, .inr (.inl (mB b))))] : va_W)) ([.ref (mo 0), .int (nI a)] : List Value).toArray s) (F0 m 4 ls []) := by
    intro n4
    induction n4 with
    | zero => intro i4 g4 v4 o4 q1 q2; exact absurd q2 (by omega)
    | succ n4 ih4 =>
      intro i4 g4 v4 o4 hi4 hn4 hG4 hg4 H locs ls hP hD hS hl
      refine lv_iload_n hx hb dX5_greatest_4 rfl (lv_at hl 0 rfl) ?_
      refine lv_iconst (v := nI 4) hx hb dX5_greatest_5 (by decide) ?_
      refine lv_icmp_ge (tgt := 45) hx hb dX5_greatest_6 (by decide) (fun c6 => ?_) (fun c6 => ?_)
      · have c6 : 4 ≤ (i4 + 1) := q_nge (by omega) (by omega) c6
        refine lv_iload_n hx hb dX5_greatest_45 rfl (lv_at hl 1 rfl) ?_
        exact q_iret hx hb hr hlocks (w1 := wO C mo (evm kp ty tw pl fl tl) v4 o4 ++ ([(mo 1, .inl (C.2.2.1, 82, .inr (.inl (mB b))))] : va_W)) hP hS rfl dX5_greatest_46 (⟨_, _, by rw [show (3 : Nat) = i4 by omega, hG4], rfl⟩)
      · have c6 : (i4 + 1) < 4 := q_nge' (by omega) (by omega) c6
        refine lv_aload_n hx hb dX5_greatest_9 rfl (lv_at hl 2 rfl) ?_
        refine lv_aload_n hx hb dX5_greatest_10 rfl (lv_at hl 2 rfl) ?_
        refine va_get (ci := 5) (v := .ref (mo 1)) (C := RX5) (T := TX5) (N := 13) hx hb hts hin5 hown hK.1 hP 0 rfl rfl 0 (by decide) hf7 (fun _ h9 => h9) rfl dX5_greatest_11 ?_
        refine lv_iload_n hx hb dX5_greatest_14 rfl (lv_at hl 3 rfl) ?_
        refine lv_iload_n hx hb dX5_greatest_15 rfl (lv_at hl 0 rfl) ?_
        refine q_V (As := [.ref (mo 1), .int (nI a), .int (nI (i4 + 1))]) (rest := []) ⟨hx, hb, hml, hown, hts⟩ (c_X5_indexOf l C mo (evm kp ty tw pl fl tl) v4 o4 (mo 1) b a (i4 + 1) hB (by omega) (by omega)) (cwV 3 hts gX5_greatest_X5_indexOf rfl rfl rfl (by decide +kernel) ⟨Nat.le_of_ble_eq_true rfl, Nat.le_of_ble_eq_true rfl⟩) hK hP hD hS hA [0, 1, 2, 3] (by decide) rfl 0 rfl rfl rfl rfl hl.1 rfl (Nat.le_of_ble_eq_true rfl) dX5_greatest_16 (Nat.zero_le _) (Nat.zero_le _) (fun r w1 H locs hQ hP hD hS => ?_)
        obtain ⟨rfl, rfl⟩ := hQ
        have hP : va_P C.1 vwCl (wO C mo (evm kp ty tw pl fl tl) (valsN b a (i4 + 1) (bs b 1)) (ownsN b a (i4 + 1) o4 (bs b 1)) ++ ([(mo 1, .inl (C.2.2.1, 82, .inr (.inl (mB b))))] : va_W)) H := hP
        have hD : va_D (q_A (wO C mo (evm kp ty tw pl fl tl) v o ++ ([(mo 1, .inl (C.2.2.1, 82, .inr (.inl (mB b))))] : va_W)) s) (wO C mo (evm kp ty tw pl fl tl) (valsN b a (i4 + 1) (bs b 1)) (ownsN b a (i4 + 1) o4 (bs b 1)) ++ ([(mo 1, .inl (C.2.2.1, 82, .inr (.inl (mB b))))] : va_W)) := hD
        refine W.eq (g2 := F0 m 19 ls [.long (lN (idxN b a (i4 + 1)))]) rfl ?_
        refine lv_aload_n hx hb dX5_greatest_19 rfl (lv_at hl 2 rfl) ?_
        refine lv_aload_n hx hb dX5_greatest_20 rfl (lv_at hl 2 rfl) ?_
        refine va_get (ci := 5) (v := .ref (mo 1)) (C := RX5) (T := TX5) (N := 13) hx hb hts hin5 hown hK.1 hP 0 rfl rfl 0 (by decide) hf7 (fun _ h9 => h9) rfl dX5_greatest_21 ?_
        refine lv_iload_n hx hb dX5_greatest_24 rfl (lv_at hl 3 rfl) ?_
        refine lv_iload_n hx hb dX5_greatest_25 rfl (lv_at hl 1 rfl) ?_
        refine q_V (As := [.ref (mo 1), .int (nI a), .int (nI g4)]) (rest := [.long (lN (idxN b a (i4 + 1)))]) ⟨hx, hb, hml, hown, hts⟩ (c_X5_indexOf l C mo (evm kp ty tw pl fl tl) (valsN b a (i4 + 1) (bs b 1)) (ownsN b a (i4 + 1) o4 (bs b 1)) (mo 1) b a g4 hB (by omega) (by omega)) (cwV 3 hts gX5_greatest_X5_indexOf rfl rfl rfl (by decide +kernel) ⟨Nat.le_of_ble_eq_true rfl, Nat.le_of_ble_eq_true rfl⟩) hK hP hD hS hA [0, 1, 2, 3] (by decide) rfl 0 rfl rfl rfl rfl hl.1 rfl (Nat.le_of_ble_eq_true rfl) dX5_greatest_26 (Nat.zero_le _) (Nat.zero_le _) (fun r w1 H locs hQ hP hD hS => ?_)
        obtain ⟨rfl, rfl⟩ := hQ
        have hP : va_P C.1 vwCl (wO C mo (evm kp ty tw pl fl tl) (valsN b a g4 (bs b 1)) (ownsN b a g4 (ownsN b a (i4 + 1) o4 (bs b 1)) (bs b 1)) ++ ([(mo 1, .inl (C.2.2.1, 82, .inr (.inl (mB b))))] : va_W)) H := hP
        have hD : va_D (q_A (wO C mo (evm kp ty tw pl fl tl) v o ++ ([(mo 1, .inl (C.2.2.1, 82, .inr (.inl (mB b))))] : va_W)) s) (wO C mo (evm kp ty tw pl fl tl) (valsN b a g4 (bs b 1)) (ownsN b a g4 (ownsN b a (i4 + 1) o4 (bs b 1)) (bs b 1)) ++ ([(mo 1, .inl (C.2.2.1, 82, .inr (.inl (mB b))))] : va_W)) := hD
        refine W.eq (g2 := F0 m 29 ls [.long (lN (idxN b a g4)), .long (lN (idxN b a (i4 + 1)))]) rfl ?_
        have q8 := idxN_le hB ha (h := i4 + 1) (by omega)
        have q9 := idxN_le hB ha (h := g4) (by omega)
        refine W.lcmp hx hb dX5_greatest_29 ?_
        refine lv_if_le (tgt := 37) hx hb dX5_greatest_30 (by decide) (fun c30 => ?_) (fun c30 => ?_)
        · have c30 : (idxN b a (i4 + 1)) ≤ (idxN b a g4) := q_Lle (by omega) (by omega) c30
          refine lv_iload_n hx hb dX5_greatest_37 rfl (lv_at hl 1 rfl) ?_
          refine lv_istore_n (lv' := [(2, .int (nI g4)), (3, .int (nI (i4 + 1))), (0, .ref (mo 0)), (1, .int (nI a))]) hx hb dX5_greatest_38 rfl hl (by decide) rfl (fun ls hl => ?_)
          refine lv_iinc (v := nI (i4 + 1 + 1)) (lv' := [(3, .int (nI (i4 + 1 + 1))), (2, .int (nI g4)), (0, .ref (mo 0)), (1, .int (nI a))]) hx hb dX5_greatest_39 hl (k := 1) rfl (nI_1 _) (by decide) rfl (fun ls hl => ?_)
          refine lv_goto (tgt := 4) hx hb dX5_greatest_42 (by decide) ?_
          exact ih4 (i4 + 1) g4 (valsN b a g4 (bs b 1)) (ownsN b a g4 (ownsN b a (i4 + 1) o4 (bs b 1)) (bs b 1)) (by omega) (by omega) (by show (if idxT b (4 * a + bstN (idxT b) a i4) < idxT b (4 * a + (i4 + 1)) then _ else _) = _; rw [hG4, if_neg (by rw [idxT_at b a (by omega), idxT_at b a (by omega)]; omega)]) (by omega) _ _ ls hP hD hS (lv_sub hl [0, 1, 2, 3] rfl)
        · have c30 : (idxN b a g4) < (idxN b a (i4 + 1)) := q_Lle' (by omega) (by omega) c30
          refine lv_iload_n hx hb dX5_greatest_33 rfl (lv_at hl 0 rfl) ?_
          refine lv_goto (tgt := 38) hx hb dX5_greatest_34 (by decide) ?_
          refine lv_istore_n (lv' := [(2, .int (nI (i4 + 1))), (3, .int (nI (i4 + 1))), (0, .ref (mo 0)), (1, .int (nI a))]) hx hb dX5_greatest_38 rfl hl (by decide) rfl (fun ls hl => ?_)
          refine lv_iinc (v := nI (i4 + 1 + 1)) (lv' := [(3, .int (nI (i4 + 1 + 1))), (2, .int (nI (i4 + 1))), (0, .ref (mo 0)), (1, .int (nI a))]) hx hb dX5_greatest_39 hl (k := 1) rfl (nI_1 _) (by decide) rfl (fun ls hl => ?_)
          refine lv_goto (tgt := 4) hx hb dX5_greatest_42 (by decide) ?_
          exact ih4 (i4 + 1) (i4 + 1) (valsN b a g4 (bs b 1)) (ownsN b a g4 (ownsN b a (i4 + 1) o4 (bs b 1)) (bs b 1)) (by omega) (by omega) (by show (if idxT b (4 * a + bstN (idxT b) a i4) < idxT b (4 * a + (i4 + 1)) then _ else _) = _; rw [hG4, if_pos (by rw [idxT_at b a (by omega), idxT_at b a (by omega)]; omega)]) (by omega) _ _ ls hP hD hS (lv_sub hl [0, 1, 2, 3] rfl)
  exact K4 (3 + 1 - 0) 0 0 v o (by omega) (by omega) rfl (by omega) _ _ ls hP hD hS (lv_sub hl [0, 1, 2, 3] rfl)
set_option maxHeartbeats 4000000 in
set_option maxRecDepth 100000 in
theorem c_X5_reached (l : Launch) (C : q_C) (mo : Nat → Nat) (kp ty tw pl fl tl : Int32) (v o : Nat → Nat) (b : Bd) (a h : Nat) (hB : OkB b) (ha : a < 4) (hh : h < 4) : q_M C l yX5_reached wsX5_reached 1 23 [.ref (mo 0), .int (nI a), .int (nI h)] (wO C mo (evm kp ty tw pl fl tl) v o ++ ([(mo 1, .inl (C.2.2.1, 82, .inr (.inl (mB b))))] : va_W)) (fun r w => r = some (.int (nI (rcN b a h 3))) ∧ w = wO C mo (evm kp ty tw pl fl tl) v o ++ ([(mo 1, .inl (C.2.2.1, 82, .inr (.inl (mB b))))] : va_W)) := by
  have hRC := rcN_lt hB ha hh 3
  have hp0 := pow0 _ hh
  refine q_head (cc := cX5_reached) (maxL := 6) (ret := (some .int)) (by decide +kernel) rfl (Nat.le_of_ble_eq_true rfl) ?_
  intro p e s m below meth c hx hb hr hlocks hml hown hts hK hP hD hS hA ls hl
  have hl : lv_has ls 6 [(0, .ref (mo 0)), (1, .int (nI a)), (2, .int (nI h))] := hl
  have hf7 := hts (.fieldLink RX5 7 "RestedArmsModel" "now" "[J") (by decide +kernel)
  have hin5 : ∀ w ∈ u_ws RX5 TX5 13, w ∈ wsX5_reached := by decide +kernel
  refine lv_iconst (v := nI 1) hx hb dX5_reached_0 (by decide) ?_
  refine lv_iload_n hx hb dX5_reached_1 rfl (lv_at hl 2 rfl) ?_
  refine lv_ishl hx hb dX5_reached_2 ?_
  refine q_ti (y := nI (2 ^ h)) (shl1 _ hh) ?_
  refine lv_istore_n (lv' := [(3, .int (nI (2 ^ h))), (0, .ref (mo 0)), (1, .int (nI a)), (2, .int (nI h))]) hx hb dX5_reached_3 rfl hl (by decide) rfl (fun ls hl => ?_)
  refine lv_iconst (v := nI 0) hx hb dX5_reached_4 (by decide) ?_
  refine lv_istore (lv' := [(4, .int (nI 0)), (3, .int (nI (2 ^ h))), (0, .ref (mo 0)), (1, .int (nI a)), (2, .int (nI h))]) hx hb dX5_reached_5 hl (by decide) rfl (fun ls hl => ?_)
  have K7 : ∀ (n7 i7 : Nat), ∀ (d7 : Nat) (m7 : Nat), i7 ≤ 17 → 17 + 1 ≤ i7 + n7 → (i7 ≤ d7) → (d7 ≤ m7) → (m7 < 16) → (subM (2 ^ h) m7) → (subM m7 (rcN b a h 3)) → (d7 = m7 → clsM b a m7) → ∀ (H : Heap) (locs : List Loc) (ls : Array Slot), va_P C.1 vwCl (wO C mo (evm kp ty tw pl fl tl) v o ++ ([(mo 1, .inl (C.2.2.1, 82, .inr (.inl (mB b))))] : va_W)) H → va_D (q_A (wO C mo (evm kp ty tw pl fl tl) v o ++ ([(mo 1, .inl (C.2.2.1, 82, .inr (.inl (mB b))))] : va_W)) s) (wO C mo (evm kp ty tw pl fl tl) v o ++ ([(mo 1, .inl (C.2.2.1, 82, .inr (.inl (mB b))))] : va_W)) → va_S (q_A (wO C mo (evm kp ty tw pl fl tl) v o ++ ([(mo 1, .inl (C.2.2.1, 82, .inr (.inl (mB b))))] : va_W)) s) s.heap H locs → lv_has ls 6 [(4, .int (nI d7)), (3, .int (nI m7)), (0, .ref (mo 0)), (1, .int (nI a)), (2, .int (nI h))] → W p l e (q_R 1 23) s m ([.ref (mo 0), .int (nI a), .int (nI h)] : List Value).toArray below meth c H locs 0 0 (q_G C below (wO C mo (evm kp ty tw pl fl tl) v o ++ ([(mo 1, .inl (C.2.2.1, 82, .inr (.inl (mB b))))] : va_W)) (fun r w => r = some (.int (nI (rcN b a h 3))) ∧ w = wO C mo (evm kp ty tw pl fl tl) v o ++ ([(mo 1, .inl (C.2.2.1, 82, .inr (.inl (mB b))))] : va_W)) ([.ref (mo 0), .int (nI a), .int (nI h)] : List Value).toArray s) (F0 m 7 ls []) := by
    intro n7
    induction n7 with
    | zero => intro i7 d7 m7 q1 q2; exact absurd q2 (by omega)
    | succ n7 ih7 =>
      intro i7 d7 m7 hi7 hn7 hd7 hdm7 hm7 hS7 hY7 hC7 H locs ls hP hD hS hl
      refine lv_iload hx hb dX5_reached_7 (lv_at hl 0 rfl) ?_
      refine lv_iload_n hx hb dX5_reached_9 rfl (lv_at hl 1 rfl) ?_
      refine lv_icmp_eq (tgt := 115) hx hb dX5_reached_10 (by decide) (fun c10 => ?_) (fun c10 => ?_)
      · have c10 : d7 = m7 := q_neq (by omega) (by omega) c10
        refine lv_iload_n hx hb dX5_reached_115 rfl (lv_at hl 1 rfl) ?_
        exact q_iret hx hb hr hlocks (w1 := wO C mo (evm kp ty tw pl fl tl) v o ++ ([(mo 1, .inl (C.2.2.1, 82, .inr (.inl (mB b))))] : va_W)) hP hS rfl dX5_reached_116 (⟨by rw [rcN_eq hB ha hh hS7 (hC7 c10) hY7], rfl⟩)
      · have c10 : d7 ≠ m7 := q_neq' (by omega) (by omega) c10
        refine lv_iload_n hx hb dX5_reached_13 rfl (lv_at hl 1 rfl) ?_
        refine lv_istore (lv' := [(4, .int (nI m7)), (3, .int (nI m7)), (0, .ref (mo 0)), (1, .int (nI a)), (2, .int (nI h))]) hx hb dX5_reached_14 hl (by decide) rfl (fun ls hl => ?_)
        refine lv_iconst (v := nI 0) hx hb dX5_reached_16 (by decide) ?_
        refine lv_istore (lv' := [(5, .int (nI 0)), (4, .int (nI m7)), (3, .int (nI m7)), (0, .ref (mo 0)), (1, .int (nI a)), (2, .int (nI h))]) hx hb dX5_reached_17 hl (by decide) rfl (fun ls hl => ?_)
        have K19 : ∀ (n19 i19 : Nat), ∀ (m19 : Nat), i19 ≤ 4 → 4 + 1 ≤ i19 + n19 → (m19 < 16) → (subM m7 m19) → (subM m19 (rcN b a h 3)) → (∀ t, t < i19 → m7.testBit t = true → subM (nxN b (4 * a + t)) m19) → ∀ (H : Heap) (locs : List Loc) (ls : Array Slot), va_P C.1 vwCl (wO C mo (evm kp ty tw pl fl tl) v o ++ ([(mo 1, .inl (C.2.2.1, 82, .inr (.inl (mB b))))] : va_W)) H → va_D (q_A (wO C mo (evm kp ty tw pl fl tl) v o ++ ([(mo 1, .inl (C.2.2.1, 82, .inr (.inl (mB b))))] : va_W)) s) (wO C mo (evm kp ty tw pl fl tl) v o ++ ([(mo 1, .inl (C.2.2.1, 82, .inr (.inl (mB b))))] : va_W)) → va_S (q_A (wO C mo (evm kp ty tw pl fl tl) v o ++ ([(mo 1, .inl (C.2.2.1, 82, .inr (.inl (mB b))))] : va_W)) s) s.heap H locs → lv_has ls 6 [(5, .int (nI i19)), (4, .int (nI m7)), (3, .int (nI m19)), (0, .ref (mo 0)), (1, .int (nI a)), (2, .int (nI h))] → W p l e (q_R 1 23) s m ([.ref (mo 0), .int (nI a), .int (nI h)] : List Value).toArray below meth c H locs 0 0 (q_G C below (wO C mo (evm kp ty tw pl fl tl) v o ++ ([(mo 1, .inl (C.2.2.1, 82, .inr (.inl (mB b))))] : va_W)) (fun r w => r = some (.int (nI (rcN b a h 3))) ∧ w = wO C mo (evm kp ty tw pl fl tl) v o ++ ([(mo 1, .inl (C.2.2.1, 82, .inr (.inl (mB b))))] : va_W)) ([.ref (mo 0), .int (nI a), .int (nI h)] : List Value).toArray s) (F0 m 19 ls []) := by
          intro n19
          induction n19 with
          | zero => intro i19 m19 q1 q2; exact absurd q2 (by omega)
          | succ n19 ih19 =>
            intro i19 m19 hi19 hn19 hm19 hY19 hZ19 hA19 H locs ls hP hD hS hl
            refine lv_iload hx hb dX5_reached_19 (lv_at hl 0 rfl) ?_
            refine lv_iconst (v := nI 4) hx hb dX5_reached_21 (by decide) ?_
            refine lv_icmp_ge (tgt := 112) hx hb dX5_reached_22 (by decide) (fun c22 => ?_) (fun c22 => ?_)
            · have c22 : 4 ≤ i19 := q_nge (by omega) (by omega) c22
              have h74 := le16 _ hm7 _ hm19 hY19
              refine lv_goto (tgt := 7) hx hb dX5_reached_112 (by decide) ?_
              exact ih7 (i7 + 1) m7 m19 (by omega) (by omega) (by omega) h74 hm19 (subM_tr hS7 hY19) hZ19 (fun q => by rw [← q] at hA19 ⊢; exact fun t ht hbu => hA19 t (by omega) hbu) _ _ ls hP hD hS (lv_sub hl [1, 2, 3, 4, 5] rfl)
            · have c22 : i19 < 4 := q_nge' (by omega) (by omega) c22
              refine lv_iload hx hb dX5_reached_25 (lv_at hl 1 rfl) ?_
              refine lv_iload hx hb dX5_reached_27 (lv_at hl 0 rfl) ?_
              refine lv_ishr hx hb dX5_reached_29 ?_
              refine lv_iconst (v := nI 1) hx hb dX5_reached_30 (by decide) ?_
              refine lv_iand hx hb dX5_reached_31 ?_
              have hbt : m7.testBit i19 = true ∨ m7.testBit i19 = false := by cases m7.testBit i19 <;> simp
              rcases hbt with hbt | hbt
              · refine q_ti (y := nI 1) (by rw [bit16r _ hm7 _ (by omega), if_pos hbt]) ?_
                refine lv_iconst (v := nI 1) hx hb dX5_reached_32 (by decide) ?_
                refine lv_icmp_ne (tgt := 106) hx hb dX5_reached_33 (by decide) (fun c => absurd c (by decide)) (fun _ => ?_)
                obtain ⟨f1, f2, f3, f4⟩ := hB.1 (4 * a + i19) (by omega)
                have hnx := nxN_lt hB (k := (4 * a + i19)) (by omega)
                refine lv_iload_n hx hb dX5_reached_36 rfl (lv_at hl 2 rfl) ?_
                refine lv_aload_n hx hb dX5_reached_37 rfl (lv_at hl 3 rfl) ?_
                refine va_get (ci := 5) (v := .ref (mo 1)) (C := RX5) (T := TX5) (N := 13) hx hb hts hin5 hown hK.1 hP 0 rfl rfl 0 (by decide) hf7 (fun _ h9 => h9) rfl dX5_reached_38 ?_
                refine lv_iload_n hx hb dX5_reached_41 rfl (lv_at hl 4 rfl) ?_
                refine lv_iload hx hb dX5_reached_42 (lv_at hl 0 rfl) ?_
                refine lv_iconst (v := nI 3) hx hb dX5_reached_44 (by decide) ?_
                refine q_S (As := [.ref (mo 1), .int (nI a), .int (nI i19), .int (nI 3)]) (rest := [.int (nI m19)]) ⟨hx, hb, hml, hown, hts⟩ (c_X5_of l C (mo 1) b a i19 3 (by omega) (by omega) (by omega)) (va_cwS 4 hts gX5_reached_X5_of rfl rfl rfl (by decide +kernel) ⟨Nat.le_of_ble_eq_true rfl, Nat.le_of_ble_eq_true rfl⟩) hK hP hD hS hA [3] (by decide) rfl rfl hl.1 rfl (Nat.le_of_ble_eq_true rfl) dX5_reached_45 (Nat.zero_le _) (Nat.zero_le _) (fun r w1 H locs hQ hP hD hS => ?_)
                obtain ⟨rfl, rfl⟩ := hQ
                have hP : va_P C.1 vwCl (wO C mo (evm kp ty tw pl fl tl) v o ++ ([(mo 1, .inl (C.2.2.1, 82, .inr (.inl (mB b))))] : va_W)) H := hP
                have hD : va_D (q_A (wO C mo (evm kp ty tw pl fl tl) v o ++ ([(mo 1, .inl (C.2.2.1, 82, .inr (.inl (mB b))))] : va_W)) s) (wO C mo (evm kp ty tw pl fl tl) v o ++ ([(mo 1, .inl (C.2.2.1, 82, .inr (.inl (mB b))))] : va_W)) := hD
                refine W.eq (g2 := F0 m 48 ls [.int (nI (bc b (4 * a + i19))), .int (nI m19)]) rfl ?_
                refine lv_if_le (tgt := 67) hx hb dX5_reached_48 (by decide) (fun c48 => ?_) (fun c48 => ?_)
                · have c48 : (bc b (4 * a + i19)) ≤ 0 := q_nle0 (by omega) (by omega) c48
                  refine lv_iconst (v := nI 0) hx hb dX5_reached_67 (by decide) ?_
                  refine lv_ior hx hb dX5_reached_68 ?_
                  refine q_ti (y := nI (m19 ||| 0)) (nI_or16 _ hm19 _ (by decide)) ?_
                  have hm20 : m19 ||| 0 < 16 := or16 _ hm19 _ (by decide)
                  refine lv_istore_n (lv' := [(3, .int (nI (m19 ||| 0))), (5, .int (nI i19)), (4, .int (nI m7)), (0, .ref (mo 0)), (1, .int (nI a)), (2, .int (nI h))]) hx hb dX5_reached_69 rfl hl (by decide) rfl (fun ls hl => ?_)
                  refine lv_iload_n hx hb dX5_reached_70 rfl (lv_at hl 0 rfl) ?_
                  refine lv_aload_n hx hb dX5_reached_71 rfl (lv_at hl 3 rfl) ?_
                  refine va_get (ci := 5) (v := .ref (mo 1)) (C := RX5) (T := TX5) (N := 13) hx hb hts hin5 hown hK.1 hP 0 rfl rfl 0 (by decide) hf7 (fun _ h9 => h9) rfl dX5_reached_72 ?_
                  refine lv_iload_n hx hb dX5_reached_75 rfl (lv_at hl 4 rfl) ?_
                  refine lv_iload hx hb dX5_reached_76 (lv_at hl 1 rfl) ?_
                  refine lv_iconst (v := nI 3) hx hb dX5_reached_78 (by decide) ?_
                  refine q_S (As := [.ref (mo 1), .int (nI a), .int (nI i19), .int (nI 3)]) (rest := [.int (nI (m19 ||| 0))]) ⟨hx, hb, hml, hown, hts⟩ (c_X5_of l C (mo 1) b a i19 3 (by omega) (by omega) (by omega)) (va_cwS 4 hts gX5_reached_X5_of rfl rfl rfl (by decide +kernel) ⟨Nat.le_of_ble_eq_true rfl, Nat.le_of_ble_eq_true rfl⟩) hK hP hD hS hA [3] (by decide) rfl rfl hl.1 rfl (Nat.le_of_ble_eq_true rfl) dX5_reached_79 (Nat.zero_le _) (Nat.zero_le _) (fun r w1 H locs hQ hP hD hS => ?_)
                  obtain ⟨rfl, rfl⟩ := hQ
                  have hP : va_P C.1 vwCl (wO C mo (evm kp ty tw pl fl tl) v o ++ ([(mo 1, .inl (C.2.2.1, 82, .inr (.inl (mB b))))] : va_W)) H := hP
                  have hD : va_D (q_A (wO C mo (evm kp ty tw pl fl tl) v o ++ ([(mo 1, .inl (C.2.2.1, 82, .inr (.inl (mB b))))] : va_W)) s) (wO C mo (evm kp ty tw pl fl tl) v o ++ ([(mo 1, .inl (C.2.2.1, 82, .inr (.inl (mB b))))] : va_W)) := hD
                  refine W.eq (g2 := F0 m 82 ls [.int (nI (bc b (4 * a + i19))), .int (nI (m19 ||| 0))]) rfl ?_
                  refine lv_bipush (v := nI 8) hx hb dX5_reached_82 (by decide) ?_
                  refine lv_icmp_ge (tgt := 103) hx hb dX5_reached_84 (by decide) (fun c84 => ?_) (fun c84 => ?_)
                  · have c84 : 8 ≤ (bc b (4 * a + i19)) := q_nge (by omega) (by omega) c84
                    refine lv_iconst (v := nI 0) hx hb dX5_reached_103 (by decide) ?_
                    refine lv_ior hx hb dX5_reached_104 ?_
                    refine q_ti (y := nI (m19 ||| nxN b (4 * a + i19))) ?_ ?_
                    · rw [nI_or16 _ hm20 _ (by decide), Nat.or_assoc, nxN, if_neg (by omega), if_neg (by omega)]
                    refine lv_istore_n (lv' := [(3, .int (nI (m19 ||| nxN b (4 * a + i19)))), (5, .int (nI i19)), (4, .int (nI m7)), (0, .ref (mo 0)), (1, .int (nI a)), (2, .int (nI h))]) hx hb dX5_reached_105 rfl hl (by decide) rfl (fun ls hl => ?_)
                    refine lv_iinc (v := nI (i19 + 1)) (lv' := [(5, .int (nI (i19 + 1))), (3, .int (nI (m19 ||| nxN b (4 * a + i19)))), (4, .int (nI m7)), (0, .ref (mo 0)), (1, .int (nI a)), (2, .int (nI h))]) hx hb dX5_reached_106 hl (k := 1) rfl (nI_1 _) (by decide) rfl (fun ls hl => ?_)
                    refine lv_goto (tgt := 19) hx hb dX5_reached_109 (by decide) ?_
                    exact ih19 (i19 + 1) (m19 ||| nxN b (4 * a + i19)) (by omega) (by omega) (or16 _ hm19 _ hnx) (subM_tr hY19 (subM_l _ _)) (subM_or hZ19 (rcN_cls hB ha hh i19 (by omega) (subM_t hY7 hbt))) (fun t ht hbu => by
                          by_cases q : t = i19
                          · rw [q]; exact subM_r _ _
                          · exact subM_tr (hA19 t (by omega) hbu) (subM_l _ _)) _ _ ls hP hD hS (lv_sub hl [0, 2, 1, 3, 4, 5] rfl)
                  · have c84 : (bc b (4 * a + i19)) < 8 := q_nge' (by omega) (by omega) c84
                    refine lv_iconst (v := nI 1) hx hb dX5_reached_87 (by decide) ?_
                    refine lv_aload_n hx hb dX5_reached_88 rfl (lv_at hl 3 rfl) ?_
                    refine va_get (ci := 5) (v := .ref (mo 1)) (C := RX5) (T := TX5) (N := 13) hx hb hts hin5 hown hK.1 hP 0 rfl rfl 0 (by decide) hf7 (fun _ h9 => h9) rfl dX5_reached_89 ?_
                    refine lv_iload_n hx hb dX5_reached_92 rfl (lv_at hl 4 rfl) ?_
                    refine lv_iload hx hb dX5_reached_93 (lv_at hl 1 rfl) ?_
                    refine lv_iconst (v := nI 2) hx hb dX5_reached_95 (by decide) ?_
                    refine q_S (As := [.ref (mo 1), .int (nI a), .int (nI i19), .int (nI 2)]) (rest := [.int (nI 1), .int (nI (m19 ||| 0))]) ⟨hx, hb, hml, hown, hts⟩ (c_X5_of l C (mo 1) b a i19 2 (by omega) (by omega) (by omega)) (va_cwS 4 hts gX5_reached_X5_of rfl rfl rfl (by decide +kernel) ⟨Nat.le_of_ble_eq_true rfl, Nat.le_of_ble_eq_true rfl⟩) hK hP hD hS hA [3] (by decide) rfl rfl hl.1 rfl (Nat.le_of_ble_eq_true rfl) dX5_reached_96 (Nat.zero_le _) (Nat.zero_le _) (fun r w1 H locs hQ hP hD hS => ?_)
                    obtain ⟨rfl, rfl⟩ := hQ
                    have hP : va_P C.1 vwCl (wO C mo (evm kp ty tw pl fl tl) v o ++ ([(mo 1, .inl (C.2.2.1, 82, .inr (.inl (mB b))))] : va_W)) H := hP
                    have hD : va_D (q_A (wO C mo (evm kp ty tw pl fl tl) v o ++ ([(mo 1, .inl (C.2.2.1, 82, .inr (.inl (mB b))))] : va_W)) s) (wO C mo (evm kp ty tw pl fl tl) v o ++ ([(mo 1, .inl (C.2.2.1, 82, .inr (.inl (mB b))))] : va_W)) := hD
                    refine W.eq (g2 := F0 m 99 ls [.int (nI (bb b (4 * a + i19))), .int (nI 1), .int (nI (m19 ||| 0))]) rfl ?_
                    refine lv_ishl hx hb dX5_reached_99 ?_
                    refine q_ti (y := nI (2 ^ bb b (4 * a + i19))) (shl1 _ f3) ?_
                    refine lv_goto (tgt := 104) hx hb dX5_reached_100 (by decide) ?_
                    refine lv_ior hx hb dX5_reached_104 ?_
                    refine q_ti (y := nI (m19 ||| nxN b (4 * a + i19))) ?_ ?_
                    · rw [nI_or16 _ hm20 _ (pow4 _ f3), Nat.or_assoc, nxN, if_neg (by omega), if_pos c84]
                    refine lv_istore_n (lv' := [(3, .int (nI (m19 ||| nxN b (4 * a + i19)))), (5, .int (nI i19)), (4, .int (nI m7)), (0, .ref (mo 0)), (1, .int (nI a)), (2, .int (nI h))]) hx hb dX5_reached_105 rfl hl (by decide) rfl (fun ls hl => ?_)
                    refine lv_iinc (v := nI (i19 + 1)) (lv' := [(5, .int (nI (i19 + 1))), (3, .int (nI (m19 ||| nxN b (4 * a + i19)))), (4, .int (nI m7)), (0, .ref (mo 0)), (1, .int (nI a)), (2, .int (nI h))]) hx hb dX5_reached_106 hl (k := 1) rfl (nI_1 _) (by decide) rfl (fun ls hl => ?_)
                    refine lv_goto (tgt := 19) hx hb dX5_reached_109 (by decide) ?_
                    exact ih19 (i19 + 1) (m19 ||| nxN b (4 * a + i19)) (by omega) (by omega) (or16 _ hm19 _ hnx) (subM_tr hY19 (subM_l _ _)) (subM_or hZ19 (rcN_cls hB ha hh i19 (by omega) (subM_t hY7 hbt))) (fun t ht hbu => by
                          by_cases q : t = i19
                          · rw [q]; exact subM_r _ _
                          · exact subM_tr (hA19 t (by omega) hbu) (subM_l _ _)) _ _ ls hP hD hS (lv_sub hl [0, 2, 1, 3, 4, 5] rfl)
                · have c48 : 0 < (bc b (4 * a + i19)) := q_nle0' (by omega) (by omega) c48
                  refine lv_iconst (v := nI 1) hx hb dX5_reached_51 (by decide) ?_
                  refine lv_aload_n hx hb dX5_reached_52 rfl (lv_at hl 3 rfl) ?_
                  refine va_get (ci := 5) (v := .ref (mo 1)) (C := RX5) (T := TX5) (N := 13) hx hb hts hin5 hown hK.1 hP 0 rfl rfl 0 (by decide) hf7 (fun _ h9 => h9) rfl dX5_reached_53 ?_
                  refine lv_iload_n hx hb dX5_reached_56 rfl (lv_at hl 4 rfl) ?_
                  refine lv_iload hx hb dX5_reached_57 (lv_at hl 0 rfl) ?_
                  refine lv_iconst (v := nI 1) hx hb dX5_reached_59 (by decide) ?_
                  refine q_S (As := [.ref (mo 1), .int (nI a), .int (nI i19), .int (nI 1)]) (rest := [.int (nI 1), .int (nI m19)]) ⟨hx, hb, hml, hown, hts⟩ (c_X5_of l C (mo 1) b a i19 1 (by omega) (by omega) (by omega)) (va_cwS 4 hts gX5_reached_X5_of rfl rfl rfl (by decide +kernel) ⟨Nat.le_of_ble_eq_true rfl, Nat.le_of_ble_eq_true rfl⟩) hK hP hD hS hA [3] (by decide) rfl rfl hl.1 rfl (Nat.le_of_ble_eq_true rfl) dX5_reached_60 (Nat.zero_le _) (Nat.zero_le _) (fun r w1 H locs hQ hP hD hS => ?_)
                  obtain ⟨rfl, rfl⟩ := hQ
                  have hP : va_P C.1 vwCl (wO C mo (evm kp ty tw pl fl tl) v o ++ ([(mo 1, .inl (C.2.2.1, 82, .inr (.inl (mB b))))] : va_W)) H := hP
                  have hD : va_D (q_A (wO C mo (evm kp ty tw pl fl tl) v o ++ ([(mo 1, .inl (C.2.2.1, 82, .inr (.inl (mB b))))] : va_W)) s) (wO C mo (evm kp ty tw pl fl tl) v o ++ ([(mo 1, .inl (C.2.2.1, 82, .inr (.inl (mB b))))] : va_W)) := hD
                  refine W.eq (g2 := F0 m 63 ls [.int (nI (bo b (4 * a + i19))), .int (nI 1), .int (nI m19)]) rfl ?_
                  refine lv_ishl hx hb dX5_reached_63 ?_
                  refine q_ti (y := nI (2 ^ bo b (4 * a + i19))) (shl1 _ f2) ?_
                  refine lv_goto (tgt := 68) hx hb dX5_reached_64 (by decide) ?_
                  refine lv_ior hx hb dX5_reached_68 ?_
                  refine q_ti (y := nI (m19 ||| 2 ^ bo b (4 * a + i19))) (nI_or16 _ hm19 _ (pow4 _ f2)) ?_
                  have hm20 : m19 ||| 2 ^ bo b (4 * a + i19) < 16 := or16 _ hm19 _ (pow4 _ f2)
                  refine lv_istore_n (lv' := [(3, .int (nI (m19 ||| 2 ^ bo b (4 * a + i19)))), (5, .int (nI i19)), (4, .int (nI m7)), (0, .ref (mo 0)), (1, .int (nI a)), (2, .int (nI h))]) hx hb dX5_reached_69 rfl hl (by decide) rfl (fun ls hl => ?_)
                  refine lv_iload_n hx hb dX5_reached_70 rfl (lv_at hl 0 rfl) ?_
                  refine lv_aload_n hx hb dX5_reached_71 rfl (lv_at hl 3 rfl) ?_
                  refine va_get (ci := 5) (v := .ref (mo 1)) (C := RX5) (T := TX5) (N := 13) hx hb hts hin5 hown hK.1 hP 0 rfl rfl 0 (by decide) hf7 (fun _ h9 => h9) rfl dX5_reached_72 ?_
                  refine lv_iload_n hx hb dX5_reached_75 rfl (lv_at hl 4 rfl) ?_
                  refine lv_iload hx hb dX5_reached_76 (lv_at hl 1 rfl) ?_
                  refine lv_iconst (v := nI 3) hx hb dX5_reached_78 (by decide) ?_
                  refine q_S (As := [.ref (mo 1), .int (nI a), .int (nI i19), .int (nI 3)]) (rest := [.int (nI (m19 ||| 2 ^ bo b (4 * a + i19)))]) ⟨hx, hb, hml, hown, hts⟩ (c_X5_of l C (mo 1) b a i19 3 (by omega) (by omega) (by omega)) (va_cwS 4 hts gX5_reached_X5_of rfl rfl rfl (by decide +kernel) ⟨Nat.le_of_ble_eq_true rfl, Nat.le_of_ble_eq_true rfl⟩) hK hP hD hS hA [3] (by decide) rfl rfl hl.1 rfl (Nat.le_of_ble_eq_true rfl) dX5_reached_79 (Nat.zero_le _) (Nat.zero_le _) (fun r w1 H locs hQ hP hD hS => ?_)
                  obtain ⟨rfl, rfl⟩ := hQ
                  have hP : va_P C.1 vwCl (wO C mo (evm kp ty tw pl fl tl) v o ++ ([(mo 1, .inl (C.2.2.1, 82, .inr (.inl (mB b))))] : va_W)) H := hP
                  have hD : va_D (q_A (wO C mo (evm kp ty tw pl fl tl) v o ++ ([(mo 1, .inl (C.2.2.1, 82, .inr (.inl (mB b))))] : va_W)) s) (wO C mo (evm kp ty tw pl fl tl) v o ++ ([(mo 1, .inl (C.2.2.1, 82, .inr (.inl (mB b))))] : va_W)) := hD
                  refine W.eq (g2 := F0 m 82 ls [.int (nI (bc b (4 * a + i19))), .int (nI (m19 ||| 2 ^ bo b (4 * a + i19)))]) rfl ?_
                  refine lv_bipush (v := nI 8) hx hb dX5_reached_82 (by decide) ?_
                  refine lv_icmp_ge (tgt := 103) hx hb dX5_reached_84 (by decide) (fun c84 => ?_) (fun c84 => ?_)
                  · have c84 : 8 ≤ (bc b (4 * a + i19)) := q_nge (by omega) (by omega) c84
                    refine lv_iconst (v := nI 0) hx hb dX5_reached_103 (by decide) ?_
                    refine lv_ior hx hb dX5_reached_104 ?_
                    refine q_ti (y := nI (m19 ||| nxN b (4 * a + i19))) ?_ ?_
                    · rw [nI_or16 _ hm20 _ (by decide), Nat.or_assoc, nxN, if_pos c48, if_neg (by omega)]
                    refine lv_istore_n (lv' := [(3, .int (nI (m19 ||| nxN b (4 * a + i19)))), (5, .int (nI i19)), (4, .int (nI m7)), (0, .ref (mo 0)), (1, .int (nI a)), (2, .int (nI h))]) hx hb dX5_reached_105 rfl hl (by decide) rfl (fun ls hl => ?_)
                    refine lv_iinc (v := nI (i19 + 1)) (lv' := [(5, .int (nI (i19 + 1))), (3, .int (nI (m19 ||| nxN b (4 * a + i19)))), (4, .int (nI m7)), (0, .ref (mo 0)), (1, .int (nI a)), (2, .int (nI h))]) hx hb dX5_reached_106 hl (k := 1) rfl (nI_1 _) (by decide) rfl (fun ls hl => ?_)
                    refine lv_goto (tgt := 19) hx hb dX5_reached_109 (by decide) ?_
                    exact ih19 (i19 + 1) (m19 ||| nxN b (4 * a + i19)) (by omega) (by omega) (or16 _ hm19 _ hnx) (subM_tr hY19 (subM_l _ _)) (subM_or hZ19 (rcN_cls hB ha hh i19 (by omega) (subM_t hY7 hbt))) (fun t ht hbu => by
                          by_cases q : t = i19
                          · rw [q]; exact subM_r _ _
                          · exact subM_tr (hA19 t (by omega) hbu) (subM_l _ _)) _ _ ls hP hD hS (lv_sub hl [0, 2, 1, 3, 4, 5] rfl)
                  · have c84 : (bc b (4 * a + i19)) < 8 := q_nge' (by omega) (by omega) c84
                    refine lv_iconst (v := nI 1) hx hb dX5_reached_87 (by decide) ?_
                    refine lv_aload_n hx hb dX5_reached_88 rfl (lv_at hl 3 rfl) ?_
                    refine va_get (ci := 5) (v := .ref (mo 1)) (C := RX5) (T := TX5) (N := 13) hx hb hts hin5 hown hK.1 hP 0 rfl rfl 0 (by decide) hf7 (fun _ h9 => h9) rfl dX5_reached_89 ?_
                    refine lv_iload_n hx hb dX5_reached_92 rfl (lv_at hl 4 rfl) ?_
                    refine lv_iload hx hb dX5_reached_93 (lv_at hl 1 rfl) ?_
                    refine lv_iconst (v := nI 2) hx hb dX5_reached_95 (by decide) ?_
                    refine q_S (As := [.ref (mo 1), .int (nI a), .int (nI i19), .int (nI 2)]) (rest := [.int (nI 1), .int (nI (m19 ||| 2 ^ bo b (4 * a + i19)))]) ⟨hx, hb, hml, hown, hts⟩ (c_X5_of l C (mo 1) b a i19 2 (by omega) (by omega) (by omega)) (va_cwS 4 hts gX5_reached_X5_of rfl rfl rfl (by decide +kernel) ⟨Nat.le_of_ble_eq_true rfl, Nat.le_of_ble_eq_true rfl⟩) hK hP hD hS hA [3] (by decide) rfl rfl hl.1 rfl (Nat.le_of_ble_eq_true rfl) dX5_reached_96 (Nat.zero_le _) (Nat.zero_le _) (fun r w1 H locs hQ hP hD hS => ?_)
                    obtain ⟨rfl, rfl⟩ := hQ
                    have hP : va_P C.1 vwCl (wO C mo (evm kp ty tw pl fl tl) v o ++ ([(mo 1, .inl (C.2.2.1, 82, .inr (.inl (mB b))))] : va_W)) H := hP
                    have hD : va_D (q_A (wO C mo (evm kp ty tw pl fl tl) v o ++ ([(mo 1, .inl (C.2.2.1, 82, .inr (.inl (mB b))))] : va_W)) s) (wO C mo (evm kp ty tw pl fl tl) v o ++ ([(mo 1, .inl (C.2.2.1, 82, .inr (.inl (mB b))))] : va_W)) := hD
                    refine W.eq (g2 := F0 m 99 ls [.int (nI (bb b (4 * a + i19))), .int (nI 1), .int (nI (m19 ||| 2 ^ bo b (4 * a + i19)))]) rfl ?_
                    refine lv_ishl hx hb dX5_reached_99 ?_
                    refine q_ti (y := nI (2 ^ bb b (4 * a + i19))) (shl1 _ f3) ?_
                    refine lv_goto (tgt := 104) hx hb dX5_reached_100 (by decide) ?_
                    refine lv_ior hx hb dX5_reached_104 ?_
                    refine q_ti (y := nI (m19 ||| nxN b (4 * a + i19))) ?_ ?_
                    · rw [nI_or16 _ hm20 _ (pow4 _ f3), Nat.or_assoc, nxN, if_pos c48, if_pos c84]
                    refine lv_istore_n (lv' := [(3, .int (nI (m19 ||| nxN b (4 * a + i19)))), (5, .int (nI i19)), (4, .int (nI m7)), (0, .ref (mo 0)), (1, .int (nI a)), (2, .int (nI h))]) hx hb dX5_reached_105 rfl hl (by decide) rfl (fun ls hl => ?_)
                    refine lv_iinc (v := nI (i19 + 1)) (lv' := [(5, .int (nI (i19 + 1))), (3, .int (nI (m19 ||| nxN b (4 * a + i19)))), (4, .int (nI m7)), (0, .ref (mo 0)), (1, .int (nI a)), (2, .int (nI h))]) hx hb dX5_reached_106 hl (k := 1) rfl (nI_1 _) (by decide) rfl (fun ls hl => ?_)
                    refine lv_goto (tgt := 19) hx hb dX5_reached_109 (by decide) ?_
                    exact ih19 (i19 + 1) (m19 ||| nxN b (4 * a + i19)) (by omega) (by omega) (or16 _ hm19 _ hnx) (subM_tr hY19 (subM_l _ _)) (subM_or hZ19 (rcN_cls hB ha hh i19 (by omega) (subM_t hY7 hbt))) (fun t ht hbu => by
                          by_cases q : t = i19
                          · rw [q]; exact subM_r _ _
                          · exact subM_tr (hA19 t (by omega) hbu) (subM_l _ _)) _ _ ls hP hD hS (lv_sub hl [0, 2, 1, 3, 4, 5] rfl)
              · refine q_ti (y := nI 0) (by rw [bit16r _ hm7 _ (by omega), if_neg (by rw [hbt]; decide)]) ?_
                refine lv_iconst (v := nI 1) hx hb dX5_reached_32 (by decide) ?_
                refine lv_icmp_ne (tgt := 106) hx hb dX5_reached_33 (by decide) (fun _ => ?_) (fun c => absurd c (by decide))
                refine lv_iinc (v := nI (i19 + 1)) (lv' := [(5, .int (nI (i19 + 1))), (4, .int (nI m7)), (3, .int (nI m19)), (0, .ref (mo 0)), (1, .int (nI a)), (2, .int (nI h))]) hx hb dX5_reached_106 hl (k := 0) rfl (nI_1 _) (by decide) rfl (fun ls hl => ?_)
                refine lv_goto (tgt := 19) hx hb dX5_reached_109 (by decide) ?_
                exact ih19 (i19 + 1) m19 (by omega) (by omega) hm19 hY19 hZ19 (fun t ht hbu => by
                      by_cases q : t = i19
                      · rw [q, hbt] at hbu; exact absurd hbu (by decide)
                      · exact hA19 t (by omega) hbu) _ _ ls hP hD hS (lv_sub hl [0, 1, 2, 3, 4, 5] rfl)
        exact K19 (4 + 1 - 0) 0 m7 (by omega) (by omega) hm7 (subM_rf _) hY7 (fun t ht => absurd ht (Nat.not_lt_zero _)) _ _ ls hP hD hS (lv_sub hl [0, 1, 2, 3, 4, 5] rfl)
  exact K7 (17 + 1 - 0) 0 0 (2 ^ h) (by omega) (by omega) (by omega) (by omega) (pow4 _ hh) (subM_rf _) (rcN_0 b a h 3) (fun q => absurd q (by omega)) _ _ ls hP hD hS (lv_sub hl [0, 1, 2, 3, 4] rfl)
