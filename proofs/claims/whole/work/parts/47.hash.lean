/-! the class's hash -/
theorem bs_lt {b : Bd} (hB : OkB b) {k : Nat} (hk : k < 4) : bs b k ≤ 99 := by
  obtain ⟨h0, h1, h2, h3, h4⟩ := hB.2.2.1
  have : k = 0 ∨ k = 1 ∨ k = 2 ∨ k = 3 := by omega
  rcases this with q | q | q | q <;> subst q <;> omega
set_option maxHeartbeats 4000000 in
set_option maxRecDepth 100000 in
theorem c_X4_hashOfArm (l : Launch) (C : q_C) (x : Nat) (nw tr hq iq tt : Nat → Nat) (sc : Nat) (z : Nat → Int) (b : Bd) (t f v o : Nat → Nat) (h0 : Int64) (a : Nat) (hB : OkB b) (ha : a < 4) (hfr : frB b t f) : q_M C l yX4_hashOfArm wsX4_hashOfArm 5 133 [.ref x, .long h0, .int (nI a)] (wA C x nw tr hq iq tt sc z ++ wB C nw b ++ wX C iq t f v o) (fun r2 w => ∃ t1 f1 v1 o1, r2 = some (.long (hArm b a h0)) ∧ w = wA C x nw tr hq iq tt sc z ++ wB C nw b ++ wX C iq t1 f1 v1 o1 ∧ frB b t1 f1) := by
  refine q_head (cc := cX4_hashOfArm) (maxL := 8) (ret := (some .long)) (by decide +kernel) rfl (Nat.le_of_ble_eq_true rfl) ?_
  intro p e s m below meth c hx hb hr hlocks hml hown hts hK hP hD hS hA ls hl
  have hl : lv_has ls 8 [(0, .ref x), (1, .long h0), (3, .int (nI a))] := hl
  have hk251 := hts (.constantLong RX4 251 (31)) (by decide +kernel)
  refine lv_lload_n hx hb dX4_hashOfArm_0 rfl (lv_at hl 1 rfl) ?_
  refine lv_lstore (lv' := [(4, .long h0), (0, .ref x), (1, .long h0), (3, .int (nI a))]) hx hb dX4_hashOfArm_1 hl (by decide) rfl (fun ls hl => ?_)
  refine lv_iconst (v := nI 0) hx hb dX4_hashOfArm_3 (by decide) ?_
  refine lv_istore (lv' := [(6, .int (nI 0)), (4, .long h0), (0, .ref x), (1, .long h0), (3, .int (nI a))]) hx hb dX4_hashOfArm_4 hl (by decide) rfl (fun ls hl => ?_)
  have K6 : ∀ (n6 i6 : Nat), ∀ (h6 : Int64) (t6 : Nat → Nat) (f6 : Nat → Nat) (v6 : Nat → Nat) (o6 : Nat → Nat), i6 ≤ 4 → 4 + 1 ≤ i6 + n6 → (hsF (fun w => (nI (oaN b a w)).toInt64) h0 i6 = h6) → (frB b t6 f6) → ∀ (H : Heap) (locs : List Loc) (ls : Array Slot), va_P C.1 vwCl (wA C x nw tr hq iq tt sc z ++ wB C nw b ++ wX C iq t6 f6 v6 o6) H → va_D (q_A (wA C x nw tr hq iq tt sc z ++ wB C nw b ++ wX C iq t f v o) s) (wA C x nw tr hq iq tt sc z ++ wB C nw b ++ wX C iq t6 f6 v6 o6) → va_S (q_A (wA C x nw tr hq iq tt sc z ++ wB C nw b ++ wX C iq t f v o) s) s.heap H locs → lv_has ls 8 [(6, .int (nI i6)), (4, .long h6), (1, .long h0), (3, .int (nI a)), (0, .ref x)] → W p l e (q_R 5 133) s m ([.ref x, .long h0, .int (nI a)] : List Value).toArray below meth c H locs 0 0 (q_G C below (wA C x nw tr hq iq tt sc z ++ wB C nw b ++ wX C iq t f v o) (fun r2 w => ∃ t1 f1 v1 o1, r2 = some (.long (hArm b a h0)) ∧ w = wA C x nw tr hq iq tt sc z ++ wB C nw b ++ wX C iq t1 f1 v1 o1 ∧ frB b t1 f1) ([.ref x, .long h0, .int (nI a)] : List Value).toArray s) (F0 m 6 ls []) := by
    intro n6
    induction n6 with
    | zero => intro i6 h6 t6 f6 v6 o6 q1 q2; exact absurd q2 (by omega)
    | succ n6 ih6 =>
      intro i6 h6 t6 f6 v6 o6 hi6 hn6 hH6 hfr6 H locs ls hP hD hS hl
      refine lv_iload hx hb dX4_hashOfArm_6 (lv_at hl 0 rfl) ?_
      refine lv_iconst (v := nI 3) hx hb dX4_hashOfArm_8 (by decide) ?_
      refine lv_icmp_gt (tgt := 35) hx hb dX4_hashOfArm_9 (by decide) (fun c9 => ?_) (fun c9 => ?_)
      · have c9 : 3 < i6 := q_ngt (by omega) (by omega) c9
        refine lv_iconst (v := nI 0) hx hb dX4_hashOfArm_35 (by decide) ?_
        refine lv_istore (lv' := [(6, .int (nI 0)), (4, .long h6), (1, .long h0), (3, .int (nI a)), (0, .ref x)]) hx hb dX4_hashOfArm_36 hl (by decide) rfl (fun ls hl => ?_)
        have K38 : ∀ (n38 i38 : Nat), ∀ (h38 : Int64) (t38 : Nat → Nat) (f38 : Nat → Nat) (v38 : Nat → Nat) (o38 : Nat → Nat), i38 ≤ 4 → 4 + 1 ≤ i38 + n38 → (hArm.hF2 b a (hsF (fun w => (nI (oaN b a w)).toInt64) h0 4) i38 = h38) → (frB b t38 f38) → ∀ (H : Heap) (locs : List Loc) (ls : Array Slot), va_P C.1 vwCl (wA C x nw tr hq iq tt sc z ++ wB C nw b ++ wX C iq t38 f38 v38 o38) H → va_D (q_A (wA C x nw tr hq iq tt sc z ++ wB C nw b ++ wX C iq t f v o) s) (wA C x nw tr hq iq tt sc z ++ wB C nw b ++ wX C iq t38 f38 v38 o38) → va_S (q_A (wA C x nw tr hq iq tt sc z ++ wB C nw b ++ wX C iq t f v o) s) s.heap H locs → lv_has ls 8 [(6, .int (nI i38)), (4, .long h38), (1, .long h0), (3, .int (nI a)), (0, .ref x)] → W p l e (q_R 5 133) s m ([.ref x, .long h0, .int (nI a)] : List Value).toArray below meth c H locs 0 0 (q_G C below (wA C x nw tr hq iq tt sc z ++ wB C nw b ++ wX C iq t f v o) (fun r2 w => ∃ t1 f1 v1 o1, r2 = some (.long (hArm b a h0)) ∧ w = wA C x nw tr hq iq tt sc z ++ wB C nw b ++ wX C iq t1 f1 v1 o1 ∧ frB b t1 f1) ([.ref x, .long h0, .int (nI a)] : List Value).toArray s) (F0 m 38 ls []) := by
          intro n38
          induction n38 with
          | zero => intro i38 h38 t38 f38 v38 o38 q1 q2; exact absurd q2 (by omega)
          | succ n38 ih38 =>
            intro i38 h38 t38 f38 v38 o38 hi38 hn38 hH38 hfr38 H locs ls hP hD hS hl
            refine lv_iload hx hb dX4_hashOfArm_38 (lv_at hl 0 rfl) ?_
            refine lv_iconst (v := nI 4) hx hb dX4_hashOfArm_40 (by decide) ?_
            refine lv_icmp_ge (tgt := 100) hx hb dX4_hashOfArm_41 (by decide) (fun c41 => ?_) (fun c41 => ?_)
            · have c41 : 4 ≤ i38 := q_nge (by omega) (by omega) c41
              refine lv_lload hx hb dX4_hashOfArm_100 (lv_at hl 1 rfl) ?_
              exact q_lret hx hb hr hlocks (w1 := wA C x nw tr hq iq tt sc z ++ wB C nw b ++ wX C iq t38 f38 v38 o38) hP hS rfl dX4_hashOfArm_102 (⟨_, _, _, _, by have q := hH38; rw [show i38 = 4 by omega] at q; rw [hArm, q], rfl, hfr38⟩)
            · have c41 : i38 < 4 := q_nge' (by omega) (by omega) c41
              refine lv_iconst (v := nI 0) hx hb dX4_hashOfArm_44 (by decide) ?_
              refine lv_istore (lv' := [(7, .int (nI 0)), (6, .int (nI i38)), (4, .long h38), (1, .long h0), (3, .int (nI a)), (0, .ref x)]) hx hb dX4_hashOfArm_45 hl (by decide) rfl (fun ls hl => ?_)
              have K47 : ∀ (n47 i47 : Nat), ∀ (h47 : Int64), i47 ≤ 5 → 5 + 1 ≤ i47 + n47 → (hsF (fun w => (nI (osN b a i38 w)).toInt64) (hArm.hF2 b a (hsF (fun w => (nI (oaN b a w)).toInt64) h0 4) i38) i47 = h47) → ∀ (H : Heap) (locs : List Loc) (ls : Array Slot), va_P C.1 vwCl (wA C x nw tr hq iq tt sc z ++ wB C nw b ++ wX C iq t38 f38 v38 o38) H → va_D (q_A (wA C x nw tr hq iq tt sc z ++ wB C nw b ++ wX C iq t f v o) s) (wA C x nw tr hq iq tt sc z ++ wB C nw b ++ wX C iq t38 f38 v38 o38) → va_S (q_A (wA C x nw tr hq iq tt sc z ++ wB C nw b ++ wX C iq t f v o) s) s.heap H locs → lv_has ls 8 [(7, .int (nI i47)), (4, .long h47), (6, .int (nI i38)), (1, .long h0), (3, .int (nI a)), (0, .ref x)] → W p l e (q_R 5 133) s m ([.ref x, .long h0, .int (nI a)] : List Value).toArray below meth c H locs 0 0 (q_G C below (wA C x nw tr hq iq tt sc z ++ wB C nw b ++ wX C iq t f v o) (fun r2 w => ∃ t1 f1 v1 o1, r2 = some (.long (hArm b a h0)) ∧ w = wA C x nw tr hq iq tt sc z ++ wB C nw b ++ wX C iq t1 f1 v1 o1 ∧ frB b t1 f1) ([.ref x, .long h0, .int (nI a)] : List Value).toArray s) (F0 m 47 ls []) := by
                intro n47
                induction n47 with
                | zero => intro i47 h47 q1 q2; exact absurd q2 (by omega)
                | succ n47 ih47 =>
                  intro i47 h47 hi47 hn47 hH47 H locs ls hP hD hS hl
                  refine lv_iload hx hb dX4_hashOfArm_47 (lv_at hl 0 rfl) ?_
                  refine lv_iconst (v := nI 4) hx hb dX4_hashOfArm_49 (by decide) ?_
                  refine lv_icmp_gt (tgt := 78) hx hb dX4_hashOfArm_50 (by decide) (fun c50 => ?_) (fun c50 => ?_)
                  · have c50 : 4 < i47 := q_ngt (by omega) (by omega) c50
                    have hq78 : hsF (fun w => (nI (osN b a i38 w)).toInt64) (hArm.hF2 b a (hsF (fun w => (nI (oaN b a w)).toInt64) h0 4) i38) 5 = h47 := by have q := hH47; rw [show i47 = 5 by omega] at q; exact q
                    refine lv_ldc2 hx hb hown hk251 dX4_hashOfArm_78 ?_
                    refine q_tl (y := lN 31) (by decide) ?_
                    refine lv_lload hx hb dX4_hashOfArm_81 (lv_at hl 1 rfl) ?_
                    refine lv_lmul hx hb dX4_hashOfArm_83 ?_
                    refine lv_aload_n hx hb dX4_hashOfArm_84 rfl (lv_at hl 5 rfl) ?_
                    refine lv_iload_n hx hb dX4_hashOfArm_85 rfl (lv_at hl 4 rfl) ?_
                    refine lv_iload hx hb dX4_hashOfArm_86 (lv_at hl 2 rfl) ?_
                    refine q_V (As := [.int (nI a), .int (nI i38)]) (rest := [.long ((lN 31) * h47)]) ⟨hx, hb, hml, hown, hts⟩ (c_X4_index l C x nw tr hq iq tt sc z b t38 f38 v38 o38 a i38 hB (by omega) (by omega) hfr38) (cwV 2 hts gX4_hashOfArm_X4_index rfl rfl rfl (by decide +kernel) ⟨Nat.le_of_ble_eq_true rfl, Nat.le_of_ble_eq_true rfl⟩) hK hP hD hS hA [0, 1, 2, 3, 4, 5, 6, 7, 8, 9, 10, 11, 12, 13, 14] (by decide) rfl 0 rfl rfl rfl rfl hl.1 rfl (Nat.le_of_ble_eq_true rfl) dX4_hashOfArm_88 (Nat.zero_le _) (Nat.zero_le _) (fun r w1 H locs hQ hP hD hS => ?_)
                    obtain ⟨vx1, ox1, rfl, rfl⟩ := hQ
                    have hP : va_P C.1 vwCl (wA C x nw tr hq iq tt sc z ++ wB C nw b ++ wX C iq (idxT b) (fun _ => 1) vx1 ox1) H := hP
                    have hD : va_D (q_A (wA C x nw tr hq iq tt sc z ++ wB C nw b ++ wX C iq t f v o) s) (wA C x nw tr hq iq tt sc z ++ wB C nw b ++ wX C iq (idxT b) (fun _ => 1) vx1 ox1) := hD
                    refine W.eq (g2 := F0 m 91 ls [.long (lN (idxN b a i38)), .long ((lN 31) * h47)]) rfl ?_
                    refine lv_ladd hx hb dX4_hashOfArm_91 ?_
                    refine lv_lstore (lv' := [(4, .long (((lN 31) * h47) + (lN (idxN b a i38)))), (7, .int (nI i47)), (6, .int (nI i38)), (1, .long h0), (3, .int (nI a)), (0, .ref x)]) hx hb dX4_hashOfArm_92 hl (by decide) rfl (fun ls hl => ?_)
                    refine lv_iinc (v := nI (i38 + 1)) (lv' := [(6, .int (nI (i38 + 1))), (4, .long (((lN 31) * h47) + (lN (idxN b a i38)))), (7, .int (nI i47)), (1, .long h0), (3, .int (nI a)), (0, .ref x)]) hx hb dX4_hashOfArm_94 hl (k := 2) rfl (nI_1 _) (by decide) rfl (fun ls hl => ?_)
                    refine lv_goto (tgt := 38) hx hb dX4_hashOfArm_97 (by decide) ?_
                    exact ih38 (i38 + 1) (((lN 31) * h47) + (lN (idxN b a i38))) (idxT b) (fun _ => 1) vx1 ox1 (by omega) (by omega) (by show h31 (hsF (fun w => (nI (osN b a i38 w)).toInt64) (hArm.hF2 b a (hsF (fun w => (nI (oaN b a w)).toInt64) h0 4) i38) 5) _ = _; rw [hq78]; rfl) (frB_1 b) _ _ ls hP hD hS (lv_sub hl [0, 1, 3, 4, 5] rfl)
                  · have c50 : i47 ≤ 4 := q_ngt' (by omega) (by omega) c50
                    refine lv_ldc2 hx hb hown hk251 dX4_hashOfArm_53 ?_
                    refine q_tl (y := lN 31) (by decide) ?_
                    refine lv_lload hx hb dX4_hashOfArm_56 (lv_at hl 1 rfl) ?_
                    refine lv_lmul hx hb dX4_hashOfArm_58 ?_
                    refine lv_aload_n hx hb dX4_hashOfArm_59 rfl (lv_at hl 5 rfl) ?_
                    refine lv_iload_n hx hb dX4_hashOfArm_60 rfl (lv_at hl 4 rfl) ?_
                    refine lv_iload hx hb dX4_hashOfArm_61 (lv_at hl 2 rfl) ?_
                    refine lv_iload hx hb dX4_hashOfArm_63 (lv_at hl 0 rfl) ?_
                    refine q_V (As := [.int (nI a), .int (nI i38), .int (nI i47)]) (rest := [.long ((lN 31) * h47)]) ⟨hx, hb, hml, hown, hts⟩ (c_X4_stateOf l C x nw tr hq iq tt sc z b a i38 i47 hB (by omega) (by omega) (by omega)) (cwV 3 hts gX4_hashOfArm_X4_stateOf rfl rfl rfl (by decide +kernel) ⟨Nat.le_of_ble_eq_true rfl, Nat.le_of_ble_eq_true rfl⟩) hK hP hD hS hA [0, 1, 2, 3, 4, 5, 6, 7, 8, 9] (by decide) rfl 0 rfl rfl rfl rfl hl.1 rfl (Nat.le_of_ble_eq_true rfl) dX4_hashOfArm_65 (Nat.zero_le _) (Nat.zero_le _) (fun r w1 H locs hQ hP hD hS => ?_)
                    obtain ⟨rfl, rfl⟩ := hQ
                    have hP : va_P C.1 vwCl (wA C x nw tr hq iq tt sc z ++ wB C nw b ++ wX C iq t38 f38 v38 o38) H := hP
                    have hD : va_D (q_A (wA C x nw tr hq iq tt sc z ++ wB C nw b ++ wX C iq t f v o) s) (wA C x nw tr hq iq tt sc z ++ wB C nw b ++ wX C iq t38 f38 v38 o38) := hD
                    refine W.eq (g2 := F0 m 68 ls [.int (nI (osN b a i38 i47)), .long ((lN 31) * h47)]) rfl ?_
                    refine lv_i2l (v := (nI (osN b a i38 i47)).toInt64) hx hb dX4_hashOfArm_68 rfl ?_
                    refine lv_ladd hx hb dX4_hashOfArm_69 ?_
                    refine lv_lstore (lv' := [(4, .long (((lN 31) * h47) + ((nI (osN b a i38 i47)).toInt64))), (7, .int (nI i47)), (6, .int (nI i38)), (1, .long h0), (3, .int (nI a)), (0, .ref x)]) hx hb dX4_hashOfArm_70 hl (by decide) rfl (fun ls hl => ?_)
                    refine lv_iinc (v := nI (i47 + 1)) (lv' := [(7, .int (nI (i47 + 1))), (4, .long (((lN 31) * h47) + ((nI (osN b a i38 i47)).toInt64))), (6, .int (nI i38)), (1, .long h0), (3, .int (nI a)), (0, .ref x)]) hx hb dX4_hashOfArm_72 hl (k := 1) rfl (nI_1 _) (by decide) rfl (fun ls hl => ?_)
                    refine lv_goto (tgt := 47) hx hb dX4_hashOfArm_75 (by decide) ?_
                    exact ih47 (i47 + 1) (((lN 31) * h47) + ((nI (osN b a i38 i47)).toInt64)) (by omega) (by omega) (by show h31 (hsF (fun w => (nI (osN b a i38 w)).toInt64) (hArm.hF2 b a (hsF (fun w => (nI (oaN b a w)).toInt64) h0 4) i38) i47) _ = _; rw [hH47]; rfl) _ _ ls hP hD hS (lv_sub hl [0, 1, 2, 3, 4, 5] rfl)
              exact K47 (5 + 1 - 0) 0 h38 (by omega) (by omega) hH38 _ _ ls hP hD hS (lv_sub hl [0, 2, 1, 3, 4, 5] rfl)
        exact K38 (4 + 1 - 0) 0 h6 t6 f6 v6 o6 (by omega) (by omega) (by have q := hH6; rw [show i6 = 4 by omega] at q; exact q) hfr6 _ _ ls hP hD hS (lv_sub hl [0, 1, 2, 3, 4] rfl)
      · have c9 : i6 ≤ 3 := q_ngt' (by omega) (by omega) c9
        refine lv_ldc2 hx hb hown hk251 dX4_hashOfArm_12 ?_
        refine q_tl (y := lN 31) (by decide) ?_
        refine lv_lload hx hb dX4_hashOfArm_15 (lv_at hl 1 rfl) ?_
        refine lv_lmul hx hb dX4_hashOfArm_17 ?_
        refine lv_aload_n hx hb dX4_hashOfArm_18 rfl (lv_at hl 4 rfl) ?_
        refine lv_iload_n hx hb dX4_hashOfArm_19 rfl (lv_at hl 3 rfl) ?_
        refine lv_iload hx hb dX4_hashOfArm_20 (lv_at hl 0 rfl) ?_
        refine q_V (As := [.int (nI a), .int (nI i6)]) (rest := [.long ((lN 31) * h6)]) ⟨hx, hb, hml, hown, hts⟩ (c_X4_arm l C x nw tr hq iq tt sc z b t6 f6 v6 o6 a i6 hB (by omega) (by omega) hfr6) (cwV 2 hts gX4_hashOfArm_X4_arm rfl rfl rfl (by decide +kernel) ⟨Nat.le_of_ble_eq_true rfl, Nat.le_of_ble_eq_true rfl⟩) hK hP hD hS hA [0, 1, 2, 3, 4, 5, 6, 7, 8, 9, 10, 11, 12, 13, 14] (by decide) rfl 0 rfl rfl rfl rfl hl.1 rfl (Nat.le_of_ble_eq_true rfl) dX4_hashOfArm_22 (Nat.zero_le _) (Nat.zero_le _) (fun r w1 H locs hQ hP hD hS => ?_)
        obtain ⟨tx2, fx2, vx2, ox2, rfl, rfl, hfx2⟩ := hQ
        have hP : va_P C.1 vwCl (wA C x nw tr hq iq tt sc z ++ wB C nw b ++ wX C iq tx2 fx2 vx2 ox2) H := hP
        have hD : va_D (q_A (wA C x nw tr hq iq tt sc z ++ wB C nw b ++ wX C iq t f v o) s) (wA C x nw tr hq iq tt sc z ++ wB C nw b ++ wX C iq tx2 fx2 vx2 ox2) := hD
        refine W.eq (g2 := F0 m 25 ls [.int (nI (oaN b a i6)), .long ((lN 31) * h6)]) rfl ?_
        refine lv_i2l (v := (nI (oaN b a i6)).toInt64) hx hb dX4_hashOfArm_25 rfl ?_
        refine lv_ladd hx hb dX4_hashOfArm_26 ?_
        refine lv_lstore (lv' := [(4, .long (((lN 31) * h6) + ((nI (oaN b a i6)).toInt64))), (6, .int (nI i6)), (1, .long h0), (3, .int (nI a)), (0, .ref x)]) hx hb dX4_hashOfArm_27 hl (by decide) rfl (fun ls hl => ?_)
        refine lv_iinc (v := nI (i6 + 1)) (lv' := [(6, .int (nI (i6 + 1))), (4, .long (((lN 31) * h6) + ((nI (oaN b a i6)).toInt64))), (1, .long h0), (3, .int (nI a)), (0, .ref x)]) hx hb dX4_hashOfArm_29 hl (k := 1) rfl (nI_1 _) (by decide) rfl (fun ls hl => ?_)
        refine lv_goto (tgt := 6) hx hb dX4_hashOfArm_32 (by decide) ?_
        exact ih6 (i6 + 1) (((lN 31) * h6) + ((nI (oaN b a i6)).toInt64)) tx2 fx2 vx2 ox2 (by omega) (by omega) (by show h31 (hsF (fun w => (nI (oaN b a w)).toInt64) h0 i6) _ = _; rw [hH6]; rfl) hfx2 _ _ ls hP hD hS (lv_sub hl [0, 1, 2, 3, 4] rfl)
  exact K6 (4 + 1 - 0) 0 h0 t f v o (by omega) (by omega) rfl hfr _ _ ls hP hD hS (lv_sub hl [0, 1, 3, 4, 2] rfl)
set_option maxHeartbeats 4000000 in
set_option maxRecDepth 100000 in
theorem c_X4_digest (l : Launch) (C : q_C) (x : Nat) (nw tr hq iq tt : Nat → Nat) (sc : Nat) (z : Nat → Int) (ba : Nat → Nat → Nat) (r n : Nat) (b b2 : Bd) (t f v o : Nat → Nat) (y : Nat) (cd : Nat → Nat) (hB : OkB b) (hU : sumU b ≤ 9999) (hy60 : y ≤ 60) (hcd : ∀ k, k < y → cd k < 2 ^ 31) (hfr : frB b t f) : q_M C l yX4_digest wsX4_digest 7 166 [.ref x] (List.flatten [wA C x nw tr hq iq tt sc z, wB C nw b, wB C tr b2, wHa C hq ba r n, wX C iq t f v o, wT C tt y cd]) (fun r2 w => ∃ z1 b3 t1 f1 v1 o1, r2 = some (.long (dgL b n y cd)) ∧ w = List.flatten [wA C x nw tr hq iq tt sc z1, wB C nw b, wB C tr b3, wHa C hq ba r n, wX C iq t1 f1 v1 o1, wT C tt y cd] ∧ frB b t1 f1) := by
  refine q_head (cc := cX4_digest) (maxL := 4) (ret := (some .long)) (by decide +kernel) rfl (Nat.le_of_ble_eq_true rfl) ?_
  intro p e s m below meth c hx hb hr hlocks hml hown hts hK hP hD hS hA ls hl
  have hl : lv_has ls 4 [(0, .ref x)] := hl
  have hf154 := hts (.fieldLink RX4 154 "RestedArms$Text" "length" "I") (by decide +kernel)
  have hf159 := hts (.fieldLink RX4 159 "RestedArms$Text" "codes" "[I") (by decide +kernel)
  have hf36 := hts (.fieldLink RX4 36 "RestedArms" "text" "LRestedArms$Text;") (by decide +kernel)
  have hin3 : ∀ w ∈ u_ws RX3 TX3 2, w ∈ wsX4_digest := by decide +kernel
  have hin4 : ∀ w ∈ u_ws RX4 TX4 6, w ∈ wsX4_digest := by decide +kernel
  have hk249 := hts (.constantLong RX4 249 (2843)) (by decide +kernel)
  have hk251 := hts (.constantLong RX4 251 (31)) (by decide +kernel)
  refine lv_ldc2 hx hb hown hk249 dX4_digest_0 ?_
  refine q_tl (y := lN 2843) (by decide) ?_
  refine lv_lstore_n (lv' := [(1, .long (lN 2843)), (0, .ref x)]) hx hb dX4_digest_3 rfl hl (by decide) rfl (fun ls hl => ?_)
  refine lv_iconst (v := nI 0) hx hb dX4_digest_4 (by decide) ?_
  refine lv_istore_n (lv' := [(3, .int (nI 0)), (1, .long (lN 2843)), (0, .ref x)]) hx hb dX4_digest_5 rfl hl (by decide) rfl (fun ls hl => ?_)
  have K6 : ∀ (n6 i6 : Nat), ∀ (h6 : Int64), i6 ≤ 4 → 4 + 1 ≤ i6 + n6 → (hsF (fun w => (cnI b n w).toInt64) (lN 2843) i6 = h6) → ∀ (H : Heap) (locs : List Loc) (ls : Array Slot), va_P C.1 vwCl (List.flatten [wA C x nw tr hq iq tt sc z, wB C nw b, wB C tr b2, wHa C hq ba r n, wX C iq t f v o, wT C tt y cd]) H → va_D (q_A (List.flatten [wA C x nw tr hq iq tt sc z, wB C nw b, wB C tr b2, wHa C hq ba r n, wX C iq t f v o, wT C tt y cd]) s) (List.flatten [wA C x nw tr hq iq tt sc z, wB C nw b, wB C tr b2, wHa C hq ba r n, wX C iq t f v o, wT C tt y cd]) → va_S (q_A (List.flatten [wA C x nw tr hq iq tt sc z, wB C nw b, wB C tr b2, wHa C hq ba r n, wX C iq t f v o, wT C tt y cd]) s) s.heap H locs → lv_has ls 4 [(3, .int (nI i6)), (1, .long h6), (0, .ref x)] → W p l e (q_R 7 166) s m ([.ref x] : List Value).toArray below meth c H locs 0 0 (q_G C below (List.flatten [wA C x nw tr hq iq tt sc z, wB C nw b, wB C tr b2, wHa C hq ba r n, wX C iq t f v o, wT C tt y cd]) (fun r2 w => ∃ z1 b3 t1 f1 v1 o1, r2 = some (.long (dgL b n y cd)) ∧ w = List.flatten [wA C x nw tr hq iq tt sc z1, wB C nw b, wB C tr b3, wHa C hq ba r n, wX C iq t1 f1 v1 o1, wT C tt y cd] ∧ frB b t1 f1) ([.ref x] : List Value).toArray s) (F0 m 6 ls []) := by
    intro n6
    induction n6 with
    | zero => intro i6 h6 q1 q2; exact absurd q2 (by omega)
    | succ n6 ih6 =>
      intro i6 h6 hi6 hn6 hH6 H locs ls hP hD hS hl
      refine lv_iload_n hx hb dX4_digest_6 rfl (lv_at hl 0 rfl) ?_
      refine lv_iconst (v := nI 3) hx hb dX4_digest_7 (by decide) ?_
      refine lv_icmp_gt (tgt := 30) hx hb dX4_digest_8 (by decide) (fun c8 => ?_) (fun c8 => ?_)
      · have c8 : 3 < i6 := q_ngt (by omega) (by omega) c8
        refine lv_iconst (v := nI 0) hx hb dX4_digest_30 (by decide) ?_
        refine lv_istore_n (lv' := [(3, .int (nI 0)), (1, .long h6), (0, .ref x)]) hx hb dX4_digest_31 rfl hl (by decide) rfl (fun ls hl => ?_)
        have K32 : ∀ (n32 i32 : Nat), ∀ (h32 : Int64), i32 ≤ 3 → 3 + 1 ≤ i32 + n32 → (hsF (fun w => suL b w) (hsF (fun w => (cnI b n w).toInt64) (lN 2843) 4) i32 = h32) → ∀ (H : Heap) (locs : List Loc) (ls : Array Slot), va_P C.1 vwCl (List.flatten [wA C x nw tr hq iq tt sc z, wB C nw b, wB C tr b2, wHa C hq ba r n, wX C iq t f v o, wT C tt y cd]) H → va_D (q_A (List.flatten [wA C x nw tr hq iq tt sc z, wB C nw b, wB C tr b2, wHa C hq ba r n, wX C iq t f v o, wT C tt y cd]) s) (List.flatten [wA C x nw tr hq iq tt sc z, wB C nw b, wB C tr b2, wHa C hq ba r n, wX C iq t f v o, wT C tt y cd]) → va_S (q_A (List.flatten [wA C x nw tr hq iq tt sc z, wB C nw b, wB C tr b2, wHa C hq ba r n, wX C iq t f v o, wT C tt y cd]) s) s.heap H locs → lv_has ls 4 [(3, .int (nI i32)), (1, .long h32), (0, .ref x)] → W p l e (q_R 7 166) s m ([.ref x] : List Value).toArray below meth c H locs 0 0 (q_G C below (List.flatten [wA C x nw tr hq iq tt sc z, wB C nw b, wB C tr b2, wHa C hq ba r n, wX C iq t f v o, wT C tt y cd]) (fun r2 w => ∃ z1 b3 t1 f1 v1 o1, r2 = some (.long (dgL b n y cd)) ∧ w = List.flatten [wA C x nw tr hq iq tt sc z1, wB C nw b, wB C tr b3, wHa C hq ba r n, wX C iq t1 f1 v1 o1, wT C tt y cd] ∧ frB b t1 f1) ([.ref x] : List Value).toArray s) (F0 m 32 ls []) := by
          intro n32
          induction n32 with
          | zero => intro i32 h32 q1 q2; exact absurd q2 (by omega)
          | succ n32 ih32 =>
            intro i32 h32 hi32 hn32 hH32 H locs ls hP hD hS hl
            refine lv_iload_n hx hb dX4_digest_32 rfl (lv_at hl 0 rfl) ?_
            refine lv_iconst (v := nI 2) hx hb dX4_digest_33 (by decide) ?_
            refine lv_icmp_gt (tgt := 55) hx hb dX4_digest_34 (by decide) (fun c34 => ?_) (fun c34 => ?_)
            · have c34 : 2 < i32 := q_ngt (by omega) (by omega) c34
              refine lv_iconst (v := nI 0) hx hb dX4_digest_55 (by decide) ?_
              refine lv_istore_n (lv' := [(3, .int (nI 0)), (1, .long h32), (0, .ref x)]) hx hb dX4_digest_56 rfl hl (by decide) rfl (fun ls hl => ?_)
              have K57 : ∀ (n57 i57 : Nat), ∀ (h57 : Int64), i57 ≤ 4 → 4 + 1 ≤ i57 + n57 → (hsF (fun k => lN (bs b k)) (hsF (fun w => suL b w) (hsF (fun w => (cnI b n w).toInt64) (lN 2843) 4) 3) i57 = h57) → ∀ (H : Heap) (locs : List Loc) (ls : Array Slot), va_P C.1 vwCl (List.flatten [wA C x nw tr hq iq tt sc z, wB C nw b, wB C tr b2, wHa C hq ba r n, wX C iq t f v o, wT C tt y cd]) H → va_D (q_A (List.flatten [wA C x nw tr hq iq tt sc z, wB C nw b, wB C tr b2, wHa C hq ba r n, wX C iq t f v o, wT C tt y cd]) s) (List.flatten [wA C x nw tr hq iq tt sc z, wB C nw b, wB C tr b2, wHa C hq ba r n, wX C iq t f v o, wT C tt y cd]) → va_S (q_A (List.flatten [wA C x nw tr hq iq tt sc z, wB C nw b, wB C tr b2, wHa C hq ba r n, wX C iq t f v o, wT C tt y cd]) s) s.heap H locs → lv_has ls 4 [(3, .int (nI i57)), (1, .long h57), (0, .ref x)] → W p l e (q_R 7 166) s m ([.ref x] : List Value).toArray below meth c H locs 0 0 (q_G C below (List.flatten [wA C x nw tr hq iq tt sc z, wB C nw b, wB C tr b2, wHa C hq ba r n, wX C iq t f v o, wT C tt y cd]) (fun r2 w => ∃ z1 b3 t1 f1 v1 o1, r2 = some (.long (dgL b n y cd)) ∧ w = List.flatten [wA C x nw tr hq iq tt sc z1, wB C nw b, wB C tr b3, wHa C hq ba r n, wX C iq t1 f1 v1 o1, wT C tt y cd] ∧ frB b t1 f1) ([.ref x] : List Value).toArray s) (F0 m 57 ls []) := by
                intro n57
                induction n57 with
                | zero => intro i57 h57 q1 q2; exact absurd q2 (by omega)
                | succ n57 ih57 =>
                  intro i57 h57 hi57 hn57 hH57 H locs ls hP hD hS hl
                  refine lv_iload_n hx hb dX4_digest_57 rfl (lv_at hl 0 rfl) ?_
                  refine lv_iconst (v := nI 4) hx hb dX4_digest_58 (by decide) ?_
                  refine lv_icmp_ge (tgt := 81) hx hb dX4_digest_59 (by decide) (fun c59 => ?_) (fun c59 => ?_)
                  · have c59 : 4 ≤ i57 := q_nge (by omega) (by omega) c59
                    refine lv_iconst (v := nI 0) hx hb dX4_digest_81 (by decide) ?_
                    refine lv_istore_n (lv' := [(3, .int (nI 0)), (1, .long h57), (0, .ref x)]) hx hb dX4_digest_82 rfl hl (by decide) rfl (fun ls hl => ?_)
                    have K83 : ∀ (n83 i83 : Nat), ∀ (h83 : Int64) (t83 : Nat → Nat) (f83 : Nat → Nat) (v83 : Nat → Nat) (o83 : Nat → Nat), i83 ≤ 4 → 4 + 1 ≤ i83 + n83 → (hArms b (hsF (fun k => lN (bs b k)) (hsF (fun w => suL b w) (hsF (fun w => (cnI b n w).toInt64) (lN 2843) 4) 3) 4) i83 = h83) → (frB b t83 f83) → ∀ (H : Heap) (locs : List Loc) (ls : Array Slot), va_P C.1 vwCl (List.flatten [wA C x nw tr hq iq tt sc z, wB C nw b, wB C tr b2, wHa C hq ba r n, wX C iq t83 f83 v83 o83, wT C tt y cd]) H → va_D (q_A (List.flatten [wA C x nw tr hq iq tt sc z, wB C nw b, wB C tr b2, wHa C hq ba r n, wX C iq t f v o, wT C tt y cd]) s) (List.flatten [wA C x nw tr hq iq tt sc z, wB C nw b, wB C tr b2, wHa C hq ba r n, wX C iq t83 f83 v83 o83, wT C tt y cd]) → va_S (q_A (List.flatten [wA C x nw tr hq iq tt sc z, wB C nw b, wB C tr b2, wHa C hq ba r n, wX C iq t f v o, wT C tt y cd]) s) s.heap H locs → lv_has ls 4 [(3, .int (nI i83)), (1, .long h83), (0, .ref x)] → W p l e (q_R 7 166) s m ([.ref x] : List Value).toArray below meth c H locs 0 0 (q_G C below (List.flatten [wA C x nw tr hq iq tt sc z, wB C nw b, wB C tr b2, wHa C hq ba r n, wX C iq t f v o, wT C tt y cd]) (fun r2 w => ∃ z1 b3 t1 f1 v1 o1, r2 = some (.long (dgL b n y cd)) ∧ w = List.flatten [wA C x nw tr hq iq tt sc z1, wB C nw b, wB C tr b3, wHa C hq ba r n, wX C iq t1 f1 v1 o1, wT C tt y cd] ∧ frB b t1 f1) ([.ref x] : List Value).toArray s) (F0 m 83 ls []) := by
                      intro n83
                      induction n83 with
                      | zero => intro i83 h83 t83 f83 v83 o83 q1 q2; exact absurd q2 (by omega)
                      | succ n83 ih83 =>
                        intro i83 h83 t83 f83 v83 o83 hi83 hn83 hH83 hfr83 H locs ls hP hD hS hl
                        refine lv_iload_n hx hb dX4_digest_83 rfl (lv_at hl 0 rfl) ?_
                        refine lv_iconst (v := nI 4) hx hb dX4_digest_84 (by decide) ?_
                        refine lv_icmp_ge (tgt := 101) hx hb dX4_digest_85 (by decide) (fun c85 => ?_) (fun c85 => ?_)
                        · have c85 : 4 ≤ i83 := q_nge (by omega) (by omega) c85
                          refine lv_iconst (v := nI 0) hx hb dX4_digest_101 (by decide) ?_
                          refine lv_istore_n (lv' := [(3, .int (nI 0)), (1, .long h83), (0, .ref x)]) hx hb dX4_digest_102 rfl hl (by decide) rfl (fun ls hl => ?_)
                          have K103 : ∀ (n103 i103 : Nat), ∀ (h103 : Int64) (z103 : Nat → Int) (b103 : Bd) (t103 : Nat → Nat) (f103 : Nat → Nat) (v103 : Nat → Nat) (o103 : Nat → Nat), i103 ≤ 3 → 3 + 1 ≤ i103 + n103 → (hRul b (hArms b (hsF (fun k => lN (bs b k)) (hsF (fun w => suL b w) (hsF (fun w => (cnI b n w).toInt64) (lN 2843) 4) 3) 4) 4) i103 = h103) → (frB b t103 f103) → ∀ (H : Heap) (locs : List Loc) (ls : Array Slot), va_P C.1 vwCl (List.flatten [wA C x nw tr hq iq tt sc z103, wB C nw b, wB C tr b103, wHa C hq ba r n, wX C iq t103 f103 v103 o103, wT C tt y cd]) H → va_D (q_A (List.flatten [wA C x nw tr hq iq tt sc z, wB C nw b, wB C tr b2, wHa C hq ba r n, wX C iq t f v o, wT C tt y cd]) s) (List.flatten [wA C x nw tr hq iq tt sc z103, wB C nw b, wB C tr b103, wHa C hq ba r n, wX C iq t103 f103 v103 o103, wT C tt y cd]) → va_S (q_A (List.flatten [wA C x nw tr hq iq tt sc z, wB C nw b, wB C tr b2, wHa C hq ba r n, wX C iq t f v o, wT C tt y cd]) s) s.heap H locs → lv_has ls 4 [(3, .int (nI i103)), (1, .long h103), (0, .ref x)] → W p l e (q_R 7 166) s m ([.ref x] : List Value).toArray below meth c H locs 0 0 (q_G C below (List.flatten [wA C x nw tr hq iq tt sc z, wB C nw b, wB C tr b2, wHa C hq ba r n, wX C iq t f v o, wT C tt y cd]) (fun r2 w => ∃ z1 b3 t1 f1 v1 o1, r2 = some (.long (dgL b n y cd)) ∧ w = List.flatten [wA C x nw tr hq iq tt sc z1, wB C nw b, wB C tr b3, wHa C hq ba r n, wX C iq t1 f1 v1 o1, wT C tt y cd] ∧ frB b t1 f1) ([.ref x] : List Value).toArray s) (F0 m 103 ls []) := by
                            intro n103
                            induction n103 with
                            | zero => intro i103 h103 z103 b103 t103 f103 v103 o103 q1 q2; exact absurd q2 (by omega)
                            | succ n103 ih103 =>
                              intro i103 h103 z103 b103 t103 f103 v103 o103 hi103 hn103 hH103 hfr103 H locs ls hP hD hS hl
                              refine lv_iload_n hx hb dX4_digest_103 rfl (lv_at hl 0 rfl) ?_
                              refine lv_iconst (v := nI 3) hx hb dX4_digest_104 (by decide) ?_
                              refine lv_icmp_ge (tgt := 140) hx hb dX4_digest_105 (by decide) (fun c105 => ?_) (fun c105 => ?_)
                              · have c105 : 3 ≤ i103 := q_nge (by omega) (by omega) c105
                                have hq1 : dg1 b n = h103 := by have q := hH103; rw [show i103 = 3 by omega] at q; exact q
                                refine lv_ldc2 hx hb hown hk251 dX4_digest_140 ?_
                                refine q_tl (y := lN 31) (by decide) ?_
                                refine lv_lload_n hx hb dX4_digest_143 rfl (lv_at hl 1 rfl) ?_
                                refine lv_lmul hx hb dX4_digest_144 ?_
                                refine lv_aload_n hx hb dX4_digest_145 rfl (lv_at hl 2 rfl) ?_
                                refine lv_bipush (v := nI 8) hx hb dX4_digest_146 (by decide) ?_
                                refine q_VB (cs := [wA C x nw tr hq iq tt sc z103, wB C nw b, wB C tr b103, wX C iq t103 f103 v103 o103]) (As := [.int (nI 8)]) (rest := [.long ((lN 31) * h103)]) ⟨hx, hb, hml, hown, hts⟩ (c_X4_bestRule l C x nw tr hq iq tt sc z103 b b103 t103 f103 v103 o103 8 hB (by omega) (by omega) hfr103) (cwV 1 hts gX4_digest_X4_bestRule rfl rfl rfl (by decide +kernel) ⟨Nat.le_of_ble_eq_true rfl, Nat.le_of_ble_eq_true rfl⟩) hK hP hD hS hA [0, 1, 2, 4] (by decide) rfl 0 rfl rfl rfl rfl hl.1 rfl (Nat.le_of_ble_eq_true rfl) dX4_digest_148 (Nat.zero_le _) (Nat.zero_le _) (fun r w1 H locs hQ hF hS => ?_)
                                obtain ⟨zx1, bx1, vx1, ox1, rfl, rfl⟩ := hQ
                                obtain ⟨hP, hD⟩ := hF [wA C x nw tr hq iq tt sc zx1, wB C nw b, wB C tr bx1, wX C iq (idxT b) (fun _ => 1) vx1 ox1] rfl rfl
                                have hP : va_P C.1 vwCl (List.flatten [wA C x nw tr hq iq tt sc zx1, wB C nw b, wB C tr bx1, wHa C hq ba r n, wX C iq (idxT b) (fun _ => 1) vx1 ox1, wT C tt y cd]) H := hP
                                have hD : va_D (q_A (List.flatten [wA C x nw tr hq iq tt sc z, wB C nw b, wB C tr b2, wHa C hq ba r n, wX C iq t f v o, wT C tt y cd]) s) (List.flatten [wA C x nw tr hq iq tt sc zx1, wB C nw b, wB C tr bx1, wHa C hq ba r n, wX C iq (idxT b) (fun _ => 1) vx1 ox1, wT C tt y cd]) := hD
                                refine W.eq (g2 := F0 m 151 ls [.int (nI (bsrN b 8 2)), .long ((lN 31) * h103)]) rfl ?_
                                refine lv_i2l (v := (nI (bsrN b 8 2)).toInt64) hx hb dX4_digest_151 rfl ?_
                                refine lv_ladd hx hb dX4_digest_152 ?_
                                refine lv_lstore_n (lv' := [(1, .long (((lN 31) * h103) + ((nI (bsrN b 8 2)).toInt64))), (3, .int (nI i103)), (0, .ref x)]) hx hb dX4_digest_153 rfl hl (by decide) rfl (fun ls hl => ?_)
                                refine lv_ldc2 hx hb hown hk251 dX4_digest_154 ?_
                                refine q_tl (y := lN 31) (by decide) ?_
                                refine lv_lload_n hx hb dX4_digest_157 rfl (lv_at hl 0 rfl) ?_
                                refine lv_lmul hx hb dX4_digest_158 ?_
                                refine lv_aload_n hx hb dX4_digest_159 rfl (lv_at hl 2 rfl) ?_
                                refine lv_iconst (v := nI 1) hx hb dX4_digest_160 (by decide) ?_
                                refine lv_iconst (v := nI 0) hx hb dX4_digest_161 (by decide) ?_
                                refine q_VB (cs := [wA C x nw tr hq iq tt sc zx1, wB C nw b, wB C tr bx1, wX C iq (idxT b) (fun _ => 1) vx1 ox1]) (As := [.int (nI 1), .int (nI 0)]) (rest := [.long ((lN 31) * (((lN 31) * h103) + ((nI (bsrN b 8 2)).toInt64)))]) ⟨hx, hb, hml, hown, hts⟩ (c_X4_giftFor l C x nw tr hq iq tt sc zx1 b bx1 (idxT b) (fun _ => 1) vx1 ox1 1 0 hB (by omega) (by omega) (frB_1 b)) (cwV 2 hts gX4_digest_X4_giftFor rfl rfl rfl (by decide +kernel) ⟨Nat.le_of_ble_eq_true rfl, Nat.le_of_ble_eq_true rfl⟩) hK hP hD hS hA [0, 1, 2, 4] (by decide) rfl 0 rfl rfl rfl rfl hl.1 rfl (Nat.le_of_ble_eq_true rfl) dX4_digest_162 (Nat.zero_le _) (Nat.zero_le _) (fun r w1 H locs hQ hF hS => ?_)
                                obtain ⟨zx2, bx2, vx2, ox2, rfl, rfl⟩ := hQ
                                obtain ⟨hP, hD⟩ := hF [wA C x nw tr hq iq tt sc zx2, wB C nw b, wB C tr bx2, wX C iq (idxT b) (fun _ => 1) vx2 ox2] rfl rfl
                                have hP : va_P C.1 vwCl (List.flatten [wA C x nw tr hq iq tt sc zx2, wB C nw b, wB C tr bx2, wHa C hq ba r n, wX C iq (idxT b) (fun _ => 1) vx2 ox2, wT C tt y cd]) H := hP
                                have hD : va_D (q_A (List.flatten [wA C x nw tr hq iq tt sc z, wB C nw b, wB C tr b2, wHa C hq ba r n, wX C iq t f v o, wT C tt y cd]) s) (List.flatten [wA C x nw tr hq iq tt sc zx2, wB C nw b, wB C tr bx2, wHa C hq ba r n, wX C iq (idxT b) (fun _ => 1) vx2 ox2, wT C tt y cd]) := hD
                                refine W.eq (g2 := F0 m 165 ls [.int (lgI (lgN b 1 0)), .long ((lN 31) * (((lN 31) * h103) + ((nI (bsrN b 8 2)).toInt64)))]) rfl ?_
                                refine lv_i2l (v := (lgI (lgN b 1 0)).toInt64) hx hb dX4_digest_165 rfl ?_
                                refine lv_ladd hx hb dX4_digest_166 ?_
                                have hq2 : dg2 b n = ((lN 31) * (((lN 31) * h103) + ((nI (bsrN b 8 2)).toInt64))) + ((lgI (lgN b 1 0)).toInt64) := by rw [dg2, hq1]; rfl
                                rw [← hq2]
                                refine lv_lstore_n (lv' := [(1, .long (dg2 b n)), (3, .int (nI i103)), (0, .ref x)]) hx hb dX4_digest_167 rfl hl (by decide) rfl (fun ls hl => ?_)
                                refine lv_ldc2 hx hb hown hk251 dX4_digest_168 ?_
                                refine q_tl (y := lN 31) (by decide) ?_
                                refine lv_lload_n hx hb dX4_digest_171 rfl (lv_at hl 0 rfl) ?_
                                refine lv_lmul hx hb dX4_digest_172 ?_
                                refine lv_aload_n hx hb dX4_digest_173 rfl (lv_at hl 2 rfl) ?_
                                refine q_V0 (As := []) (rest := [.long ((lN 31) * (dg2 b n))]) ⟨hx, hb, hml, hown, hts⟩ (c_X4_evenness l C x nw tr hq iq tt sc zx2 b hU) (cwV 0 hts gX4_digest_X4_evenness rfl rfl rfl (by decide +kernel) ⟨Nat.le_of_ble_eq_true rfl, Nat.le_of_ble_eq_true rfl⟩) hK hP hD hS hA [0, 1, 2, 3, 4, 5, 6, 7, 8, 9] (by decide) rfl 0 rfl rfl rfl rfl hl.1 rfl (Nat.le_of_ble_eq_true rfl) dX4_digest_174 (Nat.zero_le _) (Nat.zero_le _) (fun H locs hP hS => ?_)
                                refine W.eq (g2 := F0 m 177 ls [.double (evD b), .long ((lN 31) * (dg2 b n))]) rfl ?_
                                refine q_S0 (As := [.double (evD b)]) (rest := [.long ((lN 31) * (dg2 b n))]) ⟨hx, hb, hml, hown, hts⟩ (c_X4_bitsOf l C (evD b) (evD_sh hU)) (va_cwS 1 hts gX4_digest_X4_bitsOf rfl rfl rfl (by decide +kernel) ⟨Nat.le_of_ble_eq_true rfl, Nat.le_of_ble_eq_true rfl⟩) hK hP hD hS hA [] (by decide) rfl rfl hl.1 rfl (Nat.le_of_ble_eq_true rfl) dX4_digest_177 (Nat.zero_le _) (Nat.zero_le _) (fun H locs hP hS => ?_)
                                refine W.eq (g2 := F0 m 180 ls [.long ((evD b).toInt64), .long ((lN 31) * (dg2 b n))]) rfl ?_
                                refine lv_ladd hx hb dX4_digest_180 ?_
                                refine lv_lstore_n (lv' := [(1, .long (((lN 31) * (dg2 b n)) + ((evD b).toInt64))), (3, .int (nI i103)), (0, .ref x)]) hx hb dX4_digest_181 rfl hl (by decide) rfl (fun ls hl => ?_)
                                refine lv_ldc2 hx hb hown hk251 dX4_digest_182 ?_
                                refine q_tl (y := lN 31) (by decide) ?_
                                refine lv_lload_n hx hb dX4_digest_185 rfl (lv_at hl 0 rfl) ?_
                                refine lv_lmul hx hb dX4_digest_186 ?_
                                refine lv_aload_n hx hb dX4_digest_187 rfl (lv_at hl 2 rfl) ?_
                                refine va_get (ci := 4) (v := .ref (tt 0)) (C := RX4) (T := TX4) (N := 6) hx hb hts hin4 hown hK.1 hP 0 rfl rfl 4 (by decide) hf36 (fun _ h9 => h9) rfl dX4_digest_188 ?_
                                refine va_get (ci := 3) (v := .int (nI y)) (C := RX3) (T := TX3) (N := 2) hx hb hts hin3 hown hK.1 hP 25 rfl rfl 1 (by decide) hf154 (fun _ h9 => h9) rfl dX4_digest_191 ?_
                                refine lv_i2l (v := lN y) hx hb dX4_digest_194 (nI_l (by omega)) ?_
                                refine lv_ladd hx hb dX4_digest_195 ?_
                                have hq3 : dg3 b n y = ((lN 31) * (((lN 31) * (dg2 b n)) + ((evD b).toInt64))) + (lN y) := rfl
                                rw [← hq3]
                                refine lv_lstore_n (lv' := [(1, .long (dg3 b n y)), (3, .int (nI i103)), (0, .ref x)]) hx hb dX4_digest_196 rfl hl (by decide) rfl (fun ls hl => ?_)
                                refine lv_iconst (v := nI 0) hx hb dX4_digest_197 (by decide) ?_
                                refine lv_istore_n (lv' := [(3, .int (nI 0)), (1, .long (dg3 b n y)), (0, .ref x)]) hx hb dX4_digest_198 rfl hl (by decide) rfl (fun ls hl => ?_)
                                have K199 : ∀ (n199 i199 : Nat), ∀ (h199 : Int64), i199 ≤ y → y + 1 ≤ i199 + n199 → (hsF (fun k => lN (cd k)) (dg3 b n y) i199 = h199) → ∀ (H : Heap) (locs : List Loc) (ls : Array Slot), va_P C.1 vwCl (List.flatten [wA C x nw tr hq iq tt sc zx2, wB C nw b, wB C tr bx2, wHa C hq ba r n, wX C iq (idxT b) (fun _ => 1) vx2 ox2, wT C tt y cd]) H → va_D (q_A (List.flatten [wA C x nw tr hq iq tt sc z, wB C nw b, wB C tr b2, wHa C hq ba r n, wX C iq t f v o, wT C tt y cd]) s) (List.flatten [wA C x nw tr hq iq tt sc zx2, wB C nw b, wB C tr bx2, wHa C hq ba r n, wX C iq (idxT b) (fun _ => 1) vx2 ox2, wT C tt y cd]) → va_S (q_A (List.flatten [wA C x nw tr hq iq tt sc z, wB C nw b, wB C tr b2, wHa C hq ba r n, wX C iq t f v o, wT C tt y cd]) s) s.heap H locs → lv_has ls 4 [(3, .int (nI i199)), (1, .long h199), (0, .ref x)] → W p l e (q_R 7 166) s m ([.ref x] : List Value).toArray below meth c H locs 0 0 (q_G C below (List.flatten [wA C x nw tr hq iq tt sc z, wB C nw b, wB C tr b2, wHa C hq ba r n, wX C iq t f v o, wT C tt y cd]) (fun r2 w => ∃ z1 b3 t1 f1 v1 o1, r2 = some (.long (dgL b n y cd)) ∧ w = List.flatten [wA C x nw tr hq iq tt sc z1, wB C nw b, wB C tr b3, wHa C hq ba r n, wX C iq t1 f1 v1 o1, wT C tt y cd] ∧ frB b t1 f1) ([.ref x] : List Value).toArray s) (F0 m 199 ls []) := by
                                  intro n199
                                  induction n199 with
                                  | zero => intro i199 h199 q1 q2; exact absurd q2 (by omega)
                                  | succ n199 ih199 =>
                                    intro i199 h199 hi199 hn199 hH199 H locs ls hP hD hS hl
                                    refine lv_iload_n hx hb dX4_digest_199 rfl (lv_at hl 0 rfl) ?_
                                    refine lv_aload_n hx hb dX4_digest_200 rfl (lv_at hl 2 rfl) ?_
                                    refine va_get (ci := 4) (v := .ref (tt 0)) (C := RX4) (T := TX4) (N := 6) hx hb hts hin4 hown hK.1 hP 0 rfl rfl 4 (by decide) hf36 (fun _ h9 => h9) rfl dX4_digest_201 ?_
                                    refine va_get (ci := 3) (v := .int (nI y)) (C := RX3) (T := TX3) (N := 2) hx hb hts hin3 hown hK.1 hP 25 rfl rfl 1 (by decide) hf154 (fun _ h9 => h9) rfl dX4_digest_204 ?_
                                    refine lv_icmp_ge (tgt := 235) hx hb dX4_digest_207 (by decide) (fun c207 => ?_) (fun c207 => ?_)
                                    · have c207 : y ≤ i199 := q_nge (by omega) (by omega) c207
                                      refine lv_lload_n hx hb dX4_digest_235 rfl (lv_at hl 1 rfl) ?_
                                      exact q_lret hx hb hr hlocks (w1 := List.flatten [wA C x nw tr hq iq tt sc zx2, wB C nw b, wB C tr bx2, wHa C hq ba r n, wX C iq (idxT b) (fun _ => 1) vx2 ox2, wT C tt y cd]) hP hS rfl dX4_digest_236 (⟨_, _, _, _, _, _, by rw [dgL, ← hH199, show i199 = y by omega], rfl, (frB_1 b)⟩)
                                    · have c207 : i199 < y := q_nge' (by omega) (by omega) c207
                                      refine lv_ldc2 hx hb hown hk251 dX4_digest_210 ?_
                                      refine q_tl (y := lN 31) (by decide) ?_
                                      refine lv_lload_n hx hb dX4_digest_213 rfl (lv_at hl 1 rfl) ?_
                                      refine lv_lmul hx hb dX4_digest_214 ?_
                                      refine lv_aload_n hx hb dX4_digest_215 rfl (lv_at hl 2 rfl) ?_
                                      refine va_get (ci := 4) (v := .ref (tt 0)) (C := RX4) (T := TX4) (N := 6) hx hb hts hin4 hown hK.1 hP 0 rfl rfl 4 (by decide) hf36 (fun _ h9 => h9) rfl dX4_digest_216 ?_
                                      refine va_get (ci := 3) (v := .ref (tt 1)) (C := RX3) (T := TX3) (N := 2) hx hb hts hin3 hown hK.1 hP 25 rfl rfl 0 (by decide) hf159 (fun _ h9 => h9) rfl dX4_digest_219 ?_
                                      refine lv_iload_n hx hb dX4_digest_222 rfl (lv_at hl 0 rfl) ?_
                                      refine q_S0 (As := [.ref (tt 1), .int (nI i199)]) (rest := [.long ((lN 31) * h199)]) ⟨hx, hb, hml, hown, hts⟩ (c_X4_at l C (tt 1) 60 i199 (fun k => nI (cd k)) (by omega) (by decide)) (va_cwS 2 hts gX4_digest_X4_at rfl rfl rfl (by decide +kernel) ⟨Nat.le_of_ble_eq_true rfl, Nat.le_of_ble_eq_true rfl⟩) hK hP hD hS hA [26] (by decide) rfl rfl hl.1 rfl (Nat.le_of_ble_eq_true rfl) dX4_digest_223 (Nat.zero_le _) (Nat.zero_le _) (fun H locs hP hS => ?_)
                                      refine W.eq (g2 := F0 m 226 ls [.int (nI (cd i199)), .long ((lN 31) * h199)]) rfl ?_
                                      have hc226 := hcd i199 (by omega)
                                      refine lv_i2l (v := lN (cd i199)) hx hb dX4_digest_226 (nI_l (by omega)) ?_
                                      refine lv_ladd hx hb dX4_digest_227 ?_
                                      refine lv_lstore_n (lv' := [(1, .long (((lN 31) * h199) + (lN (cd i199)))), (3, .int (nI i199)), (0, .ref x)]) hx hb dX4_digest_228 rfl hl (by decide) rfl (fun ls hl => ?_)
                                      refine lv_iinc (v := nI (i199 + 1)) (lv' := [(3, .int (nI (i199 + 1))), (1, .long (((lN 31) * h199) + (lN (cd i199)))), (0, .ref x)]) hx hb dX4_digest_229 hl (k := 1) rfl (nI_1 _) (by decide) rfl (fun ls hl => ?_)
                                      refine lv_goto (tgt := 199) hx hb dX4_digest_232 (by decide) ?_
                                      exact ih199 (i199 + 1) (((lN 31) * h199) + (lN (cd i199))) (by omega) (by omega) (by show h31 (hsF (fun k => lN (cd k)) (dg3 b n y) i199) _ = _; rw [hH199]; rfl) _ _ ls hP hD hS (lv_sub hl [0, 1, 2] rfl)
                                exact K199 (y + 1 - 0) 0 (dg3 b n y) (by omega) (by omega) rfl _ _ ls hP hD hS (lv_sub hl [0, 1, 2] rfl)
                              · have c105 : i103 < 3 := q_nge' (by omega) (by omega) c105
                                refine lv_ldc2 hx hb hown hk251 dX4_digest_108 ?_
                                refine q_tl (y := lN 31) (by decide) ?_
                                refine lv_lload_n hx hb dX4_digest_111 rfl (lv_at hl 1 rfl) ?_
                                refine lv_lmul hx hb dX4_digest_112 ?_
                                refine lv_aload_n hx hb dX4_digest_113 rfl (lv_at hl 2 rfl) ?_
                                refine lv_iload_n hx hb dX4_digest_114 rfl (lv_at hl 0 rfl) ?_
                                refine q_VB (cs := [wA C x nw tr hq iq tt sc z103, wB C nw b, wX C iq t103 f103 v103 o103]) (As := [.int (nI i103)]) (rest := [.long ((lN 31) * h103)]) ⟨hx, hb, hml, hown, hts⟩ (c_X4_choice l C x nw tr hq iq tt sc z103 b t103 f103 v103 o103 i103 hB (by omega) hfr103) (cwV 1 hts gX4_digest_X4_choice rfl rfl rfl (by decide +kernel) ⟨Nat.le_of_ble_eq_true rfl, Nat.le_of_ble_eq_true rfl⟩) hK hP hD hS hA [0, 1, 4] (by decide) rfl 0 rfl rfl rfl rfl hl.1 rfl (Nat.le_of_ble_eq_true rfl) dX4_digest_115 (Nat.zero_le _) (Nat.zero_le _) (fun r w1 H locs hQ hF hS => ?_)
                                obtain ⟨zx3, vx3, ox3, rfl, rfl⟩ := hQ
                                obtain ⟨hP, hD⟩ := hF [wA C x nw tr hq iq tt sc zx3, wB C nw b, wX C iq (idxT b) (fun _ => 1) vx3 ox3] rfl rfl
                                have hP : va_P C.1 vwCl (List.flatten [wA C x nw tr hq iq tt sc zx3, wB C nw b, wB C tr b103, wHa C hq ba r n, wX C iq (idxT b) (fun _ => 1) vx3 ox3, wT C tt y cd]) H := hP
                                have hD : va_D (q_A (List.flatten [wA C x nw tr hq iq tt sc z, wB C nw b, wB C tr b2, wHa C hq ba r n, wX C iq t f v o, wT C tt y cd]) s) (List.flatten [wA C x nw tr hq iq tt sc zx3, wB C nw b, wB C tr b103, wHa C hq ba r n, wX C iq (idxT b) (fun _ => 1) vx3 ox3, wT C tt y cd]) := hD
                                refine W.eq (g2 := F0 m 118 ls [.int (nI (choN b (idxT b) i103)), .long ((lN 31) * h103)]) rfl ?_
                                refine lv_i2l (v := (nI (choN b (idxT b) i103)).toInt64) hx hb dX4_digest_118 rfl ?_
                                refine lv_ladd hx hb dX4_digest_119 ?_
                                refine lv_lstore_n (lv' := [(1, .long (((lN 31) * h103) + ((nI (choN b (idxT b) i103)).toInt64))), (3, .int (nI i103)), (0, .ref x)]) hx hb dX4_digest_120 rfl hl (by decide) rfl (fun ls hl => ?_)
                                refine lv_ldc2 hx hb hown hk251 dX4_digest_121 ?_
                                refine q_tl (y := lN 31) (by decide) ?_
                                refine lv_lload_n hx hb dX4_digest_124 rfl (lv_at hl 0 rfl) ?_
                                refine lv_lmul hx hb dX4_digest_125 ?_
                                refine lv_aload_n hx hb dX4_digest_126 rfl (lv_at hl 2 rfl) ?_
                                refine lv_iload_n hx hb dX4_digest_127 rfl (lv_at hl 1 rfl) ?_
                                refine lv_iconst (v := nI 5) hx hb dX4_digest_128 (by decide) ?_
                                refine q_VB (cs := [wA C x nw tr hq iq tt sc zx3, wB C nw b, wB C tr b103, wX C iq (idxT b) (fun _ => 1) vx3 ox3]) (As := [.int (nI i103), .int (nI 5)]) (rest := [.long ((lN 31) * (((lN 31) * h103) + ((nI (choN b (idxT b) i103)).toInt64)))]) ⟨hx, hb, hml, hown, hts⟩ (c_X4_ifPlayed l C x nw tr hq iq tt sc zx3 b b103 (idxT b) (fun _ => 1) vx3 ox3 i103 5 hB (by omega) (by omega) (by omega) (frB_1 b)) (cwV 2 hts gX4_digest_X4_ifPlayed rfl rfl rfl (by decide +kernel) ⟨Nat.le_of_ble_eq_true rfl, Nat.le_of_ble_eq_true rfl⟩) hK hP hD hS hA [0, 1, 2, 4] (by decide) rfl 0 rfl rfl rfl rfl hl.1 rfl (Nat.le_of_ble_eq_true rfl) dX4_digest_129 (Nat.zero_le _) (Nat.zero_le _) (fun r w1 H locs hQ hF hS => ?_)
                                obtain ⟨zx4, bx4, vx4, ox4, rfl, rfl⟩ := hQ
                                obtain ⟨hP, hD⟩ := hF [wA C x nw tr hq iq tt sc zx4, wB C nw b, wB C tr bx4, wX C iq (idxT b) (fun _ => 1) vx4 ox4] rfl rfl
                                have hP : va_P C.1 vwCl (List.flatten [wA C x nw tr hq iq tt sc zx4, wB C nw b, wB C tr bx4, wHa C hq ba r n, wX C iq (idxT b) (fun _ => 1) vx4 ox4, wT C tt y cd]) H := hP
                                have hD : va_D (q_A (List.flatten [wA C x nw tr hq iq tt sc z, wB C nw b, wB C tr b2, wHa C hq ba r n, wX C iq t f v o, wT C tt y cd]) s) (List.flatten [wA C x nw tr hq iq tt sc zx4, wB C nw b, wB C tr bx4, wHa C hq ba r n, wX C iq (idxT b) (fun _ => 1) vx4 ox4, wT C tt y cd]) := hD
                                refine W.eq (g2 := F0 m 132 ls [.long (gnN b i103 5), .long ((lN 31) * (((lN 31) * h103) + ((nI (choN b (idxT b) i103)).toInt64)))]) rfl ?_
                                refine lv_ladd hx hb dX4_digest_132 ?_
                                refine lv_lstore_n (lv' := [(1, .long (((lN 31) * (((lN 31) * h103) + ((nI (choN b (idxT b) i103)).toInt64))) + (gnN b i103 5))), (3, .int (nI i103)), (0, .ref x)]) hx hb dX4_digest_133 rfl hl (by decide) rfl (fun ls hl => ?_)
                                refine lv_iinc (v := nI (i103 + 1)) (lv' := [(3, .int (nI (i103 + 1))), (1, .long (((lN 31) * (((lN 31) * h103) + ((nI (choN b (idxT b) i103)).toInt64))) + (gnN b i103 5))), (0, .ref x)]) hx hb dX4_digest_134 hl (k := 1) rfl (nI_1 _) (by decide) rfl (fun ls hl => ?_)
                                refine lv_goto (tgt := 103) hx hb dX4_digest_137 (by decide) ?_
                                exact ih103 (i103 + 1) (((lN 31) * (((lN 31) * h103) + ((nI (choN b (idxT b) i103)).toInt64))) + (gnN b i103 5)) zx4 bx4 (idxT b) (fun _ => 1) vx4 ox4 (by omega) (by omega) (by show h31 (h31 (hRul b (hArms b (hsF (fun k => lN (bs b k)) (hsF (fun w => suL b w) (hsF (fun w => (cnI b n w).toInt64) (lN 2843) 4) 3) 4) 4) i103) _) _ = _; rw [hH103]; rfl) (frB_1 b) _ _ ls hP hD hS (lv_sub hl [0, 1, 2] rfl)
                          exact K103 (3 + 1 - 0) 0 h83 z b2 t83 f83 v83 o83 (by omega) (by omega) (by have q := hH83; rw [show i83 = 4 by omega] at q; exact q) hfr83 _ _ ls hP hD hS (lv_sub hl [0, 1, 2] rfl)
                        · have c85 : i83 < 4 := q_nge' (by omega) (by omega) c85
                          refine lv_aload_n hx hb dX4_digest_88 rfl (lv_at hl 2 rfl) ?_
                          refine lv_lload_n hx hb dX4_digest_89 rfl (lv_at hl 1 rfl) ?_
                          refine lv_iload_n hx hb dX4_digest_90 rfl (lv_at hl 0 rfl) ?_
                          refine q_VB (cs := [wA C x nw tr hq iq tt sc z, wB C nw b, wX C iq t83 f83 v83 o83]) (As := [.long h83, .int (nI i83)]) (rest := []) ⟨hx, hb, hml, hown, hts⟩ (c_X4_hashOfArm l C x nw tr hq iq tt sc z b t83 f83 v83 o83 h83 i83 hB (by omega) hfr83) (cwV 2 hts gX4_digest_X4_hashOfArm rfl rfl rfl (by decide +kernel) ⟨Nat.le_of_ble_eq_true rfl, Nat.le_of_ble_eq_true rfl⟩) hK hP hD hS hA [0, 1, 4] (by decide) rfl 0 rfl rfl rfl rfl hl.1 rfl (Nat.le_of_ble_eq_true rfl) dX4_digest_91 (Nat.zero_le _) (Nat.zero_le _) (fun r w1 H locs hQ hF hS => ?_)
                          obtain ⟨tx5, fx5, vx5, ox5, rfl, rfl, hfx5⟩ := hQ
                          obtain ⟨hP, hD⟩ := hF [wA C x nw tr hq iq tt sc z, wB C nw b, wX C iq tx5 fx5 vx5 ox5] rfl rfl
                          have hP : va_P C.1 vwCl (List.flatten [wA C x nw tr hq iq tt sc z, wB C nw b, wB C tr b2, wHa C hq ba r n, wX C iq tx5 fx5 vx5 ox5, wT C tt y cd]) H := hP
                          have hD : va_D (q_A (List.flatten [wA C x nw tr hq iq tt sc z, wB C nw b, wB C tr b2, wHa C hq ba r n, wX C iq t f v o, wT C tt y cd]) s) (List.flatten [wA C x nw tr hq iq tt sc z, wB C nw b, wB C tr b2, wHa C hq ba r n, wX C iq tx5 fx5 vx5 ox5, wT C tt y cd]) := hD
                          refine W.eq (g2 := F0 m 94 ls [.long (hArm b i83 h83)]) rfl ?_
                          refine lv_lstore_n (lv' := [(1, .long (hArm b i83 h83)), (3, .int (nI i83)), (0, .ref x)]) hx hb dX4_digest_94 rfl hl (by decide) rfl (fun ls hl => ?_)
                          refine lv_iinc (v := nI (i83 + 1)) (lv' := [(3, .int (nI (i83 + 1))), (1, .long (hArm b i83 h83)), (0, .ref x)]) hx hb dX4_digest_95 hl (k := 1) rfl (nI_1 _) (by decide) rfl (fun ls hl => ?_)
                          refine lv_goto (tgt := 83) hx hb dX4_digest_98 (by decide) ?_
                          exact ih83 (i83 + 1) (hArm b i83 h83) tx5 fx5 vx5 ox5 (by omega) (by omega) (by show hArm b i83 (hArms b (hsF (fun k => lN (bs b k)) (hsF (fun w => suL b w) (hsF (fun w => (cnI b n w).toInt64) (lN 2843) 4) 3) 4) i83) = _; rw [hH83]) hfx5 _ _ ls hP hD hS (lv_sub hl [0, 1, 2] rfl)
                    exact K83 (4 + 1 - 0) 0 h57 t f v o (by omega) (by omega) (by have q := hH57; rw [show i57 = 4 by omega] at q; exact q) hfr _ _ ls hP hD hS (lv_sub hl [0, 1, 2] rfl)
                  · have c59 : i57 < 4 := q_nge' (by omega) (by omega) c59
                    refine lv_ldc2 hx hb hown hk251 dX4_digest_62 ?_
                    refine q_tl (y := lN 31) (by decide) ?_
                    refine lv_lload_n hx hb dX4_digest_65 rfl (lv_at hl 1 rfl) ?_
                    refine lv_lmul hx hb dX4_digest_66 ?_
                    refine lv_aload_n hx hb dX4_digest_67 rfl (lv_at hl 2 rfl) ?_
                    refine lv_iload_n hx hb dX4_digest_68 rfl (lv_at hl 0 rfl) ?_
                    refine q_V0 (As := [.int (nI i57)]) (rest := [.long ((lN 31) * h57)]) ⟨hx, hb, hml, hown, hts⟩ (c_X4_setting l C x nw tr hq iq tt sc z b i57 (by omega)) (cwV 1 hts gX4_digest_X4_setting rfl rfl rfl (by decide +kernel) ⟨Nat.le_of_ble_eq_true rfl, Nat.le_of_ble_eq_true rfl⟩) hK hP hD hS hA [0, 1, 2, 3, 4, 5, 6, 7, 8, 9] (by decide) rfl 0 rfl rfl rfl rfl hl.1 rfl (Nat.le_of_ble_eq_true rfl) dX4_digest_69 (Nat.zero_le _) (Nat.zero_le _) (fun H locs hP hS => ?_)
                    refine W.eq (g2 := F0 m 72 ls [.int (nI (bs b i57)), .long ((lN 31) * h57)]) rfl ?_
                    have hbs72 := bs_lt hB (k := i57) (by omega)
                    refine lv_i2l (v := lN (bs b i57)) hx hb dX4_digest_72 (nI_l (by omega)) ?_
                    refine lv_ladd hx hb dX4_digest_73 ?_
                    refine lv_lstore_n (lv' := [(1, .long (((lN 31) * h57) + (lN (bs b i57)))), (3, .int (nI i57)), (0, .ref x)]) hx hb dX4_digest_74 rfl hl (by decide) rfl (fun ls hl => ?_)
                    refine lv_iinc (v := nI (i57 + 1)) (lv' := [(3, .int (nI (i57 + 1))), (1, .long (((lN 31) * h57) + (lN (bs b i57)))), (0, .ref x)]) hx hb dX4_digest_75 hl (k := 1) rfl (nI_1 _) (by decide) rfl (fun ls hl => ?_)
                    refine lv_goto (tgt := 57) hx hb dX4_digest_78 (by decide) ?_
                    exact ih57 (i57 + 1) (((lN 31) * h57) + (lN (bs b i57))) (by omega) (by omega) (by show h31 (hsF (fun k => lN (bs b k)) (hsF (fun w => suL b w) (hsF (fun w => (cnI b n w).toInt64) (lN 2843) 4) 3) i57) _ = _; rw [hH57]; rfl) _ _ ls hP hD hS (lv_sub hl [0, 1, 2] rfl)
              exact K57 (4 + 1 - 0) 0 h32 (by omega) (by omega) (by have q := hH32; rw [show i32 = 3 by omega] at q; exact q) _ _ ls hP hD hS (lv_sub hl [0, 1, 2] rfl)
            · have c34 : i32 ≤ 2 := q_ngt' (by omega) (by omega) c34
              refine lv_ldc2 hx hb hown hk251 dX4_digest_37 ?_
              refine q_tl (y := lN 31) (by decide) ?_
              refine lv_lload_n hx hb dX4_digest_40 rfl (lv_at hl 1 rfl) ?_
              refine lv_lmul hx hb dX4_digest_41 ?_
              refine lv_aload_n hx hb dX4_digest_42 rfl (lv_at hl 2 rfl) ?_
              refine lv_iload_n hx hb dX4_digest_43 rfl (lv_at hl 0 rfl) ?_
              refine q_V0 (As := [.int (nI i32)]) (rest := [.long ((lN 31) * h32)]) ⟨hx, hb, hml, hown, hts⟩ (c_X4_sum l C x nw tr hq iq tt sc z b i32 (by omega)) (cwV 1 hts gX4_digest_X4_sum rfl rfl rfl (by decide +kernel) ⟨Nat.le_of_ble_eq_true rfl, Nat.le_of_ble_eq_true rfl⟩) hK hP hD hS hA [0, 1, 2, 3, 4, 5, 6, 7, 8, 9] (by decide) rfl 0 rfl rfl rfl rfl hl.1 rfl (Nat.le_of_ble_eq_true rfl) dX4_digest_44 (Nat.zero_le _) (Nat.zero_le _) (fun H locs hP hS => ?_)
              refine W.eq (g2 := F0 m 47 ls [.long (suL b i32), .long ((lN 31) * h32)]) rfl ?_
              refine lv_ladd hx hb dX4_digest_47 ?_
              refine lv_lstore_n (lv' := [(1, .long (((lN 31) * h32) + (suL b i32))), (3, .int (nI i32)), (0, .ref x)]) hx hb dX4_digest_48 rfl hl (by decide) rfl (fun ls hl => ?_)
              refine lv_iinc (v := nI (i32 + 1)) (lv' := [(3, .int (nI (i32 + 1))), (1, .long (((lN 31) * h32) + (suL b i32))), (0, .ref x)]) hx hb dX4_digest_49 hl (k := 1) rfl (nI_1 _) (by decide) rfl (fun ls hl => ?_)
              refine lv_goto (tgt := 32) hx hb dX4_digest_52 (by decide) ?_
              exact ih32 (i32 + 1) (((lN 31) * h32) + (suL b i32)) (by omega) (by omega) (by show h31 (hsF (fun w => suL b w) (hsF (fun w => (cnI b n w).toInt64) (lN 2843) 4) i32) _ = _; rw [hH32]; rfl) _ _ ls hP hD hS (lv_sub hl [0, 1, 2] rfl)
        exact K32 (3 + 1 - 0) 0 h6 (by omega) (by omega) (by have q := hH6; rw [show i6 = 4 by omega] at q; exact q) _ _ ls hP hD hS (lv_sub hl [0, 1, 2] rfl)
      · have c8 : i6 ≤ 3 := q_ngt' (by omega) (by omega) c8
        refine lv_ldc2 hx hb hown hk251 dX4_digest_11 ?_
        refine q_tl (y := lN 31) (by decide) ?_
        refine lv_lload_n hx hb dX4_digest_14 rfl (lv_at hl 1 rfl) ?_
        refine lv_lmul hx hb dX4_digest_15 ?_
        refine lv_aload_n hx hb dX4_digest_16 rfl (lv_at hl 2 rfl) ?_
        refine lv_iload_n hx hb dX4_digest_17 rfl (lv_at hl 0 rfl) ?_
        refine q_V0 (As := [.int (nI i6)]) (rest := [.long ((lN 31) * h6)]) ⟨hx, hb, hml, hown, hts⟩ (c_X4_count l C x nw tr hq iq tt sc z b ba r n i6 (by omega)) (cwV 1 hts gX4_digest_X4_count rfl rfl rfl (by decide +kernel) ⟨Nat.le_of_ble_eq_true rfl, Nat.le_of_ble_eq_true rfl⟩) hK hP hD hS hA [0, 1, 2, 3, 4, 5, 6, 7, 8, 9, 18, 19] (by decide) rfl 0 rfl rfl rfl rfl hl.1 rfl (Nat.le_of_ble_eq_true rfl) dX4_digest_18 (Nat.zero_le _) (Nat.zero_le _) (fun H locs hP hS => ?_)
        refine W.eq (g2 := F0 m 21 ls [.int (cnI b n i6), .long ((lN 31) * h6)]) rfl ?_
        refine lv_i2l (v := (cnI b n i6).toInt64) hx hb dX4_digest_21 rfl ?_
        refine lv_ladd hx hb dX4_digest_22 ?_
        refine lv_lstore_n (lv' := [(1, .long (((lN 31) * h6) + ((cnI b n i6).toInt64))), (3, .int (nI i6)), (0, .ref x)]) hx hb dX4_digest_23 rfl hl (by decide) rfl (fun ls hl => ?_)
        refine lv_iinc (v := nI (i6 + 1)) (lv' := [(3, .int (nI (i6 + 1))), (1, .long (((lN 31) * h6) + ((cnI b n i6).toInt64))), (0, .ref x)]) hx hb dX4_digest_24 hl (k := 1) rfl (nI_1 _) (by decide) rfl (fun ls hl => ?_)
        refine lv_goto (tgt := 6) hx hb dX4_digest_27 (by decide) ?_
        exact ih6 (i6 + 1) (((lN 31) * h6) + ((cnI b n i6).toInt64)) (by omega) (by omega) (by show h31 (hsF (fun w => (cnI b n w).toInt64) (lN 2843) i6) _ = _; rw [hH6]; rfl) _ _ ls hP hD hS (lv_sub hl [0, 1, 2] rfl)
  exact K6 (4 + 1 - 0) 0 (lN 2843) (by omega) (by omega) rfl _ _ ls hP hD hS (lv_sub hl [0, 1, 2] rfl)
