/-! the small methods: contracts -/
theorem q_lz : lN 0 = (0 : Int64) := by decide
theorem q_ne0l {y : Int64} {n : Nat} (h : y = lN n) (h0 : 0 < n) (h1 : n < 2 ^ 31) : ¬ y = 0 := by
  intro e
  have e2 := lN_toInt h1
  rw [← h, e] at e2
  have : (0 : Int64).toInt = 0 := rfl
  omega
set_option maxHeartbeats 4000000 in
set_option maxRecDepth 100000 in
theorem c_J9_floorDiv_f86c9 (l : Launch) (C : q_C) (x y : Int64) (h0_2 : ¬ y = 0) : q_M C l yJ9_floorDiv_f86c9 wsJ9_floorDiv_f86c9 0 0 [.long x, .long y] (([] : va_W)) (fun r w => r = some (.long (fdv x y)) ∧ w = []) := by
  refine q_head (cc := cJ9_floorDiv_f86c9) (maxL := 6) (ret := (some .long)) (by decide +kernel) rfl (Nat.le_of_ble_eq_true rfl) ?_
  intro p e s m below meth c hx hb hr hlocks hml hown hts hK hP hD hS hA ls hl
  have hl : lv_has ls 6 [(0, .long x), (2, .long y)] := hl
  refine lv_lload_n hx hb dJ9_floorDiv_f86c9_0 rfl (lv_at hl 0 rfl) ?_
  refine lv_lload_n hx hb dJ9_floorDiv_f86c9_1 rfl (lv_at hl 1 rfl) ?_
  refine lv_ldiv hx hb dJ9_floorDiv_f86c9_2 h0_2 ?_
  refine lv_lstore (lv' := [(4, .long (x / y)), (0, .long x), (2, .long y)]) hx hb dJ9_floorDiv_f86c9_3 hl (by decide) rfl (fun ls hl => ?_)
  refine lv_lload_n hx hb dJ9_floorDiv_f86c9_5 rfl (lv_at hl 1 rfl) ?_
  refine lv_lload_n hx hb dJ9_floorDiv_f86c9_6 rfl (lv_at hl 2 rfl) ?_
  refine lv_lxor hx hb dJ9_floorDiv_f86c9_7 ?_
  refine lv_lconst (v := lN 0) hx hb dJ9_floorDiv_f86c9_8 (by decide) ?_
  refine W.lcmp hx hb dJ9_floorDiv_f86c9_9 ?_
  refine lv_if_ge (tgt := 27) hx hb dJ9_floorDiv_f86c9_10 (by decide) (fun c10 => ?_) (fun c10 => ?_)
  · have c10 : (lN 0) ≤ (x ^^^ y) := q_lge c10
    refine lv_lload hx hb dJ9_floorDiv_f86c9_27 (lv_at hl 0 rfl) ?_
    exact q_lret hx hb hr hlocks (w1 := ([] : va_W)) hP hS rfl dJ9_floorDiv_f86c9_29 (⟨by rw [fdv, if_neg (fun q => Int64.not_lt.mpr (q_lz ▸ c10) q.1)], rfl⟩)
  · have c10 : (x ^^^ y) < (lN 0) := q_lge' c10
    refine lv_lload hx hb dJ9_floorDiv_f86c9_13 (lv_at hl 0 rfl) ?_
    refine lv_lload_n hx hb dJ9_floorDiv_f86c9_15 rfl (lv_at hl 2 rfl) ?_
    refine lv_lmul hx hb dJ9_floorDiv_f86c9_16 ?_
    refine lv_lload_n hx hb dJ9_floorDiv_f86c9_17 rfl (lv_at hl 1 rfl) ?_
    refine W.lcmp hx hb dJ9_floorDiv_f86c9_18 ?_
    refine lv_if_eq (tgt := 27) hx hb dJ9_floorDiv_f86c9_19 (by decide) (fun c19 => ?_) (fun c19 => ?_)
    · have c19 : ((x / y) * y) = x := q_leq c19
      refine lv_lload hx hb dJ9_floorDiv_f86c9_27 (lv_at hl 0 rfl) ?_
      exact q_lret hx hb hr hlocks (w1 := ([] : va_W)) hP hS rfl dJ9_floorDiv_f86c9_29 (⟨by rw [fdv, if_neg (fun q => q.2 c19)], rfl⟩)
    · have c19 : ((x / y) * y) ≠ x := q_leq' c19
      refine lv_lload hx hb dJ9_floorDiv_f86c9_22 (lv_at hl 0 rfl) ?_
      refine lv_lconst (v := lN 1) hx hb dJ9_floorDiv_f86c9_24 (by decide) ?_
      refine lv_lsub hx hb dJ9_floorDiv_f86c9_25 ?_
      exact q_lret hx hb hr hlocks (w1 := ([] : va_W)) hP hS rfl dJ9_floorDiv_f86c9_26 (⟨by rw [fdv, if_pos ⟨q_lz ▸ c10, c19⟩, show (lN 1 : Int64) = 1 from by decide], rfl⟩)
set_option maxHeartbeats 4000000 in
set_option maxRecDepth 100000 in
theorem c_X4_isWithin (l : Launch) (C : q_C) (x lo hi : Int32) : q_M C l yX4_isWithin wsX4_isWithin 0 0 [.int x, .int lo, .int hi] (([] : va_W)) (fun r w => r = some (.int (q_b (decide (lo ≤ x ∧ x ≤ hi)))) ∧ w = []) := by
  refine q_head (cc := cX4_isWithin) (maxL := 3) (ret := (some .boolean)) (by decide +kernel) rfl (Nat.le_of_ble_eq_true rfl) ?_
  intro p e s m below meth c hx hb hr hlocks hml hown hts hK hP hD hS hA ls hl
  have hl : lv_has ls 3 [(0, .int x), (1, .int lo), (2, .int hi)] := hl
  refine lv_iload_n hx hb dX4_isWithin_0 rfl (lv_at hl 0 rfl) ?_
  refine lv_iload_n hx hb dX4_isWithin_1 rfl (lv_at hl 1 rfl) ?_
  refine lv_icmp_lt (tgt := 14) hx hb dX4_isWithin_2 (by decide) (fun c2 => ?_) (fun c2 => ?_)
  · skip
    refine lv_iconst (v := nI 0) hx hb dX4_isWithin_14 (by decide) ?_
    exact q_zret hx hb hr hlocks rfl (w1 := ([] : va_W)) hP hS rfl dX4_isWithin_15 (⟨congrArg (fun z => some (Value.int z)) (q_bf (decide_eq_false (fun q => Int32.not_lt.mpr q.1 c2))), rfl⟩)
  · skip
    refine lv_iload_n hx hb dX4_isWithin_5 rfl (lv_at hl 0 rfl) ?_
    refine lv_iload_n hx hb dX4_isWithin_6 rfl (lv_at hl 2 rfl) ?_
    refine lv_icmp_gt (tgt := 14) hx hb dX4_isWithin_7 (by decide) (fun c7 => ?_) (fun c7 => ?_)
    · skip
      refine lv_iconst (v := nI 0) hx hb dX4_isWithin_14 (by decide) ?_
      exact q_zret hx hb hr hlocks rfl (w1 := ([] : va_W)) hP hS rfl dX4_isWithin_15 (⟨congrArg (fun z => some (Value.int z)) (q_bf (decide_eq_false (fun q => Int32.not_lt.mpr q.2 c7))), rfl⟩)
    · skip
      refine lv_iconst (v := nI 1) hx hb dX4_isWithin_10 (by decide) ?_
      refine lv_goto (tgt := 15) hx hb dX4_isWithin_11 (by decide) ?_
      exact q_zret hx hb hr hlocks rfl (w1 := ([] : va_W)) hP hS rfl dX4_isWithin_15 (⟨congrArg (fun z => some (Value.int z)) (q_bt (decide_eq_true ⟨Int32.not_lt.mp c2, Int32.not_lt.mp c7⟩)), rfl⟩)
set_option maxHeartbeats 4000000 in
set_option maxRecDepth 100000 in
theorem c_X4_slotOf (l : Launch) (C : q_C) (a t : Nat) : q_M C l yX4_slotOf wsX4_slotOf 0 0 [.int (nI a), .int (nI t)] (([] : va_W)) (fun r w => r = some (.int (nI (4 * a + t))) ∧ w = []) := by
  refine q_head (cc := cX4_slotOf) (maxL := 2) (ret := (some .int)) (by decide +kernel) rfl (Nat.le_of_ble_eq_true rfl) ?_
  intro p e s m below meth c hx hb hr hlocks hml hown hts hK hP hD hS hA ls hl
  have hl : lv_has ls 2 [(0, .int (nI a)), (1, .int (nI t))] := hl
  refine lv_iload_n hx hb dX4_slotOf_0 rfl (lv_at hl 0 rfl) ?_
  refine lv_iconst (v := nI 4) hx hb dX4_slotOf_1 (by decide) ?_
  refine lv_imul hx hb dX4_slotOf_2 ?_
  refine q_ti (y := nI (a * 4)) (pk_mul _ _) ?_
  refine lv_iload_n hx hb dX4_slotOf_3 rfl (lv_at hl 1 rfl) ?_
  refine lv_iadd hx hb dX4_slotOf_4 ?_
  refine q_ti (y := nI ((a * 4) + t)) (nI_add _ _) ?_
  exact q_iret hx hb hr hlocks (w1 := ([] : va_W)) hP hS rfl dX4_slotOf_5 (⟨by rw [Nat.mul_comm a 4], rfl⟩)
set_option maxHeartbeats 4000000 in
set_option maxRecDepth 100000 in
theorem c_X4_at (l : Launch) (C : q_C) (a N k : Nat) (f : Nat → Int32) (hk : k < N) (hN : N < 2 ^ 31) : q_M C l yX4_at wsX4_at 0 0 [.ref a, .int (nI k)] ([(a, .inl (C.2.1, N, .inl f))]) (fun r w => r = some (.int (f k)) ∧ w = [(a, .inl (C.2.1, N, .inl f))]) := by
  refine q_head (cc := cX4_at) (maxL := 2) (ret := (some .int)) (by decide +kernel) rfl (Nat.le_of_ble_eq_true rfl) ?_
  intro p e s m below meth c hx hb hr hlocks hml hown hts hK hP hD hS hA ls hl
  have hl : lv_has ls 2 [(0, .ref a), (1, .int (nI k))] := hl
  refine lv_iload_n hx hb dX4_at_0 rfl (lv_at hl 1 rfl) ?_
  refine lv_if_lt (tgt := 16) hx hb dX4_at_1 (by decide) (fun c1 => ?_) (fun c1 => ?_)
  · have c1 : k < 0 := q_nlt0 (by omega) (by omega) c1
    exact absurd c1 (by omega)
  have c1 : 0 ≤ k := q_nlt0' (by omega) (by omega) c1
  refine lv_iload_n hx hb dX4_at_4 rfl (lv_at hl 1 rfl) ?_
  refine lv_aload_n hx hb dX4_at_5 rfl (lv_at hl 0 rfl) ?_
  refine va_alen hx hb hK.1 hP 0 0 rfl rfl (v := nI N) rfl dX4_at_6 ?_
  refine lv_icmp_ge (tgt := 16) hx hb dX4_at_7 (by decide) (fun c7 => ?_) (fun c7 => ?_)
  · have c7 : N ≤ k := q_nge (by omega) (by omega) c7
    exact absurd c7 (by omega)
  have c7 : k < N := q_nge' (by omega) (by omega) c7
  refine lv_aload_n hx hb dX4_at_10 rfl (lv_at hl 0 rfl) ?_
  refine lv_iload_n hx hb dX4_at_11 rfl (lv_at hl 1 rfl) ?_
  refine q_iald (n := k) (v := f k) hx hb hK hP 0 rfl (by omega) (by omega) rfl dX4_at_12 ?_
  refine lv_goto (tgt := 17) hx hb dX4_at_13 (by decide) ?_
  exact q_iret hx hb hr hlocks (w1 := [(a, .inl (C.2.1, N, .inl f))]) hP hS rfl dX4_at_17 (⟨rfl, rfl⟩)
set_option maxHeartbeats 4000000 in
set_option maxRecDepth 100000 in
theorem c_X4_at_ (l : Launch) (C : q_C) (a N k : Nat) (f : Nat → Int64) (hk : k < N) (hN : N < 2 ^ 31) : q_M C l yX4_at_ wsX4_at_ 0 0 [.ref a, .int (nI k)] ([(a, .inl (C.2.2.1, N, .inr (.inl f)))]) (fun r w => r = some (.long (f k)) ∧ w = [(a, .inl (C.2.2.1, N, .inr (.inl f)))]) := by
  refine q_head (cc := cX4_at_) (maxL := 2) (ret := (some .long)) (by decide +kernel) rfl (Nat.le_of_ble_eq_true rfl) ?_
  intro p e s m below meth c hx hb hr hlocks hml hown hts hK hP hD hS hA ls hl
  have hl : lv_has ls 2 [(0, .ref a), (1, .int (nI k))] := hl
  refine lv_iload_n hx hb dX4_at__0 rfl (lv_at hl 1 rfl) ?_
  refine lv_if_lt (tgt := 16) hx hb dX4_at__1 (by decide) (fun c1 => ?_) (fun c1 => ?_)
  · have c1 : k < 0 := q_nlt0 (by omega) (by omega) c1
    exact absurd c1 (by omega)
  have c1 : 0 ≤ k := q_nlt0' (by omega) (by omega) c1
  refine lv_iload_n hx hb dX4_at__4 rfl (lv_at hl 1 rfl) ?_
  refine lv_aload_n hx hb dX4_at__5 rfl (lv_at hl 0 rfl) ?_
  refine va_alen hx hb hK.1 hP 0 1 rfl rfl (v := nI N) rfl dX4_at__6 ?_
  refine lv_icmp_ge (tgt := 16) hx hb dX4_at__7 (by decide) (fun c7 => ?_) (fun c7 => ?_)
  · have c7 : N ≤ k := q_nge (by omega) (by omega) c7
    exact absurd c7 (by omega)
  have c7 : k < N := q_nge' (by omega) (by omega) c7
  refine lv_aload_n hx hb dX4_at__10 rfl (lv_at hl 0 rfl) ?_
  refine lv_iload_n hx hb dX4_at__11 rfl (lv_at hl 1 rfl) ?_
  refine q_lald (n := k) (v := f k) hx hb hK hP 0 rfl (by omega) (by omega) rfl dX4_at__12 ?_
  refine lv_goto (tgt := 17) hx hb dX4_at__13 (by decide) ?_
  exact q_lret hx hb hr hlocks (w1 := [(a, .inl (C.2.2.1, N, .inr (.inl f)))]) hP hS rfl dX4_at__17 (⟨rfl, rfl⟩)
set_option maxHeartbeats 4000000 in
set_option maxRecDepth 100000 in
theorem c_X4_store (l : Launch) (C : q_C) (a N k : Nat) (f : Nat → Int32) (v : Int32) (hk : k < N) (hN : N < 2 ^ 31) : q_M C l yX4_store wsX4_store 0 0 [.ref a, .int (nI k), .int v] ([(a, .inl (C.2.1, N, .inl f))]) (fun r w => r = none ∧ w = [(a, .inl (C.2.1, N, .inl (upd f k v)))]) := by
  refine q_head (cc := cX4_store) (maxL := 3) (ret := none) (by decide +kernel) rfl (Nat.le_of_ble_eq_true rfl) ?_
  intro p e s m below meth c hx hb hr hlocks hml hown hts hK hP hD hS hA ls hl
  have hl : lv_has ls 3 [(0, .ref a), (1, .int (nI k)), (2, .int v)] := hl
  refine lv_iload_n hx hb dX4_store_0 rfl (lv_at hl 1 rfl) ?_
  refine lv_if_lt (tgt := 14) hx hb dX4_store_1 (by decide) (fun c1 => ?_) (fun c1 => ?_)
  · have c1 : k < 0 := q_nlt0 (by omega) (by omega) c1
    exact absurd c1 (by omega)
  have c1 : 0 ≤ k := q_nlt0' (by omega) (by omega) c1
  refine lv_iload_n hx hb dX4_store_4 rfl (lv_at hl 1 rfl) ?_
  refine lv_aload_n hx hb dX4_store_5 rfl (lv_at hl 0 rfl) ?_
  refine va_alen hx hb hK.1 hP 0 0 rfl rfl (v := nI N) rfl dX4_store_6 ?_
  refine lv_icmp_ge (tgt := 14) hx hb dX4_store_7 (by decide) (fun c7 => ?_) (fun c7 => ?_)
  · have c7 : N ≤ k := q_nge (by omega) (by omega) c7
    exact absurd c7 (by omega)
  have c7 : k < N := q_nge' (by omega) (by omega) c7
  refine lv_aload_n hx hb dX4_store_10 rfl (lv_at hl 0 rfl) ?_
  refine lv_iload_n hx hb dX4_store_11 rfl (lv_at hl 1 rfl) ?_
  refine lv_iload_n hx hb dX4_store_12 rfl (lv_at hl 2 rfl) ?_
  refine q_iast (n := k) hx hb hK hP hD hS 0 rfl (by omega) (by omega) dX4_store_13 (fun H locs hP hD hS => ?_)
  have hP : va_P C.1 vwCl ([(a, .inl (C.2.1, N, .inl (upd f k v)))]) H := hP
  have hD : va_D (q_A ([(a, .inl (C.2.1, N, .inl f))]) s) ([(a, .inl (C.2.1, N, .inl (upd f k v)))]) := hD
  exact q_vret hx hb hr hlocks (w1 := [(a, .inl (C.2.1, N, .inl (upd f k v)))]) hP hS rfl dX4_store_14 (⟨rfl, rfl⟩)
set_option maxHeartbeats 4000000 in
set_option maxRecDepth 100000 in
theorem c_X4_store_ (l : Launch) (C : q_C) (a N k : Nat) (f : Nat → Int64) (v : Int64) (hk : k < N) (hN : N < 2 ^ 31) : q_M C l yX4_store_ wsX4_store_ 0 0 [.ref a, .int (nI k), .long v] ([(a, .inl (C.2.2.1, N, .inr (.inl f)))]) (fun r w => r = none ∧ w = [(a, .inl (C.2.2.1, N, .inr (.inl (vp_updL f k v))))]) := by
  refine q_head (cc := cX4_store_) (maxL := 4) (ret := none) (by decide +kernel) rfl (Nat.le_of_ble_eq_true rfl) ?_
  intro p e s m below meth c hx hb hr hlocks hml hown hts hK hP hD hS hA ls hl
  have hl : lv_has ls 4 [(0, .ref a), (1, .int (nI k)), (2, .long v)] := hl
  refine lv_iload_n hx hb dX4_store__0 rfl (lv_at hl 1 rfl) ?_
  refine lv_if_lt (tgt := 14) hx hb dX4_store__1 (by decide) (fun c1 => ?_) (fun c1 => ?_)
  · have c1 : k < 0 := q_nlt0 (by omega) (by omega) c1
    exact absurd c1 (by omega)
  have c1 : 0 ≤ k := q_nlt0' (by omega) (by omega) c1
  refine lv_iload_n hx hb dX4_store__4 rfl (lv_at hl 1 rfl) ?_
  refine lv_aload_n hx hb dX4_store__5 rfl (lv_at hl 0 rfl) ?_
  refine va_alen hx hb hK.1 hP 0 1 rfl rfl (v := nI N) rfl dX4_store__6 ?_
  refine lv_icmp_ge (tgt := 14) hx hb dX4_store__7 (by decide) (fun c7 => ?_) (fun c7 => ?_)
  · have c7 : N ≤ k := q_nge (by omega) (by omega) c7
    exact absurd c7 (by omega)
  have c7 : k < N := q_nge' (by omega) (by omega) c7
  refine lv_aload_n hx hb dX4_store__10 rfl (lv_at hl 0 rfl) ?_
  refine lv_iload_n hx hb dX4_store__11 rfl (lv_at hl 1 rfl) ?_
  refine lv_lload_n hx hb dX4_store__12 rfl (lv_at hl 2 rfl) ?_
  refine q_last (n := k) hx hb hK hP hD hS 0 rfl (by omega) (by omega) dX4_store__13 (fun H locs hP hD hS => ?_)
  have hP : va_P C.1 vwCl ([(a, .inl (C.2.2.1, N, .inr (.inl (vp_updL f k v))))]) H := hP
  have hD : va_D (q_A ([(a, .inl (C.2.2.1, N, .inr (.inl f)))]) s) ([(a, .inl (C.2.2.1, N, .inr (.inl (vp_updL f k v))))]) := hD
  exact q_vret hx hb hr hlocks (w1 := [(a, .inl (C.2.2.1, N, .inr (.inl (vp_updL f k v))))]) hP hS rfl dX4_store__14 (⟨rfl, rfl⟩)
