/-! indices: the methods -/
set_option maxHeartbeats 4000000 in
set_option maxRecDepth 100000 in
theorem c_X2_clearValues (l : Launch) (C : q_C) (q : Nat → Nat) (t f v o : Nat → Nat) : q_M C l yX2_clearValues wsX2_clearValues 0 0 [.ref (q 0)] (wX C q t f v o) (fun r w => r = none ∧ w = wX C q t f (fun _ => 0) o) := by
  refine q_head (cc := cX2_clearValues) (maxL := 2) (ret := none) (by decide +kernel) rfl (Nat.le_of_ble_eq_true rfl) ?_
  intro p e s m below meth c hx hb hr hlocks hml hown hts hK hP hD hS hA ls hl
  have hl : lv_has ls 2 [(0, .ref (q 0))] := hl
  have hf19 := hts (.fieldLink RX2 19 "RestedArms$Indices" "values" "[J") (by decide +kernel)
  have hin2 : ∀ w ∈ u_ws RX2 TX2 4, w ∈ wsX2_clearValues := by decide +kernel
  refine lv_iconst (v := nI 0) hx hb dX2_clearValues_0 (by decide) ?_
  refine lv_istore_n (lv' := [(1, .int (nI 0)), (0, .ref (q 0))]) hx hb dX2_clearValues_1 rfl hl (by decide) rfl (fun ls hl => ?_)
  refine lv_iload_n hx hb dX2_clearValues_2 rfl (lv_at hl 0 rfl) ?_
  refine lv_aload_n hx hb dX2_clearValues_3 rfl (lv_at hl 1 rfl) ?_
  refine va_get (ci := 2) (v := .ref (q 3)) (C := RX2) (T := TX2) (N := 4) hx hb hts hin2 hown hK.1 hP 0 rfl rfl 2 (by decide) hf19 (fun _ h9 => h9) rfl dX2_clearValues_4 ?_
  refine va_alen hx hb hK.1 hP 3 1 rfl rfl (v := nI 4) rfl dX2_clearValues_7 ?_
  refine lv_icmp_ge (tgt := 24) hx hb dX2_clearValues_8 (by decide) (fun c => absurd c (by decide)) (fun _ => ?_)
  refine lv_aload_n hx hb dX2_clearValues_11 rfl (lv_at hl 1 rfl) ?_
  refine va_get (ci := 2) (v := .ref (q 3)) (C := RX2) (T := TX2) (N := 4) hx hb hts hin2 hown hK.1 hP 0 rfl rfl 2 (by decide) hf19 (fun _ h9 => h9) rfl dX2_clearValues_12 ?_
  refine lv_iload_n hx hb dX2_clearValues_15 rfl (lv_at hl 0 rfl) ?_
  refine lv_lconst (v := lN 0) hx hb dX2_clearValues_16 (by decide) ?_
  refine q_last (n := 0) hx hb hK hP hD hS 3 rfl (by decide) (by decide) dX2_clearValues_17 (fun H locs hP hD hS => ?_)
  rw [q_updL] at hP hD
  have hP : va_P C.1 vwCl ([(q 0, .inr (2, [.ref (q 1), .ref (q 2), .ref (q 3), .ref (q 4)])), (q 1, .inl (C.2.2.1, 16, .inr (.inl (fun k => lN (t k))))), (q 2, .inl (C.2.2.2.1, 4, .inl (fun k => nI (f k)))), (q 3, .inl (C.2.2.1, 4, .inr (.inl (fun k => lN (upN v 0 0 k))))), (q 4, .inl (C.2.2.1, 4, .inr (.inl (fun k => lN (o k)))))]) H := hP
  have hD : va_D (q_A (wX C q t f v o) s) ([(q 0, .inr (2, [.ref (q 1), .ref (q 2), .ref (q 3), .ref (q 4)])), (q 1, .inl (C.2.2.1, 16, .inr (.inl (fun k => lN (t k))))), (q 2, .inl (C.2.2.2.1, 4, .inl (fun k => nI (f k)))), (q 3, .inl (C.2.2.1, 4, .inr (.inl (fun k => lN (upN v 0 0 k))))), (q 4, .inl (C.2.2.1, 4, .inr (.inl (fun k => lN (o k)))))]) := hD
  refine lv_iinc (v := nI 1) (lv' := [(1, .int (nI 1)), (0, .ref (q 0))]) hx hb dX2_clearValues_18 hl (k := 0) rfl (by decide) (by decide) rfl (fun ls hl => ?_)
  refine lv_goto (tgt := 2) hx hb dX2_clearValues_21 (by decide) ?_
  refine lv_iload_n hx hb dX2_clearValues_2 rfl (lv_at hl 0 rfl) ?_
  refine lv_aload_n hx hb dX2_clearValues_3 rfl (lv_at hl 1 rfl) ?_
  refine va_get (ci := 2) (v := .ref (q 3)) (C := RX2) (T := TX2) (N := 4) hx hb hts hin2 hown hK.1 hP 0 rfl rfl 2 (by decide) hf19 (fun _ h9 => h9) rfl dX2_clearValues_4 ?_
  refine va_alen hx hb hK.1 hP 3 1 rfl rfl (v := nI 4) rfl dX2_clearValues_7 ?_
  refine lv_icmp_ge (tgt := 24) hx hb dX2_clearValues_8 (by decide) (fun c => absurd c (by decide)) (fun _ => ?_)
  refine lv_aload_n hx hb dX2_clearValues_11 rfl (lv_at hl 1 rfl) ?_
  refine va_get (ci := 2) (v := .ref (q 3)) (C := RX2) (T := TX2) (N := 4) hx hb hts hin2 hown hK.1 hP 0 rfl rfl 2 (by decide) hf19 (fun _ h9 => h9) rfl dX2_clearValues_12 ?_
  refine lv_iload_n hx hb dX2_clearValues_15 rfl (lv_at hl 0 rfl) ?_
  refine lv_lconst (v := lN 0) hx hb dX2_clearValues_16 (by decide) ?_
  refine q_last (n := 1) hx hb hK hP hD hS 3 rfl (by decide) (by decide) dX2_clearValues_17 (fun H locs hP hD hS => ?_)
  rw [q_updL] at hP hD
  have hP : va_P C.1 vwCl ([(q 0, .inr (2, [.ref (q 1), .ref (q 2), .ref (q 3), .ref (q 4)])), (q 1, .inl (C.2.2.1, 16, .inr (.inl (fun k => lN (t k))))), (q 2, .inl (C.2.2.2.1, 4, .inl (fun k => nI (f k)))), (q 3, .inl (C.2.2.1, 4, .inr (.inl (fun k => lN (upN (upN v 0 0) 1 0 k))))), (q 4, .inl (C.2.2.1, 4, .inr (.inl (fun k => lN (o k)))))]) H := hP
  have hD : va_D (q_A (wX C q t f v o) s) ([(q 0, .inr (2, [.ref (q 1), .ref (q 2), .ref (q 3), .ref (q 4)])), (q 1, .inl (C.2.2.1, 16, .inr (.inl (fun k => lN (t k))))), (q 2, .inl (C.2.2.2.1, 4, .inl (fun k => nI (f k)))), (q 3, .inl (C.2.2.1, 4, .inr (.inl (fun k => lN (upN (upN v 0 0) 1 0 k))))), (q 4, .inl (C.2.2.1, 4, .inr (.inl (fun k => lN (o k)))))]) := hD
  refine lv_iinc (v := nI 2) (lv' := [(1, .int (nI 2)), (0, .ref (q 0))]) hx hb dX2_clearValues_18 hl (k := 0) rfl (by decide) (by decide) rfl (fun ls hl => ?_)
  refine lv_goto (tgt := 2) hx hb dX2_clearValues_21 (by decide) ?_
  refine lv_iload_n hx hb dX2_clearValues_2 rfl (lv_at hl 0 rfl) ?_
  refine lv_aload_n hx hb dX2_clearValues_3 rfl (lv_at hl 1 rfl) ?_
  refine va_get (ci := 2) (v := .ref (q 3)) (C := RX2) (T := TX2) (N := 4) hx hb hts hin2 hown hK.1 hP 0 rfl rfl 2 (by decide) hf19 (fun _ h9 => h9) rfl dX2_clearValues_4 ?_
  refine va_alen hx hb hK.1 hP 3 1 rfl rfl (v := nI 4) rfl dX2_clearValues_7 ?_
  refine lv_icmp_ge (tgt := 24) hx hb dX2_clearValues_8 (by decide) (fun c => absurd c (by decide)) (fun _ => ?_)
  refine lv_aload_n hx hb dX2_clearValues_11 rfl (lv_at hl 1 rfl) ?_
  refine va_get (ci := 2) (v := .ref (q 3)) (C := RX2) (T := TX2) (N := 4) hx hb hts hin2 hown hK.1 hP 0 rfl rfl 2 (by decide) hf19 (fun _ h9 => h9) rfl dX2_clearValues_12 ?_
  refine lv_iload_n hx hb dX2_clearValues_15 rfl (lv_at hl 0 rfl) ?_
  refine lv_lconst (v := lN 0) hx hb dX2_clearValues_16 (by decide) ?_
  refine q_last (n := 2) hx hb hK hP hD hS 3 rfl (by decide) (by decide) dX2_clearValues_17 (fun H locs hP hD hS => ?_)
  rw [q_updL] at hP hD
  have hP : va_P C.1 vwCl ([(q 0, .inr (2, [.ref (q 1), .ref (q 2), .ref (q 3), .ref (q 4)])), (q 1, .inl (C.2.2.1, 16, .inr (.inl (fun k => lN (t k))))), (q 2, .inl (C.2.2.2.1, 4, .inl (fun k => nI (f k)))), (q 3, .inl (C.2.2.1, 4, .inr (.inl (fun k => lN (upN (upN (upN v 0 0) 1 0) 2 0 k))))), (q 4, .inl (C.2.2.1, 4, .inr (.inl (fun k => lN (o k)))))]) H := hP
  have hD : va_D (q_A (wX C q t f v o) s) ([(q 0, .inr (2, [.ref (q 1), .ref (q 2), .ref (q 3), .ref (q 4)])), (q 1, .inl (C.2.2.1, 16, .inr (.inl (fun k => lN (t k))))), (q 2, .inl (C.2.2.2.1, 4, .inl (fun k => nI (f k)))), (q 3, .inl (C.2.2.1, 4, .inr (.inl (fun k => lN (upN (upN (upN v 0 0) 1 0) 2 0 k))))), (q 4, .inl (C.2.2.1, 4, .inr (.inl (fun k => lN (o k)))))]) := hD
  refine lv_iinc (v := nI 3) (lv' := [(1, .int (nI 3)), (0, .ref (q 0))]) hx hb dX2_clearValues_18 hl (k := 0) rfl (by decide) (by decide) rfl (fun ls hl => ?_)
  refine lv_goto (tgt := 2) hx hb dX2_clearValues_21 (by decide) ?_
  refine lv_iload_n hx hb dX2_clearValues_2 rfl (lv_at hl 0 rfl) ?_
  refine lv_aload_n hx hb dX2_clearValues_3 rfl (lv_at hl 1 rfl) ?_
  refine va_get (ci := 2) (v := .ref (q 3)) (C := RX2) (T := TX2) (N := 4) hx hb hts hin2 hown hK.1 hP 0 rfl rfl 2 (by decide) hf19 (fun _ h9 => h9) rfl dX2_clearValues_4 ?_
  refine va_alen hx hb hK.1 hP 3 1 rfl rfl (v := nI 4) rfl dX2_clearValues_7 ?_
  refine lv_icmp_ge (tgt := 24) hx hb dX2_clearValues_8 (by decide) (fun c => absurd c (by decide)) (fun _ => ?_)
  refine lv_aload_n hx hb dX2_clearValues_11 rfl (lv_at hl 1 rfl) ?_
  refine va_get (ci := 2) (v := .ref (q 3)) (C := RX2) (T := TX2) (N := 4) hx hb hts hin2 hown hK.1 hP 0 rfl rfl 2 (by decide) hf19 (fun _ h9 => h9) rfl dX2_clearValues_12 ?_
  refine lv_iload_n hx hb dX2_clearValues_15 rfl (lv_at hl 0 rfl) ?_
  refine lv_lconst (v := lN 0) hx hb dX2_clearValues_16 (by decide) ?_
  refine q_last (n := 3) hx hb hK hP hD hS 3 rfl (by decide) (by decide) dX2_clearValues_17 (fun H locs hP hD hS => ?_)
  rw [q_updL] at hP hD
  have hP : va_P C.1 vwCl ([(q 0, .inr (2, [.ref (q 1), .ref (q 2), .ref (q 3), .ref (q 4)])), (q 1, .inl (C.2.2.1, 16, .inr (.inl (fun k => lN (t k))))), (q 2, .inl (C.2.2.2.1, 4, .inl (fun k => nI (f k)))), (q 3, .inl (C.2.2.1, 4, .inr (.inl (fun k => lN (upN (upN (upN (upN v 0 0) 1 0) 2 0) 3 0 k))))), (q 4, .inl (C.2.2.1, 4, .inr (.inl (fun k => lN (o k)))))]) H := hP
  have hD : va_D (q_A (wX C q t f v o) s) ([(q 0, .inr (2, [.ref (q 1), .ref (q 2), .ref (q 3), .ref (q 4)])), (q 1, .inl (C.2.2.1, 16, .inr (.inl (fun k => lN (t k))))), (q 2, .inl (C.2.2.2.1, 4, .inl (fun k => nI (f k)))), (q 3, .inl (C.2.2.1, 4, .inr (.inl (fun k => lN (upN (upN (upN (upN v 0 0) 1 0) 2 0) 3 0 k))))), (q 4, .inl (C.2.2.1, 4, .inr (.inl (fun k => lN (o k)))))]) := hD
  refine lv_iinc (v := nI 4) (lv' := [(1, .int (nI 4)), (0, .ref (q 0))]) hx hb dX2_clearValues_18 hl (k := 0) rfl (by decide) (by decide) rfl (fun ls hl => ?_)
  refine lv_goto (tgt := 2) hx hb dX2_clearValues_21 (by decide) ?_
  refine lv_iload_n hx hb dX2_clearValues_2 rfl (lv_at hl 0 rfl) ?_
  refine lv_aload_n hx hb dX2_clearValues_3 rfl (lv_at hl 1 rfl) ?_
  refine va_get (ci := 2) (v := .ref (q 3)) (C := RX2) (T := TX2) (N := 4) hx hb hts hin2 hown hK.1 hP 0 rfl rfl 2 (by decide) hf19 (fun _ h9 => h9) rfl dX2_clearValues_4 ?_
  refine va_alen hx hb hK.1 hP 3 1 rfl rfl (v := nI 4) rfl dX2_clearValues_7 ?_
  refine lv_icmp_ge (tgt := 24) hx hb dX2_clearValues_8 (by decide) (fun _ => ?_) (fun c => absurd (by decide) c)
  have hP := q_swpL (g := fun k => lN ((fun _ => 0) k)) hP 3 rfl (q_r4 rfl rfl rfl rfl)
  have hD := hD.set (p := 3) (a := q 3) (e := .inl (C.2.2.1, 4, .inr (.inl (fun k => lN ((fun _ => 0) k))))) rfl
  have hP : va_P C.1 vwCl ([(q 0, .inr (2, [.ref (q 1), .ref (q 2), .ref (q 3), .ref (q 4)])), (q 1, .inl (C.2.2.1, 16, .inr (.inl (fun k => lN (t k))))), (q 2, .inl (C.2.2.2.1, 4, .inl (fun k => nI (f k)))), (q 3, .inl (C.2.2.1, 4, .inr (.inl (fun k => lN ((fun _ => 0) k))))), (q 4, .inl (C.2.2.1, 4, .inr (.inl (fun k => lN (o k)))))]) H := hP
  have hD : va_D (q_A (wX C q t f v o) s) ([(q 0, .inr (2, [.ref (q 1), .ref (q 2), .ref (q 3), .ref (q 4)])), (q 1, .inl (C.2.2.1, 16, .inr (.inl (fun k => lN (t k))))), (q 2, .inl (C.2.2.2.1, 4, .inl (fun k => nI (f k)))), (q 3, .inl (C.2.2.1, 4, .inr (.inl (fun k => lN ((fun _ => 0) k))))), (q 4, .inl (C.2.2.1, 4, .inr (.inl (fun k => lN (o k)))))]) := hD
  have hP : va_P C.1 vwCl (wX C q t f (fun _ => 0) o) H := hP
  have hD : va_D (q_A (wX C q t f v o) s) (wX C q t f (fun _ => 0) o) := hD
  exact q_vret hx hb hr hlocks (w1 := wX C q t f (fun _ => 0) o) hP hS rfl dX2_clearValues_24 (⟨rfl, rfl⟩)
set_option maxHeartbeats 4000000 in
set_option maxRecDepth 100000 in
theorem c_X2_forgetAll (l : Launch) (C : q_C) (q : Nat → Nat) (t f v o : Nat → Nat) : q_M C l yX2_forgetAll wsX2_forgetAll 0 0 [.ref (q 0)] (wX C q t f v o) (fun r w => r = none ∧ w = wX C q t (upN (upN (upN (upN f 0 0) 1 0) 2 0) 3 0) v o) := by
  refine q_head (cc := cX2_forgetAll) (maxL := 2) (ret := none) (by decide +kernel) rfl (Nat.le_of_ble_eq_true rfl) ?_
  intro p e s m below meth c hx hb hr hlocks hml hown hts hK hP hD hS hA ls hl
  have hl : lv_has ls 2 [(0, .ref (q 0))] := hl
  have hf15 := hts (.fieldLink RX2 15 "RestedArms$Indices" "fresh" "[Z") (by decide +kernel)
  have hin2 : ∀ w ∈ u_ws RX2 TX2 4, w ∈ wsX2_forgetAll := by decide +kernel
  refine lv_iconst (v := nI 0) hx hb dX2_forgetAll_0 (by decide) ?_
  refine lv_istore_n (lv' := [(1, .int (nI 0)), (0, .ref (q 0))]) hx hb dX2_forgetAll_1 rfl hl (by decide) rfl (fun ls hl => ?_)
  refine lv_iload_n hx hb dX2_forgetAll_2 rfl (lv_at hl 0 rfl) ?_
  refine lv_aload_n hx hb dX2_forgetAll_3 rfl (lv_at hl 1 rfl) ?_
  refine va_get (ci := 2) (v := .ref (q 2)) (C := RX2) (T := TX2) (N := 4) hx hb hts hin2 hown hK.1 hP 0 rfl rfl 1 (by decide) hf15 (fun _ h9 => h9) rfl dX2_forgetAll_4 ?_
  refine va_alen hx hb hK.1 hP 2 2 rfl rfl (v := nI 4) rfl dX2_forgetAll_7 ?_
  refine lv_icmp_ge (tgt := 24) hx hb dX2_forgetAll_8 (by decide) (fun c => absurd c (by decide)) (fun _ => ?_)
  refine lv_aload_n hx hb dX2_forgetAll_11 rfl (lv_at hl 1 rfl) ?_
  refine va_get (ci := 2) (v := .ref (q 2)) (C := RX2) (T := TX2) (N := 4) hx hb hts hin2 hown hK.1 hP 0 rfl rfl 1 (by decide) hf15 (fun _ h9 => h9) rfl dX2_forgetAll_12 ?_
  refine lv_iload_n hx hb dX2_forgetAll_15 rfl (lv_at hl 0 rfl) ?_
  refine lv_iconst (v := nI 0) hx hb dX2_forgetAll_16 (by decide) ?_
  refine q_zast (n := 0) hx hb hK hP hD hS 2 rfl (by decide) (by decide) (by decide) dX2_forgetAll_17 (fun H locs hP hD hS => ?_)
  rw [q_upd] at hP hD
  have hP : va_P C.1 vwCl ([(q 0, .inr (2, [.ref (q 1), .ref (q 2), .ref (q 3), .ref (q 4)])), (q 1, .inl (C.2.2.1, 16, .inr (.inl (fun k => lN (t k))))), (q 2, .inl (C.2.2.2.1, 4, .inl (fun k => nI (upN f 0 0 k)))), (q 3, .inl (C.2.2.1, 4, .inr (.inl (fun k => lN (v k))))), (q 4, .inl (C.2.2.1, 4, .inr (.inl (fun k => lN (o k)))))]) H := hP
  have hD : va_D (q_A (wX C q t f v o) s) ([(q 0, .inr (2, [.ref (q 1), .ref (q 2), .ref (q 3), .ref (q 4)])), (q 1, .inl (C.2.2.1, 16, .inr (.inl (fun k => lN (t k))))), (q 2, .inl (C.2.2.2.1, 4, .inl (fun k => nI (upN f 0 0 k)))), (q 3, .inl (C.2.2.1, 4, .inr (.inl (fun k => lN (v k))))), (q 4, .inl (C.2.2.1, 4, .inr (.inl (fun k => lN (o k)))))]) := hD
  refine lv_iinc (v := nI 1) (lv' := [(1, .int (nI 1)), (0, .ref (q 0))]) hx hb dX2_forgetAll_18 hl (k := 0) rfl (by decide) (by decide) rfl (fun ls hl => ?_)
  refine lv_goto (tgt := 2) hx hb dX2_forgetAll_21 (by decide) ?_
  refine lv_iload_n hx hb dX2_forgetAll_2 rfl (lv_at hl 0 rfl) ?_
  refine lv_aload_n hx hb dX2_forgetAll_3 rfl (lv_at hl 1 rfl) ?_
  refine va_get (ci := 2) (v := .ref (q 2)) (C := RX2) (T := TX2) (N := 4) hx hb hts hin2 hown hK.1 hP 0 rfl rfl 1 (by decide) hf15 (fun _ h9 => h9) rfl dX2_forgetAll_4 ?_
  refine va_alen hx hb hK.1 hP 2 2 rfl rfl (v := nI 4) rfl dX2_forgetAll_7 ?_
  refine lv_icmp_ge (tgt := 24) hx hb dX2_forgetAll_8 (by decide) (fun c => absurd c (by decide)) (fun _ => ?_)
  refine lv_aload_n hx hb dX2_forgetAll_11 rfl (lv_at hl 1 rfl) ?_
  refine va_get (ci := 2) (v := .ref (q 2)) (C := RX2) (T := TX2) (N := 4) hx hb hts hin2 hown hK.1 hP 0 rfl rfl 1 (by decide) hf15 (fun _ h9 => h9) rfl dX2_forgetAll_12 ?_
  refine lv_iload_n hx hb dX2_forgetAll_15 rfl (lv_at hl 0 rfl) ?_
  refine lv_iconst (v := nI 0) hx hb dX2_forgetAll_16 (by decide) ?_
  refine q_zast (n := 1) hx hb hK hP hD hS 2 rfl (by decide) (by decide) (by decide) dX2_forgetAll_17 (fun H locs hP hD hS => ?_)
  rw [q_upd] at hP hD
  have hP : va_P C.1 vwCl ([(q 0, .inr (2, [.ref (q 1), .ref (q 2), .ref (q 3), .ref (q 4)])), (q 1, .inl (C.2.2.1, 16, .inr (.inl (fun k => lN (t k))))), (q 2, .inl (C.2.2.2.1, 4, .inl (fun k => nI (upN (upN f 0 0) 1 0 k)))), (q 3, .inl (C.2.2.1, 4, .inr (.inl (fun k => lN (v k))))), (q 4, .inl (C.2.2.1, 4, .inr (.inl (fun k => lN (o k)))))]) H := hP
  have hD : va_D (q_A (wX C q t f v o) s) ([(q 0, .inr (2, [.ref (q 1), .ref (q 2), .ref (q 3), .ref (q 4)])), (q 1, .inl (C.2.2.1, 16, .inr (.inl (fun k => lN (t k))))), (q 2, .inl (C.2.2.2.1, 4, .inl (fun k => nI (upN (upN f 0 0) 1 0 k)))), (q 3, .inl (C.2.2.1, 4, .inr (.inl (fun k => lN (v k))))), (q 4, .inl (C.2.2.1, 4, .inr (.inl (fun k => lN (o k)))))]) := hD
  refine lv_iinc (v := nI 2) (lv' := [(1, .int (nI 2)), (0, .ref (q 0))]) hx hb dX2_forgetAll_18 hl (k := 0) rfl (by decide) (by decide) rfl (fun ls hl => ?_)
  refine lv_goto (tgt := 2) hx hb dX2_forgetAll_21 (by decide) ?_
  refine lv_iload_n hx hb dX2_forgetAll_2 rfl (lv_at hl 0 rfl) ?_
  refine lv_aload_n hx hb dX2_forgetAll_3 rfl (lv_at hl 1 rfl) ?_
  refine va_get (ci := 2) (v := .ref (q 2)) (C := RX2) (T := TX2) (N := 4) hx hb hts hin2 hown hK.1 hP 0 rfl rfl 1 (by decide) hf15 (fun _ h9 => h9) rfl dX2_forgetAll_4 ?_
  refine va_alen hx hb hK.1 hP 2 2 rfl rfl (v := nI 4) rfl dX2_forgetAll_7 ?_
  refine lv_icmp_ge (tgt := 24) hx hb dX2_forgetAll_8 (by decide) (fun c => absurd c (by decide)) (fun _ => ?_)
  refine lv_aload_n hx hb dX2_forgetAll_11 rfl (lv_at hl 1 rfl) ?_
  refine va_get (ci := 2) (v := .ref (q 2)) (C := RX2) (T := TX2) (N := 4) hx hb hts hin2 hown hK.1 hP 0 rfl rfl 1 (by decide) hf15 (fun _ h9 => h9) rfl dX2_forgetAll_12 ?_
  refine lv_iload_n hx hb dX2_forgetAll_15 rfl (lv_at hl 0 rfl) ?_
  refine lv_iconst (v := nI 0) hx hb dX2_forgetAll_16 (by decide) ?_
  refine q_zast (n := 2) hx hb hK hP hD hS 2 rfl (by decide) (by decide) (by decide) dX2_forgetAll_17 (fun H locs hP hD hS => ?_)
  rw [q_upd] at hP hD
  have hP : va_P C.1 vwCl ([(q 0, .inr (2, [.ref (q 1), .ref (q 2), .ref (q 3), .ref (q 4)])), (q 1, .inl (C.2.2.1, 16, .inr (.inl (fun k => lN (t k))))), (q 2, .inl (C.2.2.2.1, 4, .inl (fun k => nI (upN (upN (upN f 0 0) 1 0) 2 0 k)))), (q 3, .inl (C.2.2.1, 4, .inr (.inl (fun k => lN (v k))))), (q 4, .inl (C.2.2.1, 4, .inr (.inl (fun k => lN (o k)))))]) H := hP
  have hD : va_D (q_A (wX C q t f v o) s) ([(q 0, .inr (2, [.ref (q 1), .ref (q 2), .ref (q 3), .ref (q 4)])), (q 1, .inl (C.2.2.1, 16, .inr (.inl (fun k => lN (t k))))), (q 2, .inl (C.2.2.2.1, 4, .inl (fun k => nI (upN (upN (upN f 0 0) 1 0) 2 0 k)))), (q 3, .inl (C.2.2.1, 4, .inr (.inl (fun k => lN (v k))))), (q 4, .inl (C.2.2.1, 4, .inr (.inl (fun k => lN (o k)))))]) := hD
  refine lv_iinc (v := nI 3) (lv' := [(1, .int (nI 3)), (0, .ref (q 0))]) hx hb dX2_forgetAll_18 hl (k := 0) rfl (by decide) (by decide) rfl (fun ls hl => ?_)
  refine lv_goto (tgt := 2) hx hb dX2_forgetAll_21 (by decide) ?_
  refine lv_iload_n hx hb dX2_forgetAll_2 rfl (lv_at hl 0 rfl) ?_
  refine lv_aload_n hx hb dX2_forgetAll_3 rfl (lv_at hl 1 rfl) ?_
  refine va_get (ci := 2) (v := .ref (q 2)) (C := RX2) (T := TX2) (N := 4) hx hb hts hin2 hown hK.1 hP 0 rfl rfl 1 (by decide) hf15 (fun _ h9 => h9) rfl dX2_forgetAll_4 ?_
  refine va_alen hx hb hK.1 hP 2 2 rfl rfl (v := nI 4) rfl dX2_forgetAll_7 ?_
  refine lv_icmp_ge (tgt := 24) hx hb dX2_forgetAll_8 (by decide) (fun c => absurd c (by decide)) (fun _ => ?_)
  refine lv_aload_n hx hb dX2_forgetAll_11 rfl (lv_at hl 1 rfl) ?_
  refine va_get (ci := 2) (v := .ref (q 2)) (C := RX2) (T := TX2) (N := 4) hx hb hts hin2 hown hK.1 hP 0 rfl rfl 1 (by decide) hf15 (fun _ h9 => h9) rfl dX2_forgetAll_12 ?_
  refine lv_iload_n hx hb dX2_forgetAll_15 rfl (lv_at hl 0 rfl) ?_
  refine lv_iconst (v := nI 0) hx hb dX2_forgetAll_16 (by decide) ?_
  refine q_zast (n := 3) hx hb hK hP hD hS 2 rfl (by decide) (by decide) (by decide) dX2_forgetAll_17 (fun H locs hP hD hS => ?_)
  rw [q_upd] at hP hD
  have hP : va_P C.1 vwCl ([(q 0, .inr (2, [.ref (q 1), .ref (q 2), .ref (q 3), .ref (q 4)])), (q 1, .inl (C.2.2.1, 16, .inr (.inl (fun k => lN (t k))))), (q 2, .inl (C.2.2.2.1, 4, .inl (fun k => nI (upN (upN (upN (upN f 0 0) 1 0) 2 0) 3 0 k)))), (q 3, .inl (C.2.2.1, 4, .inr (.inl (fun k => lN (v k))))), (q 4, .inl (C.2.2.1, 4, .inr (.inl (fun k => lN (o k)))))]) H := hP
  have hD : va_D (q_A (wX C q t f v o) s) ([(q 0, .inr (2, [.ref (q 1), .ref (q 2), .ref (q 3), .ref (q 4)])), (q 1, .inl (C.2.2.1, 16, .inr (.inl (fun k => lN (t k))))), (q 2, .inl (C.2.2.2.1, 4, .inl (fun k => nI (upN (upN (upN (upN f 0 0) 1 0) 2 0) 3 0 k)))), (q 3, .inl (C.2.2.1, 4, .inr (.inl (fun k => lN (v k))))), (q 4, .inl (C.2.2.1, 4, .inr (.inl (fun k => lN (o k)))))]) := hD
  refine lv_iinc (v := nI 4) (lv' := [(1, .int (nI 4)), (0, .ref (q 0))]) hx hb dX2_forgetAll_18 hl (k := 0) rfl (by decide) (by decide) rfl (fun ls hl => ?_)
  refine lv_goto (tgt := 2) hx hb dX2_forgetAll_21 (by decide) ?_
  refine lv_iload_n hx hb dX2_forgetAll_2 rfl (lv_at hl 0 rfl) ?_
  refine lv_aload_n hx hb dX2_forgetAll_3 rfl (lv_at hl 1 rfl) ?_
  refine va_get (ci := 2) (v := .ref (q 2)) (C := RX2) (T := TX2) (N := 4) hx hb hts hin2 hown hK.1 hP 0 rfl rfl 1 (by decide) hf15 (fun _ h9 => h9) rfl dX2_forgetAll_4 ?_
  refine va_alen hx hb hK.1 hP 2 2 rfl rfl (v := nI 4) rfl dX2_forgetAll_7 ?_
  refine lv_icmp_ge (tgt := 24) hx hb dX2_forgetAll_8 (by decide) (fun _ => ?_) (fun c => absurd (by decide) c)
  exact q_vret hx hb hr hlocks (w1 := [(q 0, .inr (2, [.ref (q 1), .ref (q 2), .ref (q 3), .ref (q 4)])), (q 1, .inl (C.2.2.1, 16, .inr (.inl (fun k => lN (t k))))), (q 2, .inl (C.2.2.2.1, 4, .inl (fun k => nI (upN (upN (upN (upN f 0 0) 1 0) 2 0) 3 0 k)))), (q 3, .inl (C.2.2.1, 4, .inr (.inl (fun k => lN (v k))))), (q 4, .inl (C.2.2.1, 4, .inr (.inl (fun k => lN (o k)))))]) hP hS rfl dX2_forgetAll_24 (⟨rfl, rfl⟩)
set_option maxHeartbeats 4000000 in
set_option maxRecDepth 100000 in
theorem c_X2_forgetArm (l : Launch) (C : q_C) (q : Nat → Nat) (t f v o : Nat → Nat) (arm : Nat) (ha : arm < 4) : q_M C l yX2_forgetArm wsX2_forgetArm 0 0 [.ref (q 0), .int (nI arm)] (wX C q t f v o) (fun r w => r = none ∧ w = wX C q t (upN f arm 0) v o) := by
  refine q_head (cc := cX2_forgetArm) (maxL := 2) (ret := none) (by decide +kernel) rfl (Nat.le_of_ble_eq_true rfl) ?_
  intro p e s m below meth c hx hb hr hlocks hml hown hts hK hP hD hS hA ls hl
  have hl : lv_has ls 2 [(0, .ref (q 0)), (1, .int (nI arm))] := hl
  have hf15 := hts (.fieldLink RX2 15 "RestedArms$Indices" "fresh" "[Z") (by decide +kernel)
  have hin2 : ∀ w ∈ u_ws RX2 TX2 4, w ∈ wsX2_forgetArm := by decide +kernel
  refine lv_iload_n hx hb dX2_forgetArm_0 rfl (lv_at hl 1 rfl) ?_
  refine lv_if_lt (tgt := 20) hx hb dX2_forgetArm_1 (by decide) (fun c1 => ?_) (fun c1 => ?_)
  · have c1 : arm < 0 := q_nlt0 (by omega) (by omega) c1
    exact absurd c1 (by omega)
  have c1 : 0 ≤ arm := q_nlt0' (by omega) (by omega) c1
  refine lv_iload_n hx hb dX2_forgetArm_4 rfl (lv_at hl 1 rfl) ?_
  refine lv_aload_n hx hb dX2_forgetArm_5 rfl (lv_at hl 0 rfl) ?_
  refine va_get (ci := 2) (v := .ref (q 2)) (C := RX2) (T := TX2) (N := 4) hx hb hts hin2 hown hK.1 hP 0 rfl rfl 1 (by decide) hf15 (fun _ h9 => h9) rfl dX2_forgetArm_6 ?_
  refine va_alen hx hb hK.1 hP 2 2 rfl rfl (v := nI 4) rfl dX2_forgetArm_9 ?_
  refine lv_icmp_ge (tgt := 20) hx hb dX2_forgetArm_10 (by decide) (fun c10 => ?_) (fun c10 => ?_)
  · have c10 : 4 ≤ arm := q_nge (by omega) (by omega) c10
    exact absurd c10 (by omega)
  have c10 : arm < 4 := q_nge' (by omega) (by omega) c10
  refine lv_aload_n hx hb dX2_forgetArm_13 rfl (lv_at hl 0 rfl) ?_
  refine va_get (ci := 2) (v := .ref (q 2)) (C := RX2) (T := TX2) (N := 4) hx hb hts hin2 hown hK.1 hP 0 rfl rfl 1 (by decide) hf15 (fun _ h9 => h9) rfl dX2_forgetArm_14 ?_
  refine lv_iload_n hx hb dX2_forgetArm_17 rfl (lv_at hl 1 rfl) ?_
  refine lv_iconst (v := nI 0) hx hb dX2_forgetArm_18 (by decide) ?_
  refine q_zast (n := arm) hx hb hK hP hD hS 2 rfl (by omega) (by decide) (by decide) dX2_forgetArm_19 (fun H locs hP hD hS => ?_)
  rw [q_upd] at hP hD
  have hP : va_P C.1 vwCl ([(q 0, .inr (2, [.ref (q 1), .ref (q 2), .ref (q 3), .ref (q 4)])), (q 1, .inl (C.2.2.1, 16, .inr (.inl (fun k => lN (t k))))), (q 2, .inl (C.2.2.2.1, 4, .inl (fun k => nI (upN f arm 0 k)))), (q 3, .inl (C.2.2.1, 4, .inr (.inl (fun k => lN (v k))))), (q 4, .inl (C.2.2.1, 4, .inr (.inl (fun k => lN (o k)))))]) H := hP
  have hD : va_D (q_A (wX C q t f v o) s) ([(q 0, .inr (2, [.ref (q 1), .ref (q 2), .ref (q 3), .ref (q 4)])), (q 1, .inl (C.2.2.1, 16, .inr (.inl (fun k => lN (t k))))), (q 2, .inl (C.2.2.2.1, 4, .inl (fun k => nI (upN f arm 0 k)))), (q 3, .inl (C.2.2.1, 4, .inr (.inl (fun k => lN (v k))))), (q 4, .inl (C.2.2.1, 4, .inr (.inl (fun k => lN (o k)))))]) := hD
  exact q_vret hx hb hr hlocks (w1 := [(q 0, .inr (2, [.ref (q 1), .ref (q 2), .ref (q 3), .ref (q 4)])), (q 1, .inl (C.2.2.1, 16, .inr (.inl (fun k => lN (t k))))), (q 2, .inl (C.2.2.2.1, 4, .inl (fun k => nI (upN f arm 0 k)))), (q 3, .inl (C.2.2.1, 4, .inr (.inl (fun k => lN (v k))))), (q 4, .inl (C.2.2.1, 4, .inr (.inl (fun k => lN (o k)))))]) hP hS rfl dX2_forgetArm_20 (⟨rfl, rfl⟩)
set_option maxHeartbeats 4000000 in
set_option maxRecDepth 100000 in
theorem c_X2_turn (l : Launch) (C : q_C) (q : Nat → Nat) (t f v o : Nat → Nat) (a : Nat → Nat) (b : Bd) (arm h : Nat) (hB : OkB b) (ha : arm < 4) (hh : h < 4) (hv : ∀ j, j < 4 → v j ≤ 6000000) : q_M C l yX2_turn wsX2_turn 1 25 [.ref (q 0), .ref (a 0), .int (nI arm), .int (nI h)] (wX C q t f v o ++ wB C a b) (fun r w => r = none ∧ w = wX C q t f (rndN b arm h v) (ownN b arm v) ++ wB C a b) := by
  obtain ⟨ok1, ok2, ⟨ok3, ok4, ok5, ok6, ok7⟩, ok8, ok9⟩ := id hB
  refine q_head (cc := cX2_turn) (maxL := 18) (ret := none) (by decide +kernel) rfl (Nat.le_of_ble_eq_true rfl) ?_
  intro p e s m below meth c hx hb hr hlocks hml hown hts hK hP hD hS hA ls hl
  have hl : lv_has ls 18 [(0, .ref (q 0)), (1, .ref (a 0)), (2, .int (nI arm)), (3, .int (nI h))] := hl
  have hf19 := hts (.fieldLink RX2 19 "RestedArms$Indices" "values" "[J") (by decide +kernel)
  have hf22 := hts (.fieldLink RX2 22 "RestedArms$Indices" "own" "[J") (by decide +kernel)
  have hf37 := hts (.fieldLink RX2 37 "RestedArms$Board" "settings" "[I") (by decide +kernel)
  have hf58 := hts (.fieldLink RX2 58 "RestedArms$Board" "chances" "[I") (by decide +kernel)
  have hf61 := hts (.fieldLink RX2 61 "RestedArms$Board" "goods" "[I") (by decide +kernel)
  have hf67 := hts (.fieldLink RX2 67 "RestedArms$Board" "bads" "[I") (by decide +kernel)
  have hf82 := hts (.fieldLink RX2 82 "RestedArms$Board" "gifts" "[I") (by decide +kernel)
  have hin0 : ∀ w ∈ u_ws RX0 TX0 12, w ∈ wsX2_turn := by decide +kernel
  have hin2 : ∀ w ∈ u_ws RX2 TX2 4, w ∈ wsX2_turn := by decide +kernel
  have hk70 := hts (.constantLong RX2 70 (8)) (by decide +kernel)
  have hk78 := hts (.constantLong RX2 78 (100)) (by decide +kernel)
  have hk80 := hts (.constantLong RX2 80 (1000)) (by decide +kernel)
  have hm1_85 := hts (.methodLink RX2 85 Lib.MathLoose.max_long.x) (by decide +kernel)
  have hm2_85 := hts (.static Lib.MathLoose.max_long.x) (by decide +kernel)
  have hm3_85 := hts (.initialized "java/lang/Math") (by decide +kernel)
  have hm4_85 := hts (.code Lib.MathLoose.max_long.x Lib.MathLoose.max_long.code 4 (some .long)) (by decide +kernel)
  refine lv_aload_n hx hb dX2_turn_0 rfl (lv_at hl 1 rfl) ?_
  refine va_get (ci := 0) (v := .ref (a 7)) (C := RX0) (T := TX0) (N := 12) hx hb hts hin0 hown hK.1 hP 5 rfl rfl 6 (by decide) hf37 (fun _ h9 => h9) rfl dX2_turn_1 ?_
  refine lv_iconst (v := nI 0) hx hb dX2_turn_4 (by decide) ?_
  refine q_N (As := [.ref (a 7), .int (nI 0)]) (rest := []) ⟨hx, hb, hml, hown, hts⟩ (c_X4_at l C (a 7) 4 0 (fun k => nI (bs b k)) (by decide) (by decide)) ⟨va_cnB 2 hts gX2_turn_X4_at_n43 rfl rfl rfl (q_nw hK 5 rfl) (hts (.initialized RX4) (by decide +kernel)) (by decide +kernel) ⟨Nat.le_of_ble_eq_true rfl, Nat.le_of_ble_eq_true rfl⟩, hts (.static yX4_at) (by decide +kernel), trivial⟩ hK hP hD hS hA [12] (by decide) rfl rfl hl.1 rfl (Nat.le_of_ble_eq_true rfl) dX2_turn_5 (Nat.zero_le _) (Nat.zero_le _) (fun r w1 H locs hQ hP hD hS => ?_)
  obtain ⟨rfl, rfl⟩ := hQ
  have hP : va_P C.1 vwCl (wX C q t f v o ++ wB C a b) H := hP
  have hD : va_D (q_A (wX C q t f v o ++ wB C a b) s) (wX C q t f v o ++ wB C a b) := hD
  refine W.eq (g2 := F0 m 8 ls [.int (nI (bs b 0))]) rfl ?_
  refine lv_i2l (v := lN (bs b 0)) hx hb dX2_turn_8 (nI_l (by omega)) ?_
  refine lv_lstore (lv' := [(4, .long (lN (bs b 0))), (0, .ref (q 0)), (1, .ref (a 0)), (2, .int (nI arm)), (3, .int (nI h))]) hx hb dX2_turn_9 hl (by decide) rfl (fun ls hl => ?_)
  refine lv_iconst (v := nI 0) hx hb dX2_turn_11 (by decide) ?_
  refine lv_istore (lv' := [(6, .int (nI 0)), (4, .long (lN (bs b 0))), (0, .ref (q 0)), (1, .ref (a 0)), (2, .int (nI arm)), (3, .int (nI h))]) hx hb dX2_turn_12 hl (by decide) rfl (fun ls hl => ?_)
  have K14 : ∀ (n14 i14 : Nat), i14 ≤ 4 → 4 + 1 ≤ i14 + n14 → ∀ (H : Heap) (locs : List Loc) (ls : Array Slot), va_P C.1 vwCl (wX C q t f v (fillN (ownN b arm v) o i14) ++ wB C a b) H → va_D (q_A (wX C q t f v o ++ wB C a b) s) (wX C q t f v (fillN (ownN b arm v) o i14) ++ wB C a b) → va_S (q_A (wX C q t f v o ++ wB C a b) s) s.heap H locs → lv_has ls 18 [(6, .int (nI i14)), (4, .long (lN (bs b 0))), (0, .ref (q 0)), (1, .ref (a 0)), (2, .int (nI arm)), (3, .int (nI h))] → W p l e (q_R 1 25) s m ([.ref (q 0), .ref (a 0), .int (nI arm), .int (nI h)] : List Value).toArray below meth c H locs 0 0 (q_G C below (wX C q t f v o ++ wB C a b) (fun r w => r = none ∧ w = wX C q t f (rndN b arm h v) (ownN b arm v) ++ wB C a b) ([.ref (q 0), .ref (a 0), .int (nI arm), .int (nI h)] : List Value).toArray s) (F0 m 14 ls []) := by
    intro n14
    induction n14 with
    | zero => intro i14  q1 q2; exact absurd q2 (by omega)
    | succ n14 ih14 =>
      intro i14  hi14 hn14  H locs ls hP hD hS hl
      refine lv_iload hx hb dX2_turn_14 (lv_at hl 0 rfl) ?_
      refine lv_iconst (v := nI 4) hx hb dX2_turn_16 (by decide) ?_
      refine lv_icmp_ge (tgt := 144) hx hb dX2_turn_17 (by decide) (fun c17 => ?_) (fun c17 => ?_)
      · have c17 : 4 ≤ i14 := q_nge (by omega) (by omega) c17
        have e9 : i14 = 4 := by omega
        subst e9
        have hP := q_swpL (g := fun k => lN ((ownN b arm v) k)) hP 4 rfl (fun k hk => congrArg lN (fillN_in hk))
        have hD := hD.set (p := 4) (a := q 4) (e := .inl (C.2.2.1, 4, .inr (.inl (fun k => lN ((ownN b arm v) k))))) rfl
        have hP : va_P C.1 vwCl (([(q 0, .inr (2, [.ref (q 1), .ref (q 2), .ref (q 3), .ref (q 4)])), (q 1, .inl (C.2.2.1, 16, .inr (.inl (fun k => lN (t k))))), (q 2, .inl (C.2.2.2.1, 4, .inl (fun k => nI (f k)))), (q 3, .inl (C.2.2.1, 4, .inr (.inl (fun k => lN (v k))))), (q 4, .inl (C.2.2.1, 4, .inr (.inl (fun k => lN ((ownN b arm v) k)))))] : va_W) ++ wB C a b) H := hP
        have hD : va_D (q_A (wX C q t f v o ++ wB C a b) s) (([(q 0, .inr (2, [.ref (q 1), .ref (q 2), .ref (q 3), .ref (q 4)])), (q 1, .inl (C.2.2.1, 16, .inr (.inl (fun k => lN (t k))))), (q 2, .inl (C.2.2.2.1, 4, .inl (fun k => nI (f k)))), (q 3, .inl (C.2.2.1, 4, .inr (.inl (fun k => lN (v k))))), (q 4, .inl (C.2.2.1, 4, .inr (.inl (fun k => lN ((ownN b arm v) k)))))] : va_W) ++ wB C a b) := hD
        have hP : va_P C.1 vwCl (wX C q t f v (ownN b arm v) ++ wB C a b) H := hP
        have hD : va_D (q_A (wX C q t f v o ++ wB C a b) s) (wX C q t f v (ownN b arm v) ++ wB C a b) := hD
        have hoh := ownN_le hB ha hh hv
        refine lv_aload_n hx hb dX2_turn_144 rfl (lv_at hl 2 rfl) ?_
        refine va_get (ci := 2) (v := .ref (q 4)) (C := RX2) (T := TX2) (N := 4) hx hb hts hin2 hown hK.1 hP 0 rfl rfl 3 (by decide) hf22 (fun _ h9 => h9) rfl dX2_turn_145 ?_
        refine lv_iload_n hx hb dX2_turn_148 rfl (lv_at hl 5 rfl) ?_
        refine q_N (As := [.ref (q 4), .int (nI h)]) (rest := []) ⟨hx, hb, hml, hown, hts⟩ (c_X4_at_ l C (q 4) 4 h (fun k => lN ((ownN b arm v) k)) (by omega) (by decide)) ⟨va_cnB 2 hts gX2_turn_X4_at__n64 rfl rfl rfl (q_nw hK 6 rfl) (hts (.initialized RX4) (by decide +kernel)) (by decide +kernel) ⟨Nat.le_of_ble_eq_true rfl, Nat.le_of_ble_eq_true rfl⟩, hts (.static yX4_at_) (by decide +kernel), trivial⟩ hK hP hD hS hA [4] (by decide) rfl rfl hl.1 rfl (Nat.le_of_ble_eq_true rfl) dX2_turn_149 (Nat.zero_le _) (Nat.zero_le _) (fun r w1 H locs hQ hP hD hS => ?_)
        obtain ⟨rfl, rfl⟩ := hQ
        have hP : va_P C.1 vwCl (wX C q t f v (ownN b arm v) ++ wB C a b) H := hP
        have hD : va_D (q_A (wX C q t f v o ++ wB C a b) s) (wX C q t f v (ownN b arm v) ++ wB C a b) := hD
        refine W.eq (g2 := F0 m 152 ls [.long (lN ((ownN b arm v) h))]) rfl ?_
        refine lv_lstore (lv' := [(6, .long (lN ((ownN b arm v) h))), (4, .long (lN (bs b 0))), (0, .ref (q 0)), (1, .ref (a 0)), (2, .int (nI arm)), (3, .int (nI h))]) hx hb dX2_turn_152 hl (by decide) rfl (fun ls hl => ?_)
        refine lv_iconst (v := nI 0) hx hb dX2_turn_154 (by decide) ?_
        refine lv_istore (lv' := [(8, .int (nI 0)), (6, .long (lN ((ownN b arm v) h))), (4, .long (lN (bs b 0))), (0, .ref (q 0)), (1, .ref (a 0)), (2, .int (nI arm)), (3, .int (nI h))]) hx hb dX2_turn_155 hl (by decide) rfl (fun ls hl => ?_)
        have K157 : ∀ (n157 i157 : Nat), i157 ≤ 4 → 4 + 1 ≤ i157 + n157 → ∀ (H : Heap) (locs : List Loc) (ls : Array Slot), va_P C.1 vwCl (wX C q t f (fillN (rndN b arm h v) v i157) (ownN b arm v) ++ wB C a b) H → va_D (q_A (wX C q t f v o ++ wB C a b) s) (wX C q t f (fillN (rndN b arm h v) v i157) (ownN b arm v) ++ wB C a b) → va_S (q_A (wX C q t f v o ++ wB C a b) s) s.heap H locs → lv_has ls 18 [(8, .int (nI i157)), (6, .long (lN (ownN b arm v h))), (0, .ref (q 0)), (1, .ref (a 0)), (2, .int (nI arm)), (3, .int (nI h))] → W p l e (q_R 1 25) s m ([.ref (q 0), .ref (a 0), .int (nI arm), .int (nI h)] : List Value).toArray below meth c H locs 0 0 (q_G C below (wX C q t f v o ++ wB C a b) (fun r w => r = none ∧ w = wX C q t f (rndN b arm h v) (ownN b arm v) ++ wB C a b) ([.ref (q 0), .ref (a 0), .int (nI arm), .int (nI h)] : List Value).toArray s) (F0 m 157 ls []) := by
          intro n157
          induction n157 with
          | zero => intro i157  q1 q2; exact absurd q2 (by omega)
          | succ n157 ih157 =>
            intro i157  hi157 hn157  H locs ls hP hD hS hl
            refine lv_iload hx hb dX2_turn_157 (lv_at hl 0 rfl) ?_
            refine lv_iconst (v := nI 4) hx hb dX2_turn_159 (by decide) ?_
            refine lv_icmp_ge (tgt := 192) hx hb dX2_turn_160 (by decide) (fun c160 => ?_) (fun c160 => ?_)
            · have c160 : 4 ≤ i157 := q_nge (by omega) (by omega) c160
              have e9 : i157 = 4 := by omega
              subst e9
              have hP := q_swpL (g := fun k => lN ((rndN b arm h v) k)) hP 3 rfl (fun k hk => congrArg lN (fillN_in hk))
              have hD := hD.set (p := 3) (a := q 3) (e := .inl (C.2.2.1, 4, .inr (.inl (fun k => lN ((rndN b arm h v) k))))) rfl
              have hP : va_P C.1 vwCl (([(q 0, .inr (2, [.ref (q 1), .ref (q 2), .ref (q 3), .ref (q 4)])), (q 1, .inl (C.2.2.1, 16, .inr (.inl (fun k => lN (t k))))), (q 2, .inl (C.2.2.2.1, 4, .inl (fun k => nI (f k)))), (q 3, .inl (C.2.2.1, 4, .inr (.inl (fun k => lN ((rndN b arm h v) k))))), (q 4, .inl (C.2.2.1, 4, .inr (.inl (fun k => lN ((ownN b arm v) k)))))] : va_W) ++ wB C a b) H := hP
              have hD : va_D (q_A (wX C q t f v o ++ wB C a b) s) (([(q 0, .inr (2, [.ref (q 1), .ref (q 2), .ref (q 3), .ref (q 4)])), (q 1, .inl (C.2.2.1, 16, .inr (.inl (fun k => lN (t k))))), (q 2, .inl (C.2.2.2.1, 4, .inl (fun k => nI (f k)))), (q 3, .inl (C.2.2.1, 4, .inr (.inl (fun k => lN ((rndN b arm h v) k))))), (q 4, .inl (C.2.2.1, 4, .inr (.inl (fun k => lN ((ownN b arm v) k)))))] : va_W) ++ wB C a b) := hD
              have hP : va_P C.1 vwCl (wX C q t f (rndN b arm h v) (ownN b arm v) ++ wB C a b) H := hP
              have hD : va_D (q_A (wX C q t f v o ++ wB C a b) s) (wX C q t f (rndN b arm h v) (ownN b arm v) ++ wB C a b) := hD
              exact q_vret hx hb hr hlocks (w1 := wX C q t f (rndN b arm h v) (ownN b arm v) ++ wB C a b) hP hS rfl dX2_turn_192 (⟨rfl, rfl⟩)
            · have c160 : i157 < 4 := q_nge' (by omega) (by omega) c160
              have hoi := ownN_le hB ha (t := i157) (by omega) hv
              refine lv_aload_n hx hb dX2_turn_163 rfl (lv_at hl 2 rfl) ?_
              refine va_get (ci := 2) (v := .ref (q 3)) (C := RX2) (T := TX2) (N := 4) hx hb hts hin2 hown hK.1 hP 0 rfl rfl 2 (by decide) hf19 (fun _ h9 => h9) rfl dX2_turn_164 ?_
              refine lv_iload hx hb dX2_turn_167 (lv_at hl 0 rfl) ?_
              refine lv_aload_n hx hb dX2_turn_169 rfl (lv_at hl 2 rfl) ?_
              refine va_get (ci := 2) (v := .ref (q 4)) (C := RX2) (T := TX2) (N := 4) hx hb hts hin2 hown hK.1 hP 0 rfl rfl 3 (by decide) hf22 (fun _ h9 => h9) rfl dX2_turn_170 ?_
              refine lv_iload hx hb dX2_turn_173 (lv_at hl 0 rfl) ?_
              refine q_N (As := [.ref (q 4), .int (nI i157)]) (rest := [.int (nI i157), .ref (q 3)]) ⟨hx, hb, hml, hown, hts⟩ (c_X4_at_ l C (q 4) 4 i157 (fun k => lN ((ownN b arm v) k)) (by omega) (by decide)) ⟨va_cnB 2 hts gX2_turn_X4_at__n64 rfl rfl rfl (q_nw hK 6 rfl) (hts (.initialized RX4) (by decide +kernel)) (by decide +kernel) ⟨Nat.le_of_ble_eq_true rfl, Nat.le_of_ble_eq_true rfl⟩, hts (.static yX4_at_) (by decide +kernel), trivial⟩ hK hP hD hS hA [4] (by decide) rfl rfl hl.1 rfl (Nat.le_of_ble_eq_true rfl) dX2_turn_175 (Nat.zero_le _) (Nat.zero_le _) (fun r w1 H locs hQ hP hD hS => ?_)
              obtain ⟨rfl, rfl⟩ := hQ
              have hP : va_P C.1 vwCl (wX C q t f (fillN (rndN b arm h v) v i157) (ownN b arm v) ++ wB C a b) H := hP
              have hD : va_D (q_A (wX C q t f v o ++ wB C a b) s) (wX C q t f (fillN (rndN b arm h v) v i157) (ownN b arm v) ++ wB C a b) := hD
              refine W.eq (g2 := F0 m 178 ls [.long (lN ((ownN b arm v) i157)), .int (nI i157), .ref (q 3)]) rfl ?_
              refine lv_lload hx hb dX2_turn_178 (lv_at hl 1 rfl) ?_
              refine va_mmax_long hx hb (hml.trans hl.1.symm) hown hm1_85 hm2_85 hm3_85 hm4_85 (Nat.le_of_ble_eq_true rfl) (Nat.le_of_ble_eq_true rfl) (Nat.zero_le _) (Nat.zero_le _) dX2_turn_180 ?_
              refine q_tl (y := lN (max ((ownN b arm v) i157) (ownN b arm v h))) (q_lmax (by omega) (by omega)) ?_
              refine q_N (As := [.ref (q 3), .int (nI i157), .long (lN (max ((ownN b arm v) i157) (ownN b arm v h)))]) (rest := []) ⟨hx, hb, hml, hown, hts⟩ (c_X4_store_ l C (q 3) 4 i157 (fun k => lN ((fillN (rndN b arm h v) v i157) k)) (lN (max ((ownN b arm v) i157) (ownN b arm v h))) (by omega) (by decide)) ⟨va_cnB 3 hts gX2_turn_X4_store__n33 rfl rfl rfl (q_nw hK 4 rfl) (hts (.initialized RX4) (by decide +kernel)) (by decide +kernel) ⟨Nat.le_of_ble_eq_true rfl, Nat.le_of_ble_eq_true rfl⟩, hts (.static yX4_store_) (by decide +kernel), trivial⟩ hK hP hD hS hA [3] (by decide) rfl rfl hl.1 rfl (Nat.le_of_ble_eq_true rfl) dX2_turn_183 (Nat.zero_le _) (Nat.zero_le _) (fun r w1 H locs hQ hP hD hS => ?_)
              obtain ⟨rfl, rfl⟩ := hQ
              rw [q_updL] at hP hD
              have hP : va_P C.1 vwCl (([(q 0, .inr (2, [.ref (q 1), .ref (q 2), .ref (q 3), .ref (q 4)])), (q 1, .inl (C.2.2.1, 16, .inr (.inl (fun k => lN (t k))))), (q 2, .inl (C.2.2.2.1, 4, .inl (fun k => nI (f k)))), (q 3, .inl (C.2.2.1, 4, .inr (.inl (fun k => lN (upN (fillN (rndN b arm h v) v i157) i157 (max ((ownN b arm v) i157) (ownN b arm v h)) k))))), (q 4, .inl (C.2.2.1, 4, .inr (.inl (fun k => lN ((ownN b arm v) k)))))] : va_W) ++ wB C a b) H := hP
              have hD : va_D (q_A (wX C q t f v o ++ wB C a b) s) (([(q 0, .inr (2, [.ref (q 1), .ref (q 2), .ref (q 3), .ref (q 4)])), (q 1, .inl (C.2.2.1, 16, .inr (.inl (fun k => lN (t k))))), (q 2, .inl (C.2.2.2.1, 4, .inl (fun k => nI (f k)))), (q 3, .inl (C.2.2.1, 4, .inr (.inl (fun k => lN (upN (fillN (rndN b arm h v) v i157) i157 (max ((ownN b arm v) i157) (ownN b arm v h)) k))))), (q 4, .inl (C.2.2.1, 4, .inr (.inl (fun k => lN ((ownN b arm v) k)))))] : va_W) ++ wB C a b) := hD
              refine W.eq (g2 := F0 m 186 ls []) rfl ?_
              rw [show upN (fillN (rndN b arm h v) v i157) i157 (max ((ownN b arm v) i157) (ownN b arm v h)) = fillN (rndN b arm h v) v (i157 + 1) from fillN_s _ _ _] at hP hD
              have hP : va_P C.1 vwCl (wX C q t f (fillN (rndN b arm h v) v (i157 + 1)) (ownN b arm v) ++ wB C a b) H := hP
              have hD : va_D (q_A (wX C q t f v o ++ wB C a b) s) (wX C q t f (fillN (rndN b arm h v) v (i157 + 1)) (ownN b arm v) ++ wB C a b) := hD
              refine lv_iinc (v := nI (i157 + 1)) (lv' := [(8, .int (nI (i157 + 1))), (6, .long (lN (ownN b arm v h))), (0, .ref (q 0)), (1, .ref (a 0)), (2, .int (nI arm)), (3, .int (nI h))]) hx hb dX2_turn_186 hl (k := 0) rfl (nI_1 _) (by decide) rfl (fun ls hl => ?_)
              refine lv_goto (tgt := 157) hx hb dX2_turn_189 (by decide) ?_
              exact ih157 (i157 + 1)  (by omega) (by omega)  _ _ ls hP hD hS (lv_sub hl [0, 1, 2, 3, 4, 5] rfl)
        exact K157 (4 + 1 - 0) 0  (by omega) (by omega)  _ _ ls hP hD hS (lv_sub hl [0, 1, 3, 4, 5, 6] rfl)
      · have c17 : i14 < 4 := q_nge' (by omega) (by omega) c17
        refine lv_iload_n hx hb dX2_turn_20 rfl (lv_at hl 4 rfl) ?_
        refine lv_iload hx hb dX2_turn_21 (lv_at hl 0 rfl) ?_
        refine q_N (As := [.int (nI arm), .int (nI i14)]) (rest := []) ⟨hx, hb, hml, hown, hts⟩ (c_X4_slotOf l C arm i14) ⟨va_cnB 2 hts gX2_turn_X4_slotOf_n25 rfl rfl rfl (q_nw hK 3 rfl) (hts (.initialized RX4) (by decide +kernel)) (by decide +kernel) ⟨Nat.le_of_ble_eq_true rfl, Nat.le_of_ble_eq_true rfl⟩, hts (.static yX4_slotOf) (by decide +kernel), trivial⟩ hK hP hD hS hA [] (by decide) rfl rfl hl.1 rfl (Nat.le_of_ble_eq_true rfl) dX2_turn_23 (Nat.zero_le _) (Nat.zero_le _) (fun r w1 H locs hQ hP hD hS => ?_)
        obtain ⟨rfl, rfl⟩ := hQ
        refine W.eq (g2 := F0 m 26 ls [.int (nI (4 * arm + i14))]) rfl ?_
        refine lv_istore (lv' := [(7, .int (nI (4 * arm + i14))), (6, .int (nI i14)), (4, .long (lN (bs b 0))), (0, .ref (q 0)), (1, .ref (a 0)), (2, .int (nI arm)), (3, .int (nI h))]) hx hb dX2_turn_26 hl (by decide) rfl (fun ls hl => ?_)
        obtain ⟨f1, f2, f3, f4⟩ := ok1 (4 * arm + i14) (by omega)
        refine lv_aload_n hx hb dX2_turn_28 rfl (lv_at hl 4 rfl) ?_
        refine va_get (ci := 0) (v := .ref (a 4)) (C := RX0) (T := TX0) (N := 12) hx hb hts hin0 hown hK.1 hP 5 rfl rfl 3 (by decide) hf58 (fun _ h9 => h9) rfl dX2_turn_29 ?_
        refine lv_iload hx hb dX2_turn_32 (lv_at hl 0 rfl) ?_
        refine q_N (As := [.ref (a 4), .int (nI (4 * arm + i14))]) (rest := []) ⟨hx, hb, hml, hown, hts⟩ (c_X4_at l C (a 4) 16 (4 * arm + i14) (fun k => nI (bc b k)) (by omega) (by decide)) ⟨va_cnB 2 hts gX2_turn_X4_at_n43 rfl rfl rfl (q_nw hK 5 rfl) (hts (.initialized RX4) (by decide +kernel)) (by decide +kernel) ⟨Nat.le_of_ble_eq_true rfl, Nat.le_of_ble_eq_true rfl⟩, hts (.static yX4_at) (by decide +kernel), trivial⟩ hK hP hD hS hA [9] (by decide) rfl rfl hl.1 rfl (Nat.le_of_ble_eq_true rfl) dX2_turn_34 (Nat.zero_le _) (Nat.zero_le _) (fun r w1 H locs hQ hP hD hS => ?_)
        obtain ⟨rfl, rfl⟩ := hQ
        have hP : va_P C.1 vwCl (wX C q t f v (fillN (ownN b arm v) o i14) ++ wB C a b) H := hP
        have hD : va_D (q_A (wX C q t f v o ++ wB C a b) s) (wX C q t f v (fillN (ownN b arm v) o i14) ++ wB C a b) := hD
        refine W.eq (g2 := F0 m 37 ls [.int (nI (bc b (4 * arm + i14)))]) rfl ?_
        refine lv_i2l (v := lN (bc b (4 * arm + i14))) hx hb dX2_turn_37 (nI_l (by omega)) ?_
        refine lv_lstore (lv' := [(8, .long (lN (bc b (4 * arm + i14)))), (7, .int (nI (4 * arm + i14))), (6, .int (nI i14)), (4, .long (lN (bs b 0))), (0, .ref (q 0)), (1, .ref (a 0)), (2, .int (nI arm)), (3, .int (nI h))]) hx hb dX2_turn_38 hl (by decide) rfl (fun ls hl => ?_)
        refine lv_aload_n hx hb dX2_turn_40 rfl (lv_at hl 4 rfl) ?_
        refine va_get (ci := 2) (v := .ref (q 3)) (C := RX2) (T := TX2) (N := 4) hx hb hts hin2 hown hK.1 hP 0 rfl rfl 2 (by decide) hf19 (fun _ h9 => h9) rfl dX2_turn_41 ?_
        refine lv_aload_n hx hb dX2_turn_44 rfl (lv_at hl 5 rfl) ?_
        refine va_get (ci := 0) (v := .ref (a 2)) (C := RX0) (T := TX0) (N := 12) hx hb hts hin0 hown hK.1 hP 5 rfl rfl 1 (by decide) hf61 (fun _ h9 => h9) rfl dX2_turn_45 ?_
        refine lv_iload hx hb dX2_turn_48 (lv_at hl 1 rfl) ?_
        refine q_N (As := [.ref (a 2), .int (nI (4 * arm + i14))]) (rest := [.ref (q 3)]) ⟨hx, hb, hml, hown, hts⟩ (c_X4_at l C (a 2) 16 (4 * arm + i14) (fun k => nI (bo b k)) (by omega) (by decide)) ⟨va_cnB 2 hts gX2_turn_X4_at_n43 rfl rfl rfl (q_nw hK 5 rfl) (hts (.initialized RX4) (by decide +kernel)) (by decide +kernel) ⟨Nat.le_of_ble_eq_true rfl, Nat.le_of_ble_eq_true rfl⟩, hts (.static yX4_at) (by decide +kernel), trivial⟩ hK hP hD hS hA [7] (by decide) rfl rfl hl.1 rfl (Nat.le_of_ble_eq_true rfl) dX2_turn_50 (Nat.zero_le _) (Nat.zero_le _) (fun r w1 H locs hQ hP hD hS => ?_)
        obtain ⟨rfl, rfl⟩ := hQ
        have hP : va_P C.1 vwCl (wX C q t f v (fillN (ownN b arm v) o i14) ++ wB C a b) H := hP
        have hD : va_D (q_A (wX C q t f v o ++ wB C a b) s) (wX C q t f v (fillN (ownN b arm v) o i14) ++ wB C a b) := hD
        refine W.eq (g2 := F0 m 53 ls [.int (nI (bo b (4 * arm + i14))), .ref (q 3)]) rfl ?_
        refine q_N (As := [.ref (q 3), .int (nI (bo b (4 * arm + i14)))]) (rest := []) ⟨hx, hb, hml, hown, hts⟩ (c_X4_at_ l C (q 3) 4 (bo b (4 * arm + i14)) (fun k => lN (v k)) (by omega) (by decide)) ⟨va_cnB 2 hts gX2_turn_X4_at__n64 rfl rfl rfl (q_nw hK 6 rfl) (hts (.initialized RX4) (by decide +kernel)) (by decide +kernel) ⟨Nat.le_of_ble_eq_true rfl, Nat.le_of_ble_eq_true rfl⟩, hts (.static yX4_at_) (by decide +kernel), trivial⟩ hK hP hD hS hA [3] (by decide) rfl rfl hl.1 rfl (Nat.le_of_ble_eq_true rfl) dX2_turn_53 (Nat.zero_le _) (Nat.zero_le _) (fun r w1 H locs hQ hP hD hS => ?_)
        obtain ⟨rfl, rfl⟩ := hQ
        have hP : va_P C.1 vwCl (wX C q t f v (fillN (ownN b arm v) o i14) ++ wB C a b) H := hP
        have hD : va_D (q_A (wX C q t f v o ++ wB C a b) s) (wX C q t f v (fillN (ownN b arm v) o i14) ++ wB C a b) := hD
        refine W.eq (g2 := F0 m 56 ls [.long (lN (v (bo b (4 * arm + i14))))]) rfl ?_
        refine lv_lstore (lv' := [(10, .long (lN (v (bo b (4 * arm + i14))))), (8, .long (lN (bc b (4 * arm + i14)))), (7, .int (nI (4 * arm + i14))), (6, .int (nI i14)), (4, .long (lN (bs b 0))), (0, .ref (q 0)), (1, .ref (a 0)), (2, .int (nI arm)), (3, .int (nI h))]) hx hb dX2_turn_56 hl (by decide) rfl (fun ls hl => ?_)
        refine lv_aload_n hx hb dX2_turn_58 rfl (lv_at hl 5 rfl) ?_
        refine va_get (ci := 2) (v := .ref (q 3)) (C := RX2) (T := TX2) (N := 4) hx hb hts hin2 hown hK.1 hP 0 rfl rfl 2 (by decide) hf19 (fun _ h9 => h9) rfl dX2_turn_59 ?_
        refine lv_aload_n hx hb dX2_turn_62 rfl (lv_at hl 6 rfl) ?_
        refine va_get (ci := 0) (v := .ref (a 3)) (C := RX0) (T := TX0) (N := 12) hx hb hts hin0 hown hK.1 hP 5 rfl rfl 2 (by decide) hf67 (fun _ h9 => h9) rfl dX2_turn_63 ?_
        refine lv_iload hx hb dX2_turn_66 (lv_at hl 2 rfl) ?_
        refine q_N (As := [.ref (a 3), .int (nI (4 * arm + i14))]) (rest := [.ref (q 3)]) ⟨hx, hb, hml, hown, hts⟩ (c_X4_at l C (a 3) 16 (4 * arm + i14) (fun k => nI (bb b k)) (by omega) (by decide)) ⟨va_cnB 2 hts gX2_turn_X4_at_n43 rfl rfl rfl (q_nw hK 5 rfl) (hts (.initialized RX4) (by decide +kernel)) (by decide +kernel) ⟨Nat.le_of_ble_eq_true rfl, Nat.le_of_ble_eq_true rfl⟩, hts (.static yX4_at) (by decide +kernel), trivial⟩ hK hP hD hS hA [8] (by decide) rfl rfl hl.1 rfl (Nat.le_of_ble_eq_true rfl) dX2_turn_68 (Nat.zero_le _) (Nat.zero_le _) (fun r w1 H locs hQ hP hD hS => ?_)
        obtain ⟨rfl, rfl⟩ := hQ
        have hP : va_P C.1 vwCl (wX C q t f v (fillN (ownN b arm v) o i14) ++ wB C a b) H := hP
        have hD : va_D (q_A (wX C q t f v o ++ wB C a b) s) (wX C q t f v (fillN (ownN b arm v) o i14) ++ wB C a b) := hD
        refine W.eq (g2 := F0 m 71 ls [.int (nI (bb b (4 * arm + i14))), .ref (q 3)]) rfl ?_
        refine q_N (As := [.ref (q 3), .int (nI (bb b (4 * arm + i14)))]) (rest := []) ⟨hx, hb, hml, hown, hts⟩ (c_X4_at_ l C (q 3) 4 (bb b (4 * arm + i14)) (fun k => lN (v k)) (by omega) (by decide)) ⟨va_cnB 2 hts gX2_turn_X4_at__n64 rfl rfl rfl (q_nw hK 6 rfl) (hts (.initialized RX4) (by decide +kernel)) (by decide +kernel) ⟨Nat.le_of_ble_eq_true rfl, Nat.le_of_ble_eq_true rfl⟩, hts (.static yX4_at_) (by decide +kernel), trivial⟩ hK hP hD hS hA [3] (by decide) rfl rfl hl.1 rfl (Nat.le_of_ble_eq_true rfl) dX2_turn_71 (Nat.zero_le _) (Nat.zero_le _) (fun r w1 H locs hQ hP hD hS => ?_)
        obtain ⟨rfl, rfl⟩ := hQ
        have hP : va_P C.1 vwCl (wX C q t f v (fillN (ownN b arm v) o i14) ++ wB C a b) H := hP
        have hD : va_D (q_A (wX C q t f v o ++ wB C a b) s) (wX C q t f v (fillN (ownN b arm v) o i14) ++ wB C a b) := hD
        refine W.eq (g2 := F0 m 74 ls [.long (lN (v (bb b (4 * arm + i14))))]) rfl ?_
        refine lv_lstore (lv' := [(12, .long (lN (v (bb b (4 * arm + i14))))), (10, .long (lN (v (bo b (4 * arm + i14))))), (8, .long (lN (bc b (4 * arm + i14)))), (7, .int (nI (4 * arm + i14))), (6, .int (nI i14)), (4, .long (lN (bs b 0))), (0, .ref (q 0)), (1, .ref (a 0)), (2, .int (nI arm)), (3, .int (nI h))]) hx hb dX2_turn_74 hl (by decide) rfl (fun ls hl => ?_)
        obtain ⟨e1, e2, e3, e4⟩ := expN_le hB (k := 4 * arm + i14) (by omega) hv
        obtain ⟨f1, f2, f3, f4⟩ := ok1 (4 * arm + i14) (by omega)
        have e5 : bs b 0 * ((bc b (4 * arm + i14) * v (bo b (4 * arm + i14)) + (8 - bc b (4 * arm + i14)) * v (bb b (4 * arm + i14))) / 8) ≤ 99 * 6000000 := Nat.mul_le_mul ok3 e4
        refine lv_lload hx hb dX2_turn_76 (lv_at hl 2 rfl) ?_
        refine lv_lload hx hb dX2_turn_78 (lv_at hl 1 rfl) ?_
        refine lv_lmul hx hb dX2_turn_80 ?_
        refine q_tl (y := lN ((bc b (4 * arm + i14)) * (v (bo b (4 * arm + i14))))) (lN_mul _ _) ?_
        refine lv_ldc2 hx hb hown hk70 dX2_turn_81 ?_
        refine q_tl (y := lN 8) (by decide) ?_
        refine lv_lload hx hb dX2_turn_84 (lv_at hl 2 rfl) ?_
        refine lv_lsub hx hb dX2_turn_86 ?_
        refine q_tl (y := lN (8 - (bc b (4 * arm + i14)))) (lN_sub (by omega)) ?_
        refine lv_lload hx hb dX2_turn_87 (lv_at hl 0 rfl) ?_
        refine lv_lmul hx hb dX2_turn_89 ?_
        refine q_tl (y := lN ((8 - (bc b (4 * arm + i14))) * (v (bb b (4 * arm + i14))))) (lN_mul _ _) ?_
        refine lv_ladd hx hb dX2_turn_90 ?_
        refine q_tl (y := lN (((bc b (4 * arm + i14)) * (v (bo b (4 * arm + i14)))) + ((8 - (bc b (4 * arm + i14))) * (v (bb b (4 * arm + i14)))))) (lN_add _ _) ?_
        refine lv_ldc2 hx hb hown hk70 dX2_turn_91 ?_
        refine q_tl (y := lN 8) (by decide) ?_
        refine q_S (As := [.long (lN (((bc b (4 * arm + i14)) * (v (bo b (4 * arm + i14)))) + ((8 - (bc b (4 * arm + i14))) * (v (bb b (4 * arm + i14)))))), .long (lN 8)]) (rest := []) ⟨hx, hb, hml, hown, hts⟩ (c_J9_floorDiv_f86c9 l C (lN (((bc b (4 * arm + i14)) * (v (bo b (4 * arm + i14)))) + ((8 - (bc b (4 * arm + i14))) * (v (bb b (4 * arm + i14)))))) (lN 8) (by decide)) (va_cwS 2 hts gX2_turn_J9_floorDiv_f86c9 rfl rfl rfl (by decide +kernel) ⟨Nat.le_of_ble_eq_true rfl, Nat.le_of_ble_eq_true rfl⟩) hK hP hD hS hA [] (by decide) rfl rfl hl.1 rfl (Nat.le_of_ble_eq_true rfl) dX2_turn_94 (Nat.zero_le _) (Nat.zero_le _) (fun r w1 H locs hQ hP hD hS => ?_)
        obtain ⟨rfl, rfl⟩ := hQ
        refine W.eq (g2 := F0 m 97 ls [.long (fdv (lN (((bc b (4 * arm + i14)) * (v (bo b (4 * arm + i14)))) + ((8 - (bc b (4 * arm + i14))) * (v (bb b (4 * arm + i14)))))) (lN 8))]) rfl ?_
        refine q_tl (y := lN ((((bc b (4 * arm + i14)) * (v (bo b (4 * arm + i14)))) + ((8 - (bc b (4 * arm + i14))) * (v (bb b (4 * arm + i14))))) / 8)) (fdv_N (by omega) (by decide) (by decide)) ?_
        refine lv_lstore (lv' := [(14, .long (lN ((((bc b (4 * arm + i14)) * (v (bo b (4 * arm + i14)))) + ((8 - (bc b (4 * arm + i14))) * (v (bb b (4 * arm + i14))))) / 8))), (12, .long (lN (v (bb b (4 * arm + i14))))), (10, .long (lN (v (bo b (4 * arm + i14))))), (8, .long (lN (bc b (4 * arm + i14)))), (7, .int (nI (4 * arm + i14))), (6, .int (nI i14)), (4, .long (lN (bs b 0))), (0, .ref (q 0)), (1, .ref (a 0)), (2, .int (nI arm)), (3, .int (nI h))]) hx hb dX2_turn_97 hl (by decide) rfl (fun ls hl => ?_)
        refine lv_lload hx hb dX2_turn_99 (lv_at hl 6 rfl) ?_
        refine lv_lload hx hb dX2_turn_101 (lv_at hl 0 rfl) ?_
        refine lv_lmul hx hb dX2_turn_103 ?_
        refine q_tl (y := lN ((bs b 0) * ((((bc b (4 * arm + i14)) * (v (bo b (4 * arm + i14)))) + ((8 - (bc b (4 * arm + i14))) * (v (bb b (4 * arm + i14))))) / 8))) (lN_mul _ _) ?_
        refine lv_ldc2 hx hb hown hk78 dX2_turn_104 ?_
        refine q_tl (y := lN 100) (by decide) ?_
        refine q_S (As := [.long (lN ((bs b 0) * ((((bc b (4 * arm + i14)) * (v (bo b (4 * arm + i14)))) + ((8 - (bc b (4 * arm + i14))) * (v (bb b (4 * arm + i14))))) / 8))), .long (lN 100)]) (rest := []) ⟨hx, hb, hml, hown, hts⟩ (c_J9_floorDiv_f86c9 l C (lN ((bs b 0) * ((((bc b (4 * arm + i14)) * (v (bo b (4 * arm + i14)))) + ((8 - (bc b (4 * arm + i14))) * (v (bb b (4 * arm + i14))))) / 8))) (lN 100) (by decide)) (va_cwS 2 hts gX2_turn_J9_floorDiv_f86c9 rfl rfl rfl (by decide +kernel) ⟨Nat.le_of_ble_eq_true rfl, Nat.le_of_ble_eq_true rfl⟩) hK hP hD hS hA [] (by decide) rfl rfl hl.1 rfl (Nat.le_of_ble_eq_true rfl) dX2_turn_107 (Nat.zero_le _) (Nat.zero_le _) (fun r w1 H locs hQ hP hD hS => ?_)
        obtain ⟨rfl, rfl⟩ := hQ
        refine W.eq (g2 := F0 m 110 ls [.long (fdv (lN ((bs b 0) * ((((bc b (4 * arm + i14)) * (v (bo b (4 * arm + i14)))) + ((8 - (bc b (4 * arm + i14))) * (v (bb b (4 * arm + i14))))) / 8))) (lN 100))]) rfl ?_
        refine q_tl (y := lN (((bs b 0) * ((((bc b (4 * arm + i14)) * (v (bo b (4 * arm + i14)))) + ((8 - (bc b (4 * arm + i14))) * (v (bb b (4 * arm + i14))))) / 8)) / 100)) (fdv_N (by omega) (by decide) (by decide)) ?_
        refine lv_lstore (lv' := [(16, .long (lN (((bs b 0) * ((((bc b (4 * arm + i14)) * (v (bo b (4 * arm + i14)))) + ((8 - (bc b (4 * arm + i14))) * (v (bb b (4 * arm + i14))))) / 8)) / 100))), (14, .long (lN ((((bc b (4 * arm + i14)) * (v (bo b (4 * arm + i14)))) + ((8 - (bc b (4 * arm + i14))) * (v (bb b (4 * arm + i14))))) / 8))), (12, .long (lN (v (bb b (4 * arm + i14))))), (10, .long (lN (v (bo b (4 * arm + i14))))), (8, .long (lN (bc b (4 * arm + i14)))), (7, .int (nI (4 * arm + i14))), (6, .int (nI i14)), (4, .long (lN (bs b 0))), (0, .ref (q 0)), (1, .ref (a 0)), (2, .int (nI arm)), (3, .int (nI h))]) hx hb dX2_turn_110 hl (by decide) rfl (fun ls hl => ?_)
        refine lv_aload_n hx hb dX2_turn_112 rfl (lv_at hl 8 rfl) ?_
        refine va_get (ci := 2) (v := .ref (q 4)) (C := RX2) (T := TX2) (N := 4) hx hb hts hin2 hown hK.1 hP 0 rfl rfl 3 (by decide) hf22 (fun _ h9 => h9) rfl dX2_turn_113 ?_
        refine lv_iload hx hb dX2_turn_116 (lv_at hl 6 rfl) ?_
        refine lv_ldc2 hx hb hown hk80 dX2_turn_118 ?_
        refine q_tl (y := lN 1000) (by decide) ?_
        refine lv_aload_n hx hb dX2_turn_121 rfl (lv_at hl 9 rfl) ?_
        refine va_get (ci := 0) (v := .ref (a 1)) (C := RX0) (T := TX0) (N := 12) hx hb hts hin0 hown hK.1 hP 5 rfl rfl 0 (by decide) hf82 (fun _ h9 => h9) rfl dX2_turn_122 ?_
        refine lv_iload hx hb dX2_turn_125 (lv_at hl 5 rfl) ?_
        refine q_N (As := [.ref (a 1), .int (nI (4 * arm + i14))]) (rest := [.long (lN 1000), .int (nI i14), .ref (q 4)]) ⟨hx, hb, hml, hown, hts⟩ (c_X4_at l C (a 1) 16 (4 * arm + i14) (fun k => nI (bg b k)) (by omega) (by decide)) ⟨va_cnB 2 hts gX2_turn_X4_at_n43 rfl rfl rfl (q_nw hK 5 rfl) (hts (.initialized RX4) (by decide +kernel)) (by decide +kernel) ⟨Nat.le_of_ble_eq_true rfl, Nat.le_of_ble_eq_true rfl⟩, hts (.static yX4_at) (by decide +kernel), trivial⟩ hK hP hD hS hA [6] (by decide) rfl rfl hl.1 rfl (Nat.le_of_ble_eq_true rfl) dX2_turn_127 (Nat.zero_le _) (Nat.zero_le _) (fun r w1 H locs hQ hP hD hS => ?_)
        obtain ⟨rfl, rfl⟩ := hQ
        have hP : va_P C.1 vwCl (wX C q t f v (fillN (ownN b arm v) o i14) ++ wB C a b) H := hP
        have hD : va_D (q_A (wX C q t f v o ++ wB C a b) s) (wX C q t f v (fillN (ownN b arm v) o i14) ++ wB C a b) := hD
        refine W.eq (g2 := F0 m 130 ls [.int (nI (bg b (4 * arm + i14))), .long (lN 1000), .int (nI i14), .ref (q 4)]) rfl ?_
        refine lv_i2l (v := lN (bg b (4 * arm + i14))) hx hb dX2_turn_130 (nI_l (by omega)) ?_
        refine lv_lmul hx hb dX2_turn_131 ?_
        refine q_tl (y := lN (1000 * (bg b (4 * arm + i14)))) (lN_mul _ _) ?_
        refine lv_lload hx hb dX2_turn_132 (lv_at hl 0 rfl) ?_
        refine lv_ladd hx hb dX2_turn_134 ?_
        refine q_tl (y := lN ((1000 * (bg b (4 * arm + i14))) + (((bs b 0) * ((((bc b (4 * arm + i14)) * (v (bo b (4 * arm + i14)))) + ((8 - (bc b (4 * arm + i14))) * (v (bb b (4 * arm + i14))))) / 8)) / 100))) (lN_add _ _) ?_
        refine q_N (As := [.ref (q 4), .int (nI i14), .long (lN ((1000 * (bg b (4 * arm + i14))) + (((bs b 0) * ((((bc b (4 * arm + i14)) * (v (bo b (4 * arm + i14)))) + ((8 - (bc b (4 * arm + i14))) * (v (bb b (4 * arm + i14))))) / 8)) / 100)))]) (rest := []) ⟨hx, hb, hml, hown, hts⟩ (c_X4_store_ l C (q 4) 4 i14 (fun k => lN ((fillN (ownN b arm v) o i14) k)) (lN ((1000 * (bg b (4 * arm + i14))) + (((bs b 0) * ((((bc b (4 * arm + i14)) * (v (bo b (4 * arm + i14)))) + ((8 - (bc b (4 * arm + i14))) * (v (bb b (4 * arm + i14))))) / 8)) / 100))) (by omega) (by decide)) ⟨va_cnB 3 hts gX2_turn_X4_store__n33 rfl rfl rfl (q_nw hK 4 rfl) (hts (.initialized RX4) (by decide +kernel)) (by decide +kernel) ⟨Nat.le_of_ble_eq_true rfl, Nat.le_of_ble_eq_true rfl⟩, hts (.static yX4_store_) (by decide +kernel), trivial⟩ hK hP hD hS hA [4] (by decide) rfl rfl hl.1 rfl (Nat.le_of_ble_eq_true rfl) dX2_turn_135 (Nat.zero_le _) (Nat.zero_le _) (fun r w1 H locs hQ hP hD hS => ?_)
        obtain ⟨rfl, rfl⟩ := hQ
        rw [q_updL] at hP hD
        have hP : va_P C.1 vwCl (([(q 0, .inr (2, [.ref (q 1), .ref (q 2), .ref (q 3), .ref (q 4)])), (q 1, .inl (C.2.2.1, 16, .inr (.inl (fun k => lN (t k))))), (q 2, .inl (C.2.2.2.1, 4, .inl (fun k => nI (f k)))), (q 3, .inl (C.2.2.1, 4, .inr (.inl (fun k => lN (v k))))), (q 4, .inl (C.2.2.1, 4, .inr (.inl (fun k => lN (upN (fillN (ownN b arm v) o i14) i14 ((1000 * (bg b (4 * arm + i14))) + (((bs b 0) * ((((bc b (4 * arm + i14)) * (v (bo b (4 * arm + i14)))) + ((8 - (bc b (4 * arm + i14))) * (v (bb b (4 * arm + i14))))) / 8)) / 100)) k)))))] : va_W) ++ wB C a b) H := hP
        have hD : va_D (q_A (wX C q t f v o ++ wB C a b) s) (([(q 0, .inr (2, [.ref (q 1), .ref (q 2), .ref (q 3), .ref (q 4)])), (q 1, .inl (C.2.2.1, 16, .inr (.inl (fun k => lN (t k))))), (q 2, .inl (C.2.2.2.1, 4, .inl (fun k => nI (f k)))), (q 3, .inl (C.2.2.1, 4, .inr (.inl (fun k => lN (v k))))), (q 4, .inl (C.2.2.1, 4, .inr (.inl (fun k => lN (upN (fillN (ownN b arm v) o i14) i14 ((1000 * (bg b (4 * arm + i14))) + (((bs b 0) * ((((bc b (4 * arm + i14)) * (v (bo b (4 * arm + i14)))) + ((8 - (bc b (4 * arm + i14))) * (v (bb b (4 * arm + i14))))) / 8)) / 100)) k)))))] : va_W) ++ wB C a b) := hD
        refine W.eq (g2 := F0 m 138 ls []) rfl ?_
        rw [show upN (fillN (ownN b arm v) o i14) i14 ((1000 * (bg b (4 * arm + i14))) + (((bs b 0) * ((((bc b (4 * arm + i14)) * (v (bo b (4 * arm + i14)))) + ((8 - (bc b (4 * arm + i14))) * (v (bb b (4 * arm + i14))))) / 8)) / 100)) = fillN (ownN b arm v) o (i14 + 1) from fillN_s _ _ _] at hP hD
        have hP : va_P C.1 vwCl (wX C q t f v (fillN (ownN b arm v) o (i14 + 1)) ++ wB C a b) H := hP
        have hD : va_D (q_A (wX C q t f v o ++ wB C a b) s) (wX C q t f v (fillN (ownN b arm v) o (i14 + 1)) ++ wB C a b) := hD
        refine lv_iinc (v := nI (i14 + 1)) (lv' := [(6, .int (nI (i14 + 1))), (16, .long (lN (((bs b 0) * ((((bc b (4 * arm + i14)) * (v (bo b (4 * arm + i14)))) + ((8 - (bc b (4 * arm + i14))) * (v (bb b (4 * arm + i14))))) / 8)) / 100))), (14, .long (lN ((((bc b (4 * arm + i14)) * (v (bo b (4 * arm + i14)))) + ((8 - (bc b (4 * arm + i14))) * (v (bb b (4 * arm + i14))))) / 8))), (12, .long (lN (v (bb b (4 * arm + i14))))), (10, .long (lN (v (bo b (4 * arm + i14))))), (8, .long (lN (bc b (4 * arm + i14)))), (7, .int (nI (4 * arm + i14))), (4, .long (lN (bs b 0))), (0, .ref (q 0)), (1, .ref (a 0)), (2, .int (nI arm)), (3, .int (nI h))]) hx hb dX2_turn_138 hl (k := 6) rfl (nI_1 _) (by decide) rfl (fun ls hl => ?_)
        refine lv_goto (tgt := 14) hx hb dX2_turn_141 (by decide) ?_
        exact ih14 (i14 + 1)  (by omega) (by omega)  _ _ ls hP hD hS (lv_sub hl [0, 7, 8, 9, 10, 11] rfl)
  rw [show o = fillN (ownN b arm v) o 0 from (fillN_0 _ _).symm] at hP hD
  exact K14 (4 + 1 - 0) 0  (by omega) (by omega)  _ _ ls hP hD hS (lv_sub hl [0, 1, 2, 3, 4, 5] rfl)
