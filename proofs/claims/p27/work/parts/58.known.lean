/-! what stands at the start -/
theorem q_nest_in : ∀ w ∈ q_nest, w ∈ lw_tbl := by decide +kernel
theorem q_xw_in : ∀ w ∈ q_xw, w ∈ lw_tbl := by decide +kernel
theorem q_sx_in : ∀ x ∈ q_sx, Cond.stringRef RX4 x.1 x.2 ∈ lw_tbl := by decide +kernel
theorem q_sx_ex : ∀ x ∈ q_sx, Cond.exactly (.string RX4 x.1) "java/lang/String" ∈ flatC (Jvm.Cond.and given_1 narrow_1) := by decide +kernel
theorem q_nc_in : ∀ x ∈ q_nc, Cond.not (.castable x.1 x.2) ∈ flatC (Jvm.Cond.and given_1 narrow_1) := by decide +kernel
theorem okS_0 : okS bd0 := by
  unfold okS OkB
  decide +kernel
theorem q_row {args : Array Value} {s : State} {tm : Term} {N : Nat} {f : Nat → Int32} (hN : N < 2 ^ 31) (harr : (Cond.arrayOf tm .int).before args s = true) (hlen : (Term.length tm).eval args s none [] s = some (.int (Int32.ofNat N))) (hel : ∀ j : Nat, j < N → (Term.elem tm (.int (Int32.ofNat j))).eval args s none [] s = some (.int (f j))) : ∃ t : Nat, tm.eval args s none [] s = some (.ref t) ∧ va_X t N f s s.heap ∧ t < s.heap.size := by
  obtain ⟨t, ht, cell, h1, h2, h3, h4, h5, h6, -⟩ := va_Tof (f := fun j => .int (f j)) (A := fun _ => False) hN harr hlen hel (fun _ _ h => h)
  obtain ⟨t2, cell2, ht2, hat, hv⟩ := Term.length_spec hlen
  cases ht.symm.trans ht2
  obtain ⟨hcell, -, -, -⟩ := State.arrayAt?_spec hat
  cases h1.symm.trans hcell
  have hsz : cell.slots.size < 2 ^ 31 := by
    simp only [Term.eval, ht, hat, Option.bind_eq_bind, Option.bind_some] at hlen
    by_cases hlt : cell.slots.size < 2147483648
    · exact hlt
    · simp [hlt] at hlen
  exact ⟨t, ht, ⟨cell, h1, h2, h3, q_neq hsz hN h5, h6⟩, (Array.getElem?_eq_some_iff.mp h1).1⟩
theorem q_els {args : Array Value} {s : State} {tm : Term} {f : Nat → Int32} (h0 : (Cond.eq (.elem tm (.int 0)) (.int (f 0))).before args s = true) (h1 : (Cond.eq (.elem tm (.int 1)) (.int (f 1))).before args s = true) (h2 : (Cond.eq (.elem tm (.int 2)) (.int (f 2))).before args s = true) (h3 : (Cond.eq (.elem tm (.int 3)) (.int (f 3))).before args s = true) : ∀ j : Nat, j < 4 → (Term.elem tm (.int (Int32.ofNat j))).eval args s none [] s = some (.int (f j)) := by
  intro j hj
  rcases (show j = 0 ∨ j = 1 ∨ j = 2 ∨ j = 3 by omega) with rfl | rfl | rfl | rfl
  · exact va_eqt h0
  · exact va_eqt h1
  · exact va_eqt h2
  · exact va_eqt h3
theorem q_lays {s : State} {b : Nat} (hts : ∀ w ∈ lw_tbl, w.before #[Value.ref b] s = true) (hs : ∀ w ∈ flatC (Jvm.Cond.and given_1 narrow_1), w.before #[Value.ref b] s = true) : q_E (fun q => s.heap.size ≤ q) s s.heap := by
  have hA : ∀ a : Nat, a < s.heap.size → ¬ (fun q : Nat => s.heap.size ≤ q) a := fun a h => Nat.not_le.mpr h
  obtain ⟨a0, t0, x0, l0⟩ := q_row (tm := .static RX4 "LEAST_SETTING" "[I") (N := 4) (f := fun k => nI (leS k)) (by decide) (hs _ (by decide +kernel)) (va_eqt (hs (.eq (.length (.static RX4 "LEAST_SETTING" "[I")) (.int 4)) (by decide +kernel))) (q_els (hs _ (by decide +kernel)) (hs _ (by decide +kernel)) (hs _ (by decide +kernel)) (hs _ (by decide +kernel)))
  obtain ⟨a1, t1, x1, l1⟩ := q_row (tm := .static RX4 "GREATEST_SETTING" "[I") (N := 4) (f := fun k => nI (grS k)) (by decide) (hs _ (by decide +kernel)) (va_eqt (hs (.eq (.length (.static RX4 "GREATEST_SETTING" "[I")) (.int 4)) (by decide +kernel))) (q_els (hs _ (by decide +kernel)) (hs _ (by decide +kernel)) (hs _ (by decide +kernel)) (hs _ (by decide +kernel)))
  refine ⟨vx_Zqof (by first | exact hts _ (by decide +kernel) | exact hs _ (by decide +kernel)) (by first | exact hts _ (by decide +kernel) | exact hs _ (by decide +kernel)) (by first | exact hts _ (by decide +kernel) | exact hs _ (by decide +kernel)) hA, vx_Zqof (by first | exact hts _ (by decide +kernel) | exact hs _ (by decide +kernel)) (by first | exact hts _ (by decide +kernel) | exact hs _ (by decide +kernel)) (by first | exact hts _ (by decide +kernel) | exact hs _ (by decide +kernel)) hA, a0, a1, ⟨va_Zof (by first | exact hts _ (by decide +kernel) | exact hs _ (by decide +kernel)) (hts _ (by decide +kernel)) t0 hA, x0, l0, hA _ l0⟩, va_Zof (by first | exact hts _ (by decide +kernel) | exact hs _ (by decide +kernel)) (hts _ (by decide +kernel)) t1 hA, x1, l1, hA _ l1⟩
theorem q_words {s : State} {b : Nat} (hts : ∀ w ∈ lw_tbl, w.before #[Value.ref b] s = true) (hs : ∀ w ∈ flatC (Jvm.Cond.and given_1 narrow_1), w.before #[Value.ref b] s = true) : q_Wo s :=
  ⟨fun w hw => by
    have h := hts w (q_xw_in w hw)
    rcases q_xw_form w hw with ⟨a, b, rfl⟩ | ⟨x, rfl⟩
    · exact va_tabs (u := s) rfl rfl h
    · exact va_tabs (u := s) rfl rfl h, fun x hx => by
    obtain ⟨a, c, cell, k, h, -⟩ := Cond.exactly_spec (hs _ (q_sx_ex x hx))
    exact ⟨a, vk_R.of (hts _ (q_sx_in x hx)) h⟩, fun x hx => va_Nc.of (hs _ (q_nc_in x hx))⟩
theorem q_known {s : State} {b : Nat} (hts : ∀ w ∈ lw_tbl, w.before #[Value.ref b] s = true) : ∃ C : q_C, q_K C s := by
  obtain ⟨c0, i0, k0⟩ := u_known (C := RX0) (T := TX0) (N := 12) (n := 12) hts inX0 (hts (.instantiable RX0 12) (by decide +kernel))
  obtain ⟨c1, i1, k1⟩ := u_known (C := RX1) (T := TX1) (N := 2) (n := 2) hts inX1 (hts (.instantiable RX1 2) (by decide +kernel))
  obtain ⟨c2, i2, k2⟩ := u_known (C := RX2) (T := TX2) (N := 4) (n := 4) hts inX2 (hts (.instantiable RX2 4) (by decide +kernel))
  obtain ⟨c3, i3, k3⟩ := u_known (C := RX3) (T := TX3) (N := 2) (n := 2) hts inX3 (hts (.instantiable RX3 2) (by decide +kernel))
  obtain ⟨c4, i4, k4⟩ := u_known (C := RX4) (T := TX4) (N := 6) (n := 6) hts inX4 (hts (.instantiable RX4 6) (by decide +kernel))
  obtain ⟨cI, kI, mI, f1, f2, f3⟩ := Cond.arrayClass_spec (hts (.arrayClass .int) (by decide +kernel))
  obtain ⟨cJ, kJ', mJ, g1, g2, g3⟩ := Cond.arrayClass_spec (hts (.arrayClass .long) (by decide +kernel))
  obtain ⟨cZ, kZ, mZ, h1, h2, h3⟩ := Cond.arrayClass_spec (hts (.arrayClass .boolean) (by decide +kernel))
  obtain ⟨mB', cB, kB, b1, b2, b3, b4, b5⟩ := Cond.arrayOver_spec (hts (.arrayOver (.object RX0)) (by decide +kernel))
  refine ⟨((fun k => [c0, c1, c2, c3, c4].getD k c0, fun k => [i0, i1, i2, i3, i4].getD k i0), cI, cJ, cZ, cB), ⟨⟨fun k q hq => ?_, fun k q hq => ?_⟩, fun w hw => va_tabs (u := s) (q_nest_on w hw) rfl (hts w (q_nest_in w hw))⟩⟩
  · match k, hq with
    | 0, hq => cases hq; exact k0
    | 1, hq => cases hq; exact k1
    | 2, hq => cases hq; exact k2
    | 3, hq => cases hq; exact k3
    | 4, hq => cases hq; exact k4
    | k + 5, hq => simp [vwCl] at hq
  · match k, hq with
    | 0, hq => cases hq; exact ⟨fun n z => ⟨fun k h => (by cases h), kI, f2, mI, f3⟩, f1⟩
    | 1, hq => cases hq; exact ⟨fun n z => ⟨fun k h => (by cases h), kJ', g2, mJ, g3⟩, g1⟩
    | 2, hq => cases hq; exact ⟨fun n z => ⟨fun k h => (by cases h), kZ, h2, mZ, h3⟩, h1⟩
    | 3, hq => cases hq; exact ⟨fun n z => ⟨fun k h => (by cases h), kB, b3, mB', b4⟩, kB, mB', b3, b4, b1, b5⟩
    | k + 4, hq => simp [q_tys] at hq
