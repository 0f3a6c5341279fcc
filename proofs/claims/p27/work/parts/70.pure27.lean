/-! what the law asks of indices, masks, shares, sums and choices: numbers -/
theorem val_M {b : Bd} (hB : OkB b) {arm t : Nat} (ha : arm < 4) (ht : t < 4) {v : Nat → Nat} (hv : ∀ j, j < 4 → v j ≤ 9900000 / (100 - bs b 0)) : ownN b arm v t ≤ 9900000 / (100 - bs b 0) := by
  have hd := hB.2.2.1.1
  have h1 := (hB.1 (4 * arm + t) (by omega)).1
  have h2 := (expN_le hB (k := 4 * arm + t) (by omega) hv).2.2.2
  have hD : 0 < 100 - bs b 0 := by omega
  rw [Nat.le_div_iff_mul_le hD]
  have hM : 9900000 / (100 - bs b 0) * (100 - bs b 0) ≤ 9900000 := Nat.div_mul_le_self _ _
  generalize 9900000 / (100 - bs b 0) = M at h2 hM
  unfold ownN
  generalize expN b v (4 * arm + t) = E at h2
  generalize bg b (4 * arm + t) = g at h1
  generalize hd0 : bs b 0 = d at hd hD hM
  have e1 : d * E / 100 * 100 ≤ d * E := Nat.div_mul_le_self _ _
  have e2 : d * E ≤ d * M := Nat.mul_le_mul_left _ h2
  generalize d * E / 100 = q at e1
  have e3 : q * 100 ≤ d * M := Nat.le_trans e1 e2
  have e4 : q * 100 * (100 - d) ≤ d * M * (100 - d) := Nat.mul_le_mul_right _ e3
  have e5 : d * M * (100 - d) ≤ d * 9900000 := by rw [Nat.mul_assoc]; exact Nat.mul_le_mul_left _ hM
  have e6 : q * 100 * (100 - d) = 100 * (q * (100 - d)) := by rw [Nat.mul_comm q 100, Nat.mul_assoc]
  have e7 : 1000 * g * (100 - d) ≤ 99000 * (100 - d) := Nat.mul_le_mul_right _ (by omega)
  rw [Nat.add_mul]
  generalize q * (100 - d) = X at e6
  omega
theorem vals_M {b : Bd} (hB : OkB b) {arm h : Nat} (ha : arm < 4) (hh : h < 4) : ∀ i k, k < 4 → valsN b arm h i k ≤ 9900000 / (100 - bs b 0)
  | 0, _, _ => Nat.zero_le _
  | i + 1, k, hk => Nat.max_le.mpr ⟨val_M hB ha hk (vals_M hB ha hh i), val_M hB ha hh (vals_M hB ha hh i)⟩
theorem idx_99 {b : Bd} (hB : OkB b) {arm h : Nat} (ha : arm < 4) (hh : h < 4) : idxN b arm h ≤ 99000 := by
  have hd := hB.2.2.1.1
  have h1 := vals_M hB ha hh (bs b 1) h hh
  have hD : 0 < 100 - bs b 0 := by omega
  rw [Nat.le_div_iff_mul_le hD] at h1
  unfold idxN ixN
  rw [Nat.mul_comm]
  omega
theorem vals_1 {b : Bd} {arm h : Nat} {i : Nat} : 1000 * bg b (4 * arm + h) ≤ valsN b arm h (i + 1) h := by
  show _ ≤ max (ownN b arm (valsN b arm h i) h) (ownN b arm (valsN b arm h i) h)
  rw [Nat.max_self]
  unfold ownN
  omega
/-- an index is no less than the gift by itself -/
theorem idx_ge {b : Bd} (hB : OkB b) {arm h : Nat} : 10 * (100 - bs b 0) * bg b (4 * arm + h) ≤ idxN b arm h := by
  have hr := hB.2.2.1.2.1
  obtain ⟨i, hi⟩ : ∃ i, bs b 1 = i + 1 := ⟨bs b 1 - 1, by omega⟩
  unfold idxN ixN
  rw [hi, Nat.le_div_iff_mul_le (by omega)]
  have h1 := Nat.mul_le_mul_left (100 - bs b 0) (vals_1 (b := b) (arm := arm) (h := h) (i := i))
  generalize 100 - bs b 0 = D at h1
  generalize bg b (4 * arm + h) = g at h1
  have e : D * (1000 * g) = 10 * D * g * 100 := by
    rw [Nat.mul_left_comm, Nat.mul_assoc 10 D g, Nat.mul_right_comm]
  omega
/-- with one round an index is the gift by itself -/
theorem idx_1 {b : Bd} {arm h : Nat} (hr : bs b 1 = 1) : idxN b arm h = (100 - bs b 0) * 10 * bg b (4 * arm + h) := by
  unfold idxN ixN
  rw [hr]
  show (100 - bs b 0) * max (ownN b arm (fun _ => 0) h) (ownN b arm (fun _ => 0) h) / 100 = _
  rw [Nat.max_self]
  unfold ownN expN
  rw [Nat.mul_zero, Nat.mul_zero, Nat.add_zero, Nat.zero_div, Nat.mul_zero, Nat.zero_div, Nat.add_zero]
  generalize 100 - bs b 0 = D
  generalize bg b (4 * arm + h) = g
  have e : D * (1000 * g) = D * 10 * g * 100 := by
    rw [Nat.mul_left_comm, Nat.mul_comm D 10, Nat.mul_assoc 10 D g, Nat.mul_right_comm]
  rw [e, Nat.mul_div_cancel _ (by omega)]
/-- the best state -/
theorem bst_sp (T : Nat → Nat) (arm : Nat) : ∀ i, (∀ k, k ≤ i → T (4 * arm + k) ≤ T (4 * arm + bstN T arm i)) ∧ ∀ k, k < bstN T arm i → T (4 * arm + k) < T (4 * arm + bstN T arm i)
  | 0 => ⟨fun k hk => by rw [show k = 0 by omega]; exact Nat.le_refl _, fun k hk => absurd hk (Nat.not_lt_zero k)⟩
  | i + 1 => by
    obtain ⟨h1, h2⟩ := bst_sp T arm i
    by_cases e : T (4 * arm + bstN T arm i) < T (4 * arm + (i + 1))
    · have e2 : bstN T arm (i + 1) = i + 1 := by rw [bstN, if_pos e]
      rw [e2]
      refine ⟨fun k hk => ?_, fun k hk => ?_⟩
      · by_cases q : k = i + 1
        · subst q; exact Nat.le_refl _
        · have := h1 k (by omega); omega
      · have := h1 k (by omega); omega
    · have e2 : bstN T arm (i + 1) = bstN T arm i := by rw [bstN, if_neg e]
      rw [e2]
      refine ⟨fun k hk => ?_, h2⟩
      by_cases q : k = i + 1
      · subst q; omega
      · exact h1 k (by omega)
theorem oa2_lt (b : Bd) (a : Nat) : oaN b a 2 < 4 := by
  show bstN (idxT b) a 3 < 4
  have := bstN_le (idxT b) a 3
  omega
theorem oa2_le (b : Bd) (a : Nat) {s : Nat} (hs : s < 4) : idxN b a s ≤ idxN b a (oaN b a 2) := by
  have h := (bst_sp (idxT b) a 3).1 s (by omega)
  rw [idxT_at b a hs] at h
  have h2 := idxT_at b a (oa2_lt b a)
  rw [← h2]
  exact h
theorem oa2_lt' (b : Bd) (a : Nat) {s : Nat} (hs : s < oaN b a 2) : idxN b a s < idxN b a (oaN b a 2) := by
  have h4 := oa2_lt b a
  have h := (bst_sp (idxT b) a 3).2 s hs
  rw [idxT_at b a (show s < 4 by omega)] at h
  have h2 := idxT_at b a h4
  rw [← h2]
  exact h
theorem oa3_in {b : Bd} (hB : OkB b) (a : Nat) : 1 ≤ oaN b a 3 ∧ oaN b a 3 ≤ bs b 1 := by
  have hr := hB.2.2.1.2.1
  have h := lrN_in (b := b) (arm := a) (h := bp b a) (d := idxN b a (bp b a)) (bs b 1 - 1) 1
  show 1 ≤ lrN b a (bp b a) (idxN b a (bp b a)) (bs b 1 - 1) 1 ∧ lrN b a (bp b a) (idxN b a (bp b a)) (bs b 1 - 1) 1 ≤ bs b 1
  omega
/-- masks -/
theorem rcIn_bit {b : Bd} {arm m s : Nat} (h : m.testBit s = true) : ∀ f, (rcIn b arm m f).testBit s = true
  | 0 => h
  | f + 1 => by
    have ih := rcIn_bit (b := b) (arm := arm) h f
    show (if (rcIn b arm m f).testBit f = true then rcIn b arm m f ||| nxN b (4 * arm + f) else rcIn b arm m f).testBit s = true
    split
    · rw [Nat.testBit_or, ih, Bool.true_or]
    · exact ih
theorem rcN_bit (b : Bd) (arm s : Nat) : ∀ k, (rcN b arm s k).testBit s = true
  | 0 => Nat.testBit_two_pow_self
  | k + 1 => rcIn_bit (rcN_bit b arm s k) 4
theorem shr16 : ∀ m, m < 16 → ∀ k, k < 4 → m.testBit k = true → (nI m >>> (nI k &&& 31)) &&& nI 1 = nI 1 := by decide +kernel
theorem os4 {b : Bd} (hB : OkB b) {a s : Nat} (ha : a < 4) (hs : s < 4) : osN b a s 4 < 16 ∧ (nI (osN b a s 4) >>> (nI s &&& 31)) &&& nI 1 = nI 1 :=
  ⟨rcN_lt hB ha hs 3, shr16 _ (rcN_lt hB ha hs 3) s hs (rcN_bit b a s 3)⟩
/-- shares -/
def pfN (f : Nat → Nat) : Nat → Nat
  | 0 => 0
  | i + 1 => pfN f i + f i
def lsN (f : Nat → Nat) : Nat → Nat
  | 0 => 99999
  | i + 1 => if f i < lsN f i then f i else lsN f i
def msN (f : Nat → Nat) : Nat → Nat
  | 0 => 0
  | i + 1 => if msN f i < f i then f i else msN f i
theorem pfN_4 (b : Bd) : pfN (bu b) 4 = sumU b := by
  show 0 + bu b 0 + bu b 1 + bu b 2 + bu b 3 = sumU b
  unfold sumU
  omega
theorem pf_le {f : Nat → Nat} {M : Nat} (h : ∀ k, k < 4 → f k ≤ M) : ∀ i, i ≤ 4 → pfN f i ≤ M * i
  | 0, _ => Nat.zero_le _
  | i + 1, hi => by
    have h1 := pf_le h i (by omega)
    have h2 := h i (by omega)
    rw [pfN, Nat.mul_succ]
    omega
theorem ls_le (f : Nat → Nat) : ∀ i, lsN f i ≤ 99999
  | 0 => Nat.le_refl _
  | i + 1 => by
    have := ls_le f i
    rw [lsN]
    split <;> omega
theorem ms_le {f : Nat → Nat} {M : Nat} (h : ∀ k, k < 4 → f k ≤ M) : ∀ i, i ≤ 4 → msN f i ≤ M
  | 0, _ => Nat.zero_le _
  | i + 1, hi => by
    have h1 := ms_le h i (by omega)
    have h2 := h i (by omega)
    rw [msN]
    split <;> omega
theorem ls_mn {f : Nat → Nat} (h : f 0 ≤ 9999) : ∀ i, lsN f (i + 1) = mnF f i
  | 0 => by rw [lsN, if_pos (by show f 0 < 99999; omega)]; rfl
  | i + 1 => by
    rw [lsN, ls_mn h i, mnF]
    split <;> omega
theorem ms_mx (f : Nat → Nat) : ∀ i, msN f (i + 1) = mxF f i
  | 0 => by
    rw [msN]
    show (if 0 < f 0 then f 0 else 0) = f 0
    split <;> omega
  | i + 1 => by
    rw [msN, ms_mx f i, mxF]
    split <;> omega
theorem cmp_self (i : Int) : compare i i = Ordering.eq := by
  first
  | exact Std.ReflCmp.compare_self
  | simp [compare, compareOfLessAndEq]
theorem dcmp_me {x : UInt64} (h : fpV x ≠ .nan) : FP.dcmp x x = some .eq := by
  show FP.Core.order (fpV x) (fpV x) = _
  cases hx : fpV x with
  | nan => exact absurd hx h
  | inf s => exact congrArg some (cmp_self _)
  | fin s c q => exact congrArg some (cmp_self _)
theorem ev_1 {b : Bd} (h : msN (bu b) 4 = 0) : evD b = FP.dconst1 := by
  have e := ms_mx (bu b) 3
  rw [evD, if_pos (by rw [← e]; exact h)]
theorem ev_n {b : Bd} (hU : sumU b ≤ 9999) (h : msN (bu b) 4 ≠ 0) : evD b = FP.ddiv (FP.l2d (lN (lsN (bu b) 4))) (FP.l2d (lN (msN (bu b) 4))) ∧ vf_n64 (FP.ddiv (FP.l2d (lN (lsN (bu b) 4))) (FP.l2d (lN (msN (bu b) 4)))) ∧ FP.dcmp (evD b) (evD b) = some .eq := by
  have e := ms_mx (bu b) 3
  have e2 := ls_mn (f := bu b) (bu_le hU 0 (by decide)) 3
  have h0 : mxF (bu b) 3 ≠ 0 := by rw [← e]; exact h
  have e3 : evD b = FP.ddiv (FP.l2d (lN (mnF (bu b) 3))) (FP.l2d (lN (mxF (bu b) 3))) := by rw [evD, if_neg h0]
  refine ⟨by rw [e, e2]; exact e3, by rw [e, e2]; exact evD_n hU h0, dcmp_me ?_⟩
  rw [e3]
  have h1 := mxF_le (f := bu b) (M := 9999) 3 (fun k hk => bu_le hU k (by omega))
  have h2 : mnF (bu b) 3 ≤ mxF (bu b) 3 := Nat.le_trans (mnF_le _ 3) (le_mxF _ 3)
  rcases Nat.eq_zero_or_pos (mnF (bu b) 3) with q | q
  · rw [q, fp_share0 (Nat.pos_of_ne_zero h0) (by omega)]
    decide +kernel
  · obtain ⟨c, q, h3, -⟩ := fp_share q h2 (by omega)
    rw [h3]
    exact fun h => nomatch h
/-- what pulls bring -/
theorem br_restN (b : Bd) (arm : Nat) : ∀ o, br (restN b arm o) = br b ∧ bx (restN b arm o) = bx b ∧ bl (restN b arm o) = bl b ∧ bw (restN b arm o) = bw b
  | 0 => ⟨rfl, rfl, rfl, rfl⟩
  | o + 1 => by
    rw [restN]
    unfold rest1
    split
    · exact br_restN b arm o
    · exact br_restN b arm o
def wrN (b : Bd) (a : Nat) : Int := if othB b a = true then ((1000 * bg b (4 * a + bp b a) : Nat) : Int) - (1000 * bs b 2 : Nat) else ((1000 * bg b (4 * a + bp b a) : Nat) : Int)
theorem br_pulB (b : Bd) (a : Nat) : br (pulB b a) = br b + fdv (zL (wrN b a) * lN (bw b)) (lN 1000000) ∧ bx (pulB b a) = (if othB b a = true then bx b + 1 else bx b) ∧ bl (pulB b a) = a + 1 := by
  have e : (if othB b a = true then lN (1000 * bg b (4 * a + bp b a)) - lN (1000 * bs b 2) else lN (1000 * bg b (4 * a + bp b a))) = zL (wrN b a) := by
    unfold wrN
    split
    · exact zL_sub _ _
    · show Int64.ofNat _ = Int64.ofInt _
      rw [Int64.ofInt_eq_ofNat]
  have e0 : br (goB (pul0 b a) a) = br b + fdv (zL (wrN b a) * lN (bw b)) (lN 1000000) := by
    rw [← e]
    rfl
  unfold pulB
  split
  · obtain ⟨h1, h2, h3, -⟩ := br_restN (goB (pul0 b a) a) a 4
    rw [h1, h2, h3]
    exact ⟨e0, rfl, rfl⟩
  · exact ⟨e0, rfl, rfl⟩
theorem fdv_bnd {x : Int64} {k : Nat} (h1 : -((k : Int) * 1000000) ≤ x.toInt) (h2 : x.toInt ≤ (k : Int) * 1000000) (hk : k ≤ 99000) : -((k : Int) + 1) ≤ (fdv x (lN 1000000)).toInt ∧ (fdv x (lN 1000000)).toInt ≤ k ∧ (0 ≤ x.toInt → 0 ≤ (fdv x (lN 1000000)).toInt) := by
  have hy : (lN 1000000).toInt = 1000000 := by decide
  have hd : (x / lN 1000000).toInt = x.toInt.tdiv 1000000 := by
    rw [Int64.toInt_div_of_ne_right _ _ (by decide), hy]
  have hq : -(k : Int) ≤ x.toInt.tdiv 1000000 ∧ x.toInt.tdiv 1000000 ≤ k ∧ (0 ≤ x.toInt → 0 ≤ x.toInt.tdiv 1000000) := by
    rcases (show x.toInt < 0 ∨ 0 ≤ x.toInt by omega) with q | q
    · obtain ⟨m, hm⟩ : ∃ m : Nat, x.toInt = -(m : Int) := ⟨x.toInt.natAbs, by omega⟩
      rw [hm, Int.neg_tdiv, Int.tdiv_eq_ediv_of_nonneg (by omega)]
      refine ⟨by omega, by omega, fun h => by omega⟩
    · rw [Int.tdiv_eq_ediv_of_nonneg q]
      refine ⟨by omega, by omega, fun h => by omega⟩
  unfold fdv
  split
  · next hc =>
    have h5 : (x / lN 1000000 - 1).toInt = x.toInt.tdiv 1000000 - 1 := by
      rw [Int64.toInt_sub, hd]
      exact Int.bmod_eq_of_le (by have : (1 : Int64).toInt = 1 := by decide
                                  rw [this]; omega) (by have : (1 : Int64).toInt = 1 := by decide
                                                        rw [this]; omega)
    refine ⟨by omega, by omega, fun h => ?_⟩
    exfalso
    obtain ⟨m, hm⟩ : ∃ m : Nat, x.toInt = m := ⟨x.toInt.toNat, by omega⟩
    have hx : x = lN m := by
      show x = Int64.ofNat m
      rw [← Int64.ofInt_eq_ofNat, ← hm, Int64.ofInt_toInt]
    have e := fdv_N (a := m) (b := 1000000) (by omega) (by omega) (by omega)
    rw [← hx] at e
    unfold fdv at e
    rw [if_pos hc] at e
    have e2 := congrArg Int64.toInt e
    rw [h5] at e2
    have e3 : (lN (m / 1000000)).toInt = ((m / 1000000 : Nat) : Int) := by
      show (Int64.ofNat _).toInt = _
      rw [← Int64.ofInt_eq_ofNat]
      exact Int64.toInt_ofInt_of_le (by omega) (by omega)
    rw [e3, hm, Int.tdiv_eq_ediv_of_nonneg (by omega)] at e2
    omega
  · rw [hd]
    exact ⟨by omega, hq.2.1, hq.2.2⟩
theorem wr_bnd {b : Bd} (hB : OkB b) {a : Nat} (ha : a < 4) : -99000 ≤ wrN b a ∧ wrN b a ≤ 99000 ∧ (bs b 2 = 0 → 0 ≤ wrN b a) := by
  obtain ⟨h1, h2, h3, h4, h5⟩ := hB
  have hp := h2 a ha
  have hg := (h1 (4 * a + bp b a) (by omega)).1
  unfold wrN
  split
  · refine ⟨by omega, by omega, fun h => by omega⟩
  · refine ⟨by omega, by omega, fun h => by omega⟩
theorem wx_bnd {z : Int} {w : Nat} (h1 : -99000 ≤ z) (h2 : z ≤ 99000) (hw : w ≤ 1000000) : (zL z * lN w).toInt = z * w ∧ -((99000 : Nat) * 1000000 : Int) ≤ z * w ∧ z * w ≤ ((99000 : Nat) : Int) * 1000000 := by
  have h3 : -((99000 : Nat) * 1000000 : Int) ≤ z * w ∧ z * w ≤ ((99000 : Nat) : Int) * 1000000 := by
    rcases (show z < 0 ∨ 0 ≤ z by omega) with q | q
    · obtain ⟨m, hm⟩ : ∃ m : Nat, z = -(m : Int) := ⟨z.natAbs, by omega⟩
      have hm9 : m ≤ 99000 := by omega
      have e := Nat.mul_le_mul hm9 hw
      rw [hm, Int.neg_mul]
      have e2 : ((m : Int) * w) = ((m * w : Nat) : Int) := (Int.natCast_mul m w).symm
      rw [e2]
      omega
    · obtain ⟨m, hm⟩ : ∃ m : Nat, z = m := ⟨z.toNat, by omega⟩
      have hm9 : m ≤ 99000 := by omega
      have e := Nat.mul_le_mul hm9 hw
      rw [hm]
      have e2 : ((m : Int) * w) = ((m * w : Nat) : Int) := (Int.natCast_mul m w).symm
      rw [e2]
      omega
  refine ⟨?_, h3⟩
  show (Int64.ofInt z * Int64.ofNat w).toInt = _
  rw [← Int64.ofInt_eq_ofNat, ← Int64.ofInt_mul]
  exact Int64.toInt_ofInt_of_le (by omega) (by omega)
/-- a pull brings from -99001 to 99000, and nothing is lost where changing costs nothing -/
theorem inc_bnd {b : Bd} (hB : OkB b) {a : Nat} (ha : a < 4) : ∃ z : Int, fdv (zL (wrN b a) * lN (bw b)) (lN 1000000) = zL z ∧ -99001 ≤ z ∧ z ≤ 99000 ∧ (bs b 2 = 0 → 0 ≤ z) := by
  obtain ⟨w1, w2, w3⟩ := wr_bnd hB ha
  obtain ⟨x1, x2, x3⟩ := wx_bnd w1 w2 hB.2.2.2.2
  obtain ⟨f1, f2, f3⟩ := fdv_bnd (x := zL (wrN b a) * lN (bw b)) (k := 99000) (by rw [x1]; exact x2) (by rw [x1]; exact x3) (Nat.le_refl _)
  refine ⟨_, (Int64.ofInt_toInt _).symm, by omega, by omega, fun h => f3 ?_⟩
  rw [x1]
  exact Int.mul_nonneg (w3 h) (by omega)
theorem br_pl {b : Bd} (hB : OkB b) (T : Nat → Nat) (rule : Nat) : ∀ k, ∃ z : Int, br (plN b T rule k) = br b + zL z ∧ -(99001 * (k : Int)) ≤ z ∧ z ≤ 99000 * (k : Int) ∧ (bs b 2 = 0 → 0 ≤ z)
  | 0 => ⟨0, by show br b = br b + Int64.ofInt 0; simp, by omega, by omega, fun _ => by omega⟩
  | k + 1 => by
    obtain ⟨z, e, h1, h2, h3⟩ := br_pl hB T rule k
    have ok := okB_plN hB T rule k
    obtain ⟨y, f, g1, g2, g3⟩ := inc_bnd ok (choN_lt ok T rule)
    have hs : bs (plN b T rule k) = bs b := congrArg (fun q => q.2.2.2.2) (ixOf_plN b T rule k)
    rw [hs] at g3
    refine ⟨z + y, ?_, by omega, by omega, fun h => by have := h3 h; have := g3 h; omega⟩
    rw [plN, (br_pulB _ _).1, f, e, Int64.add_assoc]
    show br b + (Int64.ofInt z + Int64.ofInt y) = br b + Int64.ofInt (z + y)
    rw [Int64.ofInt_add]
theorem gn_bnd {b : Bd} (hB : OkB b) (rule k : Nat) : ∃ z : Int, gnN b rule k = zL z ∧ -(99001 * (k : Int)) ≤ z ∧ z ≤ 99000 * (k : Int) ∧ (bs b 2 = 0 → 0 ≤ z) := by
  obtain ⟨z, e, h⟩ := br_pl hB (idxT b) rule k
  refine ⟨z, ?_, h⟩
  unfold gnN
  rw [e, Int64.add_comm, Int64.add_sub_cancel]
theorem gn_2 {b : Bd} (hB : OkB b) (rule : Nat) : gnN b rule 2 ≤ lN 198000 := by
  obtain ⟨z, e, h1, h2, -⟩ := gn_bnd hB rule 2
  rw [e, show lN 198000 = zL 198000 by decide]
  exact (zL_le (by omega) (by omega) (by omega) (by omega)).mpr (by omega)
theorem gn_3 {b : Bd} (hB : OkB b) (hc : bs b 2 = 0) : lN 0 ≤ gnN b 0 3 := by
  obtain ⟨z, e, h1, h2, h3⟩ := gn_bnd hB 0 3
  have := h3 hc
  rw [e, show lN 0 = zL 0 by decide]
  exact (zL_le (by omega) (by omega) (by omega) (by omega)).mpr (by omega)
/-- the least gift is no more than what the arm has, if it is chosen -/
theorem tB_me (b : Bd) (a : Nat) : tB b a (bp b a) (bg b (4 * a + bp b a)) = b := by
  have e1 : upN (bp b) a (bp b a) = bp b := by
    funext j
    unfold upN
    split
    · next h => rw [h]
    · rfl
  have e2 : upN (bg b) (4 * a + bp b a) (bg b (4 * a + bp b a)) = bg b := by
    funext j
    unfold upN
    split
    · next h => rw [h]
    · rfl
  show mkB (upN (bg b) (4 * a + bp b a) (bg b (4 * a + bp b a))) (bo b) (bb b) (bc b) (upN (bp b) a (bp b a)) (bu b) (bs b) (bx b) (bl b) (br b) (bw b) (bz b) = b
  rw [e1, e2]
theorem lg_me {b : Bd} {a : Nat} (h : choN b (idxT b) 0 = a) : lgN b a (bp b a) ≤ bg b (4 * a + bp b a) := by
  refine lg_yes ?_
  show choN (tB b a (bp b a) (bg b (4 * a + bp b a))) (idxT (tB b a (bp b a) (bg b (4 * a + bp b a)))) 0 = a
  rw [tB_me]
  exact h
/-! what holds of every board that the law meets -/
def okY (b : Bd) : Prop := OkB b ∧ (sumU b = 0 → bl b = 0 ∧ bx b = 0) ∧ (0 < sumU b → 0 < bl b ∧ bx b < sumU b)
def okJ (J : Nat) (b : Bd) : Prop := okY b ∧ sumU b ≤ 12 * J
theorem okJ_s {J : Nat} {b : Bd} (h : okJ J b) (hJ : J ≤ 30) : okS b := ⟨h.1.1, by have := h.2; omega⟩
theorem okJ_w {J K : Nat} {b : Bd} (h : okJ J b) (hJ : J ≤ K) : okJ K b := ⟨h.1, by have := h.2; omega⟩
def okP (P : Bd → Prop) (ph : Nat → Bd) (r n : Nat) : Prop := r < 6 ∧ n ≤ 6 ∧ ∀ j, j < n → P (ph ((j + r) % 6))
theorem okP_keep {P : Bd → Prop} {ph : Nat → Bd} {r n : Nat} {b : Bd} (h : okP P ph r n) (hb : P b) : okP P (upB ph (kJ n r) b) (kR n r) (kC n) := by
  obtain ⟨h1, h2, h3⟩ := h
  unfold kJ kR kC
  by_cases e : n < 6
  · rw [if_pos e, if_pos e, if_pos e]
    refine ⟨h1, by omega, fun j hj => ?_⟩
    by_cases q : j = n
    · subst q; rw [upB_s]; exact hb
    · rw [upB_n (by omega)]; exact h3 j (by omega)
  · rw [if_neg e, if_neg e, if_neg e]
    refine ⟨by omega, Nat.le_refl 6, fun j hj => ?_⟩
    by_cases q : j = 5
    · subst q
      rw [show (5 + (r + 1) % 6) % 6 = r by omega, upB_s]; exact hb
    · rw [upB_n (by omega), show (j + (r + 1) % 6) % 6 = (j + 1 + r) % 6 by omega]
      exact h3 (j + 1) (by omega)
theorem okP_w {P Q : Bd → Prop} {ph : Nat → Bd} {r n : Nat} (h : okP P ph r n) (hPQ : ∀ b, P b → Q b) : okP Q ph r n := ⟨h.1, h.2.1, fun j hj => hPQ _ (h.2.2 j hj)⟩
theorem okP_less {P : Bd → Prop} {ph : Nat → Bd} {r n : Nat} (h : okP P ph r n) : okP P ph r (n - 1) := ⟨h.1, by have := h.2.1; omega, fun j hj => h.2.2 j (by omega)⟩
theorem okP_last {P : Bd → Prop} {ph : Nat → Bd} {r n : Nat} (h : okP P ph r n) (hn : 0 < n) : P (ph ((n - 1 + r) % 6)) := h.2.2 (n - 1) (by omega)
theorem okY_same {b c : Bd} (h : okY b) (hB : OkB c) (hu : bu c = bu b) (hl : bl c = bl b) (hx : bx c = bx b) : okY c := by
  have e : sumU c = sumU b := by unfold sumU; rw [hu]
  unfold okY
  rw [e, hl, hx]
  exact ⟨hB, h.2⟩
theorem okJ_same {J : Nat} {b c : Bd} (h : okJ J b) (hB : OkB c) (hu : bu c = bu b) (hl : bl c = bl b) (hx : bx c = bx b) : okJ J c := ⟨okY_same h.1 hB hu hl hx, by
  have e : sumU c = sumU b := by unfold sumU; rw [hu]
  rw [e]; exact h.2⟩
theorem okY_pul {b : Bd} (h : okY b) {a : Nat} (ha : a < 4) : okY (pulB b a) := by
  obtain ⟨h1, h2, h3⟩ := h
  obtain ⟨-, e2, e3⟩ := br_pulB b a
  have e4 := sumU_pul b ha
  refine ⟨okB_pulB h1 a ha, fun q => by omega, fun _ => ⟨by omega, ?_⟩⟩
  rw [e2, e4]
  rcases Nat.eq_zero_or_pos (sumU b) with q | q
  · obtain ⟨q1, q2⟩ := h2 q
    have e5 : othB b a = false := by
      unfold othB
      rw [q1]
      exact decide_eq_false (fun h => h.1 rfl)
    rw [e5, if_neg (by decide)]
    omega
  · have := (h3 q).2
    split <;> omega
theorem okY_pl {b : Bd} (h : okY b) (T : Nat → Nat) (rule : Nat) : ∀ k, okY (plN b T rule k)
  | 0 => h
  | k + 1 => okY_pul (okY_pl h T rule k) (choN_lt (okY_pl h T rule k).1 T rule)
theorem okJ_pul {J : Nat} {b : Bd} (h : okJ J b) {a : Nat} (ha : a < 4) : okJ (J + 1) (pulB b a) := ⟨okY_pul h.1 ha, by rw [sumU_pul b ha]; have := h.2; omega⟩
theorem okJ_pl {J : Nat} {b : Bd} (h : okJ J b) (T : Nat → Nat) (rule : Nat) {k : Nat} (hk : k ≤ 12) : okJ (J + 1) (plN b T rule k) := ⟨okY_pl h.1 T rule k, by rw [sumU_pl h.1.1]; have := h.2; omega⟩
theorem sumU_beg (b : Bd) (x : Int64) : sumU (begB b x) = 0 := by
  show upN (upN (upN (upN (bu b) 0 0) 1 0) 2 0) 3 0 0 + upN (upN (upN (upN (bu b) 0 0) 1 0) 2 0) 3 0 1 + upN (upN (upN (upN (bu b) 0 0) 1 0) 2 0) 3 0 2 + upN (upN (upN (upN (bu b) 0 0) 1 0) 2 0) 3 0 3 = 0
  have e0 : upN (upN (upN (upN (bu b) 0 0) 1 0) 2 0) 3 0 0 = 0 := by rw [upN_n (by decide), upN_n (by decide), upN_n (by decide), upN_s]
  have e1 : upN (upN (upN (upN (bu b) 0 0) 1 0) 2 0) 3 0 1 = 0 := by rw [upN_n (by decide), upN_n (by decide), upN_s]
  have e2 : upN (upN (upN (upN (bu b) 0 0) 1 0) 2 0) 3 0 2 = 0 := by rw [upN_n (by decide), upN_s]
  have e3 : upN (upN (upN (upN (bu b) 0 0) 1 0) 2 0) 3 0 3 = 0 := upN_s _ _ _
  rw [e0, e1, e2, e3]
theorem okJ_beg {J K : Nat} {b : Bd} {x : Int64} (h : okJ J b) (hJ : J ≤ 30) : okJ K (begB b x) := by
  have e := sumU_beg b x
  exact ⟨⟨(okS_beg (okJ_s h hJ)).1, fun _ => ⟨rfl, rfl⟩, fun q => absurd q (by rw [e]; exact Nat.lt_irrefl 0)⟩, by rw [e]; exact Nat.zero_le _⟩
theorem bx_pl_le (b : Bd) (T : Nat → Nat) (rule : Nat) : ∀ k, bx b ≤ bx (plN b T rule k)
  | 0 => Nat.le_refl _
  | k + 1 => by
    have h := bx_pl_le b T rule k
    rw [plN, (br_pulB _ _).2.1]
    split <;> omega
