/-! doubles: shares of whole numbers, and their bits -/
theorem fp_qmin : FP.Core.b64.qmin = -1074 := by decide
theorem fp_qmax : FP.Core.b64.qmax = 971 := by decide
theorem fp_tails : FP.Core.b64.tails = 2 ^ 52 := by decide
/-- the number of a double's bits -/
def fpV (a : UInt64) : FP.Core.Datum := FP.Core.decode FP.Core.b64 a.toNat
theorem fp_exps : FP.Core.b64.exps = 2048 := by decide
theorem fp_enc {c : Nat} {q : Int} (h1 : 2 ^ 52 ≤ c) (h3 : -1074 ≤ q) : FP.Core.encode FP.Core.b64 (.fin false c q) = (q + 1075).toNat * 2 ^ 52 + (c - 2 ^ 52) := by
  show (if c < FP.Core.b64.tails then _ else FP.Core.assemble FP.Core.b64 false ((q - FP.Core.b64.qmin).toNat + 1) (c - FP.Core.b64.tails)) = _
  rw [fp_tails, if_neg (by omega), FP.Core.assemble, fp_tails, fp_qmin]
  show (0 * _ + _) * _ + _ = _
  rw [Nat.zero_mul, Nat.zero_add]
  congr 2
  omega
theorem fp_dec {n c : Nat} {q : Int} (hn : n < 2 ^ 64) (h1 : 2 ^ 52 ≤ c) (h : FP.Core.decode FP.Core.b64 n = .fin false c q) : n = (q + 1075).toNat * 2 ^ 52 + (c - 2 ^ 52) := by
  unfold FP.Core.decode at h
  rw [fp_tails, fp_exps, fp_qmin] at h
  unfold FP.Core.fieldE FP.Core.fieldT FP.Core.fieldS at h
  rw [fp_tails, fp_exps] at h
  split at h
  · split at h <;> cases h
  · split at h
    · injection h with h5 h6 h7
      omega
    · injection h with h5 h6 h7
      have h8 : ¬ n / 2 ^ 52 / 2048 % 2 = 1 := fun e => by rw [e] at h5; exact absurd h5 (by decide)
      omega
theorem fp_c3 {b b' : Bool} {c c' : Nat} {q q' : Int} (h1 : b = b') (h2 : c = c') (h3 : q = q') : FP.Core.Datum.fin b c q = .fin b' c' q' := by rw [h1, h2, h3]
theorem fp_decN {n c : Nat} {q : Int} (h1 : 2 ^ 52 ≤ c) (h2 : c < 2 ^ 53) (h3 : -1074 ≤ q) (h4 : q ≤ 971) (hn : n = (q + 1075).toNat * 2 ^ 52 + (c - 2 ^ 52)) : FP.Core.decode FP.Core.b64 n = .fin false c q := by
  unfold FP.Core.decode
  rw [fp_tails, fp_exps, fp_qmin]
  unfold FP.Core.fieldE FP.Core.fieldT FP.Core.fieldS
  rw [fp_tails, fp_exps]
  have e1 : n / 2 ^ 52 = (q + 1075).toNat := by omega
  have e2 : n % 2 ^ 52 = c - 2 ^ 52 := by omega
  rw [e1, e2, if_neg (by omega), if_neg (by omega)]
  refine fp_c3 ?_ ?_ ?_
  · show (_ == 1) = false
    rw [show (q + 1075).toNat / 2048 % 2 = 0 by omega]
    rfl
  · omega
  · omega
theorem fp_of {c : Nat} {q : Int} (h1 : 2 ^ 52 ≤ c) (h2 : c < 2 ^ 53) (h3 : -1074 ≤ q) (h4 : q ≤ 971) : fpV (.ofNat (FP.Core.encode FP.Core.b64 (.fin false c q))) = .fin false c q := by
  unfold fpV
  have e := fp_enc h1 h3
  have hlt : FP.Core.encode FP.Core.b64 (.fin false c q) < 2 ^ 64 := by rw [e]; omega
  rw [show (UInt64.ofNat (FP.Core.encode FP.Core.b64 (.fin false c q))).toNat = FP.Core.encode FP.Core.b64 (.fin false c q) from UInt64.toNat_ofNat_of_lt' hlt]
  exact fp_decN h1 h2 h3 h4 e
theorem fp_nr {A B M : Nat} (hB : 0 < B) (h : A ≤ M * B) : FP.Core.nearest A B ≤ M := by
  by_cases heq : A = M * B
  · subst heq
    unfold FP.Core.nearest
    rw [Nat.mul_mod_left, Nat.mul_div_cancel _ hB, if_pos (by omega)]
    exact Nat.le_refl _
  · have : A / B < M := (Nat.div_lt_iff_lt_mul hB).mpr (by omega)
    unfold FP.Core.nearest
    split
    · omega
    · split <;> omega
theorem fp_nr2 {A B M : Nat} (hB : 0 < B) (h : M * B ≤ A) : M ≤ FP.Core.nearest A B := by
  have : M ≤ A / B := (Nat.le_div_iff_mul_le hB).mpr h
  unfold FP.Core.nearest
  split
  · exact this
  · split <;> omega
theorem fp_log {c L : Nat} (h1 : 2 ^ L ≤ c) (h2 : c < 2 ^ (L + 1)) : c.log2 = L := by
  have h0 : c ≠ 0 := by
    have := Nat.two_pow_pos L
    omega
  have a1 : 2 ^ c.log2 ≤ c := Nat.log2_self_le h0
  have a2 : c < 2 ^ (c.log2 + 1) := Nat.lt_log2_self
  have b1 : L < c.log2 + 1 := (Nat.pow_lt_pow_iff_right (by decide)).mp (Nat.lt_of_le_of_lt h1 a2)
  have b2 : c.log2 < L + 1 := (Nat.pow_lt_pow_iff_right (by decide)).mp (Nat.lt_of_le_of_lt a1 h2)
  omega
theorem fp_exact {A c : Nat} {e0 q : Int} (h1 : 2 ^ 52 ≤ c) (h2 : c < 2 ^ 53) (h3 : -1074 ≤ q) (h4 : q ≤ 971) (h : A * 2 ^ (e0 - q).toNat = c * 1 * 2 ^ (q - e0).toNat) : FP.Core.roundRatio FP.Core.b64 false A 1 e0 = .fin false c q := by
  rw [Nat.mul_one] at h
  have hA : A ≠ 0 := fun e => by
    subst e
    rw [Nat.zero_mul] at h
    have := Nat.mul_pos (show 0 < c by omega) (Nat.two_pow_pos (q - e0).toNat)
    omega
  have hl : (A.log2 : Int) = 52 + q - e0 := by
    rcases Int.lt_or_le e0 q with g | g
    · rw [show (e0 - q).toNat = 0 by omega, Nat.pow_zero, Nat.mul_one] at h
      have : A.log2 = 52 + (q - e0).toNat := fp_log (by rw [h, Nat.pow_add]; exact Nat.mul_le_mul_right _ h1) (by rw [h, show 52 + (q - e0).toNat + 1 = 53 + (q - e0).toNat by omega, Nat.pow_add]; exact (Nat.mul_lt_mul_right (Nat.two_pow_pos _)).mpr h2)
      omega
    · rw [show (q - e0).toNat = 0 by omega, Nat.pow_zero, Nat.mul_one] at h
      have a1 : 2 ^ A.log2 ≤ A := Nat.log2_self_le hA
      have a2 : A < 2 ^ (A.log2 + 1) := Nat.lt_log2_self
      have c1 : c.log2 = A.log2 + (e0 - q).toNat := fp_log (by rw [← h, Nat.pow_add]; exact Nat.mul_le_mul_right _ a1) (by rw [← h, show A.log2 + (e0 - q).toNat + 1 = (A.log2 + 1) + (e0 - q).toNat by omega, Nat.pow_add]; exact (Nat.mul_lt_mul_right (Nat.two_pow_pos _)).mpr a2)
      have c2 : c.log2 = 52 := fp_log h1 h2
      omega
  have hlead : FP.Core.leading A 1 = A.log2 := by
    unfold FP.Core.leading
    have l1 : Nat.log2 1 = 0 := by decide
    rw [l1]
    dsimp only
    rw [if_pos]
    · omega
    · rw [show (((A.log2 : Int) - ((0 : Nat) : Int))).toNat = A.log2 by omega, show (-((A.log2 : Int) - ((0 : Nat) : Int))).toNat = 0 by omega, Nat.one_mul, Nat.pow_zero, Nat.mul_one]
      exact Nat.log2_self_le hA
  have hq : FP.Core.quantum FP.Core.b64 A 1 e0 = q := by
    unfold FP.Core.quantum
    rw [hlead, fp_qmin, hl]
    show max (-1074) (52 + q - e0 + e0 - (53 - 1)) = q
    omega
  unfold FP.Core.roundRatio
  rw [if_neg hA, hq]
  unfold FP.Core.roundAt
  have hn : FP.Core.nearest (FP.Core.unitsNum A e0 q) (FP.Core.unitsDen 1 e0 q) = c := by
    unfold FP.Core.unitsNum FP.Core.unitsDen
    rw [h, Nat.one_mul]
    exact Nat.le_antisymm (fp_nr (Nat.two_pow_pos _) (Nat.le_refl _)) (fp_nr2 (Nat.two_pow_pos _) (Nat.le_refl _))
  rw [hn]
  unfold FP.Core.settle FP.Core.bound
  rw [if_pos (show c < 2 ^ FP.Core.b64.p from h2), fp_qmax, if_pos h4]
theorem fp_bits {x : UInt64} {c : Nat} {q : Int} (hx : fpV x = .fin false c q) (h1 : 2 ^ 52 ≤ c) (h2 : c < 2 ^ 53) (h3 : -1074 ≤ q) (h4 : q ≤ 971) : x.toNat = (q + 1075).toNat * 2 ^ 52 + (c - 2 ^ 52) := fp_dec x.toNat_lt h1 hx
theorem fp_n64 {r : UInt64} (h : r.toNat ≤ 0x7ff0000000000000) : vf_n64 r := by
  unfold vf_n64
  rw [UInt64.le_iff_toNat_le, UInt64.toNat_and]
  exact Nat.le_trans Nat.and_le_left h
theorem fp_nn {x : UInt64} {c : Nat} {q : Int} (hx : fpV x = .fin false c q) (h1 : 2 ^ 52 ≤ c) (h2 : c < 2 ^ 53) (h3 : -1074 ≤ q) (h4 : q ≤ 971) : vf_n64 x := by
  apply fp_n64
  rw [fp_bits hx h1 h2 h3 h4]
  omega
theorem fp_scale : ∀ (k d : Nat), 0 < d → d < 2 ^ k → ∃ j, j < k + 1 ∧ 2 ^ k ≤ d * 2 ^ j ∧ d * 2 ^ j < 2 ^ (k + 1)
  | 0, d, h, h2 => by omega
  | k + 1, d, h, h2 => by
    by_cases e : d < 2 ^ k
    · obtain ⟨j, a, b, c⟩ := fp_scale k d h e
      refine ⟨j + 1, by omega, ?_, ?_⟩
      · rw [Nat.pow_succ, Nat.pow_succ, ← Nat.mul_assoc]; omega
      · rw [Nat.pow_succ, Nat.pow_succ, ← Nat.mul_assoc]; omega
    · refine ⟨1, by omega, ?_, ?_⟩
      · rw [Nat.pow_succ]; omega
      · rw [Nat.pow_succ]; omega
/-- a share of two numbers with 53 digits -/
theorem fp_div {A B : Nat} {d : Int} (hA1 : 2 ^ 52 ≤ A) (hA2 : A < 2 ^ 53) (hB1 : 2 ^ 52 ≤ B) (hB2 : B < 2 ^ 53) (hd1 : -100 ≤ d) (hd2 : d ≤ 0) (hd3 : d = 0 → A ≤ B) :
    ∃ c q, FP.Core.roundRatio FP.Core.b64 false A B d = .fin false c q ∧ 2 ^ 52 ≤ c ∧ c < 2 ^ 53 ∧ -160 ≤ q ∧ (q ≤ -53 ∨ (q = -52 ∧ c = 2 ^ 52)) := by
  have lA : A.log2 = 52 := fp_log hA1 hA2
  have lB : B.log2 = 52 := fp_log hB1 hB2
  have hlead : FP.Core.leading A B = if B ≤ A then 0 else -1 := by
    unfold FP.Core.leading
    rw [lA, lB]
    dsimp only
    rw [show (((52 : Nat) : Int) - ((52 : Nat) : Int)) = 0 by omega]
    show (if B * 2 ^ 0 ≤ A * 2 ^ 0 then (0 : Int) else 0 - 1) = _
    have hc : (B * 2 ^ 0 ≤ A * 2 ^ 0) ↔ B ≤ A := by rw [Nat.pow_zero, Nat.mul_one, Nat.mul_one]
    by_cases h : B ≤ A
    · rw [if_pos (hc.mpr h), if_pos h]
    · rw [if_neg (fun g => h (hc.mp g)), if_neg h]
      rfl
  have hA0 : A ≠ 0 := by omega
  have hq : FP.Core.quantum FP.Core.b64 A B d = FP.Core.leading A B + d - 52 := by
    unfold FP.Core.quantum
    rw [fp_qmin]
    show max (-1074) (FP.Core.leading A B + d - (53 - 1)) = _
    rw [hlead]
    split <;> omega
  unfold FP.Core.roundRatio
  rw [if_neg hA0, hq]
  unfold FP.Core.roundAt
  have key : ∀ (q : Int) (c : Nat), -160 ≤ q → q ≤ -52 → 2 ^ 52 ≤ c → c ≤ 2 ^ 53 → (q = -52 → c = 2 ^ 52) → ∃ c1 q1, FP.Core.settle FP.Core.b64 false c q = .fin false c1 q1 ∧ 2 ^ 52 ≤ c1 ∧ c1 < 2 ^ 53 ∧ -160 ≤ q1 ∧ (q1 ≤ -53 ∨ (q1 = -52 ∧ c1 = 2 ^ 52)) := by
    intro q c h1 h2 h3 h4 h5
    unfold FP.Core.settle FP.Core.bound
    rw [fp_qmax, fp_tails]
    by_cases e : c < 2 ^ FP.Core.b64.p
    · rw [if_pos e, if_pos (by omega)]
      have e' : c < 2 ^ 53 := e
      exact ⟨c, q, rfl, h3, e', by omega, by omega⟩
    · rw [if_neg e, if_pos (by omega)]
      have e' : ¬ c < 2 ^ 53 := e
      exact ⟨2 ^ 52, q + 1, rfl, Nat.le_refl _, by omega, by omega, by omega⟩
  have e1 : ∀ j : Nat, FP.Core.unitsNum A d (d - j) = A * 2 ^ j := fun j => by
    unfold FP.Core.unitsNum
    rw [show (d - (d - (j : Int))).toNat = j by omega]
  have e2 : ∀ j : Nat, FP.Core.unitsDen B d (d - j) = B := fun j => by
    unfold FP.Core.unitsDen
    rw [show (d - (j : Int) - d).toNat = 0 by omega, Nat.pow_zero, Nat.mul_one]
  rw [hlead]
  by_cases h : B ≤ A
  · rw [if_pos h, show (0 : Int) + d - 52 = d - (52 : Nat) by omega, e1, e2]
    refine key _ _ (by omega) (by omega) (fp_nr2 (by omega) (by omega)) (fp_nr (by omega) (by omega)) (fun e => ?_)
    have hAB : A = B := Nat.le_antisymm (hd3 (by omega)) h
    rw [hAB, Nat.mul_comm]
    exact Nat.le_antisymm (fp_nr (by omega) (Nat.le_refl _)) (fp_nr2 (by omega) (Nat.le_refl _))
  · rw [if_neg h, show (-1 : Int) + d - 52 = d - (53 : Nat) by omega, e1, e2]
    exact key _ _ (by omega) (by omega) (fp_nr2 (by omega) (by omega)) (fp_nr (by omega) (by omega)) (fun e => by omega)
/-- a whole number as a double -/
theorem fp_l2d {a : Nat} (h1 : 0 < a) (h2 : a < 2 ^ 31) : ∃ j : Nat, j ≤ 52 ∧ 2 ^ 52 ≤ a * 2 ^ j ∧ a * 2 ^ j < 2 ^ 53 ∧ fpV (FP.l2d (lN a)) = .fin false (a * 2 ^ j) (-(j : Int)) := by
  obtain ⟨j, hj, b, d⟩ := fp_scale 52 a h1 (by omega)
  refine ⟨j, by omega, b, d, ?_⟩
  have e : FP.Core.roundRatio FP.Core.b64 false a 1 0 = .fin false (a * 2 ^ j) (-(j : Int)) := by
    apply fp_exact b d (by omega) (by omega)
    rw [show ((0 : Int) - -(j : Int)).toNat = j by omega, show (-(j : Int) - 0).toNat = 0 by omega]
    omega
  show fpV (UInt64.ofNat (FP.Core.encode FP.Core.b64 (FP.Core.round FP.Core.b64 (FP.Core.ofInt (lN a).toInt)))) = _
  rw [lN_toInt h2]
  have e3 : FP.Core.round FP.Core.b64 (FP.Core.ofInt (a : Int)) = .fin false (a * 2 ^ j) (-(j : Int)) := by
    show FP.Core.roundRatio FP.Core.b64 (decide ((a : Int) < 0)) (a : Int).natAbs 1 0 = _
    rw [decide_eq_false (by omega), show (a : Int).natAbs = a by omega]
    exact e
  rw [e3]
  exact fp_of b d (by omega) (by omega)
theorem fp_i2d {a : Nat} (h2 : a < 2 ^ 31) : FP.i2d (nI a) = FP.l2d (lN a) := by
  show UInt64.ofNat (FP.Core.fromInt FP.Core.b64 (nI a).toInt) = UInt64.ofNat (FP.Core.fromInt FP.Core.b64 (lN a).toInt)
  rw [lN_toInt h2, nI_toInt h2]
/-- a share of 1 at most -/
theorem fp_share {a M : Nat} (h1 : 0 < a) (h2 : a ≤ M) (h3 : M < 2 ^ 31) : ∃ c q, fpV (FP.ddiv (FP.l2d (lN a)) (FP.l2d (lN M))) = .fin false c q ∧ 2 ^ 52 ≤ c ∧ c < 2 ^ 53 ∧ -160 ≤ q ∧ (q ≤ -53 ∨ (q = -52 ∧ c = 2 ^ 52)) := by
  obtain ⟨j, hj, a1, a2, a3⟩ := fp_l2d h1 (by omega)
  obtain ⟨k, hk, b1, b2, b3⟩ := fp_l2d (a := M) (by omega) h3
  have hjk : k ≤ j := by
    refine Nat.not_lt.mp fun g => ?_
    have c1 : 2 ^ (j + 1) ≤ 2 ^ k := Nat.pow_le_pow_right (by decide) g
    have c2 : a * 2 ^ (j + 1) ≤ M * 2 ^ k := Nat.mul_le_mul h2 c1
    rw [Nat.pow_succ, ← Nat.mul_assoc] at c2
    omega
  obtain ⟨c, q, d1, d2⟩ := fp_div (d := (k : Int) - j) a1 a2 b1 b2 (by omega) (by omega) (fun e => by
    have : k = j := by omega
    subst this
    exact Nat.mul_le_mul_right _ h2)
  refine ⟨c, q, ?_, d2⟩
  show fpV (UInt64.ofNat (FP.Core.encode FP.Core.b64 (FP.Core.quotient FP.Core.b64 (fpV (FP.l2d (lN a))) (fpV (FP.l2d (lN M)))))) = _
  rw [a3, b3]
  have e : FP.Core.quotient FP.Core.b64 (.fin false (a * 2 ^ j) (-(j : Int))) (.fin false (M * 2 ^ k) (-(k : Int))) = .fin false c q := by
    show (if M * 2 ^ k = 0 then _ else FP.Core.roundRatio FP.Core.b64 (false != false) (a * 2 ^ j) (M * 2 ^ k) (-(j : Int) - -(k : Int))) = _
    rw [if_neg (by omega), show (-(j : Int) - -(k : Int)) = (k : Int) - j by omega]
    exact d1
  rw [e]
  exact fp_of d2.1 d2.2.1 (by omega) (by omega)
theorem fp_share0 {M : Nat} (h1 : 0 < M) (h3 : M < 2 ^ 31) : FP.ddiv (FP.l2d (lN 0)) (FP.l2d (lN M)) = 0 := by
  obtain ⟨k, hk, b1, b2, b3⟩ := fp_l2d (a := M) h1 h3
  show UInt64.ofNat (FP.Core.encode FP.Core.b64 (FP.Core.quotient FP.Core.b64 (fpV (FP.l2d (lN 0))) (fpV (FP.l2d (lN M))))) = _
  rw [b3, show fpV (FP.l2d (lN 0)) = .fin false 0 (-1074) from by decide +kernel]
  have e : FP.Core.quotient FP.Core.b64 (.fin false 0 (-1074)) (.fin false (M * 2 ^ k) (-(k : Int))) = .fin false 0 (-1074) := by
    show (if M * 2 ^ k = 0 then _ else FP.Core.roundRatio FP.Core.b64 (false != false) 0 (M * 2 ^ k) (-1074 - -(k : Int))) = _
    rw [if_neg (by omega)]
    rfl
  rw [e]
  decide +kernel
theorem fp_shareN {a M : Nat} (h1 : 0 < M) (h2 : a ≤ M) (h3 : M < 2 ^ 31) : vf_n64 (FP.ddiv (FP.l2d (lN a)) (FP.l2d (lN M))) := by
  rcases Nat.eq_zero_or_pos a with e | e
  · subst e
    rw [fp_share0 h1 h3]
    unfold vf_n64
    decide
  · obtain ⟨c, q, d1, d2, d3, d4, d5⟩ := fp_share e h2 h3
    exact fp_nn d1 d2 d3 (by omega) (by omega)
