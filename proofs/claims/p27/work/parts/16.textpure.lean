/-! the text as a row of codes; stages by number, 10 the wrong one -/
abbrev wT (C : q_C) (t : Nat → Nat) (n : Nat) (cd : Nat → Nat) : va_W := [(t 0, .inr (3, [.ref (t 1), .int (nI n)])), (t 1, .inl (C.2.1, 60, .inl (fun k => nI (cd k))))]
theorem withN {x lo hi : Nat} (h1 : x < 2 ^ 31) (h2 : lo < 2 ^ 31) (h3 : hi < 2 ^ 31) : decide (nI lo ≤ nI x ∧ nI x ≤ nI hi) = decide (lo ≤ x ∧ x ≤ hi) := by
  exact decide_eq_decide.mpr (by rw [nI_leI h2 h1, nI_leI h1 h3])
theorem c_isWithinN (l : Launch) (C : q_C) (x lo hi : Nat) (h1 : x < 2 ^ 31) (h2 : lo < 2 ^ 31) (h3 : hi < 2 ^ 31) : q_M C l yX4_isWithin wsX4_isWithin 0 0 [.int (nI x), .int (nI lo), .int (nI hi)] ([] : va_W) (fun r w => r = some (.int (q_b (decide (lo ≤ x ∧ x ≤ hi)))) ∧ w = []) := by
  have h := c_X4_isWithin l C (nI x) (nI lo) (nI hi)
  rw [withN h1 h2 h3] at h
  exact h
