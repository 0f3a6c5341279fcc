/-! the model's calls: numbers -/
theorem inT {x lo hi : Nat} (h1 : lo ≤ x) (h2 : x ≤ hi) (h3 : hi < 2 ^ 31) : decide (nI lo ≤ nI x ∧ nI x ≤ nI hi) = true := by
  rw [withN (by omega) (by omega) h3]
  exact decide_eq_true ⟨h1, h2⟩
/-! the hash -/
