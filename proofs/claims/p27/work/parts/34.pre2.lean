/-! answers of the model's private methods: numbers -/
def osN (b : Bd) (a t w : Nat) : Nat := if w < 4 then ofN b (4 * a + t) w else rcN b a t 3
def oaN (b : Bd) (a w : Nat) : Nat := if w = 0 then bp b a else if w = 1 then bu b a else if w = 2 then bstN (idxT b) a 3 else leastN b a (bp b a) (idxN b a (bp b a))
def cnI (b : Bd) (n w : Nat) : Int32 := if w = 0 then nI (sumU b) else if w = 1 then nI (bx b) else if w = 2 then nI (bl b) - 1 else nI n
def suL (b : Bd) (w : Nat) : Int64 := if w = 0 then br b else if w = 1 then lN (bw b) else bz b
theorem mnF_le (f : Nat → Nat) : ∀ i, mnF f i ≤ f 0
  | 0 => Nat.le_refl _
  | i + 1 => Nat.le_trans (Nat.min_le_left _ _) (mnF_le f i)
theorem le_mxF (f : Nat → Nat) : ∀ i, f 0 ≤ mxF f i
  | 0 => Nat.le_refl _
  | i + 1 => Nat.le_trans (le_mxF f i) (Nat.le_max_left _ _)
theorem mxF_le {f : Nat → Nat} {M : Nat} : ∀ i, (∀ k, k ≤ i → f k ≤ M) → mxF f i ≤ M
  | 0, h => h 0 (Nat.le_refl 0)
  | i + 1, h => Nat.max_le.mpr ⟨mxF_le i fun k hk => h k (by omega), h (i + 1) (Nat.le_refl _)⟩
theorem bu_le {b : Bd} (h : sumU b ≤ 9999) : ∀ k, k < 4 → bu b k ≤ 9999 := by
  unfold sumU at h
  exact q_r4 (by omega) (by omega) (by omega) (by omega)
theorem evD_n {b : Bd} (h : sumU b ≤ 9999) (h0 : mxF (bu b) 3 ≠ 0) : vf_n64 (FP.ddiv (FP.l2d (lN (mnF (bu b) 3))) (FP.l2d (lN (mxF (bu b) 3)))) := by
  have h1 := mxF_le (f := bu b) (M := 9999) 3 (fun k hk => bu_le h k (by omega))
  exact fp_shareN (Nat.pos_of_ne_zero h0) (Nat.le_trans (mnF_le _ 3) (le_mxF _ 3)) (by omega)
