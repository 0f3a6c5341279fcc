/-! the model's calls: numbers -/
theorem inT {x lo hi : Nat} (h1 : lo ≤ x) (h2 : x ≤ hi) (h3 : hi < 2 ^ 31) : decide (nI lo ≤ nI x ∧ nI x ≤ nI hi) = true := by
  rw [withN (by omega) (by omega) h3]
  exact decide_eq_true ⟨h1, h2⟩
/-- what lies in a range is a whole number of it -/
theorem inX {x : Int32} {lo hi : Nat} (h3 : hi < 2 ^ 31) (h : decide (nI lo ≤ x ∧ x ≤ nI hi) = true) (hl : lo ≤ hi) : ∃ a, x = nI a ∧ lo ≤ a ∧ a ≤ hi := by
  have h' := of_decide_eq_true h
  have a1 := Int32.le_iff_toInt_le.mp h'.1
  have a2 := Int32.le_iff_toInt_le.mp h'.2
  rw [nI_toInt (by omega)] at a1
  rw [nI_toInt (by omega)] at a2
  refine ⟨x.toInt.toNat, ?_, by omega, by omega⟩
  apply Int32.toInt.inj
  rw [nI_toInt (by omega)]
  omega
theorem l2i_sb (a b : Nat) : (lN a - lN b).toInt32 = nI a - nI b := by rw [Int64.toInt32_sub, lN_i, lN_i]
theorem mB_beg {b : Bd} {x : Int64} {f : Nat → Int64} (h1 : ∀ j, (j < 4 ∨ 18 ≤ j) → f j = mB b j) (h2 : ∀ j, 4 ≤ j → j < 18 → f j = lN 0) : ∀ j, j < 82 → vp_updL (vp_updL (vp_updL f 6 (-1)) 8 (lN 1000000)) 9 x j = mB (begB b x) j := by
  intro j hj
  by_cases e9 : j = 9
  · subst e9; rw [pk_uLs, mB_9]; rfl
  · rw [pk_uLn e9]
    by_cases e8 : j = 8
    · subst e8; rw [pk_uLs, mB_8]; rfl
    · rw [pk_uLn e8]
      by_cases e6 : j = 6
      · subst e6; rw [pk_uLs, mB_6]; exact (show (-1 : Int64) = lN 0 - 1 from by decide)
      · rw [pk_uLn e6]
        by_cases e : j < 4 ∨ 18 ≤ j
        · rw [h1 j e]
          unfold mB
          by_cases e4 : j < 4
          · rw [if_pos e4, if_pos e4]; rfl
          · have : ¬ j < 18 := by omega
            simp only [if_neg e4, if_neg e6, if_neg e8, if_neg e9, if_neg this, if_neg (show ¬ j = 4 by omega), if_neg (show ¬ j = 5 by omega), if_neg (show ¬ j = 7 by omega)]
            rfl
        · rw [h2 j (by omega) (by omega)]
          have hc : j = 4 ∨ j = 5 ∨ j = 7 ∨ j = 10 ∨ j = 11 ∨ j = 12 ∨ j = 13 ∨ j = 14 ∨ j = 15 ∨ j = 16 ∨ j = 17 := by omega
          rcases hc with q | q | q | q | q | q | q | q | q | q | q <;> subst q <;> rfl
/-! the hash -/
def h31 (h x : Int64) : Int64 := lN 31 * h + x
def hsF (f : Nat → Int64) (h : Int64) : Nat → Int64
  | 0 => h
  | i + 1 => h31 (hsF f h i) (f i)
noncomputable def hArm (b : Bd) (a : Nat) (h : Int64) : Int64 := hF2 (hsF (fun w => (nI (oaN b a w)).toInt64) h 4) 4
where hF2 (h : Int64) : Nat → Int64
  | 0 => h
  | t + 1 => h31 (hsF (fun w => (nI (osN b a t w)).toInt64) (hF2 h t) 5) (lN (idxN b a t))
noncomputable def hArms (b : Bd) (h : Int64) : Nat → Int64
  | 0 => h
  | a + 1 => hArm b a (hArms b h a)
noncomputable def hRul (b : Bd) (h : Int64) : Nat → Int64
  | 0 => h
  | r + 1 => h31 (h31 (hRul b h r) (nI (choN b (idxT b) r)).toInt64) (gnN b r 5)
noncomputable def dg1 (b : Bd) (n : Nat) : Int64 := hRul b (hArms b (hsF (fun k => lN (bs b k)) (hsF (fun w => suL b w) (hsF (fun w => (cnI b n w).toInt64) (lN 2843) 4) 3) 4) 4) 3
noncomputable def dg2 (b : Bd) (n : Nat) : Int64 := h31 (h31 (dg1 b n) (nI (bsrN b 8 2)).toInt64) (lgI (lgN b 1 0)).toInt64
noncomputable def dg3 (b : Bd) (n ty : Nat) : Int64 := h31 (h31 (dg2 b n) (evD b).toInt64) (lN ty)
noncomputable def dgL (b : Bd) (n ty : Nat) (cd : Nat → Nat) : Int64 := hsF (fun k => lN (cd k)) (dg3 b n ty) ty
/-- a share's bits -/
def shV (x : UInt64) : Prop := x = 0 ∨ ∃ c q, fpV x = .fin false c q ∧ 2 ^ 52 ≤ c ∧ c < 2 ^ 53 ∧ -160 ≤ q ∧ (q ≤ -53 ∨ (q = -52 ∧ c = 2 ^ 52))
theorem evD_sh {b : Bd} (h : sumU b ≤ 9999) : shV (evD b) := by
  unfold evD
  split
  · exact Or.inr ⟨2 ^ 52, -52, fp_1, by decide, by decide, by decide, Or.inr ⟨rfl, rfl⟩⟩
  · rename_i h0
    have h1 := mxF_le (f := bu b) (M := 9999) 3 (fun k hk => bu_le h k (by omega))
    have h2 : mnF (bu b) 3 ≤ mxF (bu b) 3 := Nat.le_trans (mnF_le _ 3) (le_mxF _ 3)
    rcases Nat.eq_zero_or_pos (mnF (bu b) 3) with q | q
    · rw [q]; exact Or.inl (fp_share0 (Nat.pos_of_ne_zero h0) (by omega))
    · exact Or.inr (fp_share q h2 (by omega))
theorem fp_rf {x : UInt64} (h : shV x) : FP.dcmp x x = some .eq := by
  rcases h with q | ⟨c, q, h1, -⟩
  · subst q; decide +kernel
  · show FP.Core.order (fpV x) (fpV x) = _
    rw [h1]
    exact congrArg some (Int.compare_eq_eq.mpr rfl)
theorem isT2 {a b : Bool} (h1 : a = true) (h2 : b = true) : (a && b) = true := by rw [h1, h2]; rfl
