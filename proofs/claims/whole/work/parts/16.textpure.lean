/-! the text as a row of codes; stages by number, 10 the wrong one -/
def bgN (c : Nat) : Nat := if c = 59 then 0 else if c = 62 then 6 else 10
def fdN (c : Nat) : Nat := if c = 48 then 5 else if 49 ≤ c ∧ c ≤ 57 then 4 else 10
def nst (g c : Nat) : Nat := match g with
  | 0 => if 48 ≤ c ∧ c ≤ 51 then 1 else 10
  | 1 => if 97 ≤ c ∧ c ≤ 100 then 2 else 10
  | 2 => if c = 61 then 3 else 10
  | 3 => fdN c
  | 4 => if 48 ≤ c ∧ c ≤ 57 then 5 else bgN c
  | 5 => bgN c
  | 6 => if 97 ≤ c ∧ c ≤ 100 then 7 else 10
  | 7 => if 97 ≤ c ∧ c ≤ 100 then 8 else 10
  | 8 => if 48 ≤ c ∧ c ≤ 56 then 9 else 10
  | 9 => if c = 59 then 0 else 10
  | _ => 10
def stI (g : Nat) : Int32 := if g = 10 then -1 else nI g
def stg (cd : Nat → Nat) : Nat → Nat
  | 0 => 0
  | i + 1 => nst (stg cd i) (cd i)
theorem bgN_le (c : Nat) : bgN c ≤ 10 := by unfold bgN; (repeat' split) <;> omega
theorem fdN_le (c : Nat) : fdN c ≤ 10 := by unfold fdN; (repeat' split) <;> omega
theorem nst_le (g c : Nat) : nst g c ≤ 10 := by
  unfold nst
  split <;> first | omega | (split <;> omega) | exact bgN_le c | exact fdN_le c | (split; omega; exact bgN_le c)
theorem stg_le (cd : Nat → Nat) : ∀ i, stg cd i ≤ 10
  | 0 => Nat.zero_le _
  | i + 1 => nst_le _ _
theorem stI_lt {k : Nat} (hk : k < 10) : stI k = nI k := by unfold stI; rw [if_neg (by omega)]
theorem stI_m1 {g : Nat} (h : g ≤ 10) : stI g = (-1) ↔ g = 10 := by
  unfold stI
  by_cases e : g = 10
  · rw [if_pos e]; exact ⟨fun _ => e, fun _ => rfl⟩
  · rw [if_neg e]
    refine ⟨fun q => ?_, fun q => absurd q e⟩
    have h1 := nI_pos' (n := g) (by omega)
    rw [q] at h1
    exact absurd h1 (by decide)
theorem stI_eq {g k : Nat} (h : g ≤ 10) (hk : k < 10) : stI g = nI k ↔ g = k := by
  by_cases e : g = 10
  · subst e
    refine ⟨fun q => ?_, fun q => by omega⟩
    have h1 := nI_pos' (n := k) (by omega)
    rw [← q] at h1
    exact absurd h1 (by decide)
  · rw [stI, if_neg e, nI_eq (by omega) (by omega)]
theorem nst_1 {g c : Nat} (h : nst g c = 1) : 48 ≤ c ∧ c ≤ 51 := by
  unfold nst bgN fdN at h
  split at h <;> (repeat' split at h) <;> omega
theorem nst_2 {g c : Nat} (h : nst g c = 2) : 97 ≤ c ∧ c ≤ 100 := by
  unfold nst bgN fdN at h
  split at h <;> (repeat' split at h) <;> omega
theorem nst_45 {g c : Nat} (h : nst g c = 4 ∨ nst g c = 5) : 48 ≤ c ∧ c ≤ 57 := by
  unfold nst bgN fdN at h
  split at h <;> (repeat' split at h) <;> omega
theorem nst_78 {g c : Nat} (h : nst g c = 7 ∨ nst g c = 8) : 97 ≤ c ∧ c ≤ 100 := by
  unfold nst bgN fdN at h
  split at h <;> (repeat' split at h) <;> omega
theorem nst_9 {g c : Nat} (h : nst g c = 9) : 48 ≤ c ∧ c ≤ 56 := by
  unfold nst bgN fdN at h
  split at h <;> (repeat' split at h) <;> omega
/-- the first place from j on, at most f further, behind which the stage is wrong -/
def errF (cd : Nat → Nat) : Nat → Nat → Nat
  | 0, j => j
  | f + 1, j => if stg cd (j + 1) = 10 then j else errF cd f (j + 1)
def errN (cd : Nat → Nat) (n : Nat) : Nat := errF cd n 0
theorem errF_hit {cd : Nat → Nat} {f j r : Nat} (e : errF cd f j = r) (hf : 0 < f) (hd : stg cd (j + 1) = 10) : j = r := by
  cases f with
  | zero => omega
  | succ f => rw [errF, if_pos hd] at e; exact e
theorem errF_s {cd : Nat → Nat} {f j r : Nat} (e : errF cd f j = r) (hf : 0 < f) (hd : stg cd (j + 1) ≠ 10) : errF cd (f - 1) (j + 1) = r := by
  cases f with
  | zero => omega
  | succ f => rw [errF, if_neg hd] at e; exact e
theorem errF_end {cd : Nat → Nat} {f j r : Nat} (e : errF cd f j = r) (hf : f = 0) : j = r := by
  subst hf
  exact e
def wholeN (cd : Nat → Nat) (n : Nat) : Bool := decide (stg cd n = 4 ∨ stg cd n = 5 ∨ stg cd n = 9)
/-- parts, arm, slot and board behind a character c that led to the stage g -/
noncomputable def mvStep (g c : Nat) (x : Nat × Nat × Nat × Bd) : Nat × Nat × Nat × Bd := match g with
  | 0 => (x.1 + 1, x.2.1, x.2.2.1, x.2.2.2)
  | 1 => (x.1, c - 48, x.2.2.1, x.2.2.2)
  | 2 => (x.1, x.2.1, 4 * x.2.1 + (c - 97), x.2.2.2)
  | 3 => (x.1, x.2.1, x.2.2.1, sg x.2.2.2 (upN (bg x.2.2.2) x.2.2.1 0))
  | 4 => (x.1, x.2.1, x.2.2.1, sg x.2.2.2 (upN (bg x.2.2.2) x.2.2.1 (10 * bg x.2.2.2 x.2.2.1 + c - 48)))
  | 5 => (x.1, x.2.1, x.2.2.1, sg x.2.2.2 (upN (bg x.2.2.2) x.2.2.1 (10 * bg x.2.2.2 x.2.2.1 + c - 48)))
  | 7 => (x.1, x.2.1, x.2.2.1, so x.2.2.2 (upN (bo x.2.2.2) x.2.2.1 (c - 97)))
  | 8 => (x.1, x.2.1, x.2.2.1, sb x.2.2.2 (upN (bb x.2.2.2) x.2.2.1 (c - 97)))
  | 9 => (x.1, x.2.1, x.2.2.1, sc x.2.2.2 (upN (bc x.2.2.2) x.2.2.1 (c - 48)))
  | _ => x
noncomputable def mvN (cd : Nat → Nat) (b : Bd) : Nat → Nat × Nat × Nat × Bd
  | 0 => (1, 0, 0, b)
  | i + 1 => mvStep (stg cd (i + 1)) (cd i) (mvN cd b i)
abbrev wT (C : q_C) (t : Nat → Nat) (n : Nat) (cd : Nat → Nat) : va_W := [(t 0, .inr (3, [.ref (t 1), .int (nI n)])), (t 1, .inl (C.2.1, 60, .inl (fun k => nI (cd k))))]
theorem withN {x lo hi : Nat} (h1 : x < 2 ^ 31) (h2 : lo < 2 ^ 31) (h3 : hi < 2 ^ 31) : decide (nI lo ≤ nI x ∧ nI x ≤ nI hi) = decide (lo ≤ x ∧ x ≤ hi) := by
  exact decide_eq_decide.mpr (by rw [nI_leI h2 h1, nI_leI h1 h3])
theorem c_isWithinN (l : Launch) (C : q_C) (x lo hi : Nat) (h1 : x < 2 ^ 31) (h2 : lo < 2 ^ 31) (h3 : hi < 2 ^ 31) : q_M C l yX4_isWithin wsX4_isWithin 0 0 [.int (nI x), .int (nI lo), .int (nI hi)] ([] : va_W) (fun r w => r = some (.int (q_b (decide (lo ≤ x ∧ x ≤ hi)))) ∧ w = []) := by
  have h := c_X4_isWithin l C (nI x) (nI lo) (nI hi)
  rw [withN h1 h2 h3] at h
  exact h
