/-! the model's saved rows, masks: numbers -/
/-- the model's ints: kept, typed, thrown, at, isFault, tolds -/
abbrev evm (a0 a1 a2 a3 a4 a5 : Int32) : Nat → Int32 := fun i => match i with
  | 0 => a0
  | 1 => a1
  | 2 => a2
  | 3 => a3
  | 4 => a4
  | _ => a5
/-- the saved rows of the model, the oldest first, against the boards that are saved -/
def mH (ph : Nat → Bd) (r n : Nat) (pa : Nat → Int64) : Prop := ∀ j k, j < n → k < 82 → pa (82 * j + k) = mB (ph ((j + r) % 6)) k
theorem mH_save {ph : Nat → Bd} {r n : Nat} {b : Bd} {pa pa1 : Nat → Int64} (hr6 : r < 6) (hn6 : n ≤ 6) (h : mH ph r n pa) (h1 : n < 6 → ∀ k, k < 82 * n → pa1 k = pa k) (h2 : n = 6 → ∀ k, k < 410 → pa1 k = pa (k + 82)) (h3 : ∀ k, k < 82 → pa1 (82 * (kC n - 1) + k) = mB b k) : mH (upB ph (kJ n r) b) (kR n r) (kC n) pa1 := by
  intro j k hj hk
  unfold kC at hj h3
  unfold kR kJ
  by_cases e : n < 6
  · rw [if_pos e] at hj h3 ⊢
    rw [if_pos e]
    by_cases e2 : j = n
    · subst e2
      rw [upB_s, ← h3 k hk]
      congr 1
    · rw [upB_n (by omega), h1 e _ (by omega)]
      exact h j k (by omega) hk
  · have e6 : n = 6 := by omega
    subst e6
    rw [if_neg e] at hj h3 ⊢
    rw [if_neg e]
    by_cases e2 : j = 5
    · subst e2
      rw [show (5 + (r + 1) % 6) % 6 = r by omega, upB_s, ← h3 k hk]
    · rw [upB_n (by omega), h2 rfl _ (by omega), show 82 * j + k + 82 = 82 * (j + 1) + k by omega, h (j + 1) k (by omega) hk]
      congr 2
      omega
theorem mH_less {ph : Nat → Bd} {r n : Nat} {pa : Nat → Int64} (h : mH ph r n pa) : mH ph r (n - 1) pa := fun j k hj hk => h j k (by omega) hk
theorem mB_wg0 (b : Bd) {j : Nat} (hj : j < 16) (x : Nat) : vp_updL (mB b) (18 + 4 * j) (lN x) = mB (sg b (upN (bg b) j x)) := mB_wg b hj x
theorem mB_g (b : Bd) {j : Nat} : mB b (18 + 4 * j) = lN (bg b j) := mB_of b (k := j) (w := 0) (by decide)
/-! masks -/
def subM (a b : Nat) : Prop := a ||| b = b
theorem subM_or {a b c : Nat} (h1 : subM a c) (h2 : subM b c) : subM (a ||| b) c := by
  unfold subM at *
  rw [Nat.or_assoc, h2, h1]
theorem subM_l (a b : Nat) : subM a (a ||| b) := by
  unfold subM
  rw [← Nat.or_assoc, Nat.or_self]
theorem subM_r (a b : Nat) : subM b (a ||| b) := by
  unfold subM
  rw [Nat.or_comm a b]
  exact subM_l b a
theorem subM_tr {a b c : Nat} (h1 : subM a b) (h2 : subM b c) : subM a c := by
  unfold subM at *
  rw [← h2, ← Nat.or_assoc, h1]
theorem subM_rf (a : Nat) : subM a a := Nat.or_self a
theorem subM_an {a b : Nat} (h1 : subM a b) (h2 : subM b a) : a = b := by
  unfold subM at *
  rw [← h2, Nat.or_comm]
  exact h1
theorem subM_t {a b t : Nat} (h : subM a b) (ht : a.testBit t = true) : b.testBit t = true := by
  unfold subM at h
  rw [← h, Nat.testBit_or, ht]
  rfl
theorem subM_z (a : Nat) : subM 0 a := Nat.zero_or a
/-- no way leads out -/
def clsM (b : Bd) (arm y : Nat) : Prop := ∀ t, t < 4 → y.testBit t = true → subM (nxN b (4 * arm + t)) y
theorem rcIn_ext (b : Bd) (arm m : Nat) : ∀ f, subM m (rcIn b arm m f)
  | 0 => subM_rf m
  | f + 1 => by
    show subM m (if (rcIn b arm m f).testBit f = true then rcIn b arm m f ||| nxN b (4 * arm + f) else rcIn b arm m f)
    split
    · exact subM_tr (rcIn_ext b arm m f) (subM_l _ _)
    · exact rcIn_ext b arm m f
theorem rcIn_step (b : Bd) (arm m f : Nat) : subM (rcIn b arm m f) (rcIn b arm m (f + 1)) := by
  show subM (rcIn b arm m f) (if (rcIn b arm m f).testBit f = true then rcIn b arm m f ||| nxN b (4 * arm + f) else rcIn b arm m f)
  split
  · exact subM_l _ _
  · exact subM_rf _
theorem rcIn_mono (b : Bd) (arm m f : Nat) : ∀ k, subM (rcIn b arm m f) (rcIn b arm m (f + k))
  | 0 => subM_rf _
  | k + 1 => subM_tr (rcIn_mono b arm m f k) (rcIn_step b arm m (f + k))
theorem rcIn_in {b : Bd} {arm m y : Nat} (hy : clsM b arm y) (hm : subM m y) : ∀ f, f ≤ 4 → subM (rcIn b arm m f) y
  | 0, _ => hm
  | f + 1, hf => by
    have ih := rcIn_in hy hm f (by omega)
    show subM (if (rcIn b arm m f).testBit f = true then rcIn b arm m f ||| nxN b (4 * arm + f) else rcIn b arm m f) y
    split
    · rename_i h
      exact subM_or ih (hy f (by omega) (subM_t ih h))
    · exact ih
theorem rcN_in {b : Bd} {arm st y : Nat} (hy : clsM b arm y) (hm : subM (2 ^ st) y) : ∀ k, subM (rcN b arm st k) y
  | 0 => hm
  | k + 1 => rcIn_in hy (rcN_in hy hm k) 4 (by omega)
/-- a pass adds all that is one way off -/
theorem rcIn_nx {b : Bd} {arm m t : Nat} (ht : t < 4) (h : m.testBit t = true) : subM (nxN b (4 * arm + t)) (rcIn b arm m 4) := by
  have h1 := subM_t (rcIn_ext b arm m t) h
  have h2 : rcIn b arm m (t + 1) = rcIn b arm m t ||| nxN b (4 * arm + t) := by
    show (if (rcIn b arm m t).testBit t = true then _ else _) = _
    rw [if_pos h1]
  have h3 := rcIn_mono b arm m (t + 1) (4 - (t + 1))
  rw [show t + 1 + (4 - (t + 1)) = 4 by omega, h2] at h3
  exact subM_tr (subM_r _ _) h3
def cntM (m : Nat) : Nat := (if m.testBit 0 = true then 1 else 0) + (if m.testBit 1 = true then 1 else 0) + (if m.testBit 2 = true then 1 else 0) + (if m.testBit 3 = true then 1 else 0)
theorem cntM_lt : ∀ a, a < 16 → ∀ b, b < 16 → a ||| b = b → a ≠ b → cntM a + 1 ≤ cntM b := by decide +kernel
theorem cntM_4 : ∀ a, a < 16 → 4 ≤ cntM a → ∀ x, x < 16 → x ||| a = a := by decide +kernel
theorem cntM_p : ∀ k, k < 4 → cntM (2 ^ k) = 1 := by decide +kernel
theorem clsM_fix {b : Bd} {arm m : Nat} (h : rcIn b arm m 4 = m) : clsM b arm m := fun t ht hb => by
  have := rcIn_nx (b := b) (arm := arm) ht hb
  rw [h] at this
  exact this
theorem rcN_s (b : Bd) (arm st k : Nat) : rcN b arm st (k + 1) = rcIn b arm (rcN b arm st k) 4 := rfl
theorem rcN_fix {b : Bd} {arm st k : Nat} (h : rcN b arm st (k + 1) = rcN b arm st k) : ∀ j, rcN b arm st (k + j) = rcN b arm st k
  | 0 => rfl
  | j + 1 => by
    rw [show k + (j + 1) = k + j + 1 by omega, rcN_s, rcN_fix h j, ← rcN_s]
    exact h
theorem rcN_cls {b : Bd} (hB : OkB b) {arm st : Nat} (ha : arm < 4) (hs : st < 4) : clsM b arm (rcN b arm st 3) := by
  have hl := fun k => rcN_lt hB ha hs k
  have he := fun k => rcIn_ext b arm (rcN b arm st k) 4
  have key : ∀ k, k ≤ 3 → (∃ j, j ≤ k ∧ rcN b arm st (j + 1) = rcN b arm st j) ∨ k + 1 ≤ cntM (rcN b arm st k) := by
    intro k hk
    induction k with
    | zero => exact Or.inr (by rw [show rcN b arm st 0 = 2 ^ st from rfl, cntM_p st hs]; omega)
    | succ k ih =>
      rcases ih (by omega) with ⟨j, h1, h2⟩ | h
      · exact Or.inl ⟨j, by omega, h2⟩
      · by_cases e : rcN b arm st (k + 1) = rcN b arm st k
        · exact Or.inl ⟨k, by omega, e⟩
        · have := cntM_lt _ (hl k) _ (hl (k + 1)) (he k) (fun q => e q.symm)
          exact Or.inr (by omega)
  rcases key 3 (by omega) with ⟨j, h1, h2⟩ | h
  · have e1 := rcN_fix h2 (3 - j)
    rw [show j + (3 - j) = 3 by omega] at e1
    rw [e1]
    exact clsM_fix h2
  · intro t ht _
    exact cntM_4 _ (hl 3) h _ (nxN_lt hB (by omega))
/-- the model's mask: when a pass adds nothing it is the class's -/
theorem rcN_eq {b : Bd} (hB : OkB b) {arm st M : Nat} (ha : arm < 4) (hs : st < 4) (h0 : subM (2 ^ st) M) (h1 : clsM b arm M) (h2 : subM M (rcN b arm st 3)) : M = rcN b arm st 3 := subM_an h2 (rcN_in h1 h0 3)
theorem rcN_0 (b : Bd) (arm st : Nat) : ∀ k, subM (2 ^ st) (rcN b arm st k)
  | 0 => subM_rf _
  | k + 1 => subM_tr (rcN_0 b arm st k) (rcIn_ext _ _ _ _)
theorem bit16r : ∀ m, m < 16 → ∀ k, k < 4 → (nI m >>> (nI k &&& 31)) &&& nI 1 = nI (if m.testBit k = true then 1 else 0) := by decide +kernel
theorem le16 : ∀ a, a < 16 → ∀ b, b < 16 → a ||| b = b → a ≤ b := by decide +kernel
theorem pow0 : ∀ k : Nat, k < 4 → 0 < 2 ^ k := by decide +kernel
theorem nxN_sub1 {b : Bd} {k y : Nat} (h : subM (nxN b k) y) : subM (if bc b k > 0 then 2 ^ bo b k else 0) y := subM_tr (subM_l _ _) h
theorem nxN_sub2 {b : Bd} {k y : Nat} (h : subM (nxN b k) y) : subM (if bc b k < 8 then 2 ^ bb b k else 0) y := subM_tr (subM_r _ _) h
/-! plays tried, the best rule, the least gift: numbers -/
noncomputable def gnN (b : Bd) (rule n : Nat) : Int64 := br (plN b (idxT b) rule n) - br b
noncomputable def bsrN (b : Bd) (n : Nat) : Nat → Nat
  | 0 => 0
  | i + 1 => if gnN b (bsrN b n i) n < gnN b (i + 1) n then i + 1 else bsrN b n i
theorem bsrN_le (b : Bd) (n : Nat) : ∀ i, bsrN b n i ≤ i
  | 0 => Nat.le_refl 0
  | i + 1 => by
    have := bsrN_le b n i
    unfold bsrN
    split <;> omega
/-- the board with the arm in a state of which the gift is g -/
def tB (b : Bd) (a h g : Nat) : Bd := sg (sp b (upN (bp b) a h)) (upN (bg b) (4 * a + h) g)
theorem okB_tB {b : Bd} (hB : OkB b) {a h g : Nat} (hh : h < 4) (hg : g ≤ 99) : OkB (tB b a h g) := by
  have h1 : OkB (sp b (upN (bp b) a h)) := by
    obtain ⟨h1, h2, h3, h4, h5⟩ := hB
    refine ⟨h1, fun k hk => ?_, h3, h4, h5⟩
    show upN (bp b) a h k < 4
    by_cases e : k = a
    · subst e; rw [upN_s]; exact hh
    · rw [upN_n e]; exact h2 k hk
  exact okB_sg h1 hg
def chT (b : Bd) (a h g : Nat) : Nat := choN (tB b a h g) (idxT (tB b a h g)) 0
/-- the first gift from g on with which the arm is chosen, at most f further -/
def lgF (b : Bd) (a h : Nat) : Nat → Nat → Nat
  | 0, g => g
  | f + 1, g => if chT b a h g = a then g else lgF b a h f (g + 1)
def lgN (b : Bd) (a h : Nat) : Nat := lgF b a h 100 0
theorem lgF_hit {b : Bd} {a h f g r : Nat} (q : lgF b a h f g = r) (hf : 0 < f) (hd : chT b a h g = a) : g = r := by
  cases f with
  | zero => omega
  | succ f => rw [lgF, if_pos hd] at q; exact q
theorem lgF_s {b : Bd} {a h f g r : Nat} (q : lgF b a h f g = r) (hf : 0 < f) (hd : chT b a h g ≠ a) : lgF b a h (f - 1) (g + 1) = r := by
  cases f with
  | zero => omega
  | succ f => rw [lgF, if_neg hd] at q; exact q
theorem lgF_end {b : Bd} {a h f g r : Nat} (q : lgF b a h f g = r) (hf : f = 0) : g = r := by
  subst hf
  exact q
def lgI (k : Nat) : Int32 := if k ≤ 99 then nI k else -1
theorem upN_up (f : Nat → Nat) (k v w : Nat) : upN (upN f k v) k w = upN f k w := by
  funext j
  unfold upN
  split <;> rfl
/-! evenness -/
def mnU (f : Nat → Nat) : Nat := min (min (min (f 0) (f 1)) (f 2)) (f 3)
def mxU (f : Nat → Nat) : Nat := max (max (max (f 0) (f 1)) (f 2)) (f 3)
def mnF (f : Nat → Nat) : Nat → Nat
  | 0 => f 0
  | i + 1 => min (mnF f i) (f (i + 1))
def mxF (f : Nat → Nat) : Nat → Nat
  | 0 => f 0
  | i + 1 => max (mxF f i) (f (i + 1))
def evD (b : Bd) : UInt64 := if mxF (bu b) 3 = 0 then FP.dconst1 else FP.ddiv (FP.l2d (lN (mnF (bu b) 3))) (FP.l2d (lN (mxF (bu b) 3)))
