/-! the model's saved rows, masks: numbers -/
/-! masks -/
/-! plays tried, the best rule, the least gift: numbers -/
noncomputable def gnN (b : Bd) (rule n : Nat) : Int64 := br (plN b (idxT b) rule n) - br b
/-- the board with the arm in a state of which the gift is g -/
def tB (b : Bd) (a h g : Nat) : Bd := sg (sp b (upN (bp b) a h)) (upN (bg b) (4 * a + h) g)
def chT (b : Bd) (a h g : Nat) : Nat := choN (tB b a h g) (idxT (tB b a h g)) 0
/-- the first gift from g on with which the arm is chosen, at most f further -/
def lgF (b : Bd) (a h : Nat) : Nat → Nat → Nat
  | 0, g => g
  | f + 1, g => if chT b a h g = a then g else lgF b a h f (g + 1)
def lgN (b : Bd) (a h : Nat) : Nat := lgF b a h 100 0
def lgI (k : Nat) : Int32 := if k ≤ 99 then nI k else -1
theorem upN_up (f : Nat → Nat) (k v w : Nat) : upN (upN f k v) k w = upN f k w := by
  funext j
  unfold upN
  split <;> rfl
/-! evenness -/
def mnF (f : Nat → Nat) : Nat → Nat
  | 0 => f 0
  | i + 1 => min (mnF f i) (f (i + 1))
def mxF (f : Nat → Nat) : Nat → Nat
  | 0 => f 0
  | i + 1 => max (mxF f i) (f (i + 1))
def evD (b : Bd) : UInt64 := if mxF (bu b) 3 = 0 then FP.dconst1 else FP.ddiv (FP.l2d (lN (mnF (bu b) 3))) (FP.l2d (lN (mxF (bu b) 3)))
