/-! the model's row of 82 longs as a function of a board -/
def ofN (b : Bd) (k w : Nat) : Nat := match w with
  | 0 => bg b k
  | 1 => bo b k
  | 2 => bb b k
  | _ => bc b k
def mB (b : Bd) : Nat → Int64 := fun k =>
  if k < 4 then lN (bs b k) else if k = 4 then lN (sumU b) else if k = 5 then lN (bx b) else if k = 6 then lN (bl b) - 1 else if k = 7 then br b
  else if k = 8 then lN (bw b) else if k = 9 then bz b else if k < 18 then (if k % 2 = 0 then lN (bp b ((k - 10) / 2)) else lN (bu b ((k - 10) / 2)))
  else lN (ofN b ((k - 18) / 4) ((k - 18) % 4))
theorem mB_s (b : Bd) {k : Nat} (h : k < 4) : mB b k = lN (bs b k) := by unfold mB; rw [if_pos h]
theorem mB_4 (b : Bd) : mB b 4 = lN (sumU b) := by simp [mB]
theorem mB_5 (b : Bd) : mB b 5 = lN (bx b) := by simp [mB]
theorem mB_6 (b : Bd) : mB b 6 = lN (bl b) - 1 := by simp [mB]
theorem mB_7 (b : Bd) : mB b 7 = br b := by simp [mB]
theorem mB_8 (b : Bd) : mB b 8 = lN (bw b) := by simp [mB]
theorem mB_9 (b : Bd) : mB b 9 = bz b := by simp [mB]
theorem mB_p (b : Bd) {a : Nat} (h : a < 4) : mB b (10 + 2 * a) = lN (bp b a) := by
  unfold mB
  rw [if_neg (by omega), if_neg (by omega), if_neg (by omega), if_neg (by omega), if_neg (by omega), if_neg (by omega), if_neg (by omega), if_pos (by omega), if_pos (by omega)]
  congr 2; omega
theorem mB_u (b : Bd) {a : Nat} (h : a < 4) : mB b (10 + 2 * a + 1) = lN (bu b a) := by
  unfold mB
  rw [if_neg (by omega), if_neg (by omega), if_neg (by omega), if_neg (by omega), if_neg (by omega), if_neg (by omega), if_neg (by omega), if_pos (by omega), if_neg (by omega)]
  congr 2; omega
theorem mB_of (b : Bd) {k w : Nat} (h : w < 4) : mB b (18 + 4 * k + w) = lN (ofN b k w) := by
  unfold mB
  rw [if_neg (by omega), if_neg (by omega), if_neg (by omega), if_neg (by omega), if_neg (by omega), if_neg (by omega), if_neg (by omega), if_neg (by omega)]
  congr 2 <;> omega
theorem ofN_le {b : Bd} (hB : OkB b) {k : Nat} (hk : k < 16) (w : Nat) : ofN b k w ≤ 99 := by
  obtain ⟨h1, h2, h3, h4⟩ := hB.1 k hk
  unfold ofN
  split <;> omega
/-- two rows alike in range -/
def eqM (f g : Nat → Int64) : Prop := ∀ k, k < 82 → f k = g k
/-- 'down' of the model -/
def dwn (v y : Int64) : Int64 := if v < v / y * y then v / y - 1 else v / y
