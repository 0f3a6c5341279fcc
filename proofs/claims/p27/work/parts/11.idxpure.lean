/-! indices as numbers -/
def fillN (g o : Nat → Nat) (i : Nat) : Nat → Nat := fun k => if k < i then g k else o k
theorem fillN_0 (g o : Nat → Nat) : fillN g o 0 = o := by funext k; simp [fillN]
theorem fillN_s (g o : Nat → Nat) (i : Nat) : upN (fillN g o i) i (g i) = fillN g o (i + 1) := by
  funext k
  unfold upN fillN
  by_cases h : k = i
  · subst h; simp
  · rw [if_neg h]
    by_cases h2 : k < i
    · rw [if_pos h2, if_pos (by omega)]
    · rw [if_neg h2, if_neg (by omega)]
theorem fillN_in {g o : Nat → Nat} {i k : Nat} (h : k < i) : fillN g o i k = g k := by simp [fillN, h]
theorem q_r4 {P : Nat → Prop} (h0 : P 0) (h1 : P 1) (h2 : P 2) (h3 : P 3) : ∀ k, k < 4 → P k := fun k hk => co_4 h0 h1 h2 h3 hk
def expN (b : Bd) (v : Nat → Nat) (k : Nat) : Nat := (bc b k * v (bo b k) + (8 - bc b k) * v (bb b k)) / 8
def ownN (b : Bd) (arm : Nat) (v : Nat → Nat) (t : Nat) : Nat := 1000 * bg b (4 * arm + t) + bs b 0 * expN b v (4 * arm + t) / 100
def rndN (b : Bd) (arm h : Nat) (v : Nat → Nat) : Nat → Nat := fun t => max (ownN b arm v t) (ownN b arm v h)
def valsN (b : Bd) (arm h : Nat) : Nat → Nat → Nat
  | 0 => fun _ => 0
  | i + 1 => rndN b arm h (valsN b arm h i)
def ownsN (b : Bd) (arm h : Nat) (o : Nat → Nat) : Nat → Nat → Nat
  | 0 => o
  | i + 1 => ownN b arm (valsN b arm h i)
def ixN (b : Bd) (h : Nat) (v : Nat → Nat) : Nat := (100 - bs b 0) * v h / 100
def idxN (b : Bd) (arm h : Nat) : Nat := ixN b h (valsN b arm h (bs b 1))
def idxT (b : Bd) : Nat → Nat := fun k => idxN b (k / 4) (k % 4)
theorem expN_le {b : Bd} (hB : OkB b) {v : Nat → Nat} {M k : Nat} (hk : k < 16) (hv : ∀ j, j < 4 → v j ≤ M) : bc b k * v (bo b k) ≤ bc b k * M ∧ (8 - bc b k) * v (bb b k) ≤ (8 - bc b k) * M ∧ bc b k * v (bo b k) + (8 - bc b k) * v (bb b k) ≤ 8 * M ∧ expN b v k ≤ M := by
  obtain ⟨h1, h2, h3, h4⟩ := hB.1 k hk
  have e1 : bc b k * v (bo b k) ≤ bc b k * M := Nat.mul_le_mul_left _ (hv _ h2)
  have e2 : (8 - bc b k) * v (bb b k) ≤ (8 - bc b k) * M := Nat.mul_le_mul_left _ (hv _ h3)
  have e3 : bc b k * M + (8 - bc b k) * M = 8 * M := by rw [← Nat.add_mul]; congr 1; omega
  refine ⟨e1, e2, by omega, ?_⟩
  unfold expN
  omega
theorem ownN_le {b : Bd} (hB : OkB b) {arm : Nat} (ha : arm < 4) {v : Nat → Nat} {M t : Nat} (ht : t < 4) (hv : ∀ j, j < 4 → v j ≤ M) : ownN b arm v t ≤ 99000 + M := by
  have h1 := (hB.1 (4 * arm + t) (by omega)).1
  have h2 := (expN_le hB (k := 4 * arm + t) (by omega) hv).2.2.2
  have h3 : bs b 0 * expN b v (4 * arm + t) ≤ 99 * M := Nat.mul_le_mul hB.2.2.1.1 h2
  unfold ownN
  omega
theorem valsN_le {b : Bd} (hB : OkB b) {arm h : Nat} (ha : arm < 4) (hh : h < 4) : ∀ (i k : Nat), k < 4 → valsN b arm h i k ≤ 99000 * i
  | 0, k, _ => Nat.le_refl _
  | i + 1, k, hk => by
    have e := fun j hj => valsN_le hB ha hh i j hj
    have h1 := ownN_le hB ha hk e
    have h2 := ownN_le hB ha hh e
    show max _ _ ≤ _
    rw [Nat.max_le]
    omega
theorem valsN_6M {b : Bd} (hB : OkB b) {arm h : Nat} (ha : arm < 4) (hh : h < 4) {i : Nat} (hi : i ≤ 60) : ∀ k, k < 4 → valsN b arm h i k ≤ 6000000 := fun k hk => by
  have := valsN_le hB ha hh i k hk
  omega
theorem ixN_le {b : Bd} {h M : Nat} {v : Nat → Nat} (hv : v h ≤ M) : (100 - bs b 0) * v h ≤ 100 * M ∧ ixN b h v ≤ M := by
  have h1 : (100 - bs b 0) * v h ≤ 100 * M := Nat.mul_le_mul (by omega) hv
  refine ⟨h1, ?_⟩
  unfold ixN
  omega
theorem idxN_le {b : Bd} (hB : OkB b) {arm h : Nat} (ha : arm < 4) (hh : h < 4) : idxN b arm h ≤ 6000000 :=
  (ixN_le (valsN_6M hB ha hh hB.2.2.1.2.2.1 h hh)).2
/-- the first k, from k on, behind which the index is d, at most f further -/
def lrN (b : Bd) (arm h d : Nat) : Nat → Nat → Nat
  | 0, k => k
  | f + 1, k => if ixN b h (valsN b arm h k) = d then k else lrN b arm h d f (k + 1)
def leastN (b : Bd) (arm h d : Nat) : Nat := lrN b arm h d (bs b 1 - 1) 1
theorem lrN_in {b : Bd} {arm h d : Nat} : ∀ (f k : Nat), k ≤ lrN b arm h d f k ∧ lrN b arm h d f k ≤ k + f
  | 0, k => ⟨Nat.le_refl _, Nat.le_refl _⟩
  | f + 1, k => by
    have := lrN_in (b := b) (arm := arm) (h := h) (d := d) f (k + 1)
    unfold lrN
    split
    · omega
    · omega
abbrev wX (C : q_C) (q : Nat → Nat) (t f v o : Nat → Nat) : va_W := [(q 0, .inr (2, [.ref (q 1), .ref (q 2), .ref (q 3), .ref (q 4)])), (q 1, .inl (C.2.2.1, 16, .inr (.inl (fun k => lN (t k))))), (q 2, .inl (C.2.2.2.1, 4, .inl (fun k => nI (f k)))), (q 3, .inl (C.2.2.1, 4, .inr (.inl (fun k => lN (v k))))), (q 4, .inl (C.2.2.1, 4, .inr (.inl (fun k => lN (o k)))))]
theorem lrN_hit {b : Bd} {arm h d f k r : Nat} (e : lrN b arm h d f k = r) (hd : ixN b h (valsN b arm h k) = d) : k = r := by
  cases f with
  | zero => exact e
  | succ f => rw [lrN, if_pos hd] at e; exact e
theorem lrN_s {b : Bd} {arm h d f k r : Nat} (e : lrN b arm h d f k = r) (hf : 0 < f) (hd : ixN b h (valsN b arm h k) ≠ d) : lrN b arm h d (f - 1) (k + 1) = r := by
  cases f with
  | zero => omega
  | succ f => rw [lrN, if_neg hd] at e; exact e
theorem lrN_end {b : Bd} {arm h d f k r : Nat} (e : lrN b arm h d f k = r) (hf : f = 0) : k = r := by
  subst hf
  exact e
