/-! pulls and choices of the model: numbers -/
/-- what indices depend on -/
def ixOf (b : Bd) : (Nat → Nat) × (Nat → Nat) × (Nat → Nat) × (Nat → Nat) × (Nat → Nat) := (bg b, bo b, bb b, bc b, bs b)
theorem idxT_of {b c : Bd} (h : ixOf b = ixOf c) : idxT b = idxT c := by
  have h1 : bg b = bg c := congrArg (fun z => z.1) h
  have h2 : bo b = bo c := congrArg (fun z => z.2.1) h
  have h3 : bb b = bb c := congrArg (fun z => z.2.2.1) h
  have h4 : bc b = bc c := congrArg (fun z => z.2.2.2.1) h
  have h5 : bs b = bs c := congrArg (fun z => z.2.2.2.2) h
  have e1 : expN b = expN c := by funext v k; unfold expN; rw [h2, h3, h4]
  have e2 : ownN b = ownN c := by funext a v t; unfold ownN; rw [h1, h5, e1]
  have e3 : rndN b = rndN c := by funext a h v t; unfold rndN; rw [e2]
  have e4 : ∀ a h i, valsN b a h i = valsN c a h i := by
    intro a h i
    induction i with
    | zero => rfl
    | succ i ih => rw [valsN, valsN, ih, e3]
  funext k
  unfold idxT idxN ixN
  rw [e4, h5]
theorem ixOf_restN (b : Bd) (arm : Nat) : ∀ o, ixOf (restN b arm o) = ixOf b
  | 0 => rfl
  | o + 1 => by
    rw [restN]
    unfold rest1
    split
    · exact ixOf_restN b arm o
    · exact ixOf_restN b arm o
theorem ixOf_pulB (b : Bd) (arm : Nat) : ixOf (pulB b arm) = ixOf b := by
  unfold pulB
  split
  · exact (ixOf_restN _ _ _).trans rfl
  · rfl
theorem ixOf_plN (b : Bd) (T : Nat → Nat) (rule : Nat) : ∀ k, ixOf (plN b T rule k) = ixOf b
  | 0 => rfl
  | k + 1 => by rw [plN, ixOf_pulB, ixOf_plN b T rule k]
theorem idxT_at (b : Bd) (a : Nat) {p : Nat} (hp : p < 4) : idxT b (4 * a + p) = idxN b a p := by
  unfold idxT
  rw [show (4 * a + p) / 4 = a by omega, show (4 * a + p) % 4 = p by omega]
