/-! pulls and choices of the model: numbers -/
theorem okB_erl {b : Bd} (h : OkB b) (arm : Nat) : OkB (erl b arm) := by
  obtain ⟨h1, h2, h3, h4, h5⟩ := h
  refine ⟨h1, h2, h3, h4, ?_⟩
  show bw b * bs b 0 / 100 ≤ 1000000
  have := Nat.mul_le_mul h5 h3.1
  omega
theorem bx_restN (b : Bd) (arm : Nat) : ∀ o, bx (restN b arm o) = bx b
  | 0 => rfl
  | o + 1 => by
    rw [restN]
    unfold rest1
    split
    · exact bx_restN b arm o
    · exact bx_restN b arm o
/-- what indices depend on -/
def ixOf (b : Bd) : (Nat → Nat) × (Nat → Nat) × (Nat → Nat) × (Nat → Nat) × (Nat → Nat) := (bg b, bo b, bb b, bc b, bs b)
theorem idxT_of {b c : Bd} (h : ixOf b = ixOf c) : idxT b = idxT c := by
  have h1 : bg b = bg c := congrArg (fun z => z.1) h
  have h2 : bo b = bo c := congrArg (fun z => z.2.1) h
  have h3 : bb b = bb c := congrArg (fun z => z.2.2.1) h
  have h4 : bc b = bc c := congrArg (fun z => z.2.2.2.1) h
  have h5 : bs b = bs c := congrArg (fun z => z.2.2.2.2) h
  have e1 : expN b = expN c := by funext v k; unfold expN; rw [h2, h3, h4]
  have e2 : ownN b = ownN c := by funext a v t; unfold ownN; rw [h1, h5, e1]
  have e3 : rndN b = rndN c := by funext a h v t; unfold rndN; rw [e2]
  have e4 : ∀ a h i, valsN b a h i = valsN c a h i := by
    intro a h i
    induction i with
    | zero => rfl
    | succ i ih => rw [valsN, valsN, ih, e3]
  funext k
  unfold idxT idxN ixN
  rw [e4, h5]
theorem ixOf_goB (b : Bd) (o : Nat) : ixOf (goB b o) = ixOf b := rfl
theorem ixOf_restN (b : Bd) (arm : Nat) : ∀ o, ixOf (restN b arm o) = ixOf b
  | 0 => rfl
  | o + 1 => by
    rw [restN]
    unfold rest1
    split
    · exact ixOf_restN b arm o
    · exact ixOf_restN b arm o
theorem ixOf_pulB (b : Bd) (arm : Nat) : ixOf (pulB b arm) = ixOf b := by
  unfold pulB
  split
  · exact (ixOf_restN _ _ _).trans rfl
  · rfl
theorem ixOf_plN (b : Bd) (T : Nat → Nat) (rule : Nat) : ∀ k, ixOf (plN b T rule k) = ixOf b
  | 0 => rfl
  | k + 1 => by rw [plN, ixOf_pulB, ixOf_plN b T rule k]
theorem idxT_at (b : Bd) (a : Nat) {p : Nat} (hp : p < 4) : idxT b (4 * a + p) = idxN b a p := by
  unfold idxT
  rw [show (4 * a + p) / 4 = a by omega, show (4 * a + p) % 4 = p by omega]
theorem zL_w1 {b : Bd} {arm rule : Nat} (hp : bp b arm < 4) (h1 : othB b arm = true) (h2 : rule = 0) : lN (idxN b arm (bp b arm)) - lN (10 * bs b 2 * (100 - bs b 0)) = zL (scN b (idxT b) rule arm) := by
  rw [zL_sub, scN, costB, if_pos h1, if_pos h2, if_pos h2, idxT_at b arm hp]
theorem zL_w2 {b : Bd} {arm rule : Nat} (hp : bp b arm < 4) (h1 : othB b arm = false) (h2 : rule = 0) : lN (idxN b arm (bp b arm)) - lN (10 * 0 * (100 - bs b 0)) = zL (scN b (idxT b) rule arm) := by
  rw [zL_sub, scN, costB, if_neg (show ¬ othB b arm = true by rw [h1]; decide), if_pos h2, idxT_at b arm hp, Nat.mul_zero, Nat.zero_mul]
theorem zL_w3 {b : Bd} {arm rule : Nat} (h1 : othB b arm = true) (h2 : rule ≠ 0) : lN (bg b (4 * arm + bp b arm)) - lN (bs b 2) = zL (scN b (idxT b) rule arm) := by
  rw [zL_sub, scN, costB, if_pos h1, if_neg h2, if_neg h2]
theorem zL_w4 {b : Bd} {arm rule : Nat} (h1 : othB b arm = false) (h2 : rule ≠ 0) : lN (bg b (4 * arm + bp b arm)) - lN 0 = zL (scN b (idxT b) rule arm) := by
  rw [zL_sub, scN, costB, if_neg (show ¬ othB b arm = true by rw [h1]; decide), if_neg h2]
theorem lN_sp (k : Nat) : lN k - 1 + lN 1 = lN k := by
  rw [show lN 1 = (1 : Int64) from by decide]
  exact Int64.sub_add_cancel _ _
theorem lN_lsp {k : Nat} (h : 0 < k) : lN k - 1 = lN (k - 1) := by
  obtain ⟨j, rfl⟩ : ∃ j, k = j + 1 := ⟨k - 1, by omega⟩
  rw [← lN_1]
  exact Int64.add_sub_cancel _ _
