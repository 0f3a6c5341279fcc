/-! the state of a board as numbers: gifts, goods, bads, chances, places, pulls, settings; changes, last + 1, brought, weight, row -/
def upN (f : Nat → Nat) (k v : Nat) : Nat → Nat := fun j => if j = k then v else f j
theorem upN_s (f : Nat → Nat) (k v : Nat) : upN f k v k = v := by simp [upN]
theorem upN_n {f : Nat → Nat} {k v j : Nat} (h : j ≠ k) : upN f k v j = f j := by simp [upN, h]
theorem q_upd (f : Nat → Nat) (k v : Nat) : upd (fun j => nI (f j)) k (nI v) = fun j => nI (upN f k v j) := by
  funext j
  by_cases h : j = k
  · subst h; rw [pk_us, upN_s]
  · rw [pk_un h, upN_n h]
theorem q_updL (f : Nat → Nat) (k v : Nat) : vp_updL (fun j => lN (f j)) k (lN v) = fun j => lN (upN f k v j) := by
  funext j
  by_cases h : j = k
  · subst h; rw [pk_uLs, upN_s]
  · rw [pk_uLn h, upN_n h]
abbrev Bd : Type := (Nat → Nat) × (Nat → Nat) × (Nat → Nat) × (Nat → Nat) × (Nat → Nat) × (Nat → Nat) × (Nat → Nat) × Nat × Nat × Int64 × Nat × Int64
abbrev bg (b : Bd) : Nat → Nat := b.1
abbrev bo (b : Bd) : Nat → Nat := b.2.1
abbrev bb (b : Bd) : Nat → Nat := b.2.2.1
abbrev bc (b : Bd) : Nat → Nat := b.2.2.2.1
abbrev bp (b : Bd) : Nat → Nat := b.2.2.2.2.1
abbrev bu (b : Bd) : Nat → Nat := b.2.2.2.2.2.1
abbrev bs (b : Bd) : Nat → Nat := b.2.2.2.2.2.2.1
abbrev bx (b : Bd) : Nat := b.2.2.2.2.2.2.2.1
abbrev bl (b : Bd) : Nat := b.2.2.2.2.2.2.2.2.1
abbrev br (b : Bd) : Int64 := b.2.2.2.2.2.2.2.2.2.1
abbrev bw (b : Bd) : Nat := b.2.2.2.2.2.2.2.2.2.2.1
abbrev bz (b : Bd) : Int64 := b.2.2.2.2.2.2.2.2.2.2.2
abbrev mkB (g o bd c p u st : Nat → Nat) (x la : Nat) (r : Int64) (w : Nat) (z : Int64) : Bd := (g, o, bd, c, p, u, st, x, la, r, w, z)
abbrev sg (b : Bd) (v : Nat → Nat) : Bd := mkB v (bo b) (bb b) (bc b) (bp b) (bu b) (bs b) (bx b) (bl b) (br b) (bw b) (bz b)
abbrev so (b : Bd) (v : Nat → Nat) : Bd := mkB (bg b) v (bb b) (bc b) (bp b) (bu b) (bs b) (bx b) (bl b) (br b) (bw b) (bz b)
abbrev sb (b : Bd) (v : Nat → Nat) : Bd := mkB (bg b) (bo b) v (bc b) (bp b) (bu b) (bs b) (bx b) (bl b) (br b) (bw b) (bz b)
abbrev sc (b : Bd) (v : Nat → Nat) : Bd := mkB (bg b) (bo b) (bb b) v (bp b) (bu b) (bs b) (bx b) (bl b) (br b) (bw b) (bz b)
abbrev sp (b : Bd) (v : Nat → Nat) : Bd := mkB (bg b) (bo b) (bb b) (bc b) v (bu b) (bs b) (bx b) (bl b) (br b) (bw b) (bz b)
abbrev su (b : Bd) (v : Nat → Nat) : Bd := mkB (bg b) (bo b) (bb b) (bc b) (bp b) v (bs b) (bx b) (bl b) (br b) (bw b) (bz b)
abbrev ss (b : Bd) (v : Nat → Nat) : Bd := mkB (bg b) (bo b) (bb b) (bc b) (bp b) (bu b) v (bx b) (bl b) (br b) (bw b) (bz b)
abbrev sx (b : Bd) (v : Nat) : Bd := mkB (bg b) (bo b) (bb b) (bc b) (bp b) (bu b) (bs b) v (bl b) (br b) (bw b) (bz b)
abbrev sl (b : Bd) (v : Nat) : Bd := mkB (bg b) (bo b) (bb b) (bc b) (bp b) (bu b) (bs b) (bx b) v (br b) (bw b) (bz b)
abbrev sr (b : Bd) (v : Int64) : Bd := mkB (bg b) (bo b) (bb b) (bc b) (bp b) (bu b) (bs b) (bx b) (bl b) v (bw b) (bz b)
abbrev sw (b : Bd) (v : Nat) : Bd := mkB (bg b) (bo b) (bb b) (bc b) (bp b) (bu b) (bs b) (bx b) (bl b) (br b) v (bz b)
abbrev sz (b : Bd) (v : Int64) : Bd := mkB (bg b) (bo b) (bb b) (bc b) (bp b) (bu b) (bs b) (bx b) (bl b) (br b) (bw b) v
/-- the cells of a board: the object at a 0, its seven rows at a 1 .. a 7 -/
abbrev wB (C : q_C) (a : Nat → Nat) (b : Bd) : va_W := [(a 0, .inr (0, [.ref (a 1), .ref (a 2), .ref (a 3), .ref (a 4), .ref (a 5), .ref (a 6), .ref (a 7), .int (nI (bx b)), .int (nI (bl b) - 1), .long (br b), .long (lN (bw b)), .long (bz b)])), (a 1, .inl (C.2.1, 16, .inl (fun k => nI (bg b k)))), (a 2, .inl (C.2.1, 16, .inl (fun k => nI (bo b k)))), (a 3, .inl (C.2.1, 16, .inl (fun k => nI (bb b k)))), (a 4, .inl (C.2.1, 16, .inl (fun k => nI (bc b k)))), (a 5, .inl (C.2.1, 4, .inl (fun k => nI (bp b k)))), (a 6, .inl (C.2.1, 4, .inl (fun k => nI (bu b k)))), (a 7, .inl (C.2.1, 4, .inl (fun k => nI (bs b k))))]
/-- what holds of every board: ranges -/
def OkB (b : Bd) : Prop := (∀ k, k < 16 → bg b k ≤ 99 ∧ bo b k < 4 ∧ bb b k < 4 ∧ bc b k ≤ 8) ∧ (∀ k, k < 4 → bp b k < 4) ∧ (bs b 0 ≤ 99 ∧ 1 ≤ bs b 1 ∧ bs b 1 ≤ 60 ∧ bs b 2 ≤ 99 ∧ bs b 3 ≤ 1) ∧ bl b ≤ 4 ∧ bw b ≤ 1000000
theorem q_las {k : Nat} (h : k < 2 ^ 31) : nI k - 1 = (-1) ↔ k = 0 := by
  constructor
  · intro e
    have e2 : nI k = nI 0 := by
      have := congrArg (fun z : Int32 => z + 1) e
      simpa [nI_0] using this
    exact (nI_eq h (by decide)).mp e2
  · intro e; subst e; decide
theorem q_las2 {k a : Nat} (h : k < 2 ^ 31) (ha : a + 1 < 2 ^ 31) : nI k - 1 = nI a ↔ k = a + 1 := by
  constructor
  · intro e
    have e2 : nI k = nI (a + 1) := by
      rw [nI_succ, ← e]; simp
    exact (nI_eq h ha).mp e2
  · intro e; subst e; exact nI_pred a
/-! pulls -/
/-- JDK's floorDiv over longs -/
def fdv (x y : Int64) : Int64 := if (x ^^^ y) < 0 ∧ x / y * y ≠ x then x / y - 1 else x / y
theorem nextX_ex (x : Int64) : ∃ y : Int64, y = x * 6364136223846793005 + 1442695040888963407 := ⟨_, rfl⟩
/-- the next of the row of chances (held back from unfolding) -/
noncomputable def nextX (x : Int64) : Int64 := Classical.choose (nextX_ex x)
theorem nextX_eq (x : Int64) : nextX x = x * 6364136223846793005 + 1442695040888963407 := Classical.choose_spec (nextX_ex x)
noncomputable def drawn (x : Int64) : Nat := (nextX x).toUInt64.toNat / 2 ^ 61
noncomputable def goB (b : Bd) (arm : Nat) : Bd := sz (sp b (upN (bp b) arm (if drawn (bz b) < bc b (4 * arm + bp b arm) then bo b (4 * arm + bp b arm) else bb b (4 * arm + bp b arm)))) (nextX (bz b))
def othB (b : Bd) (arm : Nat) : Bool := decide (bl b ≠ 0 ∧ bl b ≠ arm + 1)
/-- what a pull of the arm brings, the weight, the arm that was pulled last, the pulls; nothing has gone on yet -/
def pul0 (b : Bd) (arm : Nat) : Bd :=
  mkB (bg b) (bo b) (bb b) (bc b) (bp b) (upN (bu b) arm (bu b arm + 1)) (bs b) (if othB b arm = true then bx b + 1 else bx b) (arm + 1)
    (br b + fdv ((if othB b arm = true then lN (1000 * bg b (4 * arm + bp b arm)) - lN (1000 * bs b 2) else lN (1000 * bg b (4 * arm + bp b arm))) * lN (bw b)) (lN 1000000)) (bw b * bs b 0 / 100) (bz b)
noncomputable def rest1 (b : Bd) (arm o : Nat) : Bd := if o ≠ arm then goB b o else b
noncomputable def restN (b : Bd) (arm : Nat) : Nat → Bd
  | 0 => b
  | o + 1 => rest1 (restN b arm o) arm o
noncomputable def pulB (b : Bd) (arm : Nat) : Bd := if bs b 3 = 1 then restN (goB (pul0 b arm) arm) arm 4 else goB (pul0 b arm) arm
def begB (b : Bd) (x : Int64) : Bd := mkB (bg b) (bo b) (bb b) (bc b) (upN (upN (upN (upN (bp b) 0 0) 1 0) 2 0) 3 0) (upN (upN (upN (upN (bu b) 0 0) 1 0) 2 0) 3 0) (bs b) 0 0 0 1000000 x
def sumU (b : Bd) : Nat := bu b 0 + bu b 1 + bu b 2 + bu b 3
def costB (b : Bd) (arm rule : Nat) : Nat := if othB b arm = true then (if rule = 0 then 10 * bs b 2 * (100 - bs b 0) else bs b 2) else 0
theorem okB_goB {b : Bd} (h : OkB b) (o : Nat) (ho : o < 4) : OkB (goB b o) := by
  obtain ⟨h1, h2, h3, h4, h5⟩ := h
  refine ⟨h1, fun k hk => ?_, h3, h4, h5⟩
  show upN (bp b) o _ k < 4
  have hp := h2 o ho
  have hs := h1 (4 * o + bp b o) (by omega)
  by_cases e : k = o
  · subst e
    rw [upN_s]
    split
    · exact hs.2.1
    · exact hs.2.2.1
  · rw [upN_n e]
    exact h2 k hk
theorem okB_pul0 {b : Bd} (h : OkB b) (o : Nat) (ho : o < 4) : OkB (pul0 b o) := by
  obtain ⟨h1, h2, h3, h4, h5⟩ := h
  refine ⟨h1, h2, h3, by show o + 1 ≤ 4; omega, ?_⟩
  show bw b * bs b 0 / 100 ≤ 1000000
  have := Nat.mul_le_mul h5 h3.1
  omega
theorem okB_restN {b : Bd} (h : OkB b) (arm : Nat) : ∀ n, n ≤ 4 → OkB (restN b arm n)
  | 0, _ => h
  | n + 1, hn => by
    show OkB (rest1 (restN b arm n) arm n)
    unfold rest1
    split
    · exact okB_goB (okB_restN h arm n (by omega)) n (by omega)
    · exact okB_restN h arm n (by omega)
theorem bs_goB (b : Bd) (o : Nat) : bs (goB b o) = bs b := rfl
theorem bs_pul0 (b : Bd) (o : Nat) : bs (pul0 b o) = bs b := rfl
theorem okB_pulB {b : Bd} (h : OkB b) (o : Nat) (ho : o < 4) : OkB (pulB b o) := by
  unfold pulB
  split
  · exact okB_restN (okB_goB (okB_pul0 h o ho) o ho) o 4 (by omega)
  · exact okB_goB (okB_pul0 h o ho) o ho
theorem fdv_N {a b : Nat} (ha : a < 2 ^ 63) (h0 : 0 < b) (hb : b < 2 ^ 63) : fdv (lN a) (lN b) = lN (a / b) := by
  have e : lN a / lN b = lN (a / b) := pk_lDiv ha h0 hb
  rw [fdv, if_neg, e]
  rintro ⟨h1, -⟩
  have ta : (lN a).toBitVec.msb = false := by
    rw [BitVec.msb_eq_false_iff_two_mul_lt]
    have : (lN a).toBitVec.toNat = a := by
      show (BitVec.ofNat 64 a).toNat = a
      rw [BitVec.toNat_ofNat]; omega
    omega
  have tb : (lN b).toBitVec.msb = false := by
    rw [BitVec.msb_eq_false_iff_two_mul_lt]
    have : (lN b).toBitVec.toNat = b := by
      show (BitVec.ofNat 64 b).toNat = b
      rw [BitVec.toNat_ofNat]; omega
    omega
  have h2 : ((lN a).toBitVec ^^^ (lN b).toBitVec).toInt < 0 := by
    have h3 := Int64.lt_iff_toInt_lt.mp h1
    exact h3
  have h4 : ((lN a).toBitVec ^^^ (lN b).toBitVec).msb = false := by rw [BitVec.msb_xor, ta, tb]; rfl
  rw [BitVec.toInt_eq_msb_cond, h4] at h2
  simp at h2
  omega
theorem q_lt8 : ∀ n : Nat, n < 8 → (UInt64.ofNat n).toInt64.toInt32 = nI n := by decide +kernel
theorem q_drawn (x : Int64) : (((nextX x).toUInt64 >>> ((nI 61).toInt64.toUInt64 &&& Int64.toUInt64 63)).toInt64).toInt32 = nI (drawn x) := by
  have e61 : ((nI 61).toInt64.toUInt64 &&& Int64.toUInt64 63) = 61 := by decide +kernel
  rw [e61]

  show (((nextX x).toUInt64 >>> 61).toInt64).toInt32 = nI ((nextX x).toUInt64.toNat / 2 ^ 61)
  generalize (nextX x).toUInt64 = u
  have hn : (u >>> 61).toNat = u.toNat / 2 ^ 61 := by
    rw [UInt64.toNat_shiftRight, Nat.shiftRight_eq_div_pow]
    rfl
  have hlt : u.toNat / 2 ^ 61 < 8 := by
    have := u.toNat_lt
    omega
  have hu : u >>> 61 = UInt64.ofNat (u.toNat / 2 ^ 61) := by rw [← hn, UInt64.ofNat_toNat]
  rw [hu]
  exact q_lt8 _ hlt
theorem drawn_lt (x : Int64) : drawn x < 8 := by
  unfold drawn
  have := (nextX x).toUInt64.toNat_lt
  omega
