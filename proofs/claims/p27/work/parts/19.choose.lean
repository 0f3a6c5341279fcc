/-! scores and choices as numbers -/
def zL (z : Int) : Int64 := Int64.ofInt z
theorem zL_sub (a b : Nat) : lN a - lN b = zL ((a : Int) - b) := by
  show Int64.ofNat a - Int64.ofNat b = Int64.ofInt ((a : Int) - b)
  rw [Int64.ofInt_sub, ← Int64.ofInt_eq_ofNat, ← Int64.ofInt_eq_ofNat]
theorem zL_T {z : Int} (h1 : -(2 ^ 40) ≤ z) (h2 : z ≤ 2 ^ 40) : (zL z).toInt = z := by
  show (Int64.ofInt z).toInt = z
  exact Int64.toInt_ofInt_of_le (by omega) (by omega)
theorem zL_lt {a b : Int} (ha1 : -(2 ^ 40) ≤ a) (ha2 : a ≤ 2 ^ 40) (hb1 : -(2 ^ 40) ≤ b) (hb2 : b ≤ 2 ^ 40) : zL a < zL b ↔ a < b := by
  rw [Int64.lt_iff_toInt_lt, zL_T ha1 ha2, zL_T hb1 hb2]
theorem zL_le {a b : Int} (ha1 : -(2 ^ 40) ≤ a) (ha2 : a ≤ 2 ^ 40) (hb1 : -(2 ^ 40) ≤ b) (hb2 : b ≤ 2 ^ 40) : zL a ≤ zL b ↔ a ≤ b := by
  rw [Int64.le_iff_toInt_le, zL_T ha1 ha2, zL_T hb1 hb2]
def upZ (f : Nat → Int) (k : Nat) (v : Int) : Nat → Int := fun j => if j = k then v else f j
theorem upZ_s (f : Nat → Int) (k : Nat) (v : Int) : upZ f k v k = v := by simp [upZ]
theorem upZ_n {f : Nat → Int} {k j : Nat} {v : Int} (h : j ≠ k) : upZ f k v j = f j := by simp [upZ, h]
theorem q_updZ (f : Nat → Int) (k : Nat) (v : Int) : vp_updL (fun j => zL (f j)) k (zL v) = fun j => zL (upZ f k v j) := by
  funext j
  by_cases h : j = k
  · subst h; rw [pk_uLs, upZ_s]
  · rw [pk_uLn h, upZ_n h]
def fillZ (g o : Nat → Int) (i : Nat) : Nat → Int := fun k => if k < i then g k else o k
theorem fillZ_0 (g o : Nat → Int) : fillZ g o 0 = o := by funext k; simp [fillZ]
theorem fillZ_s (g o : Nat → Int) (i : Nat) : upZ (fillZ g o i) i (g i) = fillZ g o (i + 1) := by
  funext k
  unfold upZ fillZ
  by_cases h : k = i
  · subst h; simp
  · rw [if_neg h]
    by_cases h2 : k < i
    · rw [if_pos h2, if_pos (by omega)]
    · rw [if_neg h2, if_neg (by omega)]
theorem fillZ_in {g o : Nat → Int} {i k : Nat} (h : k < i) : fillZ g o i k = g k := by simp [fillZ, h]
/-- the greatest of z 0 .. z (i-1) against the start s, the earlier on a tie -/
def gsN (z : Nat → Int) (s : Nat) : Nat → Nat
  | 0 => s
  | i + 1 => if z (gsN z s i) < z i then i else gsN z s i
theorem gsN_lt {z : Nat → Int} {s : Nat} (hs : s < 4) : ∀ i, i ≤ 4 → gsN z s i < 4
  | 0, _ => hs
  | i + 1, h => by
    unfold gsN
    split
    · omega
    · exact gsN_lt hs i (by omega)
theorem gsN_congr {y z : Nat → Int} (h : ∀ k, k < 4 → y k = z k) {s : Nat} (hs : s < 4) : ∀ i, i ≤ 4 → gsN y s i = gsN z s i
  | 0, _ => rfl
  | i + 1, hi => by
    have e := gsN_congr h hs i (by omega)
    show (if y (gsN y s i) < y i then i else gsN y s i) = (if z (gsN z s i) < z i then i else gsN z s i)
    rw [e, h i (by omega), h _ (gsN_lt hs i (by omega))]
/-- the score of an arm by a rule over a table of indices -/
def scN (b : Bd) (T : Nat → Nat) (rule arm : Nat) : Int := ((if rule = 0 then T (4 * arm + bp b arm) else bg b (4 * arm + bp b arm) : Nat) : Int) - (costB b arm rule : Nat)
def choN (b : Bd) (T : Nat → Nat) (rule : Nat) : Nat := if rule = 2 then bl b % 4 else gsN (scN b T rule) (bl b - 1) 4
theorem costB_le {b : Bd} (hB : OkB b) (arm rule : Nat) : costB b arm rule ≤ 1000000 := by
  obtain ⟨ok1, ok2, ⟨ok3, ok4, ok5, ok6, ok7⟩, ok8, ok9⟩ := hB
  unfold costB
  split
  · split
    · have h1 : 10 * bs b 2 * (100 - bs b 0) ≤ 990 * 100 := Nat.mul_le_mul (by omega) (by omega)
      omega
    · omega
  · omega
theorem scN_in {b : Bd} (hB : OkB b) {T : Nat → Nat} (hT : ∀ k, k < 16 → T k ≤ 6000000) {rule arm : Nat} (ha : arm < 4) : -(2 ^ 40) ≤ scN b T rule arm ∧ scN b T rule arm ≤ 2 ^ 40 := by
  have h1 := costB_le hB arm rule
  have h2 := hB.2.1 arm ha
  have h3 := (hB.1 (4 * arm + bp b arm) (by omega)).1
  have h4 := hT (4 * arm + bp b arm) (by omega)
  unfold scN
  split <;> omega
theorem choN_lt {b : Bd} (hB : OkB b) (T : Nat → Nat) (rule : Nat) : choN b T rule < 4 := by
  have h := hB.2.2.2.1
  unfold choN
  split
  · omega
  · exact gsN_lt (by omega) 4 (by omega)
noncomputable def plN (b : Bd) (T : Nat → Nat) (rule : Nat) : Nat → Bd
  | 0 => b
  | k + 1 => pulB (plN b T rule k) (choN (plN b T rule k) T rule)
theorem okB_plN {b : Bd} (hB : OkB b) (T : Nat → Nat) (rule : Nat) : ∀ k, OkB (plN b T rule k)
  | 0 => hB
  | k + 1 => okB_pulB (okB_plN hB T rule k) _ (choN_lt (okB_plN hB T rule k) T rule)
theorem idxT_le {b : Bd} (hB : OkB b) : ∀ k, k < 16 → idxT b k ≤ 6000000 := fun k hk => idxN_le hB (by omega) (by omega)
abbrev wA (C : q_C) (x : Nat) (nw tr hq iq tt : Nat → Nat) (sc : Nat) (z : Nat → Int) : va_W := [(x, .inr (4, [.ref (nw 0), .ref (tr 0), .ref (hq 0), .ref (iq 0), .ref (tt 0), .ref sc])), (sc, .inl (C.2.2.1, 4, .inr (.inl (fun k => zL (z k)))))]
theorem q_lsp {k : Nat} (h : 0 < k) : nI k - 1 = nI (k - 1) := by
  obtain ⟨j, rfl⟩ : ∃ j, k = j + 1 := ⟨k - 1, by omega⟩
  exact nI_pred j
/-! what is reached: masks of 4 bits -/
def nxN (b : Bd) (k : Nat) : Nat := (if bc b k > 0 then 2 ^ bo b k else 0) ||| (if bc b k < 8 then 2 ^ bb b k else 0)
theorem shl1 : ∀ k : Nat, k < 4 → nI 1 <<< (nI k &&& 31) = nI (2 ^ k) := by decide +kernel
theorem nI_or16 : ∀ a, a < 16 → ∀ b, b < 16 → nI a ||| nI b = nI (a ||| b) := by decide +kernel
theorem or16 : ∀ a, a < 16 → ∀ b, b < 16 → a ||| b < 16 := by decide +kernel
theorem bit16 : ∀ m, m < 16 → ∀ k, k < 4 → (nI m &&& nI (2 ^ k) = 0 ↔ m.testBit k = false) := by decide +kernel
theorem pow4 : ∀ k : Nat, k < 4 → 2 ^ k < 16 := by decide +kernel
theorem nxN_lt {b : Bd} (hB : OkB b) {k : Nat} (hk : k < 16) : nxN b k < 16 := by
  obtain ⟨-, h2, h3, -⟩ := hB.1 k hk
  unfold nxN
  apply or16
  · split
    · exact pow4 _ h2
    · decide
  · split
    · exact pow4 _ h3
    · decide
def rcIn (b : Bd) (arm : Nat) (m : Nat) : Nat → Nat
  | 0 => m
  | f + 1 => let q := rcIn b arm m f; if q.testBit f = true then q ||| nxN b (4 * arm + f) else q
def rcN (b : Bd) (arm st : Nat) : Nat → Nat
  | 0 => 2 ^ st
  | k + 1 => rcIn b arm (rcN b arm st k) 4
theorem rcIn_lt {b : Bd} (hB : OkB b) {arm m : Nat} (ha : arm < 4) (hm : m < 16) : ∀ f, f ≤ 4 → rcIn b arm m f < 16
  | 0, _ => hm
  | f + 1, h => by
    have e := rcIn_lt hB ha hm f (by omega)
    show (if (rcIn b arm m f).testBit f = true then rcIn b arm m f ||| nxN b (4 * arm + f) else rcIn b arm m f) < 16
    split
    · exact or16 _ e _ (nxN_lt hB (by omega))
    · exact e
theorem rcN_lt {b : Bd} (hB : OkB b) {arm st : Nat} (ha : arm < 4) (hs : st < 4) : ∀ k, rcN b arm st k < 16
  | 0 => pow4 _ hs
  | k + 1 => rcIn_lt hB ha (rcN_lt hB ha hs k) 4 (by omega)
/-- the state of an arm with the greatest index of the table, from 1 on -/
def bstN (T : Nat → Nat) (arm : Nat) : Nat → Nat
  | 0 => 0
  | i + 1 => if T (4 * arm + bstN T arm i) < T (4 * arm + (i + 1)) then i + 1 else bstN T arm i
theorem bstN_le (T : Nat → Nat) (arm : Nat) : ∀ i, bstN T arm i ≤ i
  | 0 => Nat.le_refl 0
  | i + 1 => by
    have := bstN_le T arm i
    unfold bstN
    split <;> omega
theorem okB_sg {b : Bd} (h : OkB b) {k g : Nat} (hg : g ≤ 99) : OkB (sg b (upN (bg b) k g)) := by
  obtain ⟨h1, h2, h3, h4, h5⟩ := h
  refine ⟨fun j hj => ⟨?_, (h1 j hj).2⟩, h2, h3, h4, h5⟩
  show upN (bg b) k g j ≤ 99
  by_cases e : j = k
  · subst e; rw [upN_s]; exact hg
  · rw [upN_n e]; exact (h1 j hj).1
theorem rcIn_t {b : Bd} {arm M f m : Nat} (e : rcIn b arm M f = m) (h : ¬ m.testBit f = false) : rcIn b arm M (f + 1) = m ||| nxN b (4 * arm + f) := by
  show (if (rcIn b arm M f).testBit f = true then rcIn b arm M f ||| nxN b (4 * arm + f) else rcIn b arm M f) = _
  rw [e, if_pos (by simpa using h)]
theorem rcIn_f {b : Bd} {arm M f m : Nat} (e : rcIn b arm M f = m) (h : m.testBit f = false) : rcIn b arm M (f + 1) = m := by
  show (if (rcIn b arm M f).testBit f = true then rcIn b arm M f ||| nxN b (4 * arm + f) else rcIn b arm M f) = _
  rw [e, if_neg (by rw [h]; decide)]
