/-! writes into the model's row, as boards -/
theorem mB_w7 (b : Bd) (x : Int64) : vp_updL (mB b) 7 x = mB (sr b x) := by
  funext k
  by_cases h : k = 7
  · subst h; rw [pk_uLs, mB_7]
  · rw [pk_uLn h]; unfold mB; simp only [if_neg h]; rfl
theorem mB_w8 (b : Bd) (x : Nat) : vp_updL (mB b) 8 (lN x) = mB (sw b x) := by
  funext k
  by_cases h : k = 8
  · subst h; rw [pk_uLs, mB_8]
  · rw [pk_uLn h]; unfold mB; simp only [if_neg h]; rfl
theorem mB_w9 (b : Bd) (x : Int64) : vp_updL (mB b) 9 x = mB (sz b x) := by
  funext k
  by_cases h : k = 9
  · subst h; rw [pk_uLs, mB_9]
  · rw [pk_uLn h]; unfold mB; simp only [if_neg h]; rfl
theorem mB_ws (b : Bd) {i : Nat} (hi : i < 4) (x : Nat) : vp_updL (mB b) i (lN x) = mB (ss b (upN (bs b) i x)) := by
  funext k
  by_cases h : k = i
  · subst h; rw [pk_uLs, mB_s _ hi]; exact congrArg lN (upN_s _ _ _).symm
  · rw [pk_uLn h]
    unfold mB
    by_cases h4 : k < 4
    · rw [if_pos h4, if_pos h4]; exact congrArg lN (upN_n h).symm
    · rw [if_neg h4, if_neg h4]; rfl
theorem mB_wp (b : Bd) {a : Nat} (ha : a < 4) (x : Nat) : vp_updL (mB b) (10 + 2 * a) (lN x) = mB (sp b (upN (bp b) a x)) := by
  funext k
  by_cases h : k = 10 + 2 * a
  · subst h; rw [pk_uLs, mB_p _ ha]; exact congrArg lN (upN_s _ _ _).symm
  · rw [pk_uLn h]
    unfold mB
    by_cases h1 : k < 18
    · by_cases h2 : k % 2 = 0
      · by_cases h3 : 10 ≤ k
        · simp only [if_pos h1, if_pos h2]
          have e : upN (bp b) a x ((k - 10) / 2) = bp b ((k - 10) / 2) := upN_n (by omega)
          rw [show bp (sp b (upN (bp b) a x)) ((k - 10) / 2) = bp b ((k - 10) / 2) from e]
          rfl
        · have e4 : k = 0 ∨ k = 2 ∨ k = 4 ∨ k = 6 ∨ k = 8 := by omega
          rcases e4 with e4 | e4 | e4 | e4 | e4 <;> subst e4 <;> rfl
      · simp only [if_neg h2]; rfl
    · simp only [if_neg h1]; rfl
theorem mB_wof (b b2 : Bd) {j w : Nat} (hj : j < 16) (hw : w < 4) (x : Nat) (h1 : bs b2 = bs b) (h2 : bx b2 = bx b) (h3 : bl b2 = bl b) (h4 : br b2 = br b) (h5 : bw b2 = bw b) (h6 : bz b2 = bz b) (h7 : bp b2 = bp b) (h8 : bu b2 = bu b)
    (hx : ofN b2 j w = x) (ho : ∀ k v, v < 4 → (k ≠ j ∨ v ≠ w) → ofN b2 k v = ofN b k v) : vp_updL (mB b) (18 + 4 * j + w) (lN x) = mB b2 := by
  funext k
  by_cases h : k = 18 + 4 * j + w
  · subst h; rw [pk_uLs, mB_of _ hw, hx]
  · rw [pk_uLn h]
    unfold mB
    have hs : sumU b2 = sumU b := by unfold sumU; rw [h8]
    rw [h1, h2, h3, h4, h5, h6, h7, h8, hs]
    by_cases h18 : k < 18
    · simp only [if_pos h18]
    · rw [ho ((k - 18) / 4) ((k - 18) % 4) (by omega) (by omega)]
theorem mB_wg (b : Bd) {j : Nat} (hj : j < 16) (x : Nat) : vp_updL (mB b) (18 + 4 * j + 0) (lN x) = mB (sg b (upN (bg b) j x)) := by
  refine mB_wof b _ hj (by decide) x rfl rfl rfl rfl rfl rfl rfl rfl (upN_s _ _ _) (fun k v hv h => ?_)
  match v, hv, h with
  | 0, _, h => exact upN_n (by omega)
  | 1, _, _ => rfl
  | 2, _, _ => rfl
  | 3, _, _ => rfl
theorem mB_wo (b : Bd) {j : Nat} (hj : j < 16) (x : Nat) : vp_updL (mB b) (18 + 4 * j + 1) (lN x) = mB (so b (upN (bo b) j x)) := by
  refine mB_wof b _ hj (by decide) x rfl rfl rfl rfl rfl rfl rfl rfl (upN_s _ _ _) (fun k v hv h => ?_)
  match v, hv, h with
  | 0, _, _ => rfl
  | 1, _, h => exact upN_n (by omega)
  | 2, _, _ => rfl
  | 3, _, _ => rfl
theorem mB_wb (b : Bd) {j : Nat} (hj : j < 16) (x : Nat) : vp_updL (mB b) (18 + 4 * j + 2) (lN x) = mB (sb b (upN (bb b) j x)) := by
  refine mB_wof b _ hj (by decide) x rfl rfl rfl rfl rfl rfl rfl rfl (upN_s _ _ _) (fun k v hv h => ?_)
  match v, hv, h with
  | 0, _, _ => rfl
  | 1, _, _ => rfl
  | 2, _, h => exact upN_n (by omega)
  | 3, _, _ => rfl
theorem mB_wc (b : Bd) {j : Nat} (hj : j < 16) (x : Nat) : vp_updL (mB b) (18 + 4 * j + 3) (lN x) = mB (sc b (upN (bc b) j x)) := by
  refine mB_wof b _ hj (by decide) x rfl rfl rfl rfl rfl rfl rfl rfl (upN_s _ _ _) (fun k v hv h => ?_)
  match v, hv, h with
  | 0, _, _ => rfl
  | 1, _, _ => rfl
  | 2, _, _ => rfl
  | 3, _, h => exact upN_n (by omega)
/-- the model's order in a pull: what was brought and the weight first, the numbers of pulls last -/
def erl (b : Bd) (arm : Nat) : Bd := sw (sr b (br b + fdv ((if othB b arm = true then lN (1000 * bg b (4 * arm + bp b arm)) - lN (1000 * bs b 2) else lN (1000 * bg b (4 * arm + bp b arm))) * lN (bw b)) (lN 1000000))) (bw b * bs b 0 / 100)
def late (b : Bd) (arm x : Nat) : Bd := sl (sx (su b (upN (bu b) arm (bu b arm + 1))) x) (arm + 1)
theorem late_erl (b : Bd) (arm : Nat) : pul0 b arm = late (erl b arm) arm (if othB b arm = true then bx b + 1 else bx b) := rfl
theorem late_goB (b : Bd) (arm x o : Nat) : goB (late b arm x) o = late (goB b o) arm x := rfl
theorem late_rest (b : Bd) (arm x : Nat) : ∀ o, restN (late b arm x) arm o = late (restN b arm o) arm x
  | 0 => rfl
  | o + 1 => by
    rw [restN, restN, late_rest b arm x o]
    unfold rest1
    split
    · rfl
    · rfl
theorem bs_restN (b : Bd) (arm : Nat) : ∀ o, bs (restN b arm o) = bs b
  | 0 => rfl
  | o + 1 => by
    rw [restN]
    unfold rest1
    split
    · exact bs_restN b arm o
    · exact bs_restN b arm o
/-- a pull in the model's order -/
theorem pulB_late (b : Bd) (arm : Nat) : pulB b arm = late (if bs b 3 = 1 then restN (goB (erl b arm) arm) arm 4 else goB (erl b arm) arm) arm (if othB b arm = true then bx b + 1 else bx b) := by
  unfold pulB
  rw [late_erl, late_goB]
  split
  · rw [late_rest]
  · rfl
theorem mB_late (b : Bd) {arm : Nat} (ha : arm < 4) (x : Nat) : vp_updL (vp_updL (vp_updL (vp_updL (mB b) 4 (lN (sumU b + 1))) 5 (lN x)) 6 (lN arm)) (10 + 2 * arm + 1) (lN (bu b arm + 1)) = mB (late b arm x) := by
  funext k
  by_cases h : k = 10 + 2 * arm + 1
  · subst h; rw [pk_uLs, mB_u _ ha]; exact congrArg lN (upN_s _ _ _).symm
  · rw [pk_uLn h]
    by_cases h6 : k = 6
    · subst h6; rw [pk_uLs, mB_6, show bl (late b arm x) = arm + 1 from rfl, ← lN_1]
      exact (Int64.add_sub_cancel _ _).symm
    · rw [pk_uLn h6]
      by_cases h5 : k = 5
      · subst h5; rw [pk_uLs, mB_5]; rfl
      · rw [pk_uLn h5]
        by_cases h4 : k = 4
        · subst h4; rw [pk_uLs, mB_4]
          refine congrArg lN ?_
          show bu b 0 + bu b 1 + bu b 2 + bu b 3 + 1 = upN (bu b) arm (bu b arm + 1) 0 + upN (bu b) arm (bu b arm + 1) 1 + upN (bu b) arm (bu b arm + 1) 2 + upN (bu b) arm (bu b arm + 1) 3
          have e4 : arm = 0 ∨ arm = 1 ∨ arm = 2 ∨ arm = 3 := by omega
          rcases e4 with e4 | e4 | e4 | e4 <;> subst e4 <;> simp [upN] <;> omega
        · rw [pk_uLn h4]
          unfold mB
          by_cases h1 : k < 18
          · by_cases h2 : k % 2 = 0
            · simp only [if_neg h4, if_neg h5, if_neg h6, if_pos h2]; rfl
            · by_cases h3 : 10 ≤ k
              · have e : upN (bu b) arm (bu b arm + 1) ((k - 10) / 2) = bu b ((k - 10) / 2) := upN_n (by omega)
                simp only [if_neg h4, if_neg h5, if_neg h6, if_pos h1, if_neg h2]
                rw [show bu (late b arm x) ((k - 10) / 2) = bu b ((k - 10) / 2) from e]
                rfl
              · have e4 : k = 1 ∨ k = 3 ∨ k = 7 ∨ k = 9 := by omega
                rcases e4 with e4 | e4 | e4 | e4 <;> subst e4 <;> rfl
          · simp only [if_neg h1, if_neg h4, if_neg h5, if_neg h6]; rfl
theorem lN_las {k : Nat} (h : k < 2 ^ 31) : lN k - 1 = (-1) ↔ k = 0 := by
  constructor
  · intro e
    have e2 : lN k = lN 0 := by
      have := congrArg (fun z : Int64 => z + 1) e
      simpa [show lN 0 = (0 : Int64) from by decide] using this
    exact (lN_eq h (by decide)).mp e2
  · intro e; subst e; decide
theorem lN_las2 {k a : Nat} (h : k < 2 ^ 31) (ha : a + 1 < 2 ^ 31) : lN k - 1 = lN a ↔ k = a + 1 := by
  constructor
  · intro e
    have e2 : lN k = lN (a + 1) := by
      rw [← lN_1, ← e]; simp
    exact (lN_eq h ha).mp e2
  · intro e; subst e; rw [← lN_1]; exact Int64.add_sub_cancel _ _
theorem dwn_fdv (x : Int64) : dwn x (lN 1000000) = fdv x (lN 1000000) := by
  have hy : (lN 1000000).toInt = 1000000 := lN_toInt (by decide)
  have hx1 := x.le_toInt
  have hx2 := x.toInt_lt
  have hT : (x / lN 1000000).toInt = x.toInt.tdiv 1000000 := by
    rw [Int64.toInt_div_of_ne_right _ _ (by decide), hy]
  have hb : (0 ≤ x.toInt → x.toInt.tdiv 1000000 = x.toInt / 1000000) ∧ (x.toInt < 0 → x.toInt.tdiv 1000000 = -((-x.toInt) / 1000000)) := by
    refine ⟨fun h => Int.tdiv_eq_ediv_of_nonneg h, fun h => ?_⟩
    have e1 : (-(-x.toInt)).tdiv 1000000 = -((-x.toInt).tdiv 1000000) := Int.neg_tdiv _ _
    rw [Int.neg_neg] at e1
    rw [e1, Int.tdiv_eq_ediv_of_nonneg (by omega)]
  have hM : (x / lN 1000000 * lN 1000000).toInt = x.toInt.tdiv 1000000 * 1000000 := by
    rw [Int64.toInt_mul, hT, hy]
    apply Int.bmod_eq_of_le
    · rcases Int.lt_or_le x.toInt 0 with h | h
      · rw [hb.2 h]; omega
      · rw [hb.1 h]; omega
    · rcases Int.lt_or_le x.toInt 0 with h | h
      · rw [hb.2 h]; omega
      · rw [hb.1 h]; omega
  have hxor : (x ^^^ lN 1000000) < 0 ↔ x.toInt < 0 := by
    rw [Int64.lt_iff_toInt_lt]
    show (x.toBitVec ^^^ (lN 1000000).toBitVec).toInt < 0 ↔ x.toBitVec.toInt < 0
    have tb : (lN 1000000).toBitVec.msb = false := by decide
    rw [BitVec.toInt_eq_msb_cond, BitVec.toInt_eq_msb_cond, BitVec.msb_xor, tb, Bool.xor_false]
    have l1 := (x.toBitVec ^^^ (lN 1000000).toBitVec).isLt
    have l2 := x.toBitVec.isLt
    split <;> constructor <;> intro h <;> omega
  unfold dwn fdv
  by_cases h : x < x / lN 1000000 * lN 1000000
  · rw [if_pos h, if_pos]
    have h2 := Int64.lt_iff_toInt_lt.mp h
    rw [hM] at h2
    refine ⟨hxor.mpr ?_, fun q => ?_⟩
    · rcases Int.lt_or_le x.toInt 0 with g | g
      · exact g
      · rw [hb.1 g] at h2; omega
    · rw [q] at h; exact Int64.lt_irrefl h
  · rw [if_neg h, if_neg]
    rintro ⟨h1, h3⟩
    have g := hxor.mp h1
    have h2 : ¬ x.toInt < x.toInt.tdiv 1000000 * 1000000 := fun q => h (Int64.lt_iff_toInt_lt.mpr (by rw [hM]; exact q))
    apply h3
    apply Int64.toInt.inj
    rw [hM]
    rw [hb.2 g] at h2 ⊢
    omega
