/-! the model's parser against the stages -/
theorem q_M.mono {C : q_C} {l : Launch} {y : MethodName} {w : List Cond} {fr lo : Nat} {av : List Value} {ws : va_W} {Q Q' : Option Value → va_W → Prop} (h : q_M C l y w fr lo av ws Q) (hQ : ∀ r w1, Q r w1 → Q' r w1) : q_M C l y w fr lo av ws Q' := fun sz p e h1 h2 h3 s m args below f1 f2 f3 k => by
  obtain ⟨n, o, a, b, c, d⟩ := h sz p e h1 h2 h3 s m args below f1 f2 f3 k
  refine ⟨n, o, a, b, c, ?_⟩
  obtain ⟨⟨⟨r, w1, e1, e2, e3⟩, e4⟩, e5⟩ := d
  exact ⟨⟨⟨r, w1, e1, hQ r w1 e2, e3⟩, e4⟩, e5⟩
def flN (i n : Nat) : Nat := if i < n then 1 else 0
theorem stg_s (cd : Nat → Nat) (i : Nat) : stg cd (i + 1) = nst (stg cd i) (cd i) := rfl
theorem mvN_s (cd : Nat → Nat) (b : Bd) (i : Nat) : mvN cd b (i + 1) = mvStep (stg cd (i + 1)) (cd i) (mvN cd b i) := rfl
theorem nst_10 (c : Nat) : nst 10 c = 10 := rfl
theorem stg_10 {cd : Nat → Nat} {i : Nat} (h : stg cd i = 10) : ∀ k, stg cd (i + k) = 10
  | 0 => h
  | k + 1 => by rw [show i + (k + 1) = i + k + 1 by omega, stg_s, stg_10 h k]; rfl
theorem stg_n10 {cd : Nat → Nat} {i j : Nat} (h : stg cd i ≠ 10) (hj : j ≤ i) : stg cd j ≠ 10 := fun q => h (by
  have := stg_10 q (i - j)
  rwa [show j + (i - j) = i by omega] at this)
theorem errF_at {cd : Nat → Nat} {i : Nat} (h1 : stg cd i ≠ 10) (h2 : stg cd (i + 1) = 10) : ∀ f j, j ≤ i → i < j + f → errF cd f j = i
  | 0, j, _, h => by omega
  | f + 1, j, hj, hf => by
    rw [errF]
    by_cases e : j = i
    · subst e; rw [if_pos h2]
    · rw [if_neg (stg_n10 h1 (by omega)), errF_at h1 h2 f (j + 1) (by omega) (by omega)]
theorem errF_no {cd : Nat → Nat} {n : Nat} (h1 : stg cd n ≠ 10) : ∀ f j, j + f = n → errF cd f j = n
  | 0, j, h => by rw [errF]; omega
  | f + 1, j, hf => by
    rw [errF, if_neg (stg_n10 h1 (by omega)), errF_no h1 f (j + 1) (by omega)]
/-- the gift of a part: its digits are read -/
def giOk (cd : Nat → Nat) (n i i1 g : Nat) : Prop := i + 1 ≤ i1 ∧ i1 ≤ n ∧ g ≤ 99 ∧ (stg cd i1 = 4 ∨ stg cd i1 = 5) ∧ (stg cd i1 = 4 → ¬ (i1 < n ∧ 48 ≤ cd i1 ∧ cd i1 ≤ 57)) ∧ ∀ b, bg (mvN cd b i).2.2.2 (mvN cd b i).2.2.1 = 0 → mvN cd b i1 = ((mvN cd b i).1, (mvN cd b i).2.1, (mvN cd b i).2.2.1, sg (mvN cd b i).2.2.2 (upN (bg (mvN cd b i).2.2.2) (mvN cd b i).2.2.1 g))
theorem giOk_1 {cd : Nat → Nat} {n i : Nat} (h3 : stg cd i = 3) (hi : i < n) (h1 : 48 ≤ cd i) (h2 : cd i ≤ 57) (hs : cd i = 48 ∨ ¬ (i + 1 < n ∧ 48 ≤ cd (i + 1) ∧ cd (i + 1) ≤ 57)) : giOk cd n i (i + 1) (cd i - 48) := by
  have e : stg cd (i + 1) = if cd i = 48 then 5 else 4 := by
    rw [stg_s, h3]
    show fdN (cd i) = _
    unfold fdN
    split
    · rfl
    · rw [if_pos (by omega)]
  refine ⟨Nat.le_refl _, hi, by omega, by rw [e]; split <;> simp, fun q => ?_, fun b hb => ?_⟩
  · rcases hs with hs | hs
    · rw [e, if_pos hs] at q; omega
    · exact hs
  · rw [mvN_s, e]
    have key : ∀ g, g = 4 ∨ g = 5 → mvStep g (cd i) (mvN cd b i) = ((mvN cd b i).1, (mvN cd b i).2.1, (mvN cd b i).2.2.1, sg (mvN cd b i).2.2.2 (upN (bg (mvN cd b i).2.2.2) (mvN cd b i).2.2.1 (cd i - 48))) := by
      intro g hg
      have e2 : 10 * bg (mvN cd b i).2.2.2 (mvN cd b i).2.2.1 + cd i - 48 = cd i - 48 := by rw [hb]; omega
      rcases hg with hg | hg <;> subst hg <;> (show (_, _, _, sg _ (upN _ _ (10 * bg (mvN cd b i).2.2.2 (mvN cd b i).2.2.1 + cd i - 48))) = _) <;> rw [e2]
    exact key _ (by split <;> simp)
theorem giOk_2 {cd : Nat → Nat} {n i : Nat} (h3 : stg cd i = 3) (h1 : 49 ≤ cd i) (h2 : cd i ≤ 57) (hi : i + 1 < n) (h4 : 48 ≤ cd (i + 1)) (h5 : cd (i + 1) ≤ 57) : giOk cd n i (i + 2) (10 * (cd i - 48) + cd (i + 1) - 48) := by
  have e : stg cd (i + 1) = 4 := by
    rw [stg_s, h3]
    show fdN (cd i) = _
    unfold fdN
    rw [if_neg (by omega), if_pos (by omega)]
  have e1 : stg cd (i + 2) = 5 := by
    rw [stg_s, e]
    show (if _ then 5 else _) = 5
    rw [if_pos ⟨h4, h5⟩]
  refine ⟨by omega, by omega, by omega, Or.inr e1, fun q => by omega, fun b hb => ?_⟩
  rw [mvN_s, e1, mvN_s, e]
  generalize mvN cd b i = M at hb ⊢
  obtain ⟨p0, a0, s0, B⟩ := M
  have hb : bg B s0 = 0 := hb
  show (p0, a0, s0, sg B (upN (upN (bg B) s0 (10 * bg B s0 + cd i - 48)) s0 (10 * (upN (bg B) s0 (10 * bg B s0 + cd i - 48)) s0 + cd (i + 1) - 48))) = (p0, a0, s0, sg B (upN (bg B) s0 (10 * (cd i - 48) + cd (i + 1) - 48)))
  rw [upN_s, upN_up, hb, Nat.mul_zero, Nat.zero_add]
/-- a row that was told, as a change of a board -/
def apR (td : Nat → Int32) (j : Nat) (b b2 : Bd) : Prop := ∃ a t g, a < 4 ∧ t < 4 ∧ g ≤ 99 ∧ td (6 * j) = nI a ∧ td (6 * j + 1) = nI t ∧ td (6 * j + 2) = nI g ∧ ((td (6 * j + 5) = -1 ∧ b2 = sg b (upN (bg b) (4 * a + t) g)) ∨ ∃ x1 x2 x3, x1 < 4 ∧ x2 < 4 ∧ x3 ≤ 8 ∧ td (6 * j + 3) = nI x1 ∧ td (6 * j + 4) = nI x2 ∧ td (6 * j + 5) = nI x3 ∧ b2 = sc (sb (so (sg b (upN (bg b) (4 * a + t) g)) (upN (bo b) (4 * a + t) x1)) (upN (bb b) (4 * a + t) x2)) (upN (bc b) (4 * a + t) x3))
theorem apR_of {td td1 : Nat → Int32} {j : Nat} {b b2 : Bd} (h : ∀ k, k < 6 * j + 6 → td1 k = td k) (q : apR td j b b2) : apR td1 j b b2 := by
  unfold apR at *
  rw [h (6 * j) (by omega), h (6 * j + 1) (by omega), h (6 * j + 2) (by omega), h (6 * j + 3) (by omega), h (6 * j + 4) (by omega), h (6 * j + 5) (by omega)]
  exact q
/-- the rows that were told lead from one board to another -/
def tdR (td : Nat → Int32) (j : Nat) (b b2 : Bd) : Prop := ∃ bd : Nat → Bd, bd 0 = b ∧ bd j = b2 ∧ ∀ k, k < j → apR td k (bd k) (bd (k + 1))
theorem tdR_0 (td : Nat → Int32) (b : Bd) : tdR td 0 b b := ⟨fun _ => b, rfl, rfl, fun k hk => absurd hk (Nat.not_lt_zero _)⟩
theorem tdR_s {td td1 : Nat → Int32} {j : Nat} {b b1 b2 : Bd} (h : ∀ k, k < 6 * j → td1 k = td k) (q : tdR td j b b1) (r : apR td1 j b1 b2) : tdR td1 (j + 1) b b2 := by
  obtain ⟨bd, h1, h2, h3⟩ := q
  refine ⟨fun k => if k = j + 1 then b2 else bd k, ?_, ?_, fun k hk => ?_⟩
  · show (if 0 = j + 1 then b2 else bd 0) = b
    rw [if_neg (by omega)]; exact h1
  · show (if j + 1 = j + 1 then b2 else bd (j + 1)) = b2
    rw [if_pos rfl]
  · show apR td1 k (if k = j + 1 then b2 else bd k) (if k + 1 = j + 1 then b2 else bd (k + 1))
    rw [if_neg (by omega)]
    by_cases e : k = j
    · subst e
      rw [if_pos rfl, h2]
      exact r
    · rw [if_neg (by omega)]
      exact apR_of (fun k' hk' => h k' (by omega)) (h3 k (by omega))
/-- a part of the text is read -/
def paOk (cd : Nat → Nat) (n i j : Nat) (td td1 : Nat → Int32) (i1 : Nat) : Prop := i + 4 ≤ i1 ∧ i1 ≤ n ∧ (∀ k, k < 6 * j → td1 k = td k) ∧ (stg cd i1 = 4 ∨ stg cd i1 = 5 ∨ stg cd i1 = 9) ∧ (i1 < n → cd i1 ≠ 59 → stg cd (i1 + 1) = 10) ∧ ∀ b, apR td1 j (mvN cd b i).2.2.2 (mvN cd b i1).2.2.2 ∧ (mvN cd b i1).1 = (mvN cd b i).1
/-- the text stops ahead of a part's end -/
def paBad (cd : Nat → Nat) (n i1 f : Nat) : Prop := i1 ≤ n ∧ stg cd i1 ≠ 10 ∧ ((i1 = n ∧ f = 0 ∧ wholeN cd n = false) ∨ (i1 < n ∧ f = 1 ∧ stg cd (i1 + 1) = 10))
theorem paBad_of {cd : Nat → Nat} {n i : Nat} (hi : i ≤ n) (h1 : stg cd i ≠ 10) (h2 : stg cd i ≠ 4 ∧ stg cd i ≠ 5 ∧ stg cd i ≠ 9) (h3 : i < n → stg cd (i + 1) = 10) : paBad cd n i (flN i n) := by
  refine ⟨hi, h1, ?_⟩
  unfold flN
  by_cases e : i < n
  · rw [if_pos e]; exact Or.inr ⟨e, rfl, h3 e⟩
  · rw [if_neg e]
    have e2 : i = n := by omega
    subst e2
    exact Or.inl ⟨rfl, rfl, decide_eq_false (by omega)⟩
theorem bg_at0 {b : Bd} {k : Nat} : bg (sg b (upN (bg b) k 0)) k = 0 := upN_s _ _ _
/-- the head of a part: arm, state, the sign behind them -/
theorem mvHead {cd : Nat → Nat} {i : Nat} (h0 : stg cd i = 0) (h1 : 48 ≤ cd i) (h2 : cd i ≤ 51) (h3 : 97 ≤ cd (i + 1)) (h4 : cd (i + 1) ≤ 100) (h5 : cd (i + 2) = 61) : stg cd (i + 1) = 1 ∧ stg cd (i + 2) = 2 ∧ stg cd (i + 3) = 3 ∧ ∀ b, mvN cd b (i + 3) = ((mvN cd b i).1, cd i - 48, 4 * (cd i - 48) + (cd (i + 1) - 97), sg (mvN cd b i).2.2.2 (upN (bg (mvN cd b i).2.2.2) (4 * (cd i - 48) + (cd (i + 1) - 97)) 0)) := by
  have e1 : stg cd (i + 1) = 1 := by rw [stg_s, h0]; exact if_pos ⟨h1, h2⟩
  have e2 : stg cd (i + 2) = 2 := by rw [stg_s, e1]; exact if_pos ⟨h3, h4⟩
  have e3 : stg cd (i + 3) = 3 := by rw [stg_s, e2]; exact if_pos h5
  refine ⟨e1, e2, e3, fun b => ?_⟩
  rw [mvN_s, e3, mvN_s, e2, mvN_s, e1]
  rfl
theorem mvGift {cd : Nat → Nat} {n i i1 g : Nat} (h0 : stg cd i = 0) (h1 : 48 ≤ cd i) (h2 : cd i ≤ 51) (h3 : 97 ≤ cd (i + 1)) (h4 : cd (i + 1) ≤ 100) (h5 : cd (i + 2) = 61) (hg : giOk cd n (i + 3) i1 g) (b : Bd) : mvN cd b i1 = ((mvN cd b i).1, cd i - 48, 4 * (cd i - 48) + (cd (i + 1) - 97), sg (mvN cd b i).2.2.2 (upN (bg (mvN cd b i).2.2.2) (4 * (cd i - 48) + (cd (i + 1) - 97)) g)) := by
  obtain ⟨-, -, -, e⟩ := mvHead h0 h1 h2 h3 h4 h5
  obtain ⟨-, -, -, -, -, e2⟩ := hg
  have e3 := e2 b (by rw [e b]; exact upN_s _ _ _)
  rw [e3, e b]
  show (_, _, _, sg _ (upN (upN _ _ 0) _ g)) = _
  rw [upN_up]
theorem paOk_1 {cd : Nat → Nat} {n i i1 j g : Nat} {td td1 : Nat → Int32} (h0 : stg cd i = 0) (h1 : 48 ≤ cd i) (h2 : cd i ≤ 51) (h3 : 97 ≤ cd (i + 1)) (h4 : cd (i + 1) ≤ 100) (h5 : cd (i + 2) = 61) (hg : giOk cd n (i + 3) i1 g) (hk : ∀ k, k < 6 * j → td1 k = td k)
    (t0 : td1 (6 * j) = nI (cd i - 48)) (t1 : td1 (6 * j + 1) = nI (cd (i + 1) - 97)) (t2 : td1 (6 * j + 2) = nI g) (t5 : td1 (6 * j + 5) = -1) (hs : ¬ (i1 < n ∧ 62 ≤ cd i1 ∧ cd i1 ≤ 62)) : paOk cd n i j td td1 i1 := by
  have hg' := hg
  obtain ⟨g1, g2, g3, g4, g5, -⟩ := hg'
  refine ⟨by omega, g2, hk, by omega, fun hn hc => ?_, fun b => ?_⟩
  · rw [stg_s]
    have hb : bgN (cd i1) = 10 := by unfold bgN; rw [if_neg hc, if_neg (by omega)]
    rcases g4 with q | q
    · rw [q]
      show (if _ then 5 else bgN (cd i1)) = 10
      rw [if_neg (fun r => g5 q ⟨hn, r⟩)]
      exact hb
    · rw [q]; exact hb
  · have e := mvGift h0 h1 h2 h3 h4 h5 hg b
    rw [e]
    exact ⟨⟨cd i - 48, cd (i + 1) - 97, g, by omega, by omega, g3, t0, t1, t2, Or.inl ⟨t5, rfl⟩⟩, rfl⟩
/-- behind the gift: the arrow, and whether the next sign can stand there -/
theorem mvArrow {cd : Nat → Nat} {n i i1 g : Nat} (hg : giOk cd n i i1 g) (hc : cd i1 = 62) : stg cd (i1 + 1) = 6 := by
  obtain ⟨-, -, -, g4, -, -⟩ := hg
  rw [stg_s, hc]
  rcases g4 with q | q <;> rw [q] <;> rfl
theorem paOk_2 {cd : Nat → Nat} {n i i1 j g : Nat} {td td1 : Nat → Int32} (h0 : stg cd i = 0) (h1 : 48 ≤ cd i) (h2 : cd i ≤ 51) (h3 : 97 ≤ cd (i + 1)) (h4 : cd (i + 1) ≤ 100) (h5 : cd (i + 2) = 61) (hg : giOk cd n (i + 3) i1 g) (hk : ∀ k, k < 6 * j → td1 k = td k)
    (t0 : td1 (6 * j) = nI (cd i - 48)) (t1 : td1 (6 * j + 1) = nI (cd (i + 1) - 97)) (t2 : td1 (6 * j + 2) = nI g) (t3 : td1 (6 * j + 3) = nI (cd (i1 + 1) - 97)) (t4 : td1 (6 * j + 4) = nI (cd (i1 + 2) - 97)) (t5 : td1 (6 * j + 5) = nI (cd (i1 + 3) - 48))
    (hc : cd i1 = 62) (c1 : 97 ≤ cd (i1 + 1) ∧ cd (i1 + 1) ≤ 100) (c2 : 97 ≤ cd (i1 + 2) ∧ cd (i1 + 2) ≤ 100) (c3 : 48 ≤ cd (i1 + 3) ∧ cd (i1 + 3) ≤ 56) (hn : i1 + 4 ≤ n) : paOk cd n i j td td1 (i1 + 4) := by
  have hg' := hg
  obtain ⟨g1, g2, g3, g4, g5, -⟩ := hg'
  have s6 := mvArrow hg hc
  have s7 : stg cd (i1 + 2) = 7 := by rw [stg_s, s6]; exact if_pos c1
  have s8 : stg cd (i1 + 3) = 8 := by rw [stg_s, s7]; exact if_pos c2
  have s9 : stg cd (i1 + 4) = 9 := by rw [stg_s, s8]; exact if_pos c3
  refine ⟨by omega, hn, hk, Or.inr (Or.inr s9), fun hn2 hc2 => ?_, fun b => ?_⟩
  · rw [stg_s, s9]
    exact if_neg hc2
  · have e := mvGift h0 h1 h2 h3 h4 h5 hg b
    have e2 : mvN cd b (i1 + 4) = mvStep 9 (cd (i1 + 3)) (mvStep 8 (cd (i1 + 2)) (mvStep 7 (cd (i1 + 1)) (mvStep 6 (cd i1) (mvN cd b i1)))) := by
      rw [mvN_s, s9, mvN_s, s8, mvN_s, s7, mvN_s, s6]
    rw [e2, e]
    exact ⟨⟨cd i - 48, cd (i + 1) - 97, g, by omega, by omega, g3, t0, t1, t2, Or.inr ⟨cd (i1 + 1) - 97, cd (i1 + 2) - 97, cd (i1 + 3) - 48, by omega, by omega, by omega, t3, t4, t5, rfl⟩⟩, rfl⟩
/-- how the parser's answer stands to the stages -/
def txOk (cd : Nat → Nat) (n j : Nat) (td : Nat → Int32) : Prop := wholeN cd n = true ∧ j ≤ 13 ∧ ∀ b, tdR td j b (mvN cd b n).2.2.2 ∧ (mvN cd b n).1 = j
def txBad (cd : Nat → Nat) (n i1 f : Nat) : Prop := wholeN cd n = false ∧ i1 ≤ n ∧ ((f = 0 ∧ errN cd n = n) ∨ (f = 1 ∧ errN cd n = i1))
theorem wholeN_10 {cd : Nat → Nat} {n : Nat} (h : stg cd n = 10) : wholeN cd n = false := decide_eq_false (by omega)
theorem txBad_of {cd : Nat → Nat} {n i1 f : Nat} (h : paBad cd n i1 f) : txBad cd n i1 f := by
  obtain ⟨h1, h2, h3⟩ := h
  rcases h3 with ⟨q1, q2, q3⟩ | ⟨q1, q2, q3⟩
  · subst q1
    exact ⟨q3, h1, Or.inl ⟨q2, errF_no h2 _ _ (by omega)⟩⟩
  · refine ⟨wholeN_10 ?_, h1, Or.inr ⟨q2, errF_at h2 q3 n 0 (by omega) (by omega)⟩⟩
    have := stg_10 q3 (n - (i1 + 1))
    rwa [show i1 + 1 + (n - (i1 + 1)) = n by omega] at this
theorem whole_err {cd : Nat → Nat} {n : Nat} (h : wholeN cd n = true) : errN cd n = n := errF_no (fun q => by rw [wholeN_10 q] at h; cases h) _ _ (by omega)
