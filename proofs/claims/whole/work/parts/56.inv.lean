/-! what holds of both sides at the head of the law's loop -/
def okS (b : Bd) : Prop := OkB b ∧ sumU b ≤ 9999
def okH (ph : Nat → Bd) (r n : Nat) : Prop := r < 6 ∧ n ≤ 6 ∧ ∀ j, j < n → okS (ph ((j + r) % 6))
def okX (b : Bd) (ph : Nat → Bd) (r n : Nat) (t f : Nat → Nat) (y : Nat) (cd : Nat → Nat) (pa : Nat → Int64) : Prop := okS b ∧ okH ph r n ∧ frB b t f ∧ y ≤ 60 ∧ (∀ k, k < y → cd k < 2 ^ 31) ∧ mH ph r n pa
theorem okH_keep {ph : Nat → Bd} {r n : Nat} {b : Bd} (h : okH ph r n) (hb : okS b) : okH (upB ph (kJ n r) b) (kR n r) (kC n) := by
  obtain ⟨h1, h2, h3⟩ := h
  unfold kJ kR kC
  by_cases e : n < 6
  · rw [if_pos e, if_pos e, if_pos e]
    refine ⟨h1, by omega, fun j hj => ?_⟩
    by_cases q : j = n
    · subst q; rw [upB_s]; exact hb
    · rw [upB_n (by omega)]; exact h3 j (by omega)
  · rw [if_neg e, if_neg e, if_neg e]
    refine ⟨by omega, Nat.le_refl 6, fun j hj => ?_⟩
    by_cases q : j = 5
    · subst q
      rw [show (5 + (r + 1) % 6) % 6 = r by omega, upB_s]; exact hb
    · rw [upB_n (by omega), show (j + (r + 1) % 6) % 6 = (j + 1 + r) % 6 by omega]
      exact h3 (j + 1) (by omega)
theorem okH_less {ph : Nat → Bd} {r n : Nat} (h : okH ph r n) : okH ph r (n - 1) := ⟨h.1, by have := h.2.1; omega, fun j hj => h.2.2 j (by omega)⟩
theorem okS_sg {b : Bd} {k g : Nat} (h : okS b) (hg : g ≤ 99) : okS (sg b (upN (bg b) k g)) := ⟨okB_sg h.1 hg, h.2⟩
theorem okS_way {b : Bd} {k x1 x2 x3 : Nat} (h : okS b) (h1 : x1 < 4) (h2 : x2 < 4) (h3 : x3 ≤ 8) : okS (setC (sb (so b (upN (bo b) k x1)) (upN (bb b) k x2)) (upN (bc b) k x3)) := by
  obtain ⟨⟨o1, o2, o3, o4, o5⟩, hu⟩ := h
  refine ⟨⟨fun j hj => ?_, o2, o3, o4, o5⟩, hu⟩
  obtain ⟨q1, q2, q3, q4⟩ := o1 j hj
  show bg b j ≤ 99 ∧ upN (bo b) k x1 j < 4 ∧ upN (bb b) k x2 j < 4 ∧ upN (bc b) k x3 j ≤ 8
  by_cases e : j = k
  · subst e; rw [upN_s, upN_s, upN_s]; exact ⟨q1, h1, h2, h3⟩
  · rw [upN_n e, upN_n e, upN_n e]; exact ⟨q1, q2, q3, q4⟩
theorem okS_sp {b : Bd} {a t : Nat} (h : okS b) (ht : t < 4) : okS (sp b (upN (bp b) a t)) := by
  obtain ⟨⟨o1, o2, o3, o4, o5⟩, hu⟩ := h
  refine ⟨⟨o1, fun j hj => ?_, o3, o4, o5⟩, hu⟩
  show upN (bp b) a t j < 4
  by_cases e : j = a
  · subst e; rw [upN_s]; exact ht
  · rw [upN_n e]; exact o2 j hj
theorem okS_ss {b : Bd} {k g : Nat} (h : okS b) (hk : k < 4) (h1 : leS k ≤ g) (h2 : g ≤ grS k) : okS (ss b (upN (bs b) k g)) := by
  obtain ⟨⟨o1, o2, ⟨q1, q2, q3, q4, q5⟩, o4, o5⟩, hu⟩ := h
  refine ⟨⟨o1, o2, ?_, o4, o5⟩, hu⟩
  show upN (bs b) k g 0 ≤ 99 ∧ 1 ≤ upN (bs b) k g 1 ∧ upN (bs b) k g 1 ≤ 60 ∧ upN (bs b) k g 2 ≤ 99 ∧ upN (bs b) k g 3 ≤ 1
  have e : k = 0 ∨ k = 1 ∨ k = 2 ∨ k = 3 := by omega
  rcases e with rfl | rfl | rfl | rfl
  · have h2 : g ≤ 99 := h2
    rw [upN_s, upN_n (by decide), upN_n (by decide), upN_n (by decide)]
    exact ⟨h2, q2, q3, q4, q5⟩
  · have h2 : g ≤ 60 := h2
    have h1 : 1 ≤ g := h1
    rw [upN_s, upN_n (by decide), upN_n (by decide), upN_n (by decide)]
    exact ⟨q1, h1, h2, q4, q5⟩
  · have h2 : g ≤ 99 := h2
    rw [upN_s, upN_n (by decide), upN_n (by decide), upN_n (by decide)]
    exact ⟨q1, q2, q3, h2, q5⟩
  · have h2 : g ≤ 1 := h2
    rw [upN_s, upN_n (by decide), upN_n (by decide), upN_n (by decide)]
    exact ⟨q1, q2, q3, q4, h2⟩
theorem bu_restN (b : Bd) (arm : Nat) : ∀ o, bu (restN b arm o) = bu b
  | 0 => rfl
  | o + 1 => by
    rw [restN]
    unfold rest1
    split
    · exact bu_restN b arm o
    · exact bu_restN b arm o
theorem bu_pulB (b : Bd) (a : Nat) : bu (pulB b a) = upN (bu b) a (bu b a + 1) := by
  unfold pulB
  split
  · rw [bu_restN]; rfl
  · rfl
theorem sumU_pul (b : Bd) {a : Nat} (ha : a < 4) : sumU (pulB b a) = sumU b + 1 := by
  unfold sumU
  rw [bu_pulB]
  have e : a = 0 ∨ a = 1 ∨ a = 2 ∨ a = 3 := by omega
  rcases e with rfl | rfl | rfl | rfl <;> rw [upN_s, upN_n (by decide), upN_n (by decide), upN_n (by decide)] <;> omega
theorem okS_pul {b : Bd} {a : Nat} (h : okS b) (ha : a < 4) (hU : sumU b < 9999) : okS (pulB b a) := ⟨okB_pulB h.1 a ha, by rw [sumU_pul b ha]; omega⟩
theorem sumU_pl {b : Bd} (hB : OkB b) (T : Nat → Nat) (rule : Nat) : ∀ k, sumU (plN b T rule k) = sumU b + k
  | 0 => rfl
  | k + 1 => by
    rw [plN, sumU_pul _ (choN_lt (okB_plN hB T rule k) T rule), sumU_pl hB T rule k]
    omega
theorem okS_pl {b : Bd} {T : Nat → Nat} {rule k : Nat} (h : okS b) (hU : sumU b + k ≤ 9999) : okS (plN b T rule k) := ⟨okB_plN h.1 T rule k, by rw [sumU_pl h.1]; exact hU⟩
theorem okS_beg {b : Bd} {x : Int64} (h : okS b) : okS (begB b x) := by
  obtain ⟨⟨o1, o2, o3, o4, o5⟩, hu⟩ := h
  refine ⟨⟨o1, fun k hk => ?_, o3, by show 0 ≤ 4; omega, by show 1000000 ≤ 1000000; omega⟩, ?_⟩
  · show upN (upN (upN (upN (bp b) 0 0) 1 0) 2 0) 3 0 k < 4
    have e : k = 0 ∨ k = 1 ∨ k = 2 ∨ k = 3 := by omega
    rcases e with rfl | rfl | rfl | rfl
    · rw [upN_n (by decide), upN_n (by decide), upN_n (by decide), upN_s]; omega
    · rw [upN_n (by decide), upN_n (by decide), upN_s]; omega
    · rw [upN_n (by decide), upN_s]; omega
    · rw [upN_s]; omega
  · show upN (upN (upN (upN (bu b) 0 0) 1 0) 2 0) 3 0 0 + upN (upN (upN (upN (bu b) 0 0) 1 0) 2 0) 3 0 1 + upN (upN (upN (upN (bu b) 0 0) 1 0) 2 0) 3 0 2 + upN (upN (upN (upN (bu b) 0 0) 1 0) 2 0) 3 0 3 ≤ 9999
    have e0 : upN (upN (upN (upN (bu b) 0 0) 1 0) 2 0) 3 0 0 = 0 := by rw [upN_n (by decide), upN_n (by decide), upN_n (by decide), upN_s]
    have e1 : upN (upN (upN (upN (bu b) 0 0) 1 0) 2 0) 3 0 1 = 0 := by rw [upN_n (by decide), upN_n (by decide), upN_s]
    have e2 : upN (upN (upN (upN (bu b) 0 0) 1 0) 2 0) 3 0 2 = 0 := by rw [upN_n (by decide), upN_s]
    have e3 : upN (upN (upN (upN (bu b) 0 0) 1 0) 2 0) 3 0 3 = 0 := upN_s _ _ _
    rw [e0, e1, e2, e3]
    omega
/-- what is read of a text keeps the ranges -/
def okM (g : Nat) (x : Nat × Nat × Nat × Bd) : Prop := okS x.2.2.2 ∧ x.2.1 < 4 ∧ x.2.2.1 < 16 ∧ (g = 3 → bg x.2.2.2 x.2.2.1 = 0) ∧ (g = 4 → bg x.2.2.2 x.2.2.1 ≤ 9)
theorem nst_4 {g c : Nat} (h : nst g c = 4) : g = 3 := by
  unfold nst bgN fdN at h
  split at h <;> (repeat' split at h) <;> first | omega | rfl
theorem nst_3 {g c : Nat} (h : nst g c = 3) : g = 2 := by
  unfold nst bgN fdN at h
  split at h <;> (repeat' split at h) <;> first | omega | rfl
theorem nst_5 {g c : Nat} (h : nst g c = 5) : (g = 3 ∧ c = 48) ∨ g = 4 := by
  unfold nst bgN fdN at h
  split at h <;> (repeat' split at h) <;> omega
theorem okM_s {g c : Nat} {x : Nat × Nat × Nat × Bd} (h : okM g x) : okM (nst g c) (mvStep (nst g c) c x) := by
  obtain ⟨h1, h2, h3, h4, h5⟩ := h
  obtain ⟨p0, a0, s0, B⟩ := x
  have h1 : okS B := h1
  have h2 : a0 < 4 := h2
  have h3 : s0 < 16 := h3
  have hle := nst_le g c
  generalize hn : nst g c = g2 at hle
  have cs : g2 = 0 ∨ g2 = 1 ∨ g2 = 2 ∨ g2 = 3 ∨ g2 = 4 ∨ g2 = 5 ∨ g2 = 6 ∨ g2 = 7 ∨ g2 = 8 ∨ g2 = 9 ∨ g2 = 10 := by omega
  rcases cs with e | e | e | e | e | e | e | e | e | e | e <;> subst e
  · exact ⟨h1, h2, h3, fun q => by omega, fun q => by omega⟩
  · have := nst_1 hn
    exact ⟨h1, by show c - 48 < 4; omega, h3, fun q => by omega, fun q => by omega⟩
  · have := nst_2 hn
    exact ⟨h1, h2, by show 4 * a0 + (c - 97) < 16; omega, fun q => by omega, fun q => by omega⟩
  · exact ⟨okS_sg h1 (by omega), h2, h3, fun _ => upN_s _ _ _, fun q => by omega⟩
  · have e3 := nst_4 hn
    have hc := nst_45 (Or.inl hn)
    have h0 : bg B s0 = 0 := h4 e3
    have hv : 10 * bg B s0 + c - 48 ≤ 9 := by rw [h0]; omega
    exact ⟨okS_sg h1 (by omega), h2, h3, fun q => by omega, fun _ => by show upN (bg B) s0 (10 * bg B s0 + c - 48) s0 ≤ 9; rw [upN_s]; exact hv⟩
  · have hc := nst_45 (Or.inr hn)
    have hv : 10 * bg B s0 + c - 48 ≤ 99 := by
      rcases nst_5 hn with ⟨e3, e4⟩ | e4
      · have h0 : bg B s0 = 0 := h4 e3
        rw [h0]; omega
      · have h0 : bg B s0 ≤ 9 := h5 e4
        omega
    exact ⟨okS_sg h1 hv, h2, h3, fun q => by omega, fun q => by omega⟩
  · exact ⟨h1, h2, h3, fun q => by omega, fun q => by omega⟩
  · have := nst_78 (Or.inl hn)
    refine ⟨?_, h2, h3, fun q => by omega, fun q => by omega⟩
    obtain ⟨⟨o1, o2, o3, o4, o5⟩, hu⟩ := h1
    refine ⟨⟨fun j hj => ?_, o2, o3, o4, o5⟩, hu⟩
    obtain ⟨q1, q2, q3, q4⟩ := o1 j hj
    show bg B j ≤ 99 ∧ upN (bo B) s0 (c - 97) j < 4 ∧ bb B j < 4 ∧ bc B j ≤ 8
    by_cases e : j = s0
    · subst e; rw [upN_s]; exact ⟨q1, by omega, q3, q4⟩
    · rw [upN_n e]; exact ⟨q1, q2, q3, q4⟩
  · have := nst_78 (Or.inr hn)
    refine ⟨?_, h2, h3, fun q => by omega, fun q => by omega⟩
    obtain ⟨⟨o1, o2, o3, o4, o5⟩, hu⟩ := h1
    refine ⟨⟨fun j hj => ?_, o2, o3, o4, o5⟩, hu⟩
    obtain ⟨q1, q2, q3, q4⟩ := o1 j hj
    show bg B j ≤ 99 ∧ bo B j < 4 ∧ upN (bb B) s0 (c - 97) j < 4 ∧ bc B j ≤ 8
    by_cases e : j = s0
    · subst e; rw [upN_s]; exact ⟨q1, q2, by omega, q4⟩
    · rw [upN_n e]; exact ⟨q1, q2, q3, q4⟩
  · have := nst_9 hn
    refine ⟨?_, h2, h3, fun q => by omega, fun q => by omega⟩
    obtain ⟨⟨o1, o2, o3, o4, o5⟩, hu⟩ := h1
    refine ⟨⟨fun j hj => ?_, o2, o3, o4, o5⟩, hu⟩
    obtain ⟨q1, q2, q3, q4⟩ := o1 j hj
    show bg B j ≤ 99 ∧ bo B j < 4 ∧ bb B j < 4 ∧ upN (bc B) s0 (c - 48) j ≤ 8
    by_cases e : j = s0
    · subst e; rw [upN_s]; exact ⟨q1, q2, q3, by omega⟩
    · rw [upN_n e]; exact ⟨q1, q2, q3, q4⟩
  · exact ⟨h1, h2, h3, fun q => by omega, fun q => by omega⟩
theorem okM_all {cd : Nat → Nat} {b : Bd} (h : okS b) : ∀ i, okM (stg cd i) (mvN cd b i)
  | 0 => ⟨h, by show 0 < 4; omega, by show 0 < 16; omega, fun q => absurd (show (0 : Nat) = 3 from q) (by decide), fun q => absurd (show (0 : Nat) = 4 from q) (by decide)⟩
  | i + 1 => okM_s (okM_all h i)
theorem okS_mv {cd : Nat → Nat} {b : Bd} (h : okS b) (i : Nat) : okS (mvN cd b i).2.2.2 := (okM_all h i).1
theorem frB_of {b c : Bd} {t f : Nat → Nat} (h : frB b t f) (e : ixOf c = ixOf b) : frB c t f := ⟨fun k hk hf s hs => by rw [h.1 k hk hf s hs, ← idxT_at b k hs, ← idxT_of e, idxT_at c k hs], h.2⟩
theorem frB_0 (c : Bd) (t f : Nat → Nat) : frB c t (upN (upN (upN (upN f 0 0) 1 0) 2 0) 3 0) := by
  have e : ∀ k, k < 4 → upN (upN (upN (upN f 0 0) 1 0) 2 0) 3 0 k = 0 := by
    intro k hk
    have e : k = 0 ∨ k = 1 ∨ k = 2 ∨ k = 3 := by omega
    rcases e with rfl | rfl | rfl | rfl
    · rw [upN_n (by decide), upN_n (by decide), upN_n (by decide), upN_s]
    · rw [upN_n (by decide), upN_n (by decide), upN_s]
    · rw [upN_n (by decide), upN_s]
    · rw [upN_s]
  exact ⟨fun k hk hf => absurd (e k hk) hf, fun k hk => by rw [e k hk]; omega⟩
theorem frB_arm {b c : Bd} {t f : Nat → Nat} {a : Nat} (hB : OkB b) (h : frB b t f) (hs : bs c = bs b) (hg : ∀ j, ¬ (4 * a ≤ j ∧ j < 4 * a + 4) → bg c j = bg b j ∧ bo c j = bo b j ∧ bb c j = bb b j ∧ bc c j = bc b j) : frB c t (upN f a 0) := by
  refine ⟨fun k hk hf s hs4 => ?_, fun k hk => ?_⟩
  · by_cases e : k = a
    · subst e; rw [upN_s] at hf; exact absurd rfl hf
    · rw [upN_n e] at hf
      rw [h.1 k hk hf s hs4]
      have key : ∀ u, u < 4 → ¬ (4 * a ≤ 4 * k + u ∧ 4 * k + u < 4 * a + 4) := fun u hu => by omega
      exact (idx_eq hB hk hs4 (by rw [hs]) (by rw [hs]) (fun u hu => (hg _ (key u hu)).1) (fun u hu => (hg _ (key u hu)).2.1) (fun u hu => (hg _ (key u hu)).2.2.1) (fun u hu => (hg _ (key u hu)).2.2.2)).symm
  · by_cases e : k = a
    · subst e; rw [upN_s]; omega
    · rw [upN_n e]; exact h.2 k hk
theorem frB_gift {b : Bd} {t f : Nat → Nat} {a u g : Nat} (hB : OkB b) (h : frB b t f) (hu : u < 4) : frB (sg b (upN (bg b) (4 * a + u) g)) t (upN f a 0) :=
  frB_arm hB h rfl (fun j hj => ⟨upN_n (by omega), rfl, rfl, rfl⟩)
theorem frB_way {b : Bd} {t f : Nat → Nat} {a u x1 x2 x3 : Nat} (hB : OkB b) (h : frB b t f) (hu : u < 4) : frB (setC (sb (so b (upN (bo b) (4 * a + u) x1)) (upN (bb b) (4 * a + u) x2)) (upN (bc b) (4 * a + u) x3)) t (upN f a 0) :=
  frB_arm hB h rfl (fun j hj => ⟨rfl, upN_n (by omega), upN_n (by omega), upN_n (by omega)⟩)
theorem frB_pl (b : Bd) (rule k : Nat) : frB (plN b (idxT b) rule k) (idxT b) (fun _ => 1) := frB_of (frB_1 b) (ixOf_plN b (idxT b) rule k)
/-! which arguments are in range -/
theorem cl1 (x : Int32) {lo hi : Nat} (hh : hi < 2 ^ 31) (hl : lo ≤ hi) : decide (nI lo ≤ x ∧ x ≤ nI hi) = false ∨ ∃ a, x = nI a ∧ lo ≤ a ∧ a ≤ hi := by
  cases h : decide (nI lo ≤ x ∧ x ≤ nI hi) with
  | false => exact Or.inl rfl
  | true => exact Or.inr (inX hh h hl)
theorem cl2 (x y : Int32) : (decide (nI 0 ≤ x ∧ x ≤ nI 3) && decide (nI 0 ≤ y ∧ y ≤ nI 3)) = false ∨ ∃ a t, x = nI a ∧ y = nI t ∧ a < 4 ∧ t < 4 := by
  rcases cl1 x (lo := 0) (hi := 3) (by decide) (by decide) with h | ⟨a, h1, h2, h3⟩
  · exact Or.inl (by rw [h, Bool.false_and])
  · rcases cl1 y (lo := 0) (hi := 3) (by decide) (by decide) with h | ⟨t, h4, h5, h6⟩
    · exact Or.inl (by rw [h, Bool.and_false])
    · exact Or.inr ⟨a, t, h1, h4, by omega, by omega⟩
theorem inD {lo hi a : Nat} (h1 : lo ≤ a) (h2 : a ≤ hi) (h3 : hi < 2 ^ 31) : decide (nI lo ≤ nI a ∧ nI a ≤ nI hi) = true := inT h1 h2 h3
theorem grS_le (k : Nat) : grS k ≤ 99 := by unfold grS; (repeat' split) <;> omega
theorem leS_le (k : Nat) : leS k ≤ grS k := by unfold grS leS; (repeat' split) <;> omega
theorem sw32 (x : Int32) : ∃ k, k < 32 ∧ x &&& nI 31 = nI k := by
  have h : (x &&& nI 31).toBitVec = x.toBitVec &&& (BitVec.ofNat 32 31) := rfl
  have h2 : ((x &&& nI 31).toBitVec).toNat < 32 := by
    rw [h, BitVec.toNat_and]
    exact Nat.lt_of_le_of_lt Nat.and_le_right (by decide)
  refine ⟨(x &&& nI 31).toBitVec.toNat, h2, ?_⟩
  apply Int32.toBitVec_inj.mp
  show (x &&& nI 31).toBitVec = BitVec.ofNat 32 _
  rw [BitVec.ofNat_toNat, BitVec.setWidth_eq]
theorem lwEnd {L a : Nat} (hL : L ≤ 3072) (ha : a < 2 ^ 30) (h : ¬ nI L - nI 6 < nI a) : a + 6 ≤ L := by
  rcases Nat.lt_or_ge L 6 with q | q
  · refine absurd ?_ h
    have h0 : nI L - nI 6 < 0 := by
      have e : L = 0 ∨ L = 1 ∨ L = 2 ∨ L = 3 ∨ L = 4 ∨ L = 5 := by omega
      rcases e with rfl | rfl | rfl | rfl | rfl | rfl <;> decide
    exact Int32.lt_of_lt_of_le h0 (nI_pos' (by omega))
  · rw [pk_sub q] at h
    have := q_ngt' (a := a) (b := L - 6) (by omega) (by omega) h
    omega
