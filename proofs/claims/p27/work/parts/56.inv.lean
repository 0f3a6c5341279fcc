/-! what holds of both sides at the head of the law's loop -/
def okS (b : Bd) : Prop := OkB b ∧ sumU b ≤ 9999
def okH (ph : Nat → Bd) (r n : Nat) : Prop := r < 6 ∧ n ≤ 6 ∧ ∀ j, j < n → okS (ph ((j + r) % 6))
theorem okH_keep {ph : Nat → Bd} {r n : Nat} {b : Bd} (h : okH ph r n) (hb : okS b) : okH (upB ph (kJ n r) b) (kR n r) (kC n) := by
  obtain ⟨h1, h2, h3⟩ := h
  unfold kJ kR kC
  by_cases e : n < 6
  · rw [if_pos e, if_pos e, if_pos e]
    refine ⟨h1, by omega, fun j hj => ?_⟩
    by_cases q : j = n
    · subst q; rw [upB_s]; exact hb
    · rw [upB_n (by omega)]; exact h3 j (by omega)
  · rw [if_neg e, if_neg e, if_neg e]
    refine ⟨by omega, Nat.le_refl 6, fun j hj => ?_⟩
    by_cases q : j = 5
    · subst q
      rw [show (5 + (r + 1) % 6) % 6 = r by omega, upB_s]; exact hb
    · rw [upB_n (by omega), show (j + (r + 1) % 6) % 6 = (j + 1 + r) % 6 by omega]
      exact h3 (j + 1) (by omega)
theorem okH_less {ph : Nat → Bd} {r n : Nat} (h : okH ph r n) : okH ph r (n - 1) := ⟨h.1, by have := h.2.1; omega, fun j hj => h.2.2 j (by omega)⟩
theorem okS_sg {b : Bd} {k g : Nat} (h : okS b) (hg : g ≤ 99) : okS (sg b (upN (bg b) k g)) := ⟨okB_sg h.1 hg, h.2⟩
theorem okS_way {b : Bd} {k x1 x2 x3 : Nat} (h : okS b) (h1 : x1 < 4) (h2 : x2 < 4) (h3 : x3 ≤ 8) : okS (setC (sb (so b (upN (bo b) k x1)) (upN (bb b) k x2)) (upN (bc b) k x3)) := by
  obtain ⟨⟨o1, o2, o3, o4, o5⟩, hu⟩ := h
  refine ⟨⟨fun j hj => ?_, o2, o3, o4, o5⟩, hu⟩
  obtain ⟨q1, q2, q3, q4⟩ := o1 j hj
  show bg b j ≤ 99 ∧ upN (bo b) k x1 j < 4 ∧ upN (bb b) k x2 j < 4 ∧ upN (bc b) k x3 j ≤ 8
  by_cases e : j = k
  · subst e; rw [upN_s, upN_s, upN_s]; exact ⟨q1, h1, h2, h3⟩
  · rw [upN_n e, upN_n e, upN_n e]; exact ⟨q1, q2, q3, q4⟩
theorem okS_sp {b : Bd} {a t : Nat} (h : okS b) (ht : t < 4) : okS (sp b (upN (bp b) a t)) := by
  obtain ⟨⟨o1, o2, o3, o4, o5⟩, hu⟩ := h
  refine ⟨⟨o1, fun j hj => ?_, o3, o4, o5⟩, hu⟩
  show upN (bp b) a t j < 4
  by_cases e : j = a
  · subst e; rw [upN_s]; exact ht
  · rw [upN_n e]; exact o2 j hj
theorem okS_ss {b : Bd} {k g : Nat} (h : okS b) (hk : k < 4) (h1 : leS k ≤ g) (h2 : g ≤ grS k) : okS (ss b (upN (bs b) k g)) := by
  obtain ⟨⟨o1, o2, ⟨q1, q2, q3, q4, q5⟩, o4, o5⟩, hu⟩ := h
  refine ⟨⟨o1, o2, ?_, o4, o5⟩, hu⟩
  show upN (bs b) k g 0 ≤ 99 ∧ 1 ≤ upN (bs b) k g 1 ∧ upN (bs b) k g 1 ≤ 60 ∧ upN (bs b) k g 2 ≤ 99 ∧ upN (bs b) k g 3 ≤ 1
  have e : k = 0 ∨ k = 1 ∨ k = 2 ∨ k = 3 := by omega
  rcases e with rfl | rfl | rfl | rfl
  · have h2 : g ≤ 99 := h2
    rw [upN_s, upN_n (by decide), upN_n (by decide), upN_n (by decide)]
    exact ⟨h2, q2, q3, q4, q5⟩
  · have h2 : g ≤ 60 := h2
    have h1 : 1 ≤ g := h1
    rw [upN_s, upN_n (by decide), upN_n (by decide), upN_n (by decide)]
    exact ⟨q1, h1, h2, q4, q5⟩
  · have h2 : g ≤ 99 := h2
    rw [upN_s, upN_n (by decide), upN_n (by decide), upN_n (by decide)]
    exact ⟨q1, q2, q3, h2, q5⟩
  · have h2 : g ≤ 1 := h2
    rw [upN_s, upN_n (by decide), upN_n (by decide), upN_n (by decide)]
    exact ⟨q1, q2, q3, q4, h2⟩
theorem bu_restN (b : Bd) (arm : Nat) : ∀ o, bu (restN b arm o) = bu b
  | 0 => rfl
  | o + 1 => by
    rw [restN]
    unfold rest1
    split
    · exact bu_restN b arm o
    · exact bu_restN b arm o
theorem bu_pulB (b : Bd) (a : Nat) : bu (pulB b a) = upN (bu b) a (bu b a + 1) := by
  unfold pulB
  split
  · rw [bu_restN]; rfl
  · rfl
theorem sumU_pul (b : Bd) {a : Nat} (ha : a < 4) : sumU (pulB b a) = sumU b + 1 := by
  unfold sumU
  rw [bu_pulB]
  have e : a = 0 ∨ a = 1 ∨ a = 2 ∨ a = 3 := by omega
  rcases e with rfl | rfl | rfl | rfl <;> rw [upN_s, upN_n (by decide), upN_n (by decide), upN_n (by decide)] <;> omega
theorem okS_pul {b : Bd} {a : Nat} (h : okS b) (ha : a < 4) (hU : sumU b < 9999) : okS (pulB b a) := ⟨okB_pulB h.1 a ha, by rw [sumU_pul b ha]; omega⟩
theorem sumU_pl {b : Bd} (hB : OkB b) (T : Nat → Nat) (rule : Nat) : ∀ k, sumU (plN b T rule k) = sumU b + k
  | 0 => rfl
  | k + 1 => by
    rw [plN, sumU_pul _ (choN_lt (okB_plN hB T rule k) T rule), sumU_pl hB T rule k]
    omega
theorem okS_pl {b : Bd} {T : Nat → Nat} {rule k : Nat} (h : okS b) (hU : sumU b + k ≤ 9999) : okS (plN b T rule k) := ⟨okB_plN h.1 T rule k, by rw [sumU_pl h.1]; exact hU⟩
theorem okS_beg {b : Bd} {x : Int64} (h : okS b) : okS (begB b x) := by
  obtain ⟨⟨o1, o2, o3, o4, o5⟩, hu⟩ := h
  refine ⟨⟨o1, fun k hk => ?_, o3, by show 0 ≤ 4; omega, by show 1000000 ≤ 1000000; omega⟩, ?_⟩
  · show upN (upN (upN (upN (bp b) 0 0) 1 0) 2 0) 3 0 k < 4
    have e : k = 0 ∨ k = 1 ∨ k = 2 ∨ k = 3 := by omega
    rcases e with rfl | rfl | rfl | rfl
    · rw [upN_n (by decide), upN_n (by decide), upN_n (by decide), upN_s]; omega
    · rw [upN_n (by decide), upN_n (by decide), upN_s]; omega
    · rw [upN_n (by decide), upN_s]; omega
    · rw [upN_s]; omega
  · show upN (upN (upN (upN (bu b) 0 0) 1 0) 2 0) 3 0 0 + upN (upN (upN (upN (bu b) 0 0) 1 0) 2 0) 3 0 1 + upN (upN (upN (upN (bu b) 0 0) 1 0) 2 0) 3 0 2 + upN (upN (upN (upN (bu b) 0 0) 1 0) 2 0) 3 0 3 ≤ 9999
    have e0 : upN (upN (upN (upN (bu b) 0 0) 1 0) 2 0) 3 0 0 = 0 := by rw [upN_n (by decide), upN_n (by decide), upN_n (by decide), upN_s]
    have e1 : upN (upN (upN (upN (bu b) 0 0) 1 0) 2 0) 3 0 1 = 0 := by rw [upN_n (by decide), upN_n (by decide), upN_s]
    have e2 : upN (upN (upN (upN (bu b) 0 0) 1 0) 2 0) 3 0 2 = 0 := by rw [upN_n (by decide), upN_s]
    have e3 : upN (upN (upN (upN (bu b) 0 0) 1 0) 2 0) 3 0 3 = 0 := upN_s _ _ _
    rw [e0, e1, e2, e3]
    omega
theorem frB_of {b c : Bd} {t f : Nat → Nat} (h : frB b t f) (e : ixOf c = ixOf b) : frB c t f := ⟨fun k hk hf s hs => by rw [h.1 k hk hf s hs, ← idxT_at b k hs, ← idxT_of e, idxT_at c k hs], h.2⟩
theorem frB_0 (c : Bd) (t f : Nat → Nat) : frB c t (upN (upN (upN (upN f 0 0) 1 0) 2 0) 3 0) := by
  have e : ∀ k, k < 4 → upN (upN (upN (upN f 0 0) 1 0) 2 0) 3 0 k = 0 := by
    intro k hk
    have e : k = 0 ∨ k = 1 ∨ k = 2 ∨ k = 3 := by omega
    rcases e with rfl | rfl | rfl | rfl
    · rw [upN_n (by decide), upN_n (by decide), upN_n (by decide), upN_s]
    · rw [upN_n (by decide), upN_n (by decide), upN_s]
    · rw [upN_n (by decide), upN_s]
    · rw [upN_s]
  exact ⟨fun k hk hf => absurd (e k hk) hf, fun k hk => by rw [e k hk]; omega⟩
theorem frB_arm {b c : Bd} {t f : Nat → Nat} {a : Nat} (hB : OkB b) (h : frB b t f) (hs : bs c = bs b) (hg : ∀ j, ¬ (4 * a ≤ j ∧ j < 4 * a + 4) → bg c j = bg b j ∧ bo c j = bo b j ∧ bb c j = bb b j ∧ bc c j = bc b j) : frB c t (upN f a 0) := by
  refine ⟨fun k hk hf s hs4 => ?_, fun k hk => ?_⟩
  · by_cases e : k = a
    · subst e; rw [upN_s] at hf; exact absurd rfl hf
    · rw [upN_n e] at hf
      rw [h.1 k hk hf s hs4]
      have key : ∀ u, u < 4 → ¬ (4 * a ≤ 4 * k + u ∧ 4 * k + u < 4 * a + 4) := fun u hu => by omega
      exact (idx_eq hB hk hs4 (by rw [hs]) (by rw [hs]) (fun u hu => (hg _ (key u hu)).1) (fun u hu => (hg _ (key u hu)).2.1) (fun u hu => (hg _ (key u hu)).2.2.1) (fun u hu => (hg _ (key u hu)).2.2.2)).symm
  · by_cases e : k = a
    · subst e; rw [upN_s]; omega
    · rw [upN_n e]; exact h.2 k hk
theorem frB_gift {b : Bd} {t f : Nat → Nat} {a u g : Nat} (hB : OkB b) (h : frB b t f) (hu : u < 4) : frB (sg b (upN (bg b) (4 * a + u) g)) t (upN f a 0) :=
  frB_arm hB h rfl (fun j hj => ⟨upN_n (by omega), rfl, rfl, rfl⟩)
theorem frB_way {b : Bd} {t f : Nat → Nat} {a u x1 x2 x3 : Nat} (hB : OkB b) (h : frB b t f) (hu : u < 4) : frB (setC (sb (so b (upN (bo b) (4 * a + u) x1)) (upN (bb b) (4 * a + u) x2)) (upN (bc b) (4 * a + u) x3)) t (upN f a 0) :=
  frB_arm hB h rfl (fun j hj => ⟨rfl, upN_n (by omega), upN_n (by omega), upN_n (by omega)⟩)
theorem frB_pl (b : Bd) (rule k : Nat) : frB (plN b (idxT b) rule k) (idxT b) (fun _ => 1) := frB_of (frB_1 b) (ixOf_plN b (idxT b) rule k)
/-! which arguments are in range -/
theorem grS_le (k : Nat) : grS k ≤ 99 := by unfold grS; (repeat' split) <;> omega
theorem leS_le (k : Nat) : leS k ≤ grS k := by unfold grS leS; (repeat' split) <;> omega
