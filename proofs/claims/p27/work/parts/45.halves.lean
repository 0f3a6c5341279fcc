/-! an index depends on its own arm alone, and never falls with a greater gift -/
theorem vals_le {b c : Bd} {a h : Nat} (hh : h < 4) (hok : ∀ t, t < 4 → bo b (4 * a + t) < 4 ∧ bb b (4 * a + t) < 4) (hs : bs c 0 = bs b 0) (hg : ∀ t, t < 4 → bg b (4 * a + t) ≤ bg c (4 * a + t)) (ho : ∀ t, t < 4 → bo c (4 * a + t) = bo b (4 * a + t)) (hb : ∀ t, t < 4 → bb c (4 * a + t) = bb b (4 * a + t)) (hc : ∀ t, t < 4 → bc c (4 * a + t) = bc b (4 * a + t)) :
    ∀ i t, t < 4 → valsN b a h i t ≤ valsN c a h i t
  | 0, _, _ => Nat.le_refl _
  | i + 1, t, ht => by
    have ih := vals_le hh hok hs hg ho hb hc i
    have own : ∀ u, u < 4 → ownN b a (valsN b a h i) u ≤ ownN c a (valsN c a h i) u := by
      intro u hu
      obtain ⟨o1, o2⟩ := hok u hu
      unfold ownN expN
      rw [hs, ho u hu, hb u hu, hc u hu]
      have e1 : 1000 * bg b (4 * a + u) ≤ 1000 * bg c (4 * a + u) := Nat.mul_le_mul_left _ (hg u hu)
      have e2 : (bc b (4 * a + u) * valsN b a h i (bo b (4 * a + u)) + (8 - bc b (4 * a + u)) * valsN b a h i (bb b (4 * a + u))) / 8 ≤ (bc b (4 * a + u) * valsN c a h i (bo b (4 * a + u)) + (8 - bc b (4 * a + u)) * valsN c a h i (bb b (4 * a + u))) / 8 :=
        Nat.div_le_div_right (Nat.add_le_add (Nat.mul_le_mul_left _ (ih _ o1)) (Nat.mul_le_mul_left _ (ih _ o2)))
      exact Nat.add_le_add e1 (Nat.div_le_div_right (Nat.mul_le_mul_left _ e2))
    show max _ _ ≤ max _ _
    have h1 := own t ht
    have h2 := own h hh
    omega
theorem idx_le {b c : Bd} {a h : Nat} (hh : h < 4) (hok : ∀ t, t < 4 → bo b (4 * a + t) < 4 ∧ bb b (4 * a + t) < 4) (hs : bs c 0 = bs b 0) (hs1 : bs c 1 = bs b 1) (hg : ∀ t, t < 4 → bg b (4 * a + t) ≤ bg c (4 * a + t)) (ho : ∀ t, t < 4 → bo c (4 * a + t) = bo b (4 * a + t)) (hb : ∀ t, t < 4 → bb c (4 * a + t) = bb b (4 * a + t)) (hc : ∀ t, t < 4 → bc c (4 * a + t) = bc b (4 * a + t)) : idxN b a h ≤ idxN c a h := by
  unfold idxN ixN
  rw [hs, hs1]
  exact Nat.div_le_div_right (Nat.mul_le_mul_left _ (vals_le hh hok hs hg ho hb hc _ h hh))
theorem idx_eq {b c : Bd} (hB : OkB b) {a h : Nat} (ha : a < 4) (hh : h < 4) (hs : bs c 0 = bs b 0) (hs1 : bs c 1 = bs b 1) (hg : ∀ t, t < 4 → bg c (4 * a + t) = bg b (4 * a + t)) (ho : ∀ t, t < 4 → bo c (4 * a + t) = bo b (4 * a + t)) (hb : ∀ t, t < 4 → bb c (4 * a + t) = bb b (4 * a + t)) (hc : ∀ t, t < 4 → bc c (4 * a + t) = bc b (4 * a + t)) : idxN c a h = idxN b a h := by
  have hok : ∀ t, t < 4 → bo b (4 * a + t) < 4 ∧ bb b (4 * a + t) < 4 := fun t ht => ⟨(hB.1 _ (by omega)).2.1, (hB.1 _ (by omega)).2.2.1⟩
  refine Nat.le_antisymm ?_ ?_
  · exact idx_le hh (fun t ht => by rw [ho t ht, hb t ht]; exact hok t ht) hs.symm hs1.symm (fun t ht => Nat.le_of_eq (hg t ht)) (fun t ht => (ho t ht).symm) (fun t ht => (hb t ht).symm) (fun t ht => (hc t ht).symm)
  · exact idx_le hh hok hs hs1 (fun t ht => Nat.le_of_eq (hg t ht).symm) ho hb hc
/-! which of four scores is chosen -/
theorem gs_inv (z : Nat → Int) (s : Nat) : ∀ i, (∀ k, k < i → z k ≤ z (gsN z s i)) ∧ z s ≤ z (gsN z s i) ∧ (gsN z s i = s ∨ (z s < z (gsN z s i) ∧ gsN z s i < i ∧ ∀ k, k < gsN z s i → z k < z (gsN z s i)))
  | 0 => ⟨fun k hk => absurd hk (Nat.not_lt_zero _), Int.le_refl _, Or.inl rfl⟩
  | i + 1 => by
    obtain ⟨h1, h2, h3⟩ := gs_inv z s i
    show _ ∧ z s ≤ z (if z (gsN z s i) < z i then i else gsN z s i) ∧ _
    by_cases e : z (gsN z s i) < z i
    · have e2 : gsN z s (i + 1) = i := by rw [gsN, if_pos e]
      rw [e2, if_pos e]
      refine ⟨fun k hk => ?_, by omega, Or.inr ⟨by omega, by omega, fun k hk => ?_⟩⟩
      · by_cases q : k = i
        · subst q; exact Int.le_refl _
        · have := h1 k (by omega); omega
      · have := h1 k hk; omega
    · have e2 : gsN z s (i + 1) = gsN z s i := by rw [gsN, if_neg e]
      rw [e2, if_neg e]
      refine ⟨fun k hk => ?_, h2, ?_⟩
      · by_cases q : k = i
        · subst q; omega
        · exact h1 k (by omega)
      · rcases h3 with q | ⟨q1, q2, q3⟩
        · exact Or.inl q
        · exact Or.inr ⟨q1, by omega, q3⟩
def gsC (z : Nat → Int) (s a : Nat) : Prop := (a = s ∧ ∀ k, k < 4 → z k ≤ z s) ∨ (z s < z a ∧ (∀ k, k < a → z k < z a) ∧ ∀ k, k < 4 → z k ≤ z a)
theorem gs_C {z : Nat → Int} {s a : Nat} (h : gsN z s 4 = a) : gsC z s a := by
  obtain ⟨h1, h2, h3⟩ := gs_inv z s 4
  rw [h] at h1 h2 h3
  rcases h3 with q | ⟨q1, q2, q3⟩
  · subst q; exact Or.inl ⟨rfl, h1⟩
  · exact Or.inr ⟨q1, q3, h1⟩
theorem gs_of {z : Nat → Int} {s a : Nat} (hs : s < 4) (ha : a < 4) (h : gsC z s a) : gsN z s 4 = a := by
  obtain ⟨h1, h2, h3⟩ := gs_inv z s 4
  have hg := gsN_lt (z := z) hs 4 (by omega)
  generalize gsN z s 4 = g at h1 h2 h3 hg
  rcases h with ⟨q1, q2⟩ | ⟨q1, q2, q3⟩
  · rcases h3 with r | ⟨r1, r2, r3⟩
    · omega
    · have := q2 g hg; omega
  · rcases h3 with r | ⟨r1, r2, r3⟩
    · subst r; have := h1 a ha; omega
    · rcases Nat.lt_trichotomy g a with t | t | t
      · have := q2 g t; have := h1 a ha; omega
      · exact t
      · have := r3 a t; have := q3 g hg; omega
theorem gs_mono {y z : Nat → Int} {s a : Nat} (hs : s < 4) (ha : a < 4) (h1 : ∀ k, k < 4 → k ≠ a → y k = z k) (h2 : z a ≤ y a) (h : gsN z s 4 = a) : gsN y s 4 = a := by
  refine gs_of hs ha ?_
  rcases gs_C h with ⟨q1, q2⟩ | ⟨q1, q2, q3⟩
  · subst q1
    refine Or.inl ⟨rfl, fun k hk => ?_⟩
    by_cases e : k = a
    · subst e; exact Int.le_refl _
    · rw [h1 k hk e]; have := q2 k hk; omega
  · have hne : s ≠ a := fun e => by subst e; omega
    refine Or.inr ⟨by rw [h1 s hs hne]; omega, fun k hk => ?_, fun k hk => ?_⟩
    · rw [h1 k (by omega) (by omega)]; have := q2 k hk; omega
    · by_cases e : k = a
      · subst e; exact Int.le_refl _
      · rw [h1 k hk e]; have := q3 k hk; omega
/-! the least gift with which an arm is chosen -/
def wcZ (b : Bd) (z : Nat → Int) (a h g : Nat) : Nat → Int := upZ z a (((idxN (sg b (upN (bg b) (4 * a + h) g)) a h : Nat) : Int) - (costB (sg b (upN (bg b) (4 * a + h) g)) a 0 : Nat))
theorem wc_same {b : Bd} (hB : OkB b) {a h g : Nat} (ha : a < 4) (hh : h < 4) {z : Nat → Int} (hz : ∀ k, k < 4 → k ≠ a → z k = scN b (idxT b) 0 k) : gsN (wcZ b z a h g) (bl b - 1) 4 = chT b a h g := by
  have hl : bl b - 1 < 4 := by have := hB.2.2.2.1; omega
  show _ = choN (tB b a h g) (idxT (tB b a h g)) 0
  rw [choN, if_neg (by decide)]
  refine gsN_congr (fun k hk => ?_) hl 4 (Nat.le_refl 4)
  have ix : ixOf (sg b (upN (bg b) (4 * a + h) g)) = ixOf (tB b a h g) := rfl
  by_cases e : k = a
  · subst e
    show upZ z k _ k = _
    rw [upZ_s, scN, if_pos rfl]
    have e1 : bp (tB b k h g) k = h := upN_s _ _ _
    rw [e1, idxT_at _ _ hh, ← idxT_at (sg b (upN (bg b) (4 * k + h) g)) k hh, idxT_of ix, idxT_at _ _ hh]
    rfl
  · show upZ z a _ k = _
    rw [upZ_n e, hz k hk e, scN, scN, if_pos rfl, if_pos rfl]
    have e1 : bp (tB b a h g) k = bp b k := upN_n e
    have hp := hB.2.1 k hk
    rw [e1, idxT_at _ _ hp, idxT_at _ _ hp]
    have e2 : idxN (tB b a h g) k (bp b k) = idxN b k (bp b k) := idx_eq hB hk hp rfl rfl (fun t ht => upN_n (by omega)) (fun _ _ => rfl) (fun _ _ => rfl) (fun _ _ => rfl)
    rw [e2]
    rfl
theorem wc_idx {b : Bd} (hB : OkB b) {a h g g2 : Nat} (ha : a < 4) (hh : h < 4) (hg : g ≤ g2) : idxN (sg b (upN (bg b) (4 * a + h) g)) a h ≤ idxN (sg b (upN (bg b) (4 * a + h) g2)) a h := by
  refine idx_le hh (fun t ht => ⟨(hB.1 _ (by omega)).2.1, (hB.1 _ (by omega)).2.2.1⟩) rfl rfl (fun t ht => ?_) (fun _ _ => rfl) (fun _ _ => rfl) (fun _ _ => rfl)
  show upN (bg b) (4 * a + h) g (4 * a + t) ≤ upN (bg b) (4 * a + h) g2 (4 * a + t)
  by_cases e : 4 * a + t = 4 * a + h
  · rw [e, upN_s, upN_s]; exact hg
  · rw [upN_n e, upN_n e]; exact Nat.le_refl _
theorem chT_mono {b : Bd} (hB : OkB b) {a h g g2 : Nat} (ha : a < 4) (hh : h < 4) (hg : g ≤ g2) (q : chT b a h g = a) : chT b a h g2 = a := by
  have hl : bl b - 1 < 4 := by have := hB.2.2.2.1; omega
  rw [← wc_same hB ha hh (z := scN b (idxT b) 0) (fun _ _ _ => rfl)] at q ⊢
  refine gs_mono hl ha (fun k _ hk => ?_) ?_ q
  · show upZ _ a _ k = upZ _ a _ k
    rw [upZ_n hk, upZ_n hk]
  · show upZ _ a _ a ≤ upZ _ a _ a
    rw [upZ_s, upZ_s]
    have h1 := wc_idx hB ha hh hg
    have h2 : costB (sg b (upN (bg b) (4 * a + h) g2)) a 0 = costB (sg b (upN (bg b) (4 * a + h) g)) a 0 := rfl
    rw [h2]
    omega
theorem lgF_sp {b : Bd} {a h : Nat} : ∀ f g, g ≤ lgF b a h f g ∧ lgF b a h f g ≤ g + f ∧ (∀ x, g ≤ x → x < lgF b a h f g → chT b a h x ≠ a) ∧ (lgF b a h f g < g + f → chT b a h (lgF b a h f g) = a)
  | 0, g => ⟨Nat.le_refl _, Nat.le_refl _, fun x h1 h2 => absurd h2 (Nat.not_lt.mpr h1), fun h => absurd h (Nat.lt_irrefl _)⟩
  | f + 1, g => by
    obtain ⟨h1, h2, h3, h4⟩ := lgF_sp (b := b) (a := a) (h := h) f (g + 1)
    rw [lgF]
    by_cases e : chT b a h g = a
    · rw [if_pos e]
      exact ⟨Nat.le_refl _, by omega, fun x q1 q2 => absurd q2 (Nat.not_lt.mpr q1), fun _ => e⟩
    · rw [if_neg e]
      refine ⟨by omega, by omega, fun x q1 q2 => ?_, fun q => h4 (by omega)⟩
      by_cases q : x = g
      · subst q; exact e
      · exact h3 x (by omega) q2
theorem lg_yes {b : Bd} {a h m : Nat} (q : chT b a h m = a) : lgN b a h ≤ m := by
  obtain ⟨-, -, h3, -⟩ := lgF_sp (b := b) (a := a) (h := h) 100 0
  rcases Nat.lt_or_ge m (lgN b a h) with r | r
  · exact absurd q (h3 m (Nat.zero_le _) r)
  · exact r
theorem lg_no {b : Bd} (hB : OkB b) {a h m : Nat} (ha : a < 4) (hh : h < 4) (hm : m ≤ 99) (q : chT b a h m ≠ a) : m + 1 ≤ lgN b a h := by
  obtain ⟨-, -, -, h4⟩ := lgF_sp (b := b) (a := a) (h := h) 100 0
  rcases Nat.lt_or_ge m (lgN b a h) with r | r
  · exact r
  · have h5 : lgF b a h 100 0 ≤ m := r
    exact absurd (chT_mono hB ha hh r (h4 (by omega))) q
theorem lg_le (b : Bd) (a h : Nat) : lgN b a h ≤ 100 := by
  obtain ⟨-, h2, -, -⟩ := lgF_sp (b := b) (a := a) (h := h) 100 0
  have : lgF b a h 100 0 ≤ 100 := by omega
  exact this
theorem hv_pow {i : Nat} (h : i < 7) : 2 ^ (7 - i) = 2 * 2 ^ (7 - (i + 1)) := by
  rw [show 7 - i = (7 - (i + 1)) + 1 by omega, Nat.pow_succ, Nat.mul_comm]
/-! the bits of a share, found by doubling -/
