/-! the class's cells, whatever the rows hold that only save time; its calls over them -/
theorem flat_one (X : va_W) : [X].flatten = X := by rw [List.flatten_cons, List.flatten_nil, List.append_nil]
theorem q_ME.one {C : q_C} {l : Launch} {y : MethodName} {w : List Cond} {fr lo : Nat} {av : List Value} {X : va_W} {Q : Option Value → va_W → Prop} (h : q_ME C l y w fr lo av X Q) : q_ME C l y w fr lo av [X].flatten Q := by rw [flat_one]; exact h
theorem q_M1.one {C : q_C} {l : Launch} {y : MethodName} {w : List Cond} {fr lo : Nat} {av : List Value} {X : va_W} {Q : Option Value → va_W → Prop} (h : q_M1 C l y w fr lo av X Q) : q_M1 C l y w fr lo av [X].flatten Q := by rw [flat_one]; exact h
theorem q_ME.mono {C : q_C} {l : Launch} {y : MethodName} {w : List Cond} {fr lo : Nat} {av : List Value} {ws : va_W} {Q Q' : Option Value → va_W → Prop} (h : q_ME C l y w fr lo av ws Q) (hQ : ∀ r w1, Q r w1 → Q' r w1) : q_ME C l y w fr lo av ws Q' := fun sz p e h1 h2 h3 s m args below f1 f2 f3 k => by
  obtain ⟨n, o, a, b, c, d⟩ := h sz p e h1 h2 h3 s m args below f1 f2 f3 k
  refine ⟨n, o, a, b, c, ?_⟩
  obtain ⟨⟨⟨r, w1, e1, e2, e3⟩, e4⟩, e5⟩ := d
  exact ⟨⟨⟨r, w1, e1, hQ r w1 e2, e3⟩, e4⟩, e5⟩
/-- where the object and its cells lie, and its text -/
abbrev ad_G : Type := Nat × (Nat → Nat) × (Nat → Nat) × (Nat → Nat) × (Nat → Nat) × (Nat → Nat) × Nat × (Nat → Nat → Nat) × Nat × (Nat → Nat)
def LW (C : q_C) (G : ad_G) (b : Bd) (ph : Nat → Bd) (r n : Nat) (w : va_W) : Prop :=
  ∃ (z : Nat → Int) (b2 : Bd) (t f v o : Nat → Nat), w = wF C G.1 G.2.1 G.2.2.1 G.2.2.2.1 G.2.2.2.2.1 G.2.2.2.2.2.1 G.2.2.2.2.2.2.1 G.2.2.2.2.2.2.2.1 z b b2 ph r n t f v o G.2.2.2.2.2.2.2.2.1 G.2.2.2.2.2.2.2.2.2 ∧ frB b t f
theorem LW.fst {C : q_C} {G : ad_G} {b b' : Bd} {ph ph' : Nat → Bd} {r n r' n' : Nat} {w w' : va_W} (h : LW C G b ph r n w) (h' : LW C G b' ph' r' n' w') : w'.map Prod.fst = w.map Prod.fst := by
  obtain ⟨z, b2, t, f, v, o, rfl, -⟩ := h
  obtain ⟨z', b2', t', f', v', o', rfl, -⟩ := h'
  rfl
/-- a call by a name on the object: from any of its worlds it answers a and leaves one of the new board and history -/
def lkC (C : q_C) (l : Launch) (G : ad_G) (b : Bd) (ph : Nat → Bd) (r n : Nat) (yM : MethodName) (wM : List Cond) (fr lo : Nat) (As : List Value) (a : Value) (b' : Bd) (ph' : Nat → Bd) (r' n' : Nat) : Prop :=
  ∀ X : va_W, LW C G b ph r n X → q_ME C l yM wM fr lo (.ref G.1 :: As) X (fun q w => q = some a ∧ LW C G b' ph' r' n' w)
section LookRows
variable {p : Program} {l : Launch} {e : Env} {R : Room} {s : State} {m : MethodId} {args : Array Value} {below : List Frame} {meth : Method} {c : Code} {H : Heap} {locs : List Loc} {cells slots : Nat} {Q : State → Prop}
variable {pc : Nat} {ls : Array Slot} {rest st0 : List Value} {av0 : Array Value} {A0 : Nat → Prop} {H0 : Heap}
variable {C : q_C} {G : ad_G} {b b' : Bd} {ph ph' : Nat → Bd} {r n r' n' : Nat} {X : va_W} {cc bytes : ByteArray} {nL maxL index nA fr lo : Nat} {Ts wM : List Cond} {own : String} {y : MethodName} {ret : Option FieldType} {As : List Value} {a : Value}
theorem lk_V (S : CallFix p m c cc nL s args Ts own) (hM : lkC C l G b ph r n y wM fr lo As a b' ph' r' n') (cw : CallW R s args own RX4 index y bytes maxL ret wM (q_R fr lo) 0 0 nA) (hK : q_K C s) (hV : q_Wo s) (hE : q_E A0 s H0) (hX : LW C G b ph r n X) (hP : va_P C.1 vwCl X H) (hD : va_D A0 X) (hS : va_S A0 H0 H locs) (hA : ∀ q, H0.size ≤ q → A0 q)
    (hn : As.length = nA) (hsize : ls.size = nL) (hstack : st0 = As.reverse ++ .ref G.1 :: rest) (hW : (rest.map fun v => v.category).sum ≤ 8) (hdg : decode cc pc = .ok (.invokevirtual index, 3)) (hce : cells ≤ R.cells) (hsl : slots ≤ R.slots)
    (kk : ∀ (X1 : va_W) (H1 : Heap) (locs1 : List Loc), LW C G b' ph' r' n' X1 → va_P C.1 vwCl X1 H1 → va_D A0 X1 → va_S A0 H0 H1 locs1 → W p l e R s m args below meth c H1 locs1 cells slots Q (F0 m (pc + 3) ls (a :: rest))) : W p l e R s m args below meth c H locs cells slots Q (F0 m pc ls st0) := by
  have hX0 := hX
  have hP' : va_P C.1 vwCl [X].flatten H := by rw [flat_one]; exact hP
  have hD' : va_D A0 [X].flatten := by rw [flat_one]; exact hD
  obtain ⟨z, b2, t, f, v, o, rfl, hfr⟩ := hX
  refine q_VBE (cs := [wF C G.1 G.2.1 G.2.2.1 G.2.2.2.1 G.2.2.2.2.1 G.2.2.2.2.2.1 G.2.2.2.2.2.2.1 G.2.2.2.2.2.2.2.1 z b b2 ph r n t f v o G.2.2.2.2.2.2.2.2.1 G.2.2.2.2.2.2.2.2.2]) S (hM _ hX0).one cw hK hV hE hP' hD' hS hA [0] (by decide) rfl 0 (ci := 4) (q := (RX4, TX4, 6)) rfl rfl rfl hn hsize hstack hW hdg hce hsl (fun q w1 H1 locs1 hQ hF hS1 => ?_)
  obtain ⟨rfl, hw⟩ := hQ
  obtain ⟨hP1, hD1⟩ := hF [w1] (flat_one _).symm (by rw [List.map_cons, List.map_cons, hX0.fst hw])
  have hP1 : va_P C.1 vwCl [w1].flatten H1 := hP1
  have hD1 : va_D A0 [w1].flatten := hD1
  rw [flat_one] at hP1 hD1
  exact kk w1 H1 locs1 hw hP1 hD1 hS1
/-- a static call of one of the law's own methods, the object its one argument -/
theorem lk_S (S : CallFix p m c cc nL s args Ts own) (hM : lkC C l G b ph r n y wM fr lo [] a b' ph' r' n') (cw : CallB R s args own index y bytes maxL ret wM (q_R fr lo) 0 0 1 ∧ (Cond.static y).before args s = true) (hK : q_K C s) (hV : q_Wo s) (hE : q_E A0 s H0) (hX : LW C G b ph r n X) (hP : va_P C.1 vwCl X H) (hD : va_D A0 X) (hS : va_S A0 H0 H locs) (hA : ∀ q, H0.size ≤ q → A0 q)
    (hsize : ls.size = nL) (hW : (rest.map fun v => v.category).sum ≤ 8) (hdg : decode cc pc = .ok (.invokestatic index, 3)) (hce : cells ≤ R.cells) (hsl : slots ≤ R.slots)
    (kk : ∀ (X1 : va_W) (H1 : Heap) (locs1 : List Loc), LW C G b' ph' r' n' X1 → va_P C.1 vwCl X1 H1 → va_D A0 X1 → va_S A0 H0 H1 locs1 → W p l e R s m args below meth c H1 locs1 cells slots Q (F0 m (pc + 3) ls (a :: rest))) : W p l e R s m args below meth c H locs cells slots Q (F0 m pc ls (.ref G.1 :: rest)) := by
  have hX0 := hX
  have hP' : va_P C.1 vwCl [X].flatten H := by rw [flat_one]; exact hP
  have hD' : va_D A0 [X].flatten := by rw [flat_one]; exact hD
  refine q_callBm (cs := [X]) (mc := 0) (ms := 0) (va_runS (rest := rest) (As := [.ref G.1]) S ((hM _ hX0).one H.size) cw ⟨q_blindE, fun _ hU hW2 => q_preB hK hV hE hP' hD' hS hA [0] (by decide) rfl hU hW2⟩ rfl rfl hsize rfl (lv_room hW) hdg ⟨hce, hsl⟩) hP' hD' hS hA [0] (by decide) rfl (fun q w1 H1 locs1 hQ hF hS1 => ?_)
  obtain ⟨rfl, hw⟩ := hQ
  obtain ⟨hP1, hD1⟩ := hF [w1] (flat_one _).symm (by rw [List.map_cons, List.map_cons, hX0.fst hw])
  have hP1 : va_P C.1 vwCl [w1].flatten H1 := hP1
  have hD1 : va_D A0 [w1].flatten := hD1
  rw [flat_one] at hP1 hD1
  exact kk w1 H1 locs1 hw hP1 hD1 hS1
end LookRows
set_option maxHeartbeats 1000000 in
theorem k_stateOf (l : Launch) (C : q_C) (G : ad_G) (b : Bd) (ph : Nat → Bd) (r n : Nat) (a t0 kx : Nat) (hB : OkB b) (ha : a < 4) (ht : t0 < 4) (hk : kx < 5) : lkC C l G b ph r n yX4_stateOf wsX4_stateOf 3 70 [.int (nI a), .int (nI t0), .int (nI kx)] (.int (nI (osN b a t0 kx))) b ph r n := fun X hX => by
  obtain ⟨z, b2, t, f, v, o, rfl, hfr⟩ := hX
  refine q_ME.mono (F_stateOf l C _ _ _ _ _ _ _ z b a t0 kx _ b2 r n ph t f v o _ _ hB ha ht hk) (fun q w h => ?_)
  obtain ⟨rfl, rfl⟩ := h
  exact ⟨rfl, z, b2, t, f, v, o, rfl, hfr⟩
set_option maxHeartbeats 1000000 in
theorem k_index (l : Launch) (C : q_C) (G : ad_G) (b : Bd) (ph : Nat → Bd) (r n : Nat) (a t0 : Nat) (hB : OkB b) (ha : a < 4) (ht : t0 < 4) : lkC C l G b ph r n yX4_index wsX4_index 4 110 [.int (nI a), .int (nI t0)] (.long (lN (idxN b a t0))) b ph r n := fun X hX => by
  obtain ⟨z, b2, t, f, v, o, rfl, hfr⟩ := hX
  refine q_ME.mono (F_index l C _ _ _ _ _ _ _ z b t f v o a t0 _ b2 r n ph _ _ hB ha ht hfr) (fun q w h => ?_)
  obtain ⟨v1, o1, rfl, rfl⟩ := h
  exact ⟨rfl, z, b2, _, _, v1, o1, rfl, frB_1 b⟩
set_option maxHeartbeats 1000000 in
theorem k_arm (l : Launch) (C : q_C) (G : ad_G) (b : Bd) (ph : Nat → Bd) (r n : Nat) (a kx : Nat) (hB : OkB b) (ha : a < 4) (hk : kx < 4) : lkC C l G b ph r n yX4_arm wsX4_arm 4 111 [.int (nI a), .int (nI kx)] (.int (nI (oaN b a kx))) b ph r n := fun X hX => by
  obtain ⟨z, b2, t, f, v, o, rfl, hfr⟩ := hX
  refine q_ME.mono (F_arm l C _ _ _ _ _ _ _ z b t f v o a kx _ b2 r n ph _ _ hB ha hk hfr) (fun q w h => ?_)
  obtain ⟨t1, f1, v1, o1, rfl, rfl, h9⟩ := h
  exact ⟨rfl, z, b2, t1, f1, v1, o1, rfl, h9⟩
set_option maxHeartbeats 1000000 in
theorem k_count (l : Launch) (C : q_C) (G : ad_G) (b : Bd) (ph : Nat → Bd) (r n : Nat) (kx : Nat) (hk : kx < 4) : lkC C l G b ph r n yX4_count wsX4_count 2 43 [.int (nI kx)] (.int (cnI b n kx)) b ph r n := fun X hX => by
  obtain ⟨z, b2, t, f, v, o, rfl, hfr⟩ := hX
  refine q_ME.mono (F_count l C _ _ _ _ _ _ _ z b _ r n kx b2 ph t f v o _ _ hk) (fun q w h => ?_)
  obtain ⟨rfl, rfl⟩ := h
  exact ⟨rfl, z, b2, t, f, v, o, rfl, hfr⟩
set_option maxHeartbeats 1000000 in
theorem k_sum (l : Launch) (C : q_C) (G : ad_G) (b : Bd) (ph : Nat → Bd) (r n : Nat) (kx : Nat) (hk : kx < 3) : lkC C l G b ph r n yX4_sum wsX4_sum 0 0 [.int (nI kx)] (.long (suL b kx)) b ph r n := fun X hX => by
  obtain ⟨z, b2, t, f, v, o, rfl, hfr⟩ := hX
  refine q_ME.mono (F_sum l C _ _ _ _ _ _ _ z b kx _ b2 r n ph t f v o _ _ hk) (fun q w h => ?_)
  obtain ⟨rfl, rfl⟩ := h
  exact ⟨rfl, z, b2, t, f, v, o, rfl, hfr⟩
set_option maxHeartbeats 1000000 in
theorem k_setting (l : Launch) (C : q_C) (G : ad_G) (b : Bd) (ph : Nat → Bd) (r n : Nat) (kx : Nat) (hk : kx < 4) : lkC C l G b ph r n yX4_setting wsX4_setting 2 42 [.int (nI kx)] (.int (nI (bs b kx))) b ph r n := fun X hX => by
  obtain ⟨z, b2, t, f, v, o, rfl, hfr⟩ := hX
  refine q_ME.mono (F_setting l C _ _ _ _ _ _ _ z b kx _ b2 r n ph t f v o _ _ hk) (fun q w h => ?_)
  obtain ⟨rfl, rfl⟩ := h
  exact ⟨rfl, z, b2, t, f, v, o, rfl, hfr⟩
set_option maxHeartbeats 1000000 in
theorem k_choice (l : Launch) (C : q_C) (G : ad_G) (b : Bd) (ph : Nat → Bd) (r n : Nat) (rule : Nat) (hB : OkB b) (hr3 : rule < 3) : lkC C l G b ph r n yX4_choice wsX4_choice 4 110 [.int (nI rule)] (.int (nI (choN b (idxT b) rule))) b ph r n := fun X hX => by
  obtain ⟨z, b2, t, f, v, o, rfl, hfr⟩ := hX
  refine q_ME.mono (F_choice l C _ _ _ _ _ _ _ z b t f v o rule _ b2 r n ph _ _ hB hr3 hfr) (fun q w h => ?_)
  obtain ⟨z1, v1, o1, rfl, rfl⟩ := h
  exact ⟨rfl, z1, b2, _, _, v1, o1, rfl, frB_1 b⟩
set_option maxHeartbeats 1000000 in
theorem k_ifPlayed (l : Launch) (C : q_C) (G : ad_G) (b : Bd) (ph : Nat → Bd) (r n : Nat) (rule k : Nat) (hB : OkB b) (hr3 : rule < 3) (h1 : 1 ≤ k) (h2 : k ≤ 99) : lkC C l G b ph r n yX4_ifPlayed wsX4_ifPlayed 6 139 [.int (nI rule), .int (nI k)] (.long (gnN b rule k)) b ph r n := fun X hX => by
  obtain ⟨z, b2, t, f, v, o, rfl, hfr⟩ := hX
  refine q_ME.mono (F_ifPlayed l C _ _ _ _ _ _ _ z b b2 t f v o rule k _ r n ph _ _ hB hr3 h1 h2 hfr) (fun q w h => ?_)
  obtain ⟨z1, b3, v1, o1, rfl, rfl⟩ := h
  exact ⟨rfl, z1, b3, _, _, v1, o1, rfl, frB_1 b⟩
set_option maxHeartbeats 1000000 in
theorem k_giftFor (l : Launch) (C : q_C) (G : ad_G) (b : Bd) (ph : Nat → Bd) (r n : Nat) (a t0 : Nat) (hB : OkB b) (ha : a < 4) (ht : t0 < 4) : lkC C l G b ph r n yX4_giftFor wsX4_giftFor 4 112 [.int (nI a), .int (nI t0)] (.int (lgI (lgN b a t0))) b ph r n := fun X hX => by
  obtain ⟨z, b2, t, f, v, o, rfl, hfr⟩ := hX
  refine q_ME.mono (F_giftFor l C _ _ _ _ _ _ _ z b b2 t f v o a t0 _ r n ph _ _ hB ha ht hfr) (fun q w h => ?_)
  obtain ⟨z1, b3, v1, o1, rfl, rfl⟩ := h
  exact ⟨rfl, z1, b3, _, _, v1, o1, rfl, frB_1 b⟩
set_option maxHeartbeats 1000000 in
theorem k_evenness (l : Launch) (C : q_C) (G : ad_G) (b : Bd) (ph : Nat → Bd) (r n : Nat) (hU : sumU b ≤ 9999) : lkC C l G b ph r n yX4_evenness wsX4_evenness 1 21 [] (.double (evD b)) b ph r n := fun X hX => by
  obtain ⟨z, b2, t, f, v, o, rfl, hfr⟩ := hX
  refine q_ME.mono (F_evenness l C _ _ _ _ _ _ _ z b _ b2 r n ph t f v o _ _ hU) (fun q w h => ?_)
  obtain ⟨rfl, rfl⟩ := h
  exact ⟨rfl, z, b2, t, f, v, o, rfl, hfr⟩
set_option maxHeartbeats 1000000 in
theorem k_gift (l : Launch) (C : q_C) (G : ad_G) (b : Bd) (ph : Nat → Bd) (r n : Nat) (a t0 g : Nat) (hB : OkB b) (hr6 : r < 6) (hn6 : n ≤ 6) (ha : a < 4) (ht : t0 < 4) (hg : g ≤ 99) : lkC C l G b ph r n yX4_gift wsX4_gift 3 83 [.int (nI a), .int (nI t0), .int (nI g)] (.int (nI (bg b (4 * a + t0)))) (sg b (upN (bg b) (4 * a + t0) g)) (upB ph (kJ n r) b) (kR n r) (kC n) := fun X hX => by
  obtain ⟨z, b2, t, f, v, o, rfl, hfr⟩ := hX
  refine q_ME.mono (F_gift l C _ _ _ _ _ _ _ z _ ph r n b t f v o a t0 g b2 _ _ hr6 hn6 ha ht hg) (fun q w h => ?_)
  obtain ⟨rfl, rfl⟩ := h
  exact ⟨rfl, z, b2, _, _, _, _, rfl, frB_gift hB hfr ht⟩
set_option maxHeartbeats 1000000 in
theorem k_way (l : Launch) (C : q_C) (G : ad_G) (b : Bd) (ph : Nat → Bd) (r n : Nat) (a t0 x1 x2 x3 : Nat) (hB : OkB b) (hr6 : r < 6) (hn6 : n ≤ 6) (ha : a < 4) (ht : t0 < 4) (h1 : x1 < 4) (h2 : x2 < 4) (h3 : x3 ≤ 8) : lkC C l G b ph r n yX4_way wsX4_way 3 83 [.int (nI a), .int (nI t0), .int (nI x1), .int (nI x2), .int (nI x3)] (.int (nI (100 * bo b (4 * a + t0) + 10 * bb b (4 * a + t0) + bc b (4 * a + t0)))) (setC (sb (so b (upN (bo b) (4 * a + t0) x1)) (upN (bb b) (4 * a + t0) x2)) (upN (bc b) (4 * a + t0) x3)) (upB ph (kJ n r) b) (kR n r) (kC n) := fun X hX => by
  obtain ⟨z, b2, t, f, v, o, rfl, hfr⟩ := hX
  refine q_ME.mono (F_way l C _ _ _ _ _ _ _ z _ ph r n b t f v o a t0 x1 x2 x3 b2 _ _ hr6 hn6 ha ht h1 h2 h3) (fun q w h => ?_)
  obtain ⟨rfl, rfl⟩ := h
  exact ⟨rfl, z, b2, _, _, _, _, rfl, frB_way hB hfr ht⟩
set_option maxHeartbeats 1000000 in
theorem k_put (l : Launch) (C : q_C) (G : ad_G) (b : Bd) (ph : Nat → Bd) (r n : Nat) (a t0 : Nat) (hr6 : r < 6) (hn6 : n ≤ 6) (ha : a < 4) (ht : t0 < 4) : lkC C l G b ph r n yX4_put wsX4_put 3 83 [.int (nI a), .int (nI t0)] (.int (nI (bp b a))) (sp b (upN (bp b) a t0)) (upB ph (kJ n r) b) (kR n r) (kC n) := fun X hX => by
  obtain ⟨z, b2, t, f, v, o, rfl, hfr⟩ := hX
  refine q_ME.mono (F_put l C _ _ _ _ _ _ _ z _ ph r n b a t0 b2 t f v o _ _ hr6 hn6 ha ht) (fun q w h => ?_)
  obtain ⟨rfl, rfl⟩ := h
  exact ⟨rfl, z, b2, _, _, _, _, rfl, frB_of hfr rfl⟩
set_option maxHeartbeats 1000000 in
theorem k_set (l : Launch) (C : q_C) (G : ad_G) (b : Bd) (ph : Nat → Bd) (r n : Nat) (kx g : Nat) (hr6 : r < 6) (hn6 : n ≤ 6) (hk : kx < 4) (h1 : leS kx ≤ g) (h2 : g ≤ grS kx) : lkC C l G b ph r n yX4_set wsX4_set 3 83 [.int (nI kx), .int (nI g)] (.int (nI (bs b kx))) (ss b (upN (bs b) kx g)) (upB ph (kJ n r) b) (kR n r) (kC n) := fun X hX => by
  obtain ⟨z, b2, t, f, v, o, rfl, hfr⟩ := hX
  refine q_ME.mono (F_set l C _ _ _ _ _ _ _ z _ ph r n b t f v o kx g b2 _ _ hr6 hn6 hk h1 h2 (grS_le kx)) (fun q w h => ?_)
  obtain ⟨rfl, rfl⟩ := h
  exact ⟨rfl, z, b2, _, _, _, _, rfl, frB_0 _ _ _⟩
set_option maxHeartbeats 1000000 in
theorem k_pull (l : Launch) (C : q_C) (G : ad_G) (b : Bd) (ph : Nat → Bd) (r n : Nat) (a : Nat) (hB : OkB b) (hr6 : r < 6) (hn6 : n ≤ 6) (ha : a < 4) (hU : sumU b < 9999) : lkC C l G b ph r n yX4_pull wsX4_pull 3 83 [.int (nI a)] (.int (nI (bp (pulB b a) a))) (pulB b a) (upB ph (kJ n r) b) (kR n r) (kC n) := fun X hX => by
  obtain ⟨z, b2, t, f, v, o, rfl, hfr⟩ := hX
  refine q_ME.mono (F_pull l C _ _ _ _ _ _ _ z _ ph r n b a b2 t f v o _ _ hr6 hn6 hB ha hU) (fun q w h => ?_)
  obtain ⟨rfl, rfl⟩ := h
  exact ⟨rfl, z, b2, _, _, _, _, rfl, frB_of hfr (ixOf_pulB b a)⟩
set_option maxHeartbeats 1000000 in
theorem k_play (l : Launch) (C : q_C) (G : ad_G) (b : Bd) (ph : Nat → Bd) (r n : Nat) (rule k : Nat) (hB : OkB b) (hr6 : r < 6) (hn6 : n ≤ 6) (hr3 : rule < 3) (h1 : 1 ≤ k) (h2 : k ≤ 99) (hs : sumU b + k ≤ 9999) : lkC C l G b ph r n yX4_play wsX4_play 5 117 [.int (nI rule), .int (nI k)] (.int (nI (bx (plN b (idxT b) rule k)) - nI (bx b))) (plN b (idxT b) rule k) (upB ph (kJ n r) b) (kR n r) (kC n) := fun X hX => by
  obtain ⟨z, b2, t, f, v, o, rfl, hfr⟩ := hX
  refine q_ME.mono (F_play l C _ _ _ _ _ _ _ z _ ph r n b t f v o rule k b2 _ _ hr6 hn6 hB hr3 h1 h2 hs hfr) (fun q w h => ?_)
  obtain ⟨z1, v1, o1, rfl, rfl⟩ := h
  exact ⟨rfl, z1, b2, _, _, v1, o1, rfl, frB_pl b rule k⟩
set_option maxHeartbeats 1000000 in
theorem k_begin (l : Launch) (C : q_C) (G : ad_G) (b : Bd) (ph : Nat → Bd) (r n : Nat) (x0 : Int64) (hr6 : r < 6) (hn6 : n ≤ 6) : lkC C l G b ph r n yX4_begin wsX4_begin 3 83 [.long x0] (.int (nI (sumU b))) (begB b x0) (upB ph (kJ n r) b) (kR n r) (kC n) := fun X hX => by
  obtain ⟨z, b2, t, f, v, o, rfl, hfr⟩ := hX
  refine q_ME.mono (F_begin l C _ _ _ _ _ _ _ z _ ph r n b x0 b2 t f v o _ _ hr6 hn6) (fun q w h => ?_)
  obtain ⟨rfl, rfl⟩ := h
  exact ⟨rfl, z, b2, _, _, _, _, rfl, frB_of hfr rfl⟩
set_option maxHeartbeats 1000000 in
theorem k_undo (l : Launch) (C : q_C) (G : ad_G) (b : Bd) (ph : Nat → Bd) (r n : Nat) (hr6 : r < 6) (hn6 : n ≤ 6) (hn0 : 0 < n) : lkC C l G b ph r n yX4_undo wsX4_undo 3 83 [] (.int (nI (n - 1))) (ph ((n - 1 + r) % 6)) ph r (n - 1) := fun X hX => by
  obtain ⟨z, b2, t, f, v, o, rfl, hfr⟩ := hX
  refine q_ME.mono (F_undo l C _ _ _ _ _ _ _ z _ ph r n b t f v o b2 _ _ hr6 hn6 hn0) (fun q w h => ?_)
  obtain ⟨rfl, rfl⟩ := h
  exact ⟨rfl, z, b2, _, _, _, _, rfl, frB_0 _ _ _⟩
