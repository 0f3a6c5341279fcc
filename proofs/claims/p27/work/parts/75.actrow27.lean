/-! the law's act: its contract, over any script -/
def q_PcS (C : q_C) (av : List Value) (ws : va_W) (sz sA L : Nat) (xs : Nat → Int32) : Array Value → State → Prop := va_Pc av (fun U => U.heap.size = sz ∧ va_P C.1 vwCl ws U.heap ∧ q_K C U ∧ va_D (fun _ => True) ws ∧ q_Wo U ∧ q_E (va_A ws sz) U U.heap ∧ va_X sA L xs U U.heap ∧ sA < sz ∧ ¬ va_A ws sz sA)
theorem q_blindS {C : q_C} {av : List Value} {ws : va_W} {sz sA L : Nat} {xs : Nat → Int32} : FrameBlind (q_PcS C av ws sz sA L xs) := fun _ U _ _ h => ⟨h.1, h.2.1, h.2.2.1, h.2.2.2.1.calling, h.2.2.2.2.1, h.2.2.2.2.2.1.calling, h.2.2.2.2.2.2.1.moved (u := U) (Vm.Alike.refl U.vm), va_X.moved (u := U) (Vm.Alike.refl U.vm) h.2.2.2.2.2.2.2.1, h.2.2.2.2.2.2.2.2⟩
theorem q_headS {C : q_C} {l : Launch} {y : MethodName} {w w' : List Cond} {fr lo : Nat} {av : List Value} {ws : va_W} {Q : Option Value → va_W → Prop} {cc : ByteArray} {maxL : Nat} {ret : Option FieldType} {sA L : Nat} {xs : Nat → Int32}
    (hy : plainFor y = true) (hw : w = Cond.code y cc maxL ret :: w') (hn : (lg_sl av).length ≤ maxL)
    (body : ∀ (p : Program) (e : Env) (s : State) (m : MethodId) (below : List Frame) (meth : Method) (c : Code), p.tables.exec = Jvm.exec → c.code = cc → meth.sig.returnType = ret → meth.locks = false → c.maxLocals = maxL → s.vm.findClass y.cls = some m.cls → (∀ x ∈ w, x.before av.toArray s = true) → q_K C s → q_Wo s → q_E (q_A ws s) s s.heap →
      va_P C.1 vwCl ws s.heap → va_D (q_A ws s) ws → va_S (q_A ws s) s.heap s.heap [] → (∀ q : Nat, s.heap.size ≤ q → q_A ws s q) → va_X sA L xs s s.heap → sA < s.heap.size → ¬ q_A ws s sA → ∀ ls : Array Slot, lv_has ls maxL (lv_args 0 av) →
      W p l e (q_R1 fr lo) s m av.toArray below meth c s.heap [] 0 0 (q_G1 C below ws Q av.toArray s) (F0 m 0 ls [])) : ∀ sz : Nat, Met l y w (q_R1 fr lo) (q_PcS C av ws sz sA L xs) (q_Qc C ws sz Q) 1 6 (va_A ws sz) := by
  intro sz
  refine va_MetF (cc := cc) (maxL := maxL) (ret := ret) hy hw ?_
  intro p e s m args below meth c s₁ B hml hv
  obtain ⟨rfl, hsz, hP, hK, hD0, hV, hE, hX, hbl, hnA⟩ := hv
  subst hsz
  rw [lg_entry_eq]
  exact body p e s m below meth c B.exec B.bytes B.returns B.notSynchronized hml (findClass_of_methodNamed B.named) (atoms_spec (ws := w) B.pre) hK hV hE hP hD0.self va_S.rf (fun q h => Or.inr h) hX hbl hnA _ (lv_entry av hn)
/-- what an act brings about -/
def acQ (J sort : Nat) (b : Bd) (n : Nat) (told : Int32) (b' : Bd) (ph' : Nat → Bd) (r' n' : Nat) : Prop :=
  okJ (J + 1) b' ∧ okP (okJ (J + 1)) ph' r' n' ∧ (¬ 0 ≤ told → n' = n ∧ b' = b) ∧ (sort < 10 → br b' = br b) ∧ (10 ≤ sort → sort ≤ 13 → sumU b < sumU b')
def acP (C : q_C) (G : ad_G) (J sort : Nat) (b : Bd) (n : Nat) (q : Option Value) (w : va_W) : Prop :=
  ∃ (told : Int32) (b' : Bd) (ph' : Nat → Bd) (r' n' : Nat), q = some (.int told) ∧ LW C G b' ph' r' n' w ∧ acQ J sort b n told b' ph' r' n'
def acM (C : q_C) (l : Launch) (G : ad_G) (b : Bd) (ph : Nat → Bd) (r n J sA L : Nat) (xs : Nat → Int32) (k : Nat) : Prop :=
  ∀ X : va_W, LW C G b ph r n X → ∀ sz : Nat, Met l yL_act wsL_act (q_R1 8 140) (q_PcS C [.ref G.1, .ref sA, .int (nI k)] X sz sA L xs) (q_Qc C X sz (acP C G J (lowN (xs k) 16) b n)) 1 6 (va_A X sz)
theorem acQ_kept {J sort : Nat} {b : Bd} {ph : Nat → Bd} {r n : Nat} {told : Int32} {b' : Bd} (hJ : okJ J b) (hH : okP (okJ J) ph r n) (h1 : okJ (J + 1) b') (h2 : 0 ≤ told) (h3 : sort < 10 → br b' = br b) (h4 : 10 ≤ sort → sort ≤ 13 → sumU b < sumU b') : acQ J sort b n told b' (upB ph (kJ n r) b) (kR n r) (kC n) :=
  ⟨h1, okP_keep (okP_w hH (fun _ h => okJ_w h (Nat.le_succ J))) (okJ_w hJ (Nat.le_succ J)), fun q => absurd h2 q, h3, h4⟩
theorem acQ_same {J sort : Nat} {b : Bd} {ph : Nat → Bd} {r n : Nat} {told : Int32} (hJ : okJ J b) (hH : okP (okJ J) ph r n) (h4 : 13 < sort) : acQ J sort b n told b ph r n :=
  ⟨okJ_w hJ (Nat.le_succ J), okP_w hH (fun _ h => okJ_w h (Nat.le_succ J)), fun _ => ⟨rfl, rfl⟩, fun _ => rfl, fun _ q => absurd q (Nat.not_le.mpr h4)⟩
theorem acQ_undo {J sort : Nat} {b : Bd} {ph : Nat → Bd} {r n : Nat} (hH : okP (okJ J) ph r n) (hn : 0 < n) (h4 : 13 < sort) : acQ J sort b n (nI (n - 1)) (ph ((n - 1 + r) % 6)) ph r (n - 1) :=
  ⟨okJ_w (okP_last hH hn) (Nat.le_succ J), okP_less (okP_w hH (fun _ h => okJ_w h (Nat.le_succ J))), fun q => absurd (nI_pos' (by have := hH.2.1; omega)) q, fun q => absurd q (by omega), fun _ q => absurd q (Nat.not_le.mpr h4)⟩
theorem le_set {k g : Nat} (hk : k < 3) (h1 : 1 ≤ g) (h2 : g ≤ 60) : leS k ≤ g ∧ g ≤ grS k := by
  unfold leS grS
  refine ⟨?_, ?_⟩
  · split <;> omega
  · (repeat' split) <;> omega
theorem play_told {J : Nat} {b : Bd} (hJ : okJ J b) (hJ30 : J < 30) {rule k : Nat} (hk : k ≤ 12) : 0 ≤ nI (bx (plN b (idxT b) rule k)) - nI (bx b) := by
  have h1 := bx_pl_le b (idxT b) rule k
  have h2 := okJ_pl hJ (idxT b) rule hk
  have h3 : bx (plN b (idxT b) rule k) ≤ 372 := by
    have h4 := h2.2
    rcases Nat.eq_zero_or_pos (sumU (plN b (idxT b) rule k)) with q | q
    · have := (h2.1.2.1 q).2; omega
    · have := (h2.1.2.2 q).2; omega
  rw [pk_sub h1]
  exact nI_pos' (by omega)
theorem pull_told {b : Bd} (hB : OkB b) {a : Nat} (ha : a < 4) : 0 ≤ nI (bp (pulB b a) a) := nI_pos' (by have := (okB_pulB hB a ha).2.1 a ha; omega)
section ActRow
variable {p : Program} {l : Launch} {e : Env} {R : Room} {s : State} {m : MethodId} {args : Array Value} {below : List Frame} {meth : Method} {c : Code} {H : Heap} {locs : List Loc} {cells slots : Nat} {Q : State → Prop}
variable {pc : Nat} {ls : Array Slot} {rest : List Value} {A0 : Nat → Prop} {H0 : Heap}
variable {C : q_C} {G : ad_G} {b : Bd} {ph : Nat → Bd} {r n : Nat} {X : va_W} {cc bytes : ByteArray} {nL maxL index J sA L k : Nat} {xs : Nat → Int32} {Ts : List Cond} {own : String} {ret : Option FieldType}
theorem lk_act (S : CallFix p m c cc nL s args Ts own) (hM : acM C l G b ph r n J sA L xs k) (cw : CallB R s args own index yL_act bytes maxL ret wsL_act (q_R1 8 140) 1 6 3 ∧ (Cond.static yL_act).before args s = true) (hK : q_K C s) (hV : q_Wo s) (hE : q_E A0 s H0) (hXs : va_X sA L xs s H0) (hsb : sA < H0.size) (hnA : ¬ A0 sA) (hX : LW C G b ph r n X) (hP : va_P C.1 vwCl X H) (hD : va_D A0 X) (hS : va_S A0 H0 H locs) (hA : ∀ q, H0.size ≤ q → A0 q)
    (hsize : ls.size = nL) (hW : (rest.map fun v => v.category).sum ≤ 8) (hdg : decode cc pc = .ok (.invokestatic index, 3)) (hce : cells + 1 ≤ R.cells) (hsl : slots + 6 ≤ R.slots)
    (kk : ∀ (told : Int32) (b' : Bd) (ph' : Nat → Bd) (r' n' : Nat) (X1 : va_W) (H1 : Heap) (locs1 : List Loc), acQ J (lowN (xs k) 16) b n told b' ph' r' n' → LW C G b' ph' r' n' X1 → va_P C.1 vwCl X1 H1 → va_D A0 X1 → va_S A0 H0 H1 locs1 → W p l e R s m args below meth c H1 locs1 (cells + 1) (slots + 6) Q (F0 m (pc + 3) ls (.int told :: rest))) : W p l e R s m args below meth c H locs cells slots Q (F0 m pc ls (.int (nI k) :: .ref sA :: .ref G.1 :: rest)) := by
  have hX0 := hX
  have hP' : va_P C.1 vwCl [X].flatten H := by rw [flat_one]; exact hP
  have hD' : va_D A0 [X].flatten := by rw [flat_one]; exact hD
  have hf : ∀ q, va_A X H.size q → A0 q := by
    rintro q (⟨j, x, hj⟩ | hge)
    · exact hD.2 j (q, x) hj
    · exact hA q (Nat.le_trans hS.1 hge)
  have hM2 : Met l yL_act wsL_act (q_R1 8 140) (q_PcS C [.ref G.1, .ref sA, .int (nI k)] X H.size sA L xs) (q_Qc C [X].flatten H.size (acP C G J (lowN (xs k) 16) b n)) 1 6 (va_A [X].flatten H.size) := by
    rw [flat_one]
    exact hM X hX H.size
  refine q_callBm (cs := [X]) (mc := 1) (ms := 6) (va_runS (rest := rest) (As := [.ref G.1, .ref sA, .int (nI k)]) S hM2 cw ⟨q_blindS, fun U hU hW2 => ?_⟩ rfl rfl hsize rfl (lv_room hW) hdg ⟨hce, hsl⟩) hP' hD' hS hA [0] (by decide) rfl (fun q w1 H1 locs1 hQ hF hS1 => ?_)
  · have hE2 : q_E (va_A X H.size) s H := (hE.kept hS.1 hS.2.1).narrow hf
    exact ⟨rfl, by rw [hU], by rw [hU]; exact hP, hK.warm hW2, hD.weaken (fun _ _ _ _ => trivial), hV.warm hW2, by rw [hU]; exact hE2.moved hW2.alike, by rw [hU]; exact va_X.moved hW2.alike (hXs.kept (hS.2.1 _ hsb hnA)), Nat.lt_of_lt_of_le hsb hS.1, fun q => hnA (hf _ q)⟩
  obtain ⟨told, b', ph', r', n', rfl, hw, hq⟩ := hQ
  obtain ⟨hP1, hD1⟩ := hF [w1] (flat_one _).symm (by rw [List.map_cons, List.map_cons, hX0.fst hw])
  have hP1 : va_P C.1 vwCl [w1].flatten H1 := hP1
  have hD1 : va_D A0 [w1].flatten := hD1
  rw [flat_one] at hP1 hD1
  exact kk told b' ph' r' n' w1 H1 locs1 hq hw hP1 hD1 hS1
end ActRow
