/-! the constructors: from the object alone, as new made it, to a world of old and new cells -/
abbrev zN : Nat → Nat := fun _ => 0
def gdN : Nat → Nat → Nat
  | 0 => zN
  | i + 1 => upN (gdN i) i (i % 4)
def chN : Nat → Nat → Nat
  | 0 => zN
  | i + 1 => upN (chN i) i 4
abbrev bd0 : Bd := (zN, gdN 16, gdN 16, chN 16, zN, zN, upN (upN zN 0 90) 1 20, 0, 0, lN 0, 1000000, lN 1)
theorem zL_0 : zL 0 = lN 0 := by decide +kernel
abbrev fsX0 : List Value := [.null, .null, .null, .null, .null, .null, .null, .int (nI 0), .int (nI 0), .long (lN 0), .long (lN 0), .long (lN 0)]
abbrev fsX1 : List Value := [.null, .int (nI 0)]
abbrev fsX2 : List Value := [.null, .null, .null, .null]
abbrev fsX3 : List Value := [.null, .int (nI 0)]
abbrev fsX4 : List Value := [.null, .null, .null, .null, .null, .null]
theorem fsX0_ok : ∀ j, j < 12 → defaultValue (tyX0 j) = vp_V fsX0 j := by
  intro j hj
  rcases (show j = 0 ∨ j = 1 ∨ j = 2 ∨ j = 3 ∨ j = 4 ∨ j = 5 ∨ j = 6 ∨ j = 7 ∨ j = 8 ∨ j = 9 ∨ j = 10 ∨ j = 11 by omega) with rfl | rfl | rfl | rfl | rfl | rfl | rfl | rfl | rfl | rfl | rfl | rfl <;> rfl
theorem fsX1_ok : ∀ j, j < 2 → defaultValue (tyX1 j) = vp_V fsX1 j := by
  intro j hj
  rcases (show j = 0 ∨ j = 1 by omega) with rfl | rfl <;> rfl
theorem fsX2_ok : ∀ j, j < 4 → defaultValue (tyX2 j) = vp_V fsX2 j := by
  intro j hj
  rcases (show j = 0 ∨ j = 1 ∨ j = 2 ∨ j = 3 by omega) with rfl | rfl | rfl | rfl <;> rfl
theorem fsX3_ok : ∀ j, j < 2 → defaultValue (tyX3 j) = vp_V fsX3 j := by
  intro j hj
  rcases (show j = 0 ∨ j = 1 by omega) with rfl | rfl <;> rfl
theorem q_flatN (Bs : List va_W) (B : va_W) : Bs.flatten ++ B = (Bs ++ [B]).flatten := by rw [List.flatten_append, List.flatten_cons, List.flatten_nil, List.append_nil]
theorem q_Dfst {A : Nat → Prop} {X Y : va_W} (h : va_D A X) (e : X.map Prod.fst = Y.map Prod.fst) : va_D A Y := by
  rw [q_D_nd] at h ⊢
  rw [← e]
  exact h
theorem q_permP {D : va_G} {cl : List vw_C} {X Y : va_W} {H : Heap} (h : X.Perm Y) (hP : va_P D cl X H) : va_P D cl Y H := by
  rw [q_P_mem] at hP ⊢
  exact fun q hq => hP q (h.mem_iff.mpr hq)
theorem q_permD {A : Nat → Prop} {X Y : va_W} (h : X.Perm Y) (hD : va_D A X) : va_D A Y := by
  rw [q_D_nd] at hD ⊢
  exact ⟨((h.map Prod.fst).nodup_iff).mp hD.1, fun a ha => hD.2 a ((h.map Prod.fst).mem_iff.mpr ha)⟩
theorem q_cellQ {c : ClassId} {N : Nat} {f g : Nat → Option Nat} (h : ∀ k, k < N → f k = g k) : vp_cell c (N, .inr (.inr (.inr (.inr f)))) = vp_cell c (N, .inr (.inr (.inr (.inr g)))) := by
  show arrV c N (fun j => va_rf (f j)) = arrV c N (fun j => va_rf (g j))
  unfold arrV
  congr 2
  funext j
  exact congrArg va_rf (h j.1 j.2)
theorem q_swpQ {D : va_G} {cl : List vw_C} {X : va_W} {H : Heap} {a N : Nat} {c : ClassId} {f g : Nat → Option Nat} (hP : va_P D cl X H) (q0 : Nat) (ha : X[q0]? = some (a, .inl (c, N, .inr (.inr (.inr (.inr f)))))) (h : ∀ k, k < N → f k = g k) : va_P D cl (X.set q0 (a, .inl (c, N, .inr (.inr (.inr (.inr g)))))) H := q_swp hP ha (q_cellQ h)
abbrev q_RN (fr mc ms lo : Nat) : Room := { frames := fr, cells := mc, slots := ms, locals := lo }
def q_PcN (C : q_C) (av : List Value) (ws : va_W) (sz : Nat) : Array Value → State → Prop := va_Pc av (fun U => U.heap.size = sz ∧ va_P C.1 vwCl ws U.heap ∧ q_K C U ∧ va_D (fun _ => True) ws ∧ va_AO RX0 U)
theorem q_blindN {C : q_C} {av : List Value} {ws : va_W} {sz : Nat} : FrameBlind (q_PcN C av ws sz) := fun a U g mk h => ⟨h.1, h.2.1, h.2.2.1, h.2.2.2.1.calling, h.2.2.2.2.1, va_AO.moved (u := U) (U := U.calling g mk a) (Vm.Alike.refl U.vm) h.2.2.2.2.2⟩
def q_QN (C : q_C) (ws : va_W) (sz : Nat) (Q : va_W → Prop) : Array Value → State → Outcome → State → Prop :=
  fun _ st oc t => (oc = .returned none ∧ ∃ w1 : va_W, Q w1 ∧ va_P C.1 vwCl w1 t.heap ∧ va_D (va_A ws sz) w1) ∧ va_F (va_A ws sz) st t
/-- a constructor: mc cells of ms slots come -/
def q_NC (C : q_C) (l : Launch) (y : MethodName) (w : List Cond) (fr lo mc ms : Nat) (av : List Value) (ws : va_W) (Q : va_W → Prop) : Prop :=
  ∀ sz : Nat, Met l y w (q_RN fr mc ms lo) (q_PcN C av ws sz) (q_QN C ws sz Q) mc ms (va_A ws sz)
theorem q_headN {C : q_C} {l : Launch} {y : MethodName} {w w' : List Cond} {fr lo mc ms : Nat} {av : List Value} {ws : va_W} {Q : va_W → Prop} {cc : ByteArray} {maxL : Nat} {ret : Option FieldType}
    (hy : plainFor y = true) (hw : w = Cond.code y cc maxL ret :: w') (hn : (lg_sl av).length ≤ maxL)
    (body : ∀ (p : Program) (e : Env) (s : State) (m : MethodId) (below : List Frame) (meth : Method) (c : Code), p.tables.exec = Jvm.exec → c.code = cc → meth.sig.returnType = ret → meth.locks = false → c.maxLocals = maxL → s.vm.findClass y.cls = some m.cls → meth.name = y.name → (∀ x ∈ w, x.before av.toArray s = true) → q_K C s → va_AO RX0 s →
      va_P C.1 vwCl ws s.heap → va_D (q_A ws s) ws → va_S (q_A ws s) s.heap s.heap [] → (∀ q : Nat, s.heap.size ≤ q → q_A ws s q) → ∀ ls : Array Slot, lv_has ls maxL (lv_args 0 av) →
      W p l e (q_RN fr mc ms lo) s m av.toArray below meth c s.heap [] 0 0 (MQ below (q_QN C ws s.heap.size Q) av.toArray s mc ms (va_A ws s.heap.size)) (F0 m 0 ls [])) : q_NC C l y w fr lo mc ms av ws Q := by
  intro sz
  refine va_MetF (cc := cc) (maxL := maxL) (ret := ret) hy hw ?_
  intro p e s m args below meth c s₁ B hml hv
  obtain ⟨rfl, hsz, hP, hK, hD0, hO⟩ := hv
  subst hsz
  rw [lg_entry_eq]
  exact body p e s m below meth c B.exec B.bytes B.returns B.notSynchronized hml (findClass_of_methodNamed B.named) (name_of_methodNamed B.named B.method).1 (atoms_spec (ws := w) B.pre) hK hO hP hD0.self va_S.rf (fun q h => Or.inr h) _ (lv_entry av hn)
section QNew
variable {p : Program} {l : Launch} {e : Env} {R : Room} {s : State} {m : MethodId} {args : Array Value} {below : List Frame} {meth : Method} {c : Code} {H : Heap} {locs : List Loc} {cells slots : Nat} {Q : State → Prop}
variable {cc : ByteArray} {pc : Nat} {ls : Array Slot} {rest : List Value} {C : q_C} {X : va_W} {A0 : Nat → Prop} {H0 : Heap}
theorem q_newI {N : Nat} (hx : p.tables.exec = Jvm.exec) (hb : c.code = cc) (harr : (Cond.arrayClass .int).before args s = true) (hK : q_K C s) (hP : va_P C.1 vwCl X H) (hD : va_D A0 X) (hS : va_S A0 H0 H locs) (hA : ∀ q, H0.size ≤ q → A0 q) (hN : N ≤ 492) (hce : cells + 1 ≤ R.cells) (hsl : slots + N ≤ R.slots) (hdg : decode cc pc = .ok (.newarray .int, 2))
    (kk : ∀ (q : Nat) (H1 : Heap), va_P C.1 vwCl (X ++ [(q, .inl (C.2.1, N, .inl (fun k => nI (zN k))))]) H1 → va_D A0 (X ++ [(q, .inl (C.2.1, N, .inl (fun k => nI (zN k))))]) → va_S A0 H0 H1 locs → W p l e R s m args below meth c H1 locs (cells + 1) (slots + N) Q (F0 m (pc + 2) ls (.ref q :: rest))) : W p l e R s m args below meth c H locs cells slots Q (F0 m pc ls (.int (nI N) :: rest)) :=
  va_newa (atype := .int) (ty := .int) (a0 := (N, .inl (fun k => nI (zN k)))) hx hb harr rfl hK.1 hP hD hS hA (fun _ => rfl) (Int32.not_lt.mpr (nI_pos' (by omega))) (nI_clamp (by omega)) (by show N * 4 ≤ _; omega) hce hsl hdg (fun q cA H1 hK1 h1 h2 h3 => by
    have a : s.vm.findClass ("[" ++ FieldType.int.toString) = some cA := (hK1.2 4 (cA, .int) rfl).2
    have b : s.vm.findClass ("[" ++ FieldType.int.toString) = some C.2.1 := (hK.1.2 0 (C.2.1, .int) rfl).2
    cases a.symm.trans b
    exact kk q H1 h1 h2 h3)
theorem q_newJ {N : Nat} (hx : p.tables.exec = Jvm.exec) (hb : c.code = cc) (harr : (Cond.arrayClass .long).before args s = true) (hK : q_K C s) (hP : va_P C.1 vwCl X H) (hD : va_D A0 X) (hS : va_S A0 H0 H locs) (hA : ∀ q, H0.size ≤ q → A0 q) (hN : N ≤ 492) (hce : cells + 1 ≤ R.cells) (hsl : slots + N ≤ R.slots) (hdg : decode cc pc = .ok (.newarray .long, 2))
    (kk : ∀ (q : Nat) (H1 : Heap), va_P C.1 vwCl (X ++ [(q, .inl (C.2.2.1, N, .inr (.inl (fun k => lN (zN k)))))]) H1 → va_D A0 (X ++ [(q, .inl (C.2.2.1, N, .inr (.inl (fun k => lN (zN k)))))]) → va_S A0 H0 H1 locs → W p l e R s m args below meth c H1 locs (cells + 1) (slots + N) Q (F0 m (pc + 2) ls (.ref q :: rest))) : W p l e R s m args below meth c H locs cells slots Q (F0 m pc ls (.int (nI N) :: rest)) :=
  va_newa (atype := .long) (ty := .long) (a0 := (N, .inr (.inl (fun k => lN (zN k))))) hx hb harr rfl hK.1 hP hD hS hA (fun _ => rfl) (Int32.not_lt.mpr (nI_pos' (by omega))) (nI_clamp (by omega)) (by show N * 8 ≤ _; omega) hce hsl hdg (fun q cA H1 hK1 h1 h2 h3 => by
    have a : s.vm.findClass ("[" ++ FieldType.long.toString) = some cA := (hK1.2 4 (cA, .long) rfl).2
    have b : s.vm.findClass ("[" ++ FieldType.long.toString) = some C.2.2.1 := (hK.1.2 1 (C.2.2.1, .long) rfl).2
    cases a.symm.trans b
    exact kk q H1 h1 h2 h3)
theorem q_newZ {N : Nat} (hx : p.tables.exec = Jvm.exec) (hb : c.code = cc) (harr : (Cond.arrayClass .boolean).before args s = true) (hK : q_K C s) (hP : va_P C.1 vwCl X H) (hD : va_D A0 X) (hS : va_S A0 H0 H locs) (hA : ∀ q, H0.size ≤ q → A0 q) (hN : N ≤ 492) (hce : cells + 1 ≤ R.cells) (hsl : slots + N ≤ R.slots) (hdg : decode cc pc = .ok (.newarray .boolean, 2))
    (kk : ∀ (q : Nat) (H1 : Heap), va_P C.1 vwCl (X ++ [(q, .inl (C.2.2.2.1, N, .inl (fun k => nI (zN k))))]) H1 → va_D A0 (X ++ [(q, .inl (C.2.2.2.1, N, .inl (fun k => nI (zN k))))]) → va_S A0 H0 H1 locs → W p l e R s m args below meth c H1 locs (cells + 1) (slots + N) Q (F0 m (pc + 2) ls (.ref q :: rest))) : W p l e R s m args below meth c H locs cells slots Q (F0 m pc ls (.int (nI N) :: rest)) :=
  va_newa (atype := .boolean) (ty := .boolean) (a0 := (N, .inl (fun k => nI (zN k)))) hx hb harr rfl hK.1 hP hD hS hA (fun _ => rfl) (Int32.not_lt.mpr (nI_pos' (by omega))) (nI_clamp (by omega)) (by show N * 1 ≤ _; omega) hce hsl hdg (fun q cA H1 hK1 h1 h2 h3 => by
    have a : s.vm.findClass ("[" ++ FieldType.boolean.toString) = some cA := (hK1.2 4 (cA, .boolean) rfl).2
    have b : s.vm.findClass ("[" ++ FieldType.boolean.toString) = some C.2.2.2.1 := (hK.1.2 2 (C.2.2.2.1, .boolean) rfl).2
    cases a.symm.trans b
    exact kk q H1 h1 h2 h3)
theorem q_newQ {N : Nat} {own : String} {index : Nat} (hx : p.tables.exec = Jvm.exec) (hb : c.code = cc) (hown : s.vm.findClass own = some m.cls) (hcl : (Cond.classLink own index RX0).before args s = true) (hO : va_AO RX0 s) (hK : q_K C s) (hP : va_P C.1 vwCl X H) (hD : va_D A0 X) (hS : va_S A0 H0 H locs) (hA : ∀ q, H0.size ≤ q → A0 q) (hN : N ≤ 492) (hce : cells + 1 ≤ R.cells) (hsl : slots + N ≤ R.slots) (hdg : decode cc pc = .ok (.anewarray index, 3))
    (kk : ∀ (q : Nat) (H1 : Heap), va_P C.1 vwCl (X ++ [(q, .inl (C.2.2.2.2, N, .inr (.inr (.inr (.inr (fun _ => none))))))]) H1 → va_D A0 (X ++ [(q, .inl (C.2.2.2.2, N, .inr (.inr (.inr (.inr (fun _ => none))))))]) → va_S A0 H0 H1 locs → W p l e R s m args below meth c H1 locs (cells + 1) (slots + N) Q (F0 m (pc + 3) ls (.ref q :: rest))) : W p l e R s m args below meth c H locs cells slots Q (F0 m pc ls (.int (nI N) :: rest)) :=
  va_newq hx hb hown hcl hO hK.1 hP hD hS hA (Int32.not_lt.mpr (nI_pos' (by omega))) (nI_clamp (by omega)) (by show N * 4 ≤ _; omega) hce hsl hdg (fun q cA H1 hK1 h1 h2 h3 => by
    obtain ⟨kA, comp, -, -, -, a⟩ := (hK1.2 4 (cA, .object RX0) rfl).2
    obtain ⟨kA', comp', -, -, -, b⟩ := (hK.1.2 3 (C.2.2.2.2, .object RX0) rfl).2
    cases a.symm.trans b
    exact kk q H1 h1 h2 h3)
variable {Qm : va_W → Prop} {bytes : ByteArray} {nL maxL index fr lo mc ms : Nat} {Ts wM : List Cond} {own : String} {y : MethodName} {b : Nat} {z : va_E}
/-- a constructor's call, of the object that new made just before -/
theorem q_I (S : CallFix p m c cc nL s args Ts own) (hM : q_NC C l y wM fr lo mc ms [.ref b] [(b, z)] Qm) (cw : CallB R s args own index y bytes maxL none wM (q_RN fr mc ms lo) mc ms 0 ∧ y.name = "<init>" ∧ (Cond.instanceMethod y).before args s = true) (hK : q_K C s) (hO : va_AO RX0 s) (hP : va_P C.1 vwCl (X ++ [(b, z)]) H) (hD : va_D A0 (X ++ [(b, z)])) (hS : va_S A0 H0 H locs) (hA : ∀ q, H0.size ≤ q → A0 q)
    (hsize : ls.size = nL) (hW : (rest.map fun v => v.category).sum ≤ 8) (hdg : decode cc pc = .ok (.invokespecial index, 3)) (hce : cells + mc ≤ R.cells) (hsl : slots + ms ≤ R.slots)
    (kk : ∀ (w1 : va_W) (H1 : Heap) (locs1 : List Loc), Qm w1 → va_P C.1 vwCl (X ++ w1) H1 → va_D A0 (X ++ w1) → va_S A0 H0 H1 locs1 → W p l e R s m args below meth c H1 locs1 (cells + mc) (slots + ms) Q (F0 m (pc + 3) ls rest)) : W p l e R s m args below meth c H locs cells slots Q (F0 m pc ls (.ref b :: rest)) := by
  have hz : (b, z) ∈ X ++ [(b, z)] := List.mem_append_right _ List.mem_cons_self
  have hPz : va_P C.1 vwCl [(b, z)] H := by
    rw [q_P_mem] at hP ⊢
    intro q hq
    rw [List.mem_singleton] at hq
    subst hq
    exact hP _ hz
  have hPX : ∀ q ∈ X, va_at C.1 vwCl q H := fun q hq => (q_P_mem.mp hP) q (List.mem_append_left _ hq)
  have hD' := q_D_nd.mp hD
  have hbA : A0 b := hD'.2 b (List.mem_map.mpr ⟨_, hz, rfl⟩)
  have hDz : va_D (fun _ => True) [(b, z)] := by
    rw [q_D_nd]
    exact ⟨by simp, fun _ _ => trivial⟩
  have hfree : ∀ q, va_A [(b, z)] H.size q → A0 q := by
    rintro q (⟨k, x, hk⟩ | h)
    · have := List.mem_of_getElem? hk
      rw [List.mem_singleton] at this
      cases this
      exact hbA
    · exact hA q (Nat.le_trans hS.1 h)
  have hnod := hD'.1
  rw [List.map_append, List.nodup_append] at hnod
  have hXb : ∀ q ∈ X, q.1 ≠ b := fun q hq => hnod.2.2 q.1 (List.mem_map.mpr ⟨q, hq, rfl⟩) b (by simp)
  have hXlt : ∀ q ∈ X, q.1 < H.size := fun q hq => (hPX q hq).lt
  have hXn : ∀ q ∈ X, ¬ va_A [(b, z)] H.size q.1 := by
    rintro q hq (⟨k, x, hk⟩ | h)
    · have := List.mem_of_getElem? hk
      rw [List.mem_singleton] at this
      exact hXb q hq (congrArg Prod.fst this)
    · exact absurd (hXlt q hq) (Nat.not_lt.mpr h)
  have hr := va_runI (As := []) (rest := rest) (g := F0 m pc ls (.ref b :: rest)) (cells := cells) (slots := slots) (H := H) (locs := locs) (R := R) (below := below) (meth := meth) (e := e) S (hM H.size) cw ⟨q_blindN, fun U hU hW2 => ⟨rfl, by rw [hU], by rw [hU]; exact hPz, hK.warm hW2, hDz, hO.moved hW2.alike⟩⟩ rfl rfl hsize rfl (lv_room hW) hdg ⟨hce, hsl⟩
  intro T hT X0
  obtain ⟨v, st₀, t, T', L, h0, X', hL, e1, e2, ⟨⟨hv, w1, hq, hp, hd⟩, hz1, hk⟩, st⟩ := hr T hT X0
  cases hv
  rw [h0] at hz1 hk
  have hXk : ∀ q ∈ X, T'.heap[q.1]? = H[q.1]? := fun q hq => by rw [e1]; exact hk q.1 (hXlt q hq) (hXn q hq)
  obtain ⟨t2, a1, b1⟩ := kk w1 T'.heap (locs ++ L) hq (by
      rw [q_P_mem]
      intro q hq1
      rcases List.mem_append.mp hq1 with h | h
      · exact (hPX q h).kept (hXk q h)
      · rw [e1]; exact q_P_mem.mp hp q h) (by
      have hd' := q_D_nd.mp hd
      rw [q_D_nd, List.map_append, List.nodup_append]
      refine ⟨⟨hnod.1, hd'.1, fun q hq1 q2 hq2 e9 => ?_⟩, fun q hq1 => ?_⟩
      · subst e9
        obtain ⟨x, hx1, rfl⟩ := List.mem_map.mp hq1
        exact hXn x hx1 (hd'.2 _ hq2)
      · rcases List.mem_append.mp hq1 with h | h
        · exact hD'.2 q (by rw [List.map_append]; exact List.mem_append_left _ h)
        · exact hfree q (hd'.2 q h)) ⟨Nat.le_trans hS.1 (by rw [e1]; exact hz1), fun q h1 h2 => by
      rw [e1, hk q (Nat.lt_of_lt_of_le h1 hS.1) (fun h3 => h2 (hfree q h3))]
      exact hS.2.1 q h1 h2, fun x hx => (List.mem_append.mp hx).elim (fun h => hS.2.2 x h) (fun h => hfree _ (hL x h))⟩ T' rfl X'
  exact ⟨t2, st t2 a1, b1⟩
end QNew
set_option maxHeartbeats 4000000 in
set_option maxRecDepth 100000 in
theorem n_X0 (l : Launch) (C : q_C) (h0 : Nat) : q_NC C l yX0_init wsX0_init 1 12 7 76 [.ref h0] [(h0, .inr (0, fsX0))] (fun w => ∃ a : Nat → Nat, a 0 = h0 ∧ w = wB C a bd0) := by
  refine q_headN (cc := cX0_init) (maxL := 2) (ret := none) (by decide +kernel) rfl (Nat.le_of_ble_eq_true rfl) ?_
  intro p e s m below meth c hx hb hr hlocks hml hown hin hts hK hO hP hD hS hA ls hl
  have hl : lv_has ls 2 [(0, .ref h0)] := hl
  have hP : va_P C.1 vwCl ([(h0, .inr (0, [.null, .null, .null, .null, .null, .null, .null, .int (nI 0), .int (nI 0), .long (lN 0), .long (lN 0), .long (lN 0)]))]) s.heap := hP
  have hf15 := hts (.fieldLink RX0 15 "RestedArms$Board" "goods" "[I") (by decide +kernel)
  have hf18 := hts (.fieldLink RX0 18 "RestedArms$Board" "bads" "[I") (by decide +kernel)
  have hf21 := hts (.fieldLink RX0 21 "RestedArms$Board" "chances" "[I") (by decide +kernel)
  have hf24 := hts (.fieldLink RX0 24 "RestedArms$Board" "places" "[I") (by decide +kernel)
  have hf27 := hts (.fieldLink RX0 27 "RestedArms$Board" "pulls" "[I") (by decide +kernel)
  have hf30 := hts (.fieldLink RX0 30 "RestedArms$Board" "settings" "[I") (by decide +kernel)
  have hf33 := hts (.fieldLink RX0 33 "RestedArms$Board" "last" "I") (by decide +kernel)
  have hf39 := hts (.fieldLink RX0 39 "RestedArms$Board" "weight" "J") (by decide +kernel)
  have hf43 := hts (.fieldLink RX0 43 "RestedArms$Board" "row" "J") (by decide +kernel)
  have hf9 := hts (.fieldLink RX0 9 "RestedArms$Board" "gifts" "[I") (by decide +kernel)
  have hin0 : ∀ w ∈ u_ws RX0 TX0 12, w ∈ wsX0_init := by decide +kernel
  have hk37 := hts (.constantLong RX0 37 (1000000)) (by decide +kernel)
  refine lv_aload_n hx hb dX0_init_0 rfl (lv_at hl 0 rfl) ?_
  refine W.objInit hx hb hown (hts (.methodLink RX0 3 objectInit) (by decide +kernel)) (hts (.instanceMethod objectInit) (by decide +kernel)) (hts _ (List.mem_of_getElem? (i := 3) rfl)) rfl (by rw [hml]; exact hl.1) rfl dX0_init_1 (Nat.le_of_ble_eq_true rfl) (Nat.le_of_ble_eq_true rfl) ?_
  refine W.eq (g2 := F0 m 4 ls []) rfl ?_
  refine lv_aload_n hx hb dX0_init_4 rfl (lv_at hl 0 rfl) ?_
  refine lv_bipush (v := nI 16) hx hb dX0_init_5 (by decide) ?_
  refine q_newI (N := 16) hx hb (hts (.arrayClass .int) (by decide +kernel)) hK hP hD hS hA (Nat.le_of_ble_eq_true rfl) (Nat.le_of_ble_eq_true rfl) (Nat.le_of_ble_eq_true rfl) dX0_init_7 (fun u1 H hP hD hS => ?_)
  have hP : va_P C.1 vwCl ([(h0, .inr (0, [.null, .null, .null, .null, .null, .null, .null, .int (nI 0), .int (nI 0), .long (lN 0), .long (lN 0), .long (lN 0)])), (u1, .inl (C.2.1, 16, .inl (fun k => nI (zN k))))]) H := hP
  have hD : va_D (q_A ([(h0, .inr (0, [.null, .null, .null, .null, .null, .null, .null, .int (nI 0), .int (nI 0), .long (lN 0), .long (lN 0), .long (lN 0)]))]) s) ([(h0, .inr (0, [.null, .null, .null, .null, .null, .null, .null, .int (nI 0), .int (nI 0), .long (lN 0), .long (lN 0), .long (lN 0)])), (u1, .inl (C.2.1, 16, .inl (fun k => nI (zN k))))]) := hD
  refine va_putF (ci := 0) (v := .ref u1) (ty := .array .int) (C := RX0) (T := TX0) (N := 12) hx hb hts hin0 tyX0 tyX0_ok nmX0 hown hK.1 hP hD hS 0 rfl rfl 0 (by decide) hf9 (fun _ h9 => h9) rfl hin rfl (by decide +kernel) rfl rfl (Nat.le_of_ble_eq_true rfl) dX0_init_9 (fun H locs hP hD hS => ?_)
  have hP : va_P C.1 vwCl ([(h0, .inr (0, [.ref u1, .null, .null, .null, .null, .null, .null, .int (nI 0), .int (nI 0), .long (lN 0), .long (lN 0), .long (lN 0)])), (u1, .inl (C.2.1, 16, .inl (fun k => nI (zN k))))]) H := hP
  have hD : va_D (q_A ([(h0, .inr (0, [.null, .null, .null, .null, .null, .null, .null, .int (nI 0), .int (nI 0), .long (lN 0), .long (lN 0), .long (lN 0)]))]) s) ([(h0, .inr (0, [.ref u1, .null, .null, .null, .null, .null, .null, .int (nI 0), .int (nI 0), .long (lN 0), .long (lN 0), .long (lN 0)])), (u1, .inl (C.2.1, 16, .inl (fun k => nI (zN k))))]) := hD
  refine lv_aload_n hx hb dX0_init_12 rfl (lv_at hl 0 rfl) ?_
  refine lv_bipush (v := nI 16) hx hb dX0_init_13 (by decide) ?_
  refine q_newI (N := 16) hx hb (hts (.arrayClass .int) (by decide +kernel)) hK hP hD hS hA (Nat.le_of_ble_eq_true rfl) (Nat.le_of_ble_eq_true rfl) (Nat.le_of_ble_eq_true rfl) dX0_init_15 (fun u2 H hP hD hS => ?_)
  have hP : va_P C.1 vwCl ([(h0, .inr (0, [.ref u1, .null, .null, .null, .null, .null, .null, .int (nI 0), .int (nI 0), .long (lN 0), .long (lN 0), .long (lN 0)])), (u1, .inl (C.2.1, 16, .inl (fun k => nI (zN k)))), (u2, .inl (C.2.1, 16, .inl (fun k => nI (zN k))))]) H := hP
  have hD : va_D (q_A ([(h0, .inr (0, [.null, .null, .null, .null, .null, .null, .null, .int (nI 0), .int (nI 0), .long (lN 0), .long (lN 0), .long (lN 0)]))]) s) ([(h0, .inr (0, [.ref u1, .null, .null, .null, .null, .null, .null, .int (nI 0), .int (nI 0), .long (lN 0), .long (lN 0), .long (lN 0)])), (u1, .inl (C.2.1, 16, .inl (fun k => nI (zN k)))), (u2, .inl (C.2.1, 16, .inl (fun k => nI (zN k))))]) := hD
  refine va_putF (ci := 0) (v := .ref u2) (ty := .array .int) (C := RX0) (T := TX0) (N := 12) hx hb hts hin0 tyX0 tyX0_ok nmX0 hown hK.1 hP hD hS 0 rfl rfl 1 (by decide) hf15 (fun _ h9 => h9) rfl hin rfl (by decide +kernel) rfl rfl (Nat.le_of_ble_eq_true rfl) dX0_init_17 (fun H locs hP hD hS => ?_)
  have hP : va_P C.1 vwCl ([(h0, .inr (0, [.ref u1, .ref u2, .null, .null, .null, .null, .null, .int (nI 0), .int (nI 0), .long (lN 0), .long (lN 0), .long (lN 0)])), (u1, .inl (C.2.1, 16, .inl (fun k => nI (zN k)))), (u2, .inl (C.2.1, 16, .inl (fun k => nI (zN k))))]) H := hP
  have hD : va_D (q_A ([(h0, .inr (0, [.null, .null, .null, .null, .null, .null, .null, .int (nI 0), .int (nI 0), .long (lN 0), .long (lN 0), .long (lN 0)]))]) s) ([(h0, .inr (0, [.ref u1, .ref u2, .null, .null, .null, .null, .null, .int (nI 0), .int (nI 0), .long (lN 0), .long (lN 0), .long (lN 0)])), (u1, .inl (C.2.1, 16, .inl (fun k => nI (zN k)))), (u2, .inl (C.2.1, 16, .inl (fun k => nI (zN k))))]) := hD
  refine lv_aload_n hx hb dX0_init_20 rfl (lv_at hl 0 rfl) ?_
  refine lv_bipush (v := nI 16) hx hb dX0_init_21 (by decide) ?_
  refine q_newI (N := 16) hx hb (hts (.arrayClass .int) (by decide +kernel)) hK hP hD hS hA (Nat.le_of_ble_eq_true rfl) (Nat.le_of_ble_eq_true rfl) (Nat.le_of_ble_eq_true rfl) dX0_init_23 (fun u3 H hP hD hS => ?_)
  have hP : va_P C.1 vwCl ([(h0, .inr (0, [.ref u1, .ref u2, .null, .null, .null, .null, .null, .int (nI 0), .int (nI 0), .long (lN 0), .long (lN 0), .long (lN 0)])), (u1, .inl (C.2.1, 16, .inl (fun k => nI (zN k)))), (u2, .inl (C.2.1, 16, .inl (fun k => nI (zN k)))), (u3, .inl (C.2.1, 16, .inl (fun k => nI (zN k))))]) H := hP
  have hD : va_D (q_A ([(h0, .inr (0, [.null, .null, .null, .null, .null, .null, .null, .int (nI 0), .int (nI 0), .long (lN 0), .long (lN 0), .long (lN 0)]))]) s) ([(h0, .inr (0, [.ref u1, .ref u2, .null, .null, .null, .null, .null, .int (nI 0), .int (nI 0), .long (lN 0), .long (lN 0), .long (lN 0)])), (u1, .inl (C.2.1, 16, .inl (fun k => nI (zN k)))), (u2, .inl (C.2.1, 16, .inl (fun k => nI (zN k)))), (u3, .inl (C.2.1, 16, .inl (fun k => nI (zN k))))]) := hD
  refine va_putF (ci := 0) (v := .ref u3) (ty := .array .int) (C := RX0) (T := TX0) (N := 12) hx hb hts hin0 tyX0 tyX0_ok nmX0 hown hK.1 hP hD hS 0 rfl rfl 2 (by decide) hf18 (fun _ h9 => h9) rfl hin rfl (by decide +kernel) rfl rfl (Nat.le_of_ble_eq_true rfl) dX0_init_25 (fun H locs hP hD hS => ?_)
  have hP : va_P C.1 vwCl ([(h0, .inr (0, [.ref u1, .ref u2, .ref u3, .null, .null, .null, .null, .int (nI 0), .int (nI 0), .long (lN 0), .long (lN 0), .long (lN 0)])), (u1, .inl (C.2.1, 16, .inl (fun k => nI (zN k)))), (u2, .inl (C.2.1, 16, .inl (fun k => nI (zN k)))), (u3, .inl (C.2.1, 16, .inl (fun k => nI (zN k))))]) H := hP
  have hD : va_D (q_A ([(h0, .inr (0, [.null, .null, .null, .null, .null, .null, .null, .int (nI 0), .int (nI 0), .long (lN 0), .long (lN 0), .long (lN 0)]))]) s) ([(h0, .inr (0, [.ref u1, .ref u2, .ref u3, .null, .null, .null, .null, .int (nI 0), .int (nI 0), .long (lN 0), .long (lN 0), .long (lN 0)])), (u1, .inl (C.2.1, 16, .inl (fun k => nI (zN k)))), (u2, .inl (C.2.1, 16, .inl (fun k => nI (zN k)))), (u3, .inl (C.2.1, 16, .inl (fun k => nI (zN k))))]) := hD
  refine lv_aload_n hx hb dX0_init_28 rfl (lv_at hl 0 rfl) ?_
  refine lv_bipush (v := nI 16) hx hb dX0_init_29 (by decide) ?_
  refine q_newI (N := 16) hx hb (hts (.arrayClass .int) (by decide +kernel)) hK hP hD hS hA (Nat.le_of_ble_eq_true rfl) (Nat.le_of_ble_eq_true rfl) (Nat.le_of_ble_eq_true rfl) dX0_init_31 (fun u4 H hP hD hS => ?_)
  have hP : va_P C.1 vwCl ([(h0, .inr (0, [.ref u1, .ref u2, .ref u3, .null, .null, .null, .null, .int (nI 0), .int (nI 0), .long (lN 0), .long (lN 0), .long (lN 0)])), (u1, .inl (C.2.1, 16, .inl (fun k => nI (zN k)))), (u2, .inl (C.2.1, 16, .inl (fun k => nI (zN k)))), (u3, .inl (C.2.1, 16, .inl (fun k => nI (zN k)))), (u4, .inl (C.2.1, 16, .inl (fun k => nI (zN k))))]) H := hP
  have hD : va_D (q_A ([(h0, .inr (0, [.null, .null, .null, .null, .null, .null, .null, .int (nI 0), .int (nI 0), .long (lN 0), .long (lN 0), .long (lN 0)]))]) s) ([(h0, .inr (0, [.ref u1, .ref u2, .ref u3, .null, .null, .null, .null, .int (nI 0), .int (nI 0), .long (lN 0), .long (lN 0), .long (lN 0)])), (u1, .inl (C.2.1, 16, .inl (fun k => nI (zN k)))), (u2, .inl (C.2.1, 16, .inl (fun k => nI (zN k)))), (u3, .inl (C.2.1, 16, .inl (fun k => nI (zN k)))), (u4, .inl (C.2.1, 16, .inl (fun k => nI (zN k))))]) := hD
  refine va_putF (ci := 0) (v := .ref u4) (ty := .array .int) (C := RX0) (T := TX0) (N := 12) hx hb hts hin0 tyX0 tyX0_ok nmX0 hown hK.1 hP hD hS 0 rfl rfl 3 (by decide) hf21 (fun _ h9 => h9) rfl hin rfl (by decide +kernel) rfl rfl (Nat.le_of_ble_eq_true rfl) dX0_init_33 (fun H locs hP hD hS => ?_)
  have hP : va_P C.1 vwCl ([(h0, .inr (0, [.ref u1, .ref u2, .ref u3, .ref u4, .null, .null, .null, .int (nI 0), .int (nI 0), .long (lN 0), .long (lN 0), .long (lN 0)])), (u1, .inl (C.2.1, 16, .inl (fun k => nI (zN k)))), (u2, .inl (C.2.1, 16, .inl (fun k => nI (zN k)))), (u3, .inl (C.2.1, 16, .inl (fun k => nI (zN k)))), (u4, .inl (C.2.1, 16, .inl (fun k => nI (zN k))))]) H := hP
  have hD : va_D (q_A ([(h0, .inr (0, [.null, .null, .null, .null, .null, .null, .null, .int (nI 0), .int (nI 0), .long (lN 0), .long (lN 0), .long (lN 0)]))]) s) ([(h0, .inr (0, [.ref u1, .ref u2, .ref u3, .ref u4, .null, .null, .null, .int (nI 0), .int (nI 0), .long (lN 0), .long (lN 0), .long (lN 0)])), (u1, .inl (C.2.1, 16, .inl (fun k => nI (zN k)))), (u2, .inl (C.2.1, 16, .inl (fun k => nI (zN k)))), (u3, .inl (C.2.1, 16, .inl (fun k => nI (zN k)))), (u4, .inl (C.2.1, 16, .inl (fun k => nI (zN k))))]) := hD
  refine lv_aload_n hx hb dX0_init_36 rfl (lv_at hl 0 rfl) ?_
  refine lv_iconst (v := nI 4) hx hb dX0_init_37 (by decide) ?_
  refine q_newI (N := 4) hx hb (hts (.arrayClass .int) (by decide +kernel)) hK hP hD hS hA (Nat.le_of_ble_eq_true rfl) (Nat.le_of_ble_eq_true rfl) (Nat.le_of_ble_eq_true rfl) dX0_init_38 (fun u5 H hP hD hS => ?_)
  have hP : va_P C.1 vwCl ([(h0, .inr (0, [.ref u1, .ref u2, .ref u3, .ref u4, .null, .null, .null, .int (nI 0), .int (nI 0), .long (lN 0), .long (lN 0), .long (lN 0)])), (u1, .inl (C.2.1, 16, .inl (fun k => nI (zN k)))), (u2, .inl (C.2.1, 16, .inl (fun k => nI (zN k)))), (u3, .inl (C.2.1, 16, .inl (fun k => nI (zN k)))), (u4, .inl (C.2.1, 16, .inl (fun k => nI (zN k)))), (u5, .inl (C.2.1, 4, .inl (fun k => nI (zN k))))]) H := hP
  have hD : va_D (q_A ([(h0, .inr (0, [.null, .null, .null, .null, .null, .null, .null, .int (nI 0), .int (nI 0), .long (lN 0), .long (lN 0), .long (lN 0)]))]) s) ([(h0, .inr (0, [.ref u1, .ref u2, .ref u3, .ref u4, .null, .null, .null, .int (nI 0), .int (nI 0), .long (lN 0), .long (lN 0), .long (lN 0)])), (u1, .inl (C.2.1, 16, .inl (fun k => nI (zN k)))), (u2, .inl (C.2.1, 16, .inl (fun k => nI (zN k)))), (u3, .inl (C.2.1, 16, .inl (fun k => nI (zN k)))), (u4, .inl (C.2.1, 16, .inl (fun k => nI (zN k)))), (u5, .inl (C.2.1, 4, .inl (fun k => nI (zN k))))]) := hD
  refine va_putF (ci := 0) (v := .ref u5) (ty := .array .int) (C := RX0) (T := TX0) (N := 12) hx hb hts hin0 tyX0 tyX0_ok nmX0 hown hK.1 hP hD hS 0 rfl rfl 4 (by decide) hf24 (fun _ h9 => h9) rfl hin rfl (by decide +kernel) rfl rfl (Nat.le_of_ble_eq_true rfl) dX0_init_40 (fun H locs hP hD hS => ?_)
  have hP : va_P C.1 vwCl ([(h0, .inr (0, [.ref u1, .ref u2, .ref u3, .ref u4, .ref u5, .null, .null, .int (nI 0), .int (nI 0), .long (lN 0), .long (lN 0), .long (lN 0)])), (u1, .inl (C.2.1, 16, .inl (fun k => nI (zN k)))), (u2, .inl (C.2.1, 16, .inl (fun k => nI (zN k)))), (u3, .inl (C.2.1, 16, .inl (fun k => nI (zN k)))), (u4, .inl (C.2.1, 16, .inl (fun k => nI (zN k)))), (u5, .inl (C.2.1, 4, .inl (fun k => nI (zN k))))]) H := hP
  have hD : va_D (q_A ([(h0, .inr (0, [.null, .null, .null, .null, .null, .null, .null, .int (nI 0), .int (nI 0), .long (lN 0), .long (lN 0), .long (lN 0)]))]) s) ([(h0, .inr (0, [.ref u1, .ref u2, .ref u3, .ref u4, .ref u5, .null, .null, .int (nI 0), .int (nI 0), .long (lN 0), .long (lN 0), .long (lN 0)])), (u1, .inl (C.2.1, 16, .inl (fun k => nI (zN k)))), (u2, .inl (C.2.1, 16, .inl (fun k => nI (zN k)))), (u3, .inl (C.2.1, 16, .inl (fun k => nI (zN k)))), (u4, .inl (C.2.1, 16, .inl (fun k => nI (zN k)))), (u5, .inl (C.2.1, 4, .inl (fun k => nI (zN k))))]) := hD
  refine lv_aload_n hx hb dX0_init_43 rfl (lv_at hl 0 rfl) ?_
  refine lv_iconst (v := nI 4) hx hb dX0_init_44 (by decide) ?_
  refine q_newI (N := 4) hx hb (hts (.arrayClass .int) (by decide +kernel)) hK hP hD hS hA (Nat.le_of_ble_eq_true rfl) (Nat.le_of_ble_eq_true rfl) (Nat.le_of_ble_eq_true rfl) dX0_init_45 (fun u6 H hP hD hS => ?_)
  have hP : va_P C.1 vwCl ([(h0, .inr (0, [.ref u1, .ref u2, .ref u3, .ref u4, .ref u5, .null, .null, .int (nI 0), .int (nI 0), .long (lN 0), .long (lN 0), .long (lN 0)])), (u1, .inl (C.2.1, 16, .inl (fun k => nI (zN k)))), (u2, .inl (C.2.1, 16, .inl (fun k => nI (zN k)))), (u3, .inl (C.2.1, 16, .inl (fun k => nI (zN k)))), (u4, .inl (C.2.1, 16, .inl (fun k => nI (zN k)))), (u5, .inl (C.2.1, 4, .inl (fun k => nI (zN k)))), (u6, .inl (C.2.1, 4, .inl (fun k => nI (zN k))))]) H := hP
  have hD : va_D (q_A ([(h0, .inr (0, [.null, .null, .null, .null, .null, .null, .null, .int (nI 0), .int (nI 0), .long (lN 0), .long (lN 0), .long (lN 0)]))]) s) ([(h0, .inr (0, [.ref u1, .ref u2, .ref u3, .ref u4, .ref u5, .null, .null, .int (nI 0), .int (nI 0), .long (lN 0), .long (lN 0), .long (lN 0)])), (u1, .inl (C.2.1, 16, .inl (fun k => nI (zN k)))), (u2, .inl (C.2.1, 16, .inl (fun k => nI (zN k)))), (u3, .inl (C.2.1, 16, .inl (fun k => nI (zN k)))), (u4, .inl (C.2.1, 16, .inl (fun k => nI (zN k)))), (u5, .inl (C.2.1, 4, .inl (fun k => nI (zN k)))), (u6, .inl (C.2.1, 4, .inl (fun k => nI (zN k))))]) := hD
  refine va_putF (ci := 0) (v := .ref u6) (ty := .array .int) (C := RX0) (T := TX0) (N := 12) hx hb hts hin0 tyX0 tyX0_ok nmX0 hown hK.1 hP hD hS 0 rfl rfl 5 (by decide) hf27 (fun _ h9 => h9) rfl hin rfl (by decide +kernel) rfl rfl (Nat.le_of_ble_eq_true rfl) dX0_init_47 (fun H locs hP hD hS => ?_)
  have hP : va_P C.1 vwCl ([(h0, .inr (0, [.ref u1, .ref u2, .ref u3, .ref u4, .ref u5, .ref u6, .null, .int (nI 0), .int (nI 0), .long (lN 0), .long (lN 0), .long (lN 0)])), (u1, .inl (C.2.1, 16, .inl (fun k => nI (zN k)))), (u2, .inl (C.2.1, 16, .inl (fun k => nI (zN k)))), (u3, .inl (C.2.1, 16, .inl (fun k => nI (zN k)))), (u4, .inl (C.2.1, 16, .inl (fun k => nI (zN k)))), (u5, .inl (C.2.1, 4, .inl (fun k => nI (zN k)))), (u6, .inl (C.2.1, 4, .inl (fun k => nI (zN k))))]) H := hP
  have hD : va_D (q_A ([(h0, .inr (0, [.null, .null, .null, .null, .null, .null, .null, .int (nI 0), .int (nI 0), .long (lN 0), .long (lN 0), .long (lN 0)]))]) s) ([(h0, .inr (0, [.ref u1, .ref u2, .ref u3, .ref u4, .ref u5, .ref u6, .null, .int (nI 0), .int (nI 0), .long (lN 0), .long (lN 0), .long (lN 0)])), (u1, .inl (C.2.1, 16, .inl (fun k => nI (zN k)))), (u2, .inl (C.2.1, 16, .inl (fun k => nI (zN k)))), (u3, .inl (C.2.1, 16, .inl (fun k => nI (zN k)))), (u4, .inl (C.2.1, 16, .inl (fun k => nI (zN k)))), (u5, .inl (C.2.1, 4, .inl (fun k => nI (zN k)))), (u6, .inl (C.2.1, 4, .inl (fun k => nI (zN k))))]) := hD
  refine lv_aload_n hx hb dX0_init_50 rfl (lv_at hl 0 rfl) ?_
  refine lv_iconst (v := nI 4) hx hb dX0_init_51 (by decide) ?_
  refine q_newI (N := 4) hx hb (hts (.arrayClass .int) (by decide +kernel)) hK hP hD hS hA (Nat.le_of_ble_eq_true rfl) (Nat.le_of_ble_eq_true rfl) (Nat.le_of_ble_eq_true rfl) dX0_init_52 (fun u7 H hP hD hS => ?_)
  have hP : va_P C.1 vwCl ([(h0, .inr (0, [.ref u1, .ref u2, .ref u3, .ref u4, .ref u5, .ref u6, .null, .int (nI 0), .int (nI 0), .long (lN 0), .long (lN 0), .long (lN 0)])), (u1, .inl (C.2.1, 16, .inl (fun k => nI (zN k)))), (u2, .inl (C.2.1, 16, .inl (fun k => nI (zN k)))), (u3, .inl (C.2.1, 16, .inl (fun k => nI (zN k)))), (u4, .inl (C.2.1, 16, .inl (fun k => nI (zN k)))), (u5, .inl (C.2.1, 4, .inl (fun k => nI (zN k)))), (u6, .inl (C.2.1, 4, .inl (fun k => nI (zN k)))), (u7, .inl (C.2.1, 4, .inl (fun k => nI (zN k))))]) H := hP
  have hD : va_D (q_A ([(h0, .inr (0, [.null, .null, .null, .null, .null, .null, .null, .int (nI 0), .int (nI 0), .long (lN 0), .long (lN 0), .long (lN 0)]))]) s) ([(h0, .inr (0, [.ref u1, .ref u2, .ref u3, .ref u4, .ref u5, .ref u6, .null, .int (nI 0), .int (nI 0), .long (lN 0), .long (lN 0), .long (lN 0)])), (u1, .inl (C.2.1, 16, .inl (fun k => nI (zN k)))), (u2, .inl (C.2.1, 16, .inl (fun k => nI (zN k)))), (u3, .inl (C.2.1, 16, .inl (fun k => nI (zN k)))), (u4, .inl (C.2.1, 16, .inl (fun k => nI (zN k)))), (u5, .inl (C.2.1, 4, .inl (fun k => nI (zN k)))), (u6, .inl (C.2.1, 4, .inl (fun k => nI (zN k)))), (u7, .inl (C.2.1, 4, .inl (fun k => nI (zN k))))]) := hD
  refine va_putF (ci := 0) (v := .ref u7) (ty := .array .int) (C := RX0) (T := TX0) (N := 12) hx hb hts hin0 tyX0 tyX0_ok nmX0 hown hK.1 hP hD hS 0 rfl rfl 6 (by decide) hf30 (fun _ h9 => h9) rfl hin rfl (by decide +kernel) rfl rfl (Nat.le_of_ble_eq_true rfl) dX0_init_54 (fun H locs hP hD hS => ?_)
  have hP : va_P C.1 vwCl ([(h0, .inr (0, [.ref u1, .ref u2, .ref u3, .ref u4, .ref u5, .ref u6, .ref u7, .int (nI 0), .int (nI 0), .long (lN 0), .long (lN 0), .long (lN 0)])), (u1, .inl (C.2.1, 16, .inl (fun k => nI (zN k)))), (u2, .inl (C.2.1, 16, .inl (fun k => nI (zN k)))), (u3, .inl (C.2.1, 16, .inl (fun k => nI (zN k)))), (u4, .inl (C.2.1, 16, .inl (fun k => nI (zN k)))), (u5, .inl (C.2.1, 4, .inl (fun k => nI (zN k)))), (u6, .inl (C.2.1, 4, .inl (fun k => nI (zN k)))), (u7, .inl (C.2.1, 4, .inl (fun k => nI (zN k))))]) H := hP
  have hD : va_D (q_A ([(h0, .inr (0, [.null, .null, .null, .null, .null, .null, .null, .int (nI 0), .int (nI 0), .long (lN 0), .long (lN 0), .long (lN 0)]))]) s) ([(h0, .inr (0, [.ref u1, .ref u2, .ref u3, .ref u4, .ref u5, .ref u6, .ref u7, .int (nI 0), .int (nI 0), .long (lN 0), .long (lN 0), .long (lN 0)])), (u1, .inl (C.2.1, 16, .inl (fun k => nI (zN k)))), (u2, .inl (C.2.1, 16, .inl (fun k => nI (zN k)))), (u3, .inl (C.2.1, 16, .inl (fun k => nI (zN k)))), (u4, .inl (C.2.1, 16, .inl (fun k => nI (zN k)))), (u5, .inl (C.2.1, 4, .inl (fun k => nI (zN k)))), (u6, .inl (C.2.1, 4, .inl (fun k => nI (zN k)))), (u7, .inl (C.2.1, 4, .inl (fun k => nI (zN k))))]) := hD
  refine lv_iconst (v := nI 0) hx hb dX0_init_57 (by decide) ?_
  refine lv_istore_n (lv' := [(1, .int (nI 0)), (0, .ref h0)]) hx hb dX0_init_58 rfl hl (by decide) rfl (fun ls hl => ?_)
  have K59 : ∀ (n59 i59 : Nat), i59 ≤ 16 → 16 + 1 ≤ i59 + n59 → ∀ (H : Heap) (locs : List Loc) (ls : Array Slot), va_P C.1 vwCl ([(h0, .inr (0, [.ref u1, .ref u2, .ref u3, .ref u4, .ref u5, .ref u6, .ref u7, .int (nI 0), .int (nI 0), .long (lN 0), .long (lN 0), .long (lN 0)])), (u1, .inl (C.2.1, 16, .inl (fun k => nI (zN k)))), (u2, .inl (C.2.1, 16, .inl (fun k => nI (gdN i59 k)))), (u3, .inl (C.2.1, 16, .inl (fun k => nI (gdN i59 k)))), (u4, .inl (C.2.1, 16, .inl (fun k => nI (chN i59 k)))), (u5, .inl (C.2.1, 4, .inl (fun k => nI (zN k)))), (u6, .inl (C.2.1, 4, .inl (fun k => nI (zN k)))), (u7, .inl (C.2.1, 4, .inl (fun k => nI (zN k))))]) H → va_D (q_A ([(h0, .inr (0, [.null, .null, .null, .null, .null, .null, .null, .int (nI 0), .int (nI 0), .long (lN 0), .long (lN 0), .long (lN 0)]))]) s) ([(h0, .inr (0, [.ref u1, .ref u2, .ref u3, .ref u4, .ref u5, .ref u6, .ref u7, .int (nI 0), .int (nI 0), .long (lN 0), .long (lN 0), .long (lN 0)])), (u1, .inl (C.2.1, 16, .inl (fun k => nI (zN k)))), (u2, .inl (C.2.1, 16, .inl (fun k => nI (gdN i59 k)))), (u3, .inl (C.2.1, 16, .inl (fun k => nI (gdN i59 k)))), (u4, .inl (C.2.1, 16, .inl (fun k => nI (chN i59 k)))), (u5, .inl (C.2.1, 4, .inl (fun k => nI (zN k)))), (u6, .inl (C.2.1, 4, .inl (fun k => nI (zN k)))), (u7, .inl (C.2.1, 4, .inl (fun k => nI (zN k))))]) → va_S (q_A ([(h0, .inr (0, [.null, .null, .null, .null, .null, .null, .null, .int (nI 0), .int (nI 0), .long (lN 0), .long (lN 0), .long (lN 0)]))]) s) s.heap H locs → lv_has ls 2 [(1, .int (nI i59)), (0, .ref h0)] → W p l e (q_RN 1 7 76 12) s m ([.ref h0] : List Value).toArray below meth c H locs 7 76 (MQ below (q_QN C ([(h0, .inr (0, [.null, .null, .null, .null, .null, .null, .null, .int (nI 0), .int (nI 0), .long (lN 0), .long (lN 0), .long (lN 0)]))]) s.heap.size (fun w => ∃ a : Nat → Nat, a 0 = h0 ∧ w = wB C a bd0)) ([.ref h0] : List Value).toArray s 7 76 (va_A ([(h0, .inr (0, [.null, .null, .null, .null, .null, .null, .null, .int (nI 0), .int (nI 0), .long (lN 0), .long (lN 0), .long (lN 0)]))]) s.heap.size)) (F0 m 59 ls []) := by
    intro n59
    induction n59 with
    | zero => intro i59  q1 q2; exact absurd q2 (by omega)
    | succ n59 ih59 =>
      intro i59  hi59 hn59  H locs ls hP hD hS hl
      refine lv_iload_n hx hb dX0_init_59 rfl (lv_at hl 0 rfl) ?_
      refine lv_bipush (v := nI 16) hx hb dX0_init_60 (by decide) ?_
      refine lv_icmp_ge (tgt := 96) hx hb dX0_init_62 (by decide) (fun c62 => ?_) (fun c62 => ?_)
      · have c62 : 16 ≤ i59 := q_nge (by omega) (by omega) c62
        obtain rfl : i59 = 16 := by omega
        have hP : va_P C.1 vwCl ([(h0, .inr (0, [.ref u1, .ref u2, .ref u3, .ref u4, .ref u5, .ref u6, .ref u7, .int (nI 0), .int (nI 0), .long (lN 0), .long (lN 0), .long (lN 0)])), (u1, .inl (C.2.1, 16, .inl (fun k => nI (zN k)))), (u2, .inl (C.2.1, 16, .inl (fun k => nI (gdN 16 k)))), (u3, .inl (C.2.1, 16, .inl (fun k => nI (gdN 16 k)))), (u4, .inl (C.2.1, 16, .inl (fun k => nI (chN 16 k)))), (u5, .inl (C.2.1, 4, .inl (fun k => nI (zN k)))), (u6, .inl (C.2.1, 4, .inl (fun k => nI (zN k)))), (u7, .inl (C.2.1, 4, .inl (fun k => nI (zN k))))]) H := hP
        have hD : va_D (q_A ([(h0, .inr (0, [.null, .null, .null, .null, .null, .null, .null, .int (nI 0), .int (nI 0), .long (lN 0), .long (lN 0), .long (lN 0)]))]) s) ([(h0, .inr (0, [.ref u1, .ref u2, .ref u3, .ref u4, .ref u5, .ref u6, .ref u7, .int (nI 0), .int (nI 0), .long (lN 0), .long (lN 0), .long (lN 0)])), (u1, .inl (C.2.1, 16, .inl (fun k => nI (zN k)))), (u2, .inl (C.2.1, 16, .inl (fun k => nI (gdN 16 k)))), (u3, .inl (C.2.1, 16, .inl (fun k => nI (gdN 16 k)))), (u4, .inl (C.2.1, 16, .inl (fun k => nI (chN 16 k)))), (u5, .inl (C.2.1, 4, .inl (fun k => nI (zN k)))), (u6, .inl (C.2.1, 4, .inl (fun k => nI (zN k)))), (u7, .inl (C.2.1, 4, .inl (fun k => nI (zN k))))]) := hD
        refine lv_aload_n hx hb dX0_init_96 rfl (lv_at hl 1 rfl) ?_
        refine va_get (ci := 0) (v := .ref u7) (C := RX0) (T := TX0) (N := 12) hx hb hts hin0 hown hK.1 hP 0 rfl rfl 6 (by decide) hf30 (fun _ h9 => h9) rfl dX0_init_97 ?_
        refine lv_iconst (v := nI 0) hx hb dX0_init_100 (by decide) ?_
        refine lv_bipush (v := nI 90) hx hb dX0_init_101 (by decide) ?_
        refine q_iast (n := 0) hx hb hK hP hD hS 7 rfl (by decide) (by decide) dX0_init_103 (fun H locs hP hD hS => ?_)
        rw [q_upd] at hP hD
        have hP : va_P C.1 vwCl ([(h0, .inr (0, [.ref u1, .ref u2, .ref u3, .ref u4, .ref u5, .ref u6, .ref u7, .int (nI 0), .int (nI 0), .long (lN 0), .long (lN 0), .long (lN 0)])), (u1, .inl (C.2.1, 16, .inl (fun k => nI (zN k)))), (u2, .inl (C.2.1, 16, .inl (fun k => nI (gdN 16 k)))), (u3, .inl (C.2.1, 16, .inl (fun k => nI (gdN 16 k)))), (u4, .inl (C.2.1, 16, .inl (fun k => nI (chN 16 k)))), (u5, .inl (C.2.1, 4, .inl (fun k => nI (zN k)))), (u6, .inl (C.2.1, 4, .inl (fun k => nI (zN k)))), (u7, .inl (C.2.1, 4, .inl (fun k => nI (upN zN 0 90 k))))]) H := hP
        have hD : va_D (q_A ([(h0, .inr (0, [.null, .null, .null, .null, .null, .null, .null, .int (nI 0), .int (nI 0), .long (lN 0), .long (lN 0), .long (lN 0)]))]) s) ([(h0, .inr (0, [.ref u1, .ref u2, .ref u3, .ref u4, .ref u5, .ref u6, .ref u7, .int (nI 0), .int (nI 0), .long (lN 0), .long (lN 0), .long (lN 0)])), (u1, .inl (C.2.1, 16, .inl (fun k => nI (zN k)))), (u2, .inl (C.2.1, 16, .inl (fun k => nI (gdN 16 k)))), (u3, .inl (C.2.1, 16, .inl (fun k => nI (gdN 16 k)))), (u4, .inl (C.2.1, 16, .inl (fun k => nI (chN 16 k)))), (u5, .inl (C.2.1, 4, .inl (fun k => nI (zN k)))), (u6, .inl (C.2.1, 4, .inl (fun k => nI (zN k)))), (u7, .inl (C.2.1, 4, .inl (fun k => nI (upN zN 0 90 k))))]) := hD
        refine lv_aload_n hx hb dX0_init_104 rfl (lv_at hl 1 rfl) ?_
        refine va_get (ci := 0) (v := .ref u7) (C := RX0) (T := TX0) (N := 12) hx hb hts hin0 hown hK.1 hP 0 rfl rfl 6 (by decide) hf30 (fun _ h9 => h9) rfl dX0_init_105 ?_
        refine lv_iconst (v := nI 1) hx hb dX0_init_108 (by decide) ?_
        refine lv_bipush (v := nI 20) hx hb dX0_init_109 (by decide) ?_
        refine q_iast (n := 1) hx hb hK hP hD hS 7 rfl (by decide) (by decide) dX0_init_111 (fun H locs hP hD hS => ?_)
        rw [q_upd] at hP hD
        have hP : va_P C.1 vwCl ([(h0, .inr (0, [.ref u1, .ref u2, .ref u3, .ref u4, .ref u5, .ref u6, .ref u7, .int (nI 0), .int (nI 0), .long (lN 0), .long (lN 0), .long (lN 0)])), (u1, .inl (C.2.1, 16, .inl (fun k => nI (zN k)))), (u2, .inl (C.2.1, 16, .inl (fun k => nI (gdN 16 k)))), (u3, .inl (C.2.1, 16, .inl (fun k => nI (gdN 16 k)))), (u4, .inl (C.2.1, 16, .inl (fun k => nI (chN 16 k)))), (u5, .inl (C.2.1, 4, .inl (fun k => nI (zN k)))), (u6, .inl (C.2.1, 4, .inl (fun k => nI (zN k)))), (u7, .inl (C.2.1, 4, .inl (fun k => nI (upN (upN zN 0 90) 1 20 k))))]) H := hP
        have hD : va_D (q_A ([(h0, .inr (0, [.null, .null, .null, .null, .null, .null, .null, .int (nI 0), .int (nI 0), .long (lN 0), .long (lN 0), .long (lN 0)]))]) s) ([(h0, .inr (0, [.ref u1, .ref u2, .ref u3, .ref u4, .ref u5, .ref u6, .ref u7, .int (nI 0), .int (nI 0), .long (lN 0), .long (lN 0), .long (lN 0)])), (u1, .inl (C.2.1, 16, .inl (fun k => nI (zN k)))), (u2, .inl (C.2.1, 16, .inl (fun k => nI (gdN 16 k)))), (u3, .inl (C.2.1, 16, .inl (fun k => nI (gdN 16 k)))), (u4, .inl (C.2.1, 16, .inl (fun k => nI (chN 16 k)))), (u5, .inl (C.2.1, 4, .inl (fun k => nI (zN k)))), (u6, .inl (C.2.1, 4, .inl (fun k => nI (zN k)))), (u7, .inl (C.2.1, 4, .inl (fun k => nI (upN (upN zN 0 90) 1 20 k))))]) := hD
        refine lv_aload_n hx hb dX0_init_112 rfl (lv_at hl 1 rfl) ?_
        refine lv_iconst (v := nI 0 - 1) hx hb dX0_init_113 (by decide) ?_
        refine va_put (ci := 0) (v := .int (nI 0 - 1)) (ty := .int) (C := RX0) (T := TX0) (N := 12) hx hb hts hin0 tyX0 tyX0_ok nmX0 hown hK.1 hP hD hS 0 rfl rfl 8 (by decide) hf33 (fun _ h9 => h9) rfl (by decide +kernel) rfl rfl (Nat.le_of_ble_eq_true rfl) dX0_init_114 (fun H locs hP hD hS => ?_)
        have hP : va_P C.1 vwCl ([(h0, .inr (0, [.ref u1, .ref u2, .ref u3, .ref u4, .ref u5, .ref u6, .ref u7, .int (nI 0), .int (nI 0 - 1), .long (lN 0), .long (lN 0), .long (lN 0)])), (u1, .inl (C.2.1, 16, .inl (fun k => nI (zN k)))), (u2, .inl (C.2.1, 16, .inl (fun k => nI (gdN 16 k)))), (u3, .inl (C.2.1, 16, .inl (fun k => nI (gdN 16 k)))), (u4, .inl (C.2.1, 16, .inl (fun k => nI (chN 16 k)))), (u5, .inl (C.2.1, 4, .inl (fun k => nI (zN k)))), (u6, .inl (C.2.1, 4, .inl (fun k => nI (zN k)))), (u7, .inl (C.2.1, 4, .inl (fun k => nI (upN (upN zN 0 90) 1 20 k))))]) H := hP
        have hD : va_D (q_A ([(h0, .inr (0, [.null, .null, .null, .null, .null, .null, .null, .int (nI 0), .int (nI 0), .long (lN 0), .long (lN 0), .long (lN 0)]))]) s) ([(h0, .inr (0, [.ref u1, .ref u2, .ref u3, .ref u4, .ref u5, .ref u6, .ref u7, .int (nI 0), .int (nI 0 - 1), .long (lN 0), .long (lN 0), .long (lN 0)])), (u1, .inl (C.2.1, 16, .inl (fun k => nI (zN k)))), (u2, .inl (C.2.1, 16, .inl (fun k => nI (gdN 16 k)))), (u3, .inl (C.2.1, 16, .inl (fun k => nI (gdN 16 k)))), (u4, .inl (C.2.1, 16, .inl (fun k => nI (chN 16 k)))), (u5, .inl (C.2.1, 4, .inl (fun k => nI (zN k)))), (u6, .inl (C.2.1, 4, .inl (fun k => nI (zN k)))), (u7, .inl (C.2.1, 4, .inl (fun k => nI (upN (upN zN 0 90) 1 20 k))))]) := hD
        refine lv_aload_n hx hb dX0_init_117 rfl (lv_at hl 1 rfl) ?_
        refine lv_ldc2 hx hb hown hk37 dX0_init_118 ?_
        refine q_tl (y := lN 1000000) (by decide) ?_
        refine va_put (ci := 0) (v := .long (lN 1000000)) (ty := .long) (C := RX0) (T := TX0) (N := 12) hx hb hts hin0 tyX0 tyX0_ok nmX0 hown hK.1 hP hD hS 0 rfl rfl 10 (by decide) hf39 (fun _ h9 => h9) rfl (by decide +kernel) rfl rfl (Nat.le_of_ble_eq_true rfl) dX0_init_121 (fun H locs hP hD hS => ?_)
        have hP : va_P C.1 vwCl ([(h0, .inr (0, [.ref u1, .ref u2, .ref u3, .ref u4, .ref u5, .ref u6, .ref u7, .int (nI 0), .int (nI 0 - 1), .long (lN 0), .long (lN 1000000), .long (lN 0)])), (u1, .inl (C.2.1, 16, .inl (fun k => nI (zN k)))), (u2, .inl (C.2.1, 16, .inl (fun k => nI (gdN 16 k)))), (u3, .inl (C.2.1, 16, .inl (fun k => nI (gdN 16 k)))), (u4, .inl (C.2.1, 16, .inl (fun k => nI (chN 16 k)))), (u5, .inl (C.2.1, 4, .inl (fun k => nI (zN k)))), (u6, .inl (C.2.1, 4, .inl (fun k => nI (zN k)))), (u7, .inl (C.2.1, 4, .inl (fun k => nI (upN (upN zN 0 90) 1 20 k))))]) H := hP
        have hD : va_D (q_A ([(h0, .inr (0, [.null, .null, .null, .null, .null, .null, .null, .int (nI 0), .int (nI 0), .long (lN 0), .long (lN 0), .long (lN 0)]))]) s) ([(h0, .inr (0, [.ref u1, .ref u2, .ref u3, .ref u4, .ref u5, .ref u6, .ref u7, .int (nI 0), .int (nI 0 - 1), .long (lN 0), .long (lN 1000000), .long (lN 0)])), (u1, .inl (C.2.1, 16, .inl (fun k => nI (zN k)))), (u2, .inl (C.2.1, 16, .inl (fun k => nI (gdN 16 k)))), (u3, .inl (C.2.1, 16, .inl (fun k => nI (gdN 16 k)))), (u4, .inl (C.2.1, 16, .inl (fun k => nI (chN 16 k)))), (u5, .inl (C.2.1, 4, .inl (fun k => nI (zN k)))), (u6, .inl (C.2.1, 4, .inl (fun k => nI (zN k)))), (u7, .inl (C.2.1, 4, .inl (fun k => nI (upN (upN zN 0 90) 1 20 k))))]) := hD
        refine lv_aload_n hx hb dX0_init_124 rfl (lv_at hl 1 rfl) ?_
        refine lv_lconst (v := lN 1) hx hb dX0_init_125 (by decide) ?_
        refine va_put (ci := 0) (v := .long (lN 1)) (ty := .long) (C := RX0) (T := TX0) (N := 12) hx hb hts hin0 tyX0 tyX0_ok nmX0 hown hK.1 hP hD hS 0 rfl rfl 11 (by decide) hf43 (fun _ h9 => h9) rfl (by decide +kernel) rfl rfl (Nat.le_of_ble_eq_true rfl) dX0_init_126 (fun H locs hP hD hS => ?_)
        have hP : va_P C.1 vwCl ([(h0, .inr (0, [.ref u1, .ref u2, .ref u3, .ref u4, .ref u5, .ref u6, .ref u7, .int (nI 0), .int (nI 0 - 1), .long (lN 0), .long (lN 1000000), .long (lN 1)])), (u1, .inl (C.2.1, 16, .inl (fun k => nI (zN k)))), (u2, .inl (C.2.1, 16, .inl (fun k => nI (gdN 16 k)))), (u3, .inl (C.2.1, 16, .inl (fun k => nI (gdN 16 k)))), (u4, .inl (C.2.1, 16, .inl (fun k => nI (chN 16 k)))), (u5, .inl (C.2.1, 4, .inl (fun k => nI (zN k)))), (u6, .inl (C.2.1, 4, .inl (fun k => nI (zN k)))), (u7, .inl (C.2.1, 4, .inl (fun k => nI (upN (upN zN 0 90) 1 20 k))))]) H := hP
        have hD : va_D (q_A ([(h0, .inr (0, [.null, .null, .null, .null, .null, .null, .null, .int (nI 0), .int (nI 0), .long (lN 0), .long (lN 0), .long (lN 0)]))]) s) ([(h0, .inr (0, [.ref u1, .ref u2, .ref u3, .ref u4, .ref u5, .ref u6, .ref u7, .int (nI 0), .int (nI 0 - 1), .long (lN 0), .long (lN 1000000), .long (lN 1)])), (u1, .inl (C.2.1, 16, .inl (fun k => nI (zN k)))), (u2, .inl (C.2.1, 16, .inl (fun k => nI (gdN 16 k)))), (u3, .inl (C.2.1, 16, .inl (fun k => nI (gdN 16 k)))), (u4, .inl (C.2.1, 16, .inl (fun k => nI (chN 16 k)))), (u5, .inl (C.2.1, 4, .inl (fun k => nI (zN k)))), (u6, .inl (C.2.1, 4, .inl (fun k => nI (zN k)))), (u7, .inl (C.2.1, 4, .inl (fun k => nI (upN (upN zN 0 90) 1 20 k))))]) := hD
        have hQ9 : (fun w => ∃ a : Nat → Nat, a 0 = h0 ∧ w = wB C a bd0) ([(h0, .inr (0, [.ref u1, .ref u2, .ref u3, .ref u4, .ref u5, .ref u6, .ref u7, .int (nI 0), .int (nI 0 - 1), .long (lN 0), .long (lN 1000000), .long (lN 1)])), (u1, .inl (C.2.1, 16, .inl (fun k => nI (zN k)))), (u2, .inl (C.2.1, 16, .inl (fun k => nI (gdN 16 k)))), (u3, .inl (C.2.1, 16, .inl (fun k => nI (gdN 16 k)))), (u4, .inl (C.2.1, 16, .inl (fun k => nI (chN 16 k)))), (u5, .inl (C.2.1, 4, .inl (fun k => nI (zN k)))), (u6, .inl (C.2.1, 4, .inl (fun k => nI (zN k)))), (u7, .inl (C.2.1, 4, .inl (fun k => nI (upN (upN zN 0 90) 1 20 k))))]) := ⟨(fun k => [h0, u1, u2, u3, u4, u5, u6, u7].getD k 0), rfl, rfl⟩
        exact W.vret hx hb hr (fun t ht hW => ⟨⟨rfl, _, hQ9, by rw [ht]; exact hP, hD⟩, hS.F ht⟩) hS.2.2 dX0_init_129 hlocks
      · have c62 : i59 < 16 := q_nge' (by omega) (by omega) c62
        refine lv_aload_n hx hb dX0_init_65 rfl (lv_at hl 1 rfl) ?_
        refine va_get (ci := 0) (v := .ref u2) (C := RX0) (T := TX0) (N := 12) hx hb hts hin0 hown hK.1 hP 0 rfl rfl 1 (by decide) hf15 (fun _ h9 => h9) rfl dX0_init_66 ?_
        refine lv_iload_n hx hb dX0_init_69 rfl (lv_at hl 0 rfl) ?_
        refine lv_iload_n hx hb dX0_init_70 rfl (lv_at hl 0 rfl) ?_
        refine lv_iconst (v := nI 4) hx hb dX0_init_71 (by decide) ?_
        refine lv_irem hx hb dX0_init_72 (by decide) ?_
        refine q_ti (y := nI (i59 % 4)) (pk_rem (by omega) (by decide) (by decide)) ?_
        refine q_iast (n := i59) hx hb hK hP hD hS 2 rfl (by omega) (by decide) dX0_init_73 (fun H locs hP hD hS => ?_)
        rw [q_upd] at hP hD
        have hP : va_P C.1 vwCl ([(h0, .inr (0, [.ref u1, .ref u2, .ref u3, .ref u4, .ref u5, .ref u6, .ref u7, .int (nI 0), .int (nI 0), .long (lN 0), .long (lN 0), .long (lN 0)])), (u1, .inl (C.2.1, 16, .inl (fun k => nI (zN k)))), (u2, .inl (C.2.1, 16, .inl (fun k => nI (upN (gdN i59) i59 (i59 % 4) k)))), (u3, .inl (C.2.1, 16, .inl (fun k => nI (gdN i59 k)))), (u4, .inl (C.2.1, 16, .inl (fun k => nI (chN i59 k)))), (u5, .inl (C.2.1, 4, .inl (fun k => nI (zN k)))), (u6, .inl (C.2.1, 4, .inl (fun k => nI (zN k)))), (u7, .inl (C.2.1, 4, .inl (fun k => nI (zN k))))]) H := hP
        have hD : va_D (q_A ([(h0, .inr (0, [.null, .null, .null, .null, .null, .null, .null, .int (nI 0), .int (nI 0), .long (lN 0), .long (lN 0), .long (lN 0)]))]) s) ([(h0, .inr (0, [.ref u1, .ref u2, .ref u3, .ref u4, .ref u5, .ref u6, .ref u7, .int (nI 0), .int (nI 0), .long (lN 0), .long (lN 0), .long (lN 0)])), (u1, .inl (C.2.1, 16, .inl (fun k => nI (zN k)))), (u2, .inl (C.2.1, 16, .inl (fun k => nI (upN (gdN i59) i59 (i59 % 4) k)))), (u3, .inl (C.2.1, 16, .inl (fun k => nI (gdN i59 k)))), (u4, .inl (C.2.1, 16, .inl (fun k => nI (chN i59 k)))), (u5, .inl (C.2.1, 4, .inl (fun k => nI (zN k)))), (u6, .inl (C.2.1, 4, .inl (fun k => nI (zN k)))), (u7, .inl (C.2.1, 4, .inl (fun k => nI (zN k))))]) := hD
        refine lv_aload_n hx hb dX0_init_74 rfl (lv_at hl 1 rfl) ?_
        refine va_get (ci := 0) (v := .ref u3) (C := RX0) (T := TX0) (N := 12) hx hb hts hin0 hown hK.1 hP 0 rfl rfl 2 (by decide) hf18 (fun _ h9 => h9) rfl dX0_init_75 ?_
        refine lv_iload_n hx hb dX0_init_78 rfl (lv_at hl 0 rfl) ?_
        refine lv_iload_n hx hb dX0_init_79 rfl (lv_at hl 0 rfl) ?_
        refine lv_iconst (v := nI 4) hx hb dX0_init_80 (by decide) ?_
        refine lv_irem hx hb dX0_init_81 (by decide) ?_
        refine q_ti (y := nI (i59 % 4)) (pk_rem (by omega) (by decide) (by decide)) ?_
        refine q_iast (n := i59) hx hb hK hP hD hS 3 rfl (by omega) (by decide) dX0_init_82 (fun H locs hP hD hS => ?_)
        rw [q_upd] at hP hD
        have hP : va_P C.1 vwCl ([(h0, .inr (0, [.ref u1, .ref u2, .ref u3, .ref u4, .ref u5, .ref u6, .ref u7, .int (nI 0), .int (nI 0), .long (lN 0), .long (lN 0), .long (lN 0)])), (u1, .inl (C.2.1, 16, .inl (fun k => nI (zN k)))), (u2, .inl (C.2.1, 16, .inl (fun k => nI (upN (gdN i59) i59 (i59 % 4) k)))), (u3, .inl (C.2.1, 16, .inl (fun k => nI (upN (gdN i59) i59 (i59 % 4) k)))), (u4, .inl (C.2.1, 16, .inl (fun k => nI (chN i59 k)))), (u5, .inl (C.2.1, 4, .inl (fun k => nI (zN k)))), (u6, .inl (C.2.1, 4, .inl (fun k => nI (zN k)))), (u7, .inl (C.2.1, 4, .inl (fun k => nI (zN k))))]) H := hP
        have hD : va_D (q_A ([(h0, .inr (0, [.null, .null, .null, .null, .null, .null, .null, .int (nI 0), .int (nI 0), .long (lN 0), .long (lN 0), .long (lN 0)]))]) s) ([(h0, .inr (0, [.ref u1, .ref u2, .ref u3, .ref u4, .ref u5, .ref u6, .ref u7, .int (nI 0), .int (nI 0), .long (lN 0), .long (lN 0), .long (lN 0)])), (u1, .inl (C.2.1, 16, .inl (fun k => nI (zN k)))), (u2, .inl (C.2.1, 16, .inl (fun k => nI (upN (gdN i59) i59 (i59 % 4) k)))), (u3, .inl (C.2.1, 16, .inl (fun k => nI (upN (gdN i59) i59 (i59 % 4) k)))), (u4, .inl (C.2.1, 16, .inl (fun k => nI (chN i59 k)))), (u5, .inl (C.2.1, 4, .inl (fun k => nI (zN k)))), (u6, .inl (C.2.1, 4, .inl (fun k => nI (zN k)))), (u7, .inl (C.2.1, 4, .inl (fun k => nI (zN k))))]) := hD
        refine lv_aload_n hx hb dX0_init_83 rfl (lv_at hl 1 rfl) ?_
        refine va_get (ci := 0) (v := .ref u4) (C := RX0) (T := TX0) (N := 12) hx hb hts hin0 hown hK.1 hP 0 rfl rfl 3 (by decide) hf21 (fun _ h9 => h9) rfl dX0_init_84 ?_
        refine lv_iload_n hx hb dX0_init_87 rfl (lv_at hl 0 rfl) ?_
        refine lv_iconst (v := nI 4) hx hb dX0_init_88 (by decide) ?_
        refine q_iast (n := i59) hx hb hK hP hD hS 4 rfl (by omega) (by decide) dX0_init_89 (fun H locs hP hD hS => ?_)
        rw [q_upd] at hP hD
        have hP : va_P C.1 vwCl ([(h0, .inr (0, [.ref u1, .ref u2, .ref u3, .ref u4, .ref u5, .ref u6, .ref u7, .int (nI 0), .int (nI 0), .long (lN 0), .long (lN 0), .long (lN 0)])), (u1, .inl (C.2.1, 16, .inl (fun k => nI (zN k)))), (u2, .inl (C.2.1, 16, .inl (fun k => nI (upN (gdN i59) i59 (i59 % 4) k)))), (u3, .inl (C.2.1, 16, .inl (fun k => nI (upN (gdN i59) i59 (i59 % 4) k)))), (u4, .inl (C.2.1, 16, .inl (fun k => nI (upN (chN i59) i59 4 k)))), (u5, .inl (C.2.1, 4, .inl (fun k => nI (zN k)))), (u6, .inl (C.2.1, 4, .inl (fun k => nI (zN k)))), (u7, .inl (C.2.1, 4, .inl (fun k => nI (zN k))))]) H := hP
        have hD : va_D (q_A ([(h0, .inr (0, [.null, .null, .null, .null, .null, .null, .null, .int (nI 0), .int (nI 0), .long (lN 0), .long (lN 0), .long (lN 0)]))]) s) ([(h0, .inr (0, [.ref u1, .ref u2, .ref u3, .ref u4, .ref u5, .ref u6, .ref u7, .int (nI 0), .int (nI 0), .long (lN 0), .long (lN 0), .long (lN 0)])), (u1, .inl (C.2.1, 16, .inl (fun k => nI (zN k)))), (u2, .inl (C.2.1, 16, .inl (fun k => nI (upN (gdN i59) i59 (i59 % 4) k)))), (u3, .inl (C.2.1, 16, .inl (fun k => nI (upN (gdN i59) i59 (i59 % 4) k)))), (u4, .inl (C.2.1, 16, .inl (fun k => nI (upN (chN i59) i59 4 k)))), (u5, .inl (C.2.1, 4, .inl (fun k => nI (zN k)))), (u6, .inl (C.2.1, 4, .inl (fun k => nI (zN k)))), (u7, .inl (C.2.1, 4, .inl (fun k => nI (zN k))))]) := hD
        refine lv_iinc (v := nI (i59 + 1)) (lv' := [(1, .int (nI (i59 + 1))), (0, .ref h0)]) hx hb dX0_init_90 hl (k := 0) rfl (nI_1 _) (by decide) rfl (fun ls hl => ?_)
        refine lv_goto (tgt := 59) hx hb dX0_init_93 (by decide) ?_
        exact ih59 (i59 + 1)  (by omega) (by omega)  _ _ ls hP hD hS (lv_sub hl [0, 1] rfl)
  exact K59 (16 + 1 - 0) 0  (by omega) (by omega)  _ _ ls hP hD hS (lv_sub hl [0, 1] rfl)
set_option maxHeartbeats 4000000 in
set_option maxRecDepth 100000 in
theorem n_X1 (l : Launch) (C : q_C) (h0 : Nat) : q_NC C l yX1_init wsX1_init 2 33 49 534 [.ref h0] [(h0, .inr (1, fsX1))] (fun w => ∃ (hq : Nat → Nat) (ba : Nat → Nat → Nat), hq 0 = h0 ∧ w = List.flatten [wHa C hq ba 0 0, wB C (ba 0) bd0, wB C (ba 1) bd0, wB C (ba 2) bd0, wB C (ba 3) bd0, wB C (ba 4) bd0, wB C (ba 5) bd0]) := by
  refine q_headN (cc := cX1_init) (maxL := 2) (ret := none) (by decide +kernel) rfl (Nat.le_of_ble_eq_true rfl) ?_
  intro p e s m below meth c hx hb hr hlocks hml hown hin hts hK hO hP hD hS hA ls hl
  have hl : lv_has ls 2 [(0, .ref h0)] := hl
  have hP : va_P C.1 vwCl ([(h0, .inr (1, [.null, .int (nI 0)]))]) s.heap := hP
  have hf11 := hts (.fieldLink RX1 11 "RestedArms$History" "saved" "[LRestedArms$Board;") (by decide +kernel)
  have hin0 : ∀ w ∈ u_ws RX0 TX0 12, w ∈ wsX1_init := by decide +kernel
  have hin1 : ∀ w ∈ u_ws RX1 TX1 2, w ∈ wsX1_init := by decide +kernel
  refine lv_aload_n hx hb dX1_init_0 rfl (lv_at hl 0 rfl) ?_
  refine W.objInit hx hb hown (hts (.methodLink RX1 3 objectInit) (by decide +kernel)) (hts (.instanceMethod objectInit) (by decide +kernel)) (hts _ (List.mem_of_getElem? (i := 3) rfl)) rfl (by rw [hml]; exact hl.1) rfl dX1_init_1 (Nat.le_of_ble_eq_true rfl) (Nat.le_of_ble_eq_true rfl) ?_
  refine W.eq (g2 := F0 m 4 ls []) rfl ?_
  refine lv_aload_n hx hb dX1_init_4 rfl (lv_at hl 0 rfl) ?_
  refine lv_bipush (v := nI 6) hx hb dX1_init_5 (by decide) ?_
  refine q_newQ (N := 6) hx hb hown (hts (.classLink RX1 9 RX0) (by decide +kernel)) hO hK hP hD hS hA (Nat.le_of_ble_eq_true rfl) (Nat.le_of_ble_eq_true rfl) (Nat.le_of_ble_eq_true rfl) dX1_init_7 (fun u1 H hP hD hS => ?_)
  have hP : va_P C.1 vwCl ([(h0, .inr (1, [.null, .int (nI 0)])), (u1, .inl (C.2.2.2.2, 6, .inr (.inr (.inr (.inr (fun _ => none))))))]) H := hP
  have hD : va_D (q_A ([(h0, .inr (1, [.null, .int (nI 0)]))]) s) ([(h0, .inr (1, [.null, .int (nI 0)])), (u1, .inl (C.2.2.2.2, 6, .inr (.inr (.inr (.inr (fun _ => none))))))]) := hD
  refine va_putF (ci := 1) (v := .ref u1) (ty := .array (.object "RestedArms$Board")) (C := RX1) (T := TX1) (N := 2) hx hb hts hin1 tyX1 tyX1_ok nmX1 hown hK.1 hP hD hS 0 rfl rfl 0 (by decide) hf11 (fun _ h9 => h9) rfl hin rfl (by decide +kernel) rfl rfl (Nat.le_of_ble_eq_true rfl) dX1_init_10 (fun H locs hP hD hS => ?_)
  have hP : va_P C.1 vwCl ([(h0, .inr (1, [.ref u1, .int (nI 0)])), (u1, .inl (C.2.2.2.2, 6, .inr (.inr (.inr (.inr (fun _ => none))))))]) H := hP
  have hD : va_D (q_A ([(h0, .inr (1, [.null, .int (nI 0)]))]) s) ([(h0, .inr (1, [.ref u1, .int (nI 0)])), (u1, .inl (C.2.2.2.2, 6, .inr (.inr (.inr (.inr (fun _ => none))))))]) := hD
  refine lv_iconst (v := nI 0) hx hb dX1_init_13 (by decide) ?_
  refine lv_istore_n (lv' := [(1, .int (nI 0)), (0, .ref h0)]) hx hb dX1_init_14 rfl hl (by decide) rfl (fun ls hl => ?_)
  refine lv_iload_n hx hb dX1_init_15 rfl (lv_at hl 0 rfl) ?_
  refine lv_aload_n hx hb dX1_init_16 rfl (lv_at hl 1 rfl) ?_
  refine va_get (ci := 1) (v := .ref u1) (C := RX1) (T := TX1) (N := 2) hx hb hts hin1 hown hK.1 hP 0 rfl rfl 0 (by decide) hf11 (fun _ h9 => h9) rfl dX1_init_17 ?_
  refine va_alen hx hb hK.1 hP 1 3 rfl rfl (v := nI 6) rfl dX1_init_20 ?_
  refine lv_icmp_ge (tgt := 43) hx hb dX1_init_21 (by decide) (fun c => absurd c (by decide)) (fun _ => ?_)
  refine lv_aload_n hx hb dX1_init_24 rfl (lv_at hl 1 rfl) ?_
  refine va_get (ci := 1) (v := .ref u1) (C := RX1) (T := TX1) (N := 2) hx hb hts hin1 hown hK.1 hP 0 rfl rfl 0 (by decide) hf11 (fun _ h9 => h9) rfl dX1_init_25 ?_
  refine lv_iload_n hx hb dX1_init_28 rfl (lv_at hl 0 rfl) ?_
  refine va_new (ci := 0) (fs := fsX0) (C := RX0) (T := TX0) (N := 12) hx hb hts hin0 tyX0 tyX0_ok hown (hts (.classLink RX1 9 RX0) (by decide +kernel)) (hts (.instantiable RX0 12) (by decide +kernel)) (hts (.initialized RX0) (by decide +kernel)) hK.1 hP hD hS hA rfl fsX0_ok (Nat.le_of_ble_eq_true rfl) (Nat.le_of_ble_eq_true rfl) dX1_init_29 (fun u2 H hP hD hS => ?_)
  refine lv_dup hx hb dX1_init_32 rfl ?_
  refine q_I (rest := [.ref u2, .int (nI 0), .ref u1]) ⟨hx, hb, hml, hown, hts⟩ (n_X0 l C u2) (cwI 0 hts gX1_init_X0_init rfl rfl rfl (hts (.initialized RX0) (by decide +kernel)) (hts (.methodLink RX1 17 yX0_init) (by decide +kernel)) (hts (.instanceMethod yX0_init) (by decide +kernel)) rfl (by decide +kernel) ⟨Nat.le_of_ble_eq_true rfl, Nat.le_of_ble_eq_true rfl⟩) hK hO hP hD hS hA hl.1 (Nat.le_of_ble_eq_true rfl) dX1_init_33 (Nat.le_of_ble_eq_true rfl) (Nat.le_of_ble_eq_true rfl) (fun w1 H locs hQ hP hD hS => ?_)
  obtain ⟨a3, rfl, rfl⟩ := hQ
  have hP : va_P C.1 vwCl (([(h0, .inr (1, [.ref u1, .int (nI 0)])), (u1, .inl (C.2.2.2.2, 6, .inr (.inr (.inr (.inr (fun _ => none))))))] : va_W) ++ wB C a3 bd0) H := hP
  have hD : va_D (q_A ([(h0, .inr (1, [.null, .int (nI 0)]))]) s) (([(h0, .inr (1, [.ref u1, .int (nI 0)])), (u1, .inl (C.2.2.2.2, 6, .inr (.inr (.inr (.inr (fun _ => none))))))] : va_W) ++ wB C a3 bd0) := hD
  refine W.eq (g2 := F0 m 36 ls [.ref (a3 0), .int (nI 0), .ref u1]) rfl ?_
  refine q_aast (n := 0) hx hb hK hP hD hS 1 2 rfl rfl (by decide) (by decide) dX1_init_36 (fun H locs hP hD hS => ?_)
  have hP : va_P C.1 vwCl (([(h0, .inr (1, [.ref u1, .int (nI 0)])), (u1, .inl (C.2.2.2.2, 6, .inr (.inr (.inr (.inr (va_up (fun _ => none) 0 (some (a3 0))))))))] : va_W) ++ wB C a3 bd0) H := hP
  have hD : va_D (q_A ([(h0, .inr (1, [.null, .int (nI 0)]))]) s) (([(h0, .inr (1, [.ref u1, .int (nI 0)])), (u1, .inl (C.2.2.2.2, 6, .inr (.inr (.inr (.inr (va_up (fun _ => none) 0 (some (a3 0))))))))] : va_W) ++ wB C a3 bd0) := hD
  refine lv_iinc (v := nI 1) (lv' := [(1, .int (nI 1)), (0, .ref h0)]) hx hb dX1_init_37 hl (k := 0) rfl (by decide) (by decide) rfl (fun ls hl => ?_)
  refine lv_goto (tgt := 15) hx hb dX1_init_40 (by decide) ?_
  refine lv_iload_n hx hb dX1_init_15 rfl (lv_at hl 0 rfl) ?_
  refine lv_aload_n hx hb dX1_init_16 rfl (lv_at hl 1 rfl) ?_
  refine va_get (ci := 1) (v := .ref u1) (C := RX1) (T := TX1) (N := 2) hx hb hts hin1 hown hK.1 hP 0 rfl rfl 0 (by decide) hf11 (fun _ h9 => h9) rfl dX1_init_17 ?_
  refine va_alen hx hb hK.1 hP 1 3 rfl rfl (v := nI 6) rfl dX1_init_20 ?_
  refine lv_icmp_ge (tgt := 43) hx hb dX1_init_21 (by decide) (fun c => absurd c (by decide)) (fun _ => ?_)
  refine lv_aload_n hx hb dX1_init_24 rfl (lv_at hl 1 rfl) ?_
  refine va_get (ci := 1) (v := .ref u1) (C := RX1) (T := TX1) (N := 2) hx hb hts hin1 hown hK.1 hP 0 rfl rfl 0 (by decide) hf11 (fun _ h9 => h9) rfl dX1_init_25 ?_
  refine lv_iload_n hx hb dX1_init_28 rfl (lv_at hl 0 rfl) ?_
  refine va_new (ci := 0) (fs := fsX0) (C := RX0) (T := TX0) (N := 12) hx hb hts hin0 tyX0 tyX0_ok hown (hts (.classLink RX1 9 RX0) (by decide +kernel)) (hts (.instantiable RX0 12) (by decide +kernel)) (hts (.initialized RX0) (by decide +kernel)) hK.1 hP hD hS hA rfl fsX0_ok (Nat.le_of_ble_eq_true rfl) (Nat.le_of_ble_eq_true rfl) dX1_init_29 (fun u4 H hP hD hS => ?_)
  refine lv_dup hx hb dX1_init_32 rfl ?_
  refine q_I (rest := [.ref u4, .int (nI 1), .ref u1]) ⟨hx, hb, hml, hown, hts⟩ (n_X0 l C u4) (cwI 0 hts gX1_init_X0_init rfl rfl rfl (hts (.initialized RX0) (by decide +kernel)) (hts (.methodLink RX1 17 yX0_init) (by decide +kernel)) (hts (.instanceMethod yX0_init) (by decide +kernel)) rfl (by decide +kernel) ⟨Nat.le_of_ble_eq_true rfl, Nat.le_of_ble_eq_true rfl⟩) hK hO hP hD hS hA hl.1 (Nat.le_of_ble_eq_true rfl) dX1_init_33 (Nat.le_of_ble_eq_true rfl) (Nat.le_of_ble_eq_true rfl) (fun w1 H locs hQ hP hD hS => ?_)
  obtain ⟨a5, rfl, rfl⟩ := hQ
  have hP : va_P C.1 vwCl (([(h0, .inr (1, [.ref u1, .int (nI 0)])), (u1, .inl (C.2.2.2.2, 6, .inr (.inr (.inr (.inr (va_up (fun _ => none) 0 (some (a3 0))))))))] : va_W) ++ wB C a3 bd0 ++ wB C a5 bd0) H := hP
  have hD : va_D (q_A ([(h0, .inr (1, [.null, .int (nI 0)]))]) s) (([(h0, .inr (1, [.ref u1, .int (nI 0)])), (u1, .inl (C.2.2.2.2, 6, .inr (.inr (.inr (.inr (va_up (fun _ => none) 0 (some (a3 0))))))))] : va_W) ++ wB C a3 bd0 ++ wB C a5 bd0) := hD
  refine W.eq (g2 := F0 m 36 ls [.ref (a5 0), .int (nI 1), .ref u1]) rfl ?_
  refine q_aast (n := 1) hx hb hK hP hD hS 1 10 rfl rfl (by decide) (by decide) dX1_init_36 (fun H locs hP hD hS => ?_)
  have hP : va_P C.1 vwCl (([(h0, .inr (1, [.ref u1, .int (nI 0)])), (u1, .inl (C.2.2.2.2, 6, .inr (.inr (.inr (.inr (va_up (va_up (fun _ => none) 0 (some (a3 0))) 1 (some (a5 0))))))))] : va_W) ++ wB C a3 bd0 ++ wB C a5 bd0) H := hP
  have hD : va_D (q_A ([(h0, .inr (1, [.null, .int (nI 0)]))]) s) (([(h0, .inr (1, [.ref u1, .int (nI 0)])), (u1, .inl (C.2.2.2.2, 6, .inr (.inr (.inr (.inr (va_up (va_up (fun _ => none) 0 (some (a3 0))) 1 (some (a5 0))))))))] : va_W) ++ wB C a3 bd0 ++ wB C a5 bd0) := hD
  refine lv_iinc (v := nI 2) (lv' := [(1, .int (nI 2)), (0, .ref h0)]) hx hb dX1_init_37 hl (k := 0) rfl (by decide) (by decide) rfl (fun ls hl => ?_)
  refine lv_goto (tgt := 15) hx hb dX1_init_40 (by decide) ?_
  refine lv_iload_n hx hb dX1_init_15 rfl (lv_at hl 0 rfl) ?_
  refine lv_aload_n hx hb dX1_init_16 rfl (lv_at hl 1 rfl) ?_
  refine va_get (ci := 1) (v := .ref u1) (C := RX1) (T := TX1) (N := 2) hx hb hts hin1 hown hK.1 hP 0 rfl rfl 0 (by decide) hf11 (fun _ h9 => h9) rfl dX1_init_17 ?_
  refine va_alen hx hb hK.1 hP 1 3 rfl rfl (v := nI 6) rfl dX1_init_20 ?_
  refine lv_icmp_ge (tgt := 43) hx hb dX1_init_21 (by decide) (fun c => absurd c (by decide)) (fun _ => ?_)
  refine lv_aload_n hx hb dX1_init_24 rfl (lv_at hl 1 rfl) ?_
  refine va_get (ci := 1) (v := .ref u1) (C := RX1) (T := TX1) (N := 2) hx hb hts hin1 hown hK.1 hP 0 rfl rfl 0 (by decide) hf11 (fun _ h9 => h9) rfl dX1_init_25 ?_
  refine lv_iload_n hx hb dX1_init_28 rfl (lv_at hl 0 rfl) ?_
  refine va_new (ci := 0) (fs := fsX0) (C := RX0) (T := TX0) (N := 12) hx hb hts hin0 tyX0 tyX0_ok hown (hts (.classLink RX1 9 RX0) (by decide +kernel)) (hts (.instantiable RX0 12) (by decide +kernel)) (hts (.initialized RX0) (by decide +kernel)) hK.1 hP hD hS hA rfl fsX0_ok (Nat.le_of_ble_eq_true rfl) (Nat.le_of_ble_eq_true rfl) dX1_init_29 (fun u6 H hP hD hS => ?_)
  refine lv_dup hx hb dX1_init_32 rfl ?_
  refine q_I (rest := [.ref u6, .int (nI 2), .ref u1]) ⟨hx, hb, hml, hown, hts⟩ (n_X0 l C u6) (cwI 0 hts gX1_init_X0_init rfl rfl rfl (hts (.initialized RX0) (by decide +kernel)) (hts (.methodLink RX1 17 yX0_init) (by decide +kernel)) (hts (.instanceMethod yX0_init) (by decide +kernel)) rfl (by decide +kernel) ⟨Nat.le_of_ble_eq_true rfl, Nat.le_of_ble_eq_true rfl⟩) hK hO hP hD hS hA hl.1 (Nat.le_of_ble_eq_true rfl) dX1_init_33 (Nat.le_of_ble_eq_true rfl) (Nat.le_of_ble_eq_true rfl) (fun w1 H locs hQ hP hD hS => ?_)
  obtain ⟨a7, rfl, rfl⟩ := hQ
  have hP : va_P C.1 vwCl (List.flatten [([(h0, .inr (1, [.ref u1, .int (nI 0)])), (u1, .inl (C.2.2.2.2, 6, .inr (.inr (.inr (.inr (va_up (va_up (fun _ => none) 0 (some (a3 0))) 1 (some (a5 0))))))))] : va_W), wB C a3 bd0, wB C a5 bd0, wB C a7 bd0]) H := hP
  have hD : va_D (q_A ([(h0, .inr (1, [.null, .int (nI 0)]))]) s) (List.flatten [([(h0, .inr (1, [.ref u1, .int (nI 0)])), (u1, .inl (C.2.2.2.2, 6, .inr (.inr (.inr (.inr (va_up (va_up (fun _ => none) 0 (some (a3 0))) 1 (some (a5 0))))))))] : va_W), wB C a3 bd0, wB C a5 bd0, wB C a7 bd0]) := hD
  refine W.eq (g2 := F0 m 36 ls [.ref (a7 0), .int (nI 2), .ref u1]) rfl ?_
  refine q_aast (n := 2) hx hb hK hP hD hS 1 18 rfl rfl (by decide) (by decide) dX1_init_36 (fun H locs hP hD hS => ?_)
  rw [q_fset [([(h0, .inr (1, [.ref u1, .int (nI 0)])), (u1, .inl (C.2.2.2.2, 6, .inr (.inr (.inr (.inr (va_up (va_up (fun _ => none) 0 (some (a3 0))) 1 (some (a5 0))))))))] : va_W), wB C a3 bd0, wB C a5 bd0, wB C a7 bd0] 0 1 1 (B := ([(h0, .inr (1, [.ref u1, .int (nI 0)])), (u1, .inl (C.2.2.2.2, 6, .inr (.inr (.inr (.inr (va_up (va_up (fun _ => none) 0 (some (a3 0))) 1 (some (a5 0))))))))] : va_W)) rfl (Nat.le_of_ble_eq_true rfl) rfl] at hP hD
  have hP : va_P C.1 vwCl (List.flatten [([(h0, .inr (1, [.ref u1, .int (nI 0)])), (u1, .inl (C.2.2.2.2, 6, .inr (.inr (.inr (.inr (va_up (va_up (va_up (fun _ => none) 0 (some (a3 0))) 1 (some (a5 0))) 2 (some (a7 0))))))))] : va_W), wB C a3 bd0, wB C a5 bd0, wB C a7 bd0]) H := hP
  have hD : va_D (q_A ([(h0, .inr (1, [.null, .int (nI 0)]))]) s) (List.flatten [([(h0, .inr (1, [.ref u1, .int (nI 0)])), (u1, .inl (C.2.2.2.2, 6, .inr (.inr (.inr (.inr (va_up (va_up (va_up (fun _ => none) 0 (some (a3 0))) 1 (some (a5 0))) 2 (some (a7 0))))))))] : va_W), wB C a3 bd0, wB C a5 bd0, wB C a7 bd0]) := hD
  refine lv_iinc (v := nI 3) (lv' := [(1, .int (nI 3)), (0, .ref h0)]) hx hb dX1_init_37 hl (k := 0) rfl (by decide) (by decide) rfl (fun ls hl => ?_)
  refine lv_goto (tgt := 15) hx hb dX1_init_40 (by decide) ?_
  refine lv_iload_n hx hb dX1_init_15 rfl (lv_at hl 0 rfl) ?_
  refine lv_aload_n hx hb dX1_init_16 rfl (lv_at hl 1 rfl) ?_
  refine va_get (ci := 1) (v := .ref u1) (C := RX1) (T := TX1) (N := 2) hx hb hts hin1 hown hK.1 hP 0 rfl rfl 0 (by decide) hf11 (fun _ h9 => h9) rfl dX1_init_17 ?_
  refine va_alen hx hb hK.1 hP 1 3 rfl rfl (v := nI 6) rfl dX1_init_20 ?_
  refine lv_icmp_ge (tgt := 43) hx hb dX1_init_21 (by decide) (fun c => absurd c (by decide)) (fun _ => ?_)
  refine lv_aload_n hx hb dX1_init_24 rfl (lv_at hl 1 rfl) ?_
  refine va_get (ci := 1) (v := .ref u1) (C := RX1) (T := TX1) (N := 2) hx hb hts hin1 hown hK.1 hP 0 rfl rfl 0 (by decide) hf11 (fun _ h9 => h9) rfl dX1_init_25 ?_
  refine lv_iload_n hx hb dX1_init_28 rfl (lv_at hl 0 rfl) ?_
  refine va_new (ci := 0) (fs := fsX0) (C := RX0) (T := TX0) (N := 12) hx hb hts hin0 tyX0 tyX0_ok hown (hts (.classLink RX1 9 RX0) (by decide +kernel)) (hts (.instantiable RX0 12) (by decide +kernel)) (hts (.initialized RX0) (by decide +kernel)) hK.1 hP hD hS hA rfl fsX0_ok (Nat.le_of_ble_eq_true rfl) (Nat.le_of_ble_eq_true rfl) dX1_init_29 (fun u8 H hP hD hS => ?_)
  refine lv_dup hx hb dX1_init_32 rfl ?_
  refine q_I (rest := [.ref u8, .int (nI 3), .ref u1]) ⟨hx, hb, hml, hown, hts⟩ (n_X0 l C u8) (cwI 0 hts gX1_init_X0_init rfl rfl rfl (hts (.initialized RX0) (by decide +kernel)) (hts (.methodLink RX1 17 yX0_init) (by decide +kernel)) (hts (.instanceMethod yX0_init) (by decide +kernel)) rfl (by decide +kernel) ⟨Nat.le_of_ble_eq_true rfl, Nat.le_of_ble_eq_true rfl⟩) hK hO hP hD hS hA hl.1 (Nat.le_of_ble_eq_true rfl) dX1_init_33 (Nat.le_of_ble_eq_true rfl) (Nat.le_of_ble_eq_true rfl) (fun w1 H locs hQ hP hD hS => ?_)
  obtain ⟨a9, rfl, rfl⟩ := hQ
  rw [q_flatN] at hP hD
  have hP : va_P C.1 vwCl (List.flatten [([(h0, .inr (1, [.ref u1, .int (nI 0)])), (u1, .inl (C.2.2.2.2, 6, .inr (.inr (.inr (.inr (va_up (va_up (va_up (fun _ => none) 0 (some (a3 0))) 1 (some (a5 0))) 2 (some (a7 0))))))))] : va_W), wB C a3 bd0, wB C a5 bd0, wB C a7 bd0, wB C a9 bd0]) H := hP
  have hD : va_D (q_A ([(h0, .inr (1, [.null, .int (nI 0)]))]) s) (List.flatten [([(h0, .inr (1, [.ref u1, .int (nI 0)])), (u1, .inl (C.2.2.2.2, 6, .inr (.inr (.inr (.inr (va_up (va_up (va_up (fun _ => none) 0 (some (a3 0))) 1 (some (a5 0))) 2 (some (a7 0))))))))] : va_W), wB C a3 bd0, wB C a5 bd0, wB C a7 bd0, wB C a9 bd0]) := hD
  refine W.eq (g2 := F0 m 36 ls [.ref (a9 0), .int (nI 3), .ref u1]) rfl ?_
  refine q_aast (n := 3) hx hb hK hP hD hS 1 26 rfl rfl (by decide) (by decide) dX1_init_36 (fun H locs hP hD hS => ?_)
  rw [q_fset [([(h0, .inr (1, [.ref u1, .int (nI 0)])), (u1, .inl (C.2.2.2.2, 6, .inr (.inr (.inr (.inr (va_up (va_up (va_up (fun _ => none) 0 (some (a3 0))) 1 (some (a5 0))) 2 (some (a7 0))))))))] : va_W), wB C a3 bd0, wB C a5 bd0, wB C a7 bd0, wB C a9 bd0] 0 1 1 (B := ([(h0, .inr (1, [.ref u1, .int (nI 0)])), (u1, .inl (C.2.2.2.2, 6, .inr (.inr (.inr (.inr (va_up (va_up (va_up (fun _ => none) 0 (some (a3 0))) 1 (some (a5 0))) 2 (some (a7 0))))))))] : va_W)) rfl (Nat.le_of_ble_eq_true rfl) rfl] at hP hD
  have hP : va_P C.1 vwCl (List.flatten [([(h0, .inr (1, [.ref u1, .int (nI 0)])), (u1, .inl (C.2.2.2.2, 6, .inr (.inr (.inr (.inr (va_up (va_up (va_up (va_up (fun _ => none) 0 (some (a3 0))) 1 (some (a5 0))) 2 (some (a7 0))) 3 (some (a9 0))))))))] : va_W), wB C a3 bd0, wB C a5 bd0, wB C a7 bd0, wB C a9 bd0]) H := hP
  have hD : va_D (q_A ([(h0, .inr (1, [.null, .int (nI 0)]))]) s) (List.flatten [([(h0, .inr (1, [.ref u1, .int (nI 0)])), (u1, .inl (C.2.2.2.2, 6, .inr (.inr (.inr (.inr (va_up (va_up (va_up (va_up (fun _ => none) 0 (some (a3 0))) 1 (some (a5 0))) 2 (some (a7 0))) 3 (some (a9 0))))))))] : va_W), wB C a3 bd0, wB C a5 bd0, wB C a7 bd0, wB C a9 bd0]) := hD
  refine lv_iinc (v := nI 4) (lv' := [(1, .int (nI 4)), (0, .ref h0)]) hx hb dX1_init_37 hl (k := 0) rfl (by decide) (by decide) rfl (fun ls hl => ?_)
  refine lv_goto (tgt := 15) hx hb dX1_init_40 (by decide) ?_
  refine lv_iload_n hx hb dX1_init_15 rfl (lv_at hl 0 rfl) ?_
  refine lv_aload_n hx hb dX1_init_16 rfl (lv_at hl 1 rfl) ?_
  refine va_get (ci := 1) (v := .ref u1) (C := RX1) (T := TX1) (N := 2) hx hb hts hin1 hown hK.1 hP 0 rfl rfl 0 (by decide) hf11 (fun _ h9 => h9) rfl dX1_init_17 ?_
  refine va_alen hx hb hK.1 hP 1 3 rfl rfl (v := nI 6) rfl dX1_init_20 ?_
  refine lv_icmp_ge (tgt := 43) hx hb dX1_init_21 (by decide) (fun c => absurd c (by decide)) (fun _ => ?_)
  refine lv_aload_n hx hb dX1_init_24 rfl (lv_at hl 1 rfl) ?_
  refine va_get (ci := 1) (v := .ref u1) (C := RX1) (T := TX1) (N := 2) hx hb hts hin1 hown hK.1 hP 0 rfl rfl 0 (by decide) hf11 (fun _ h9 => h9) rfl dX1_init_25 ?_
  refine lv_iload_n hx hb dX1_init_28 rfl (lv_at hl 0 rfl) ?_
  refine va_new (ci := 0) (fs := fsX0) (C := RX0) (T := TX0) (N := 12) hx hb hts hin0 tyX0 tyX0_ok hown (hts (.classLink RX1 9 RX0) (by decide +kernel)) (hts (.instantiable RX0 12) (by decide +kernel)) (hts (.initialized RX0) (by decide +kernel)) hK.1 hP hD hS hA rfl fsX0_ok (Nat.le_of_ble_eq_true rfl) (Nat.le_of_ble_eq_true rfl) dX1_init_29 (fun u10 H hP hD hS => ?_)
  refine lv_dup hx hb dX1_init_32 rfl ?_
  refine q_I (rest := [.ref u10, .int (nI 4), .ref u1]) ⟨hx, hb, hml, hown, hts⟩ (n_X0 l C u10) (cwI 0 hts gX1_init_X0_init rfl rfl rfl (hts (.initialized RX0) (by decide +kernel)) (hts (.methodLink RX1 17 yX0_init) (by decide +kernel)) (hts (.instanceMethod yX0_init) (by decide +kernel)) rfl (by decide +kernel) ⟨Nat.le_of_ble_eq_true rfl, Nat.le_of_ble_eq_true rfl⟩) hK hO hP hD hS hA hl.1 (Nat.le_of_ble_eq_true rfl) dX1_init_33 (Nat.le_of_ble_eq_true rfl) (Nat.le_of_ble_eq_true rfl) (fun w1 H locs hQ hP hD hS => ?_)
  obtain ⟨a11, rfl, rfl⟩ := hQ
  rw [q_flatN] at hP hD
  have hP : va_P C.1 vwCl (List.flatten [([(h0, .inr (1, [.ref u1, .int (nI 0)])), (u1, .inl (C.2.2.2.2, 6, .inr (.inr (.inr (.inr (va_up (va_up (va_up (va_up (fun _ => none) 0 (some (a3 0))) 1 (some (a5 0))) 2 (some (a7 0))) 3 (some (a9 0))))))))] : va_W), wB C a3 bd0, wB C a5 bd0, wB C a7 bd0, wB C a9 bd0, wB C a11 bd0]) H := hP
  have hD : va_D (q_A ([(h0, .inr (1, [.null, .int (nI 0)]))]) s) (List.flatten [([(h0, .inr (1, [.ref u1, .int (nI 0)])), (u1, .inl (C.2.2.2.2, 6, .inr (.inr (.inr (.inr (va_up (va_up (va_up (va_up (fun _ => none) 0 (some (a3 0))) 1 (some (a5 0))) 2 (some (a7 0))) 3 (some (a9 0))))))))] : va_W), wB C a3 bd0, wB C a5 bd0, wB C a7 bd0, wB C a9 bd0, wB C a11 bd0]) := hD
  refine W.eq (g2 := F0 m 36 ls [.ref (a11 0), .int (nI 4), .ref u1]) rfl ?_
  refine q_aast (n := 4) hx hb hK hP hD hS 1 34 rfl rfl (by decide) (by decide) dX1_init_36 (fun H locs hP hD hS => ?_)
  rw [q_fset [([(h0, .inr (1, [.ref u1, .int (nI 0)])), (u1, .inl (C.2.2.2.2, 6, .inr (.inr (.inr (.inr (va_up (va_up (va_up (va_up (fun _ => none) 0 (some (a3 0))) 1 (some (a5 0))) 2 (some (a7 0))) 3 (some (a9 0))))))))] : va_W), wB C a3 bd0, wB C a5 bd0, wB C a7 bd0, wB C a9 bd0, wB C a11 bd0] 0 1 1 (B := ([(h0, .inr (1, [.ref u1, .int (nI 0)])), (u1, .inl (C.2.2.2.2, 6, .inr (.inr (.inr (.inr (va_up (va_up (va_up (va_up (fun _ => none) 0 (some (a3 0))) 1 (some (a5 0))) 2 (some (a7 0))) 3 (some (a9 0))))))))] : va_W)) rfl (Nat.le_of_ble_eq_true rfl) rfl] at hP hD
  have hP : va_P C.1 vwCl (List.flatten [([(h0, .inr (1, [.ref u1, .int (nI 0)])), (u1, .inl (C.2.2.2.2, 6, .inr (.inr (.inr (.inr (va_up (va_up (va_up (va_up (va_up (fun _ => none) 0 (some (a3 0))) 1 (some (a5 0))) 2 (some (a7 0))) 3 (some (a9 0))) 4 (some (a11 0))))))))] : va_W), wB C a3 bd0, wB C a5 bd0, wB C a7 bd0, wB C a9 bd0, wB C a11 bd0]) H := hP
  have hD : va_D (q_A ([(h0, .inr (1, [.null, .int (nI 0)]))]) s) (List.flatten [([(h0, .inr (1, [.ref u1, .int (nI 0)])), (u1, .inl (C.2.2.2.2, 6, .inr (.inr (.inr (.inr (va_up (va_up (va_up (va_up (va_up (fun _ => none) 0 (some (a3 0))) 1 (some (a5 0))) 2 (some (a7 0))) 3 (some (a9 0))) 4 (some (a11 0))))))))] : va_W), wB C a3 bd0, wB C a5 bd0, wB C a7 bd0, wB C a9 bd0, wB C a11 bd0]) := hD
  refine lv_iinc (v := nI 5) (lv' := [(1, .int (nI 5)), (0, .ref h0)]) hx hb dX1_init_37 hl (k := 0) rfl (by decide) (by decide) rfl (fun ls hl => ?_)
  refine lv_goto (tgt := 15) hx hb dX1_init_40 (by decide) ?_
  refine lv_iload_n hx hb dX1_init_15 rfl (lv_at hl 0 rfl) ?_
  refine lv_aload_n hx hb dX1_init_16 rfl (lv_at hl 1 rfl) ?_
  refine va_get (ci := 1) (v := .ref u1) (C := RX1) (T := TX1) (N := 2) hx hb hts hin1 hown hK.1 hP 0 rfl rfl 0 (by decide) hf11 (fun _ h9 => h9) rfl dX1_init_17 ?_
  refine va_alen hx hb hK.1 hP 1 3 rfl rfl (v := nI 6) rfl dX1_init_20 ?_
  refine lv_icmp_ge (tgt := 43) hx hb dX1_init_21 (by decide) (fun c => absurd c (by decide)) (fun _ => ?_)
  refine lv_aload_n hx hb dX1_init_24 rfl (lv_at hl 1 rfl) ?_
  refine va_get (ci := 1) (v := .ref u1) (C := RX1) (T := TX1) (N := 2) hx hb hts hin1 hown hK.1 hP 0 rfl rfl 0 (by decide) hf11 (fun _ h9 => h9) rfl dX1_init_25 ?_
  refine lv_iload_n hx hb dX1_init_28 rfl (lv_at hl 0 rfl) ?_
  refine va_new (ci := 0) (fs := fsX0) (C := RX0) (T := TX0) (N := 12) hx hb hts hin0 tyX0 tyX0_ok hown (hts (.classLink RX1 9 RX0) (by decide +kernel)) (hts (.instantiable RX0 12) (by decide +kernel)) (hts (.initialized RX0) (by decide +kernel)) hK.1 hP hD hS hA rfl fsX0_ok (Nat.le_of_ble_eq_true rfl) (Nat.le_of_ble_eq_true rfl) dX1_init_29 (fun u12 H hP hD hS => ?_)
  refine lv_dup hx hb dX1_init_32 rfl ?_
  refine q_I (rest := [.ref u12, .int (nI 5), .ref u1]) ⟨hx, hb, hml, hown, hts⟩ (n_X0 l C u12) (cwI 0 hts gX1_init_X0_init rfl rfl rfl (hts (.initialized RX0) (by decide +kernel)) (hts (.methodLink RX1 17 yX0_init) (by decide +kernel)) (hts (.instanceMethod yX0_init) (by decide +kernel)) rfl (by decide +kernel) ⟨Nat.le_of_ble_eq_true rfl, Nat.le_of_ble_eq_true rfl⟩) hK hO hP hD hS hA hl.1 (Nat.le_of_ble_eq_true rfl) dX1_init_33 (Nat.le_of_ble_eq_true rfl) (Nat.le_of_ble_eq_true rfl) (fun w1 H locs hQ hP hD hS => ?_)
  obtain ⟨a13, rfl, rfl⟩ := hQ
  rw [q_flatN] at hP hD
  have hP : va_P C.1 vwCl (List.flatten [([(h0, .inr (1, [.ref u1, .int (nI 0)])), (u1, .inl (C.2.2.2.2, 6, .inr (.inr (.inr (.inr (va_up (va_up (va_up (va_up (va_up (fun _ => none) 0 (some (a3 0))) 1 (some (a5 0))) 2 (some (a7 0))) 3 (some (a9 0))) 4 (some (a11 0))))))))] : va_W), wB C a3 bd0, wB C a5 bd0, wB C a7 bd0, wB C a9 bd0, wB C a11 bd0, wB C a13 bd0]) H := hP
  have hD : va_D (q_A ([(h0, .inr (1, [.null, .int (nI 0)]))]) s) (List.flatten [([(h0, .inr (1, [.ref u1, .int (nI 0)])), (u1, .inl (C.2.2.2.2, 6, .inr (.inr (.inr (.inr (va_up (va_up (va_up (va_up (va_up (fun _ => none) 0 (some (a3 0))) 1 (some (a5 0))) 2 (some (a7 0))) 3 (some (a9 0))) 4 (some (a11 0))))))))] : va_W), wB C a3 bd0, wB C a5 bd0, wB C a7 bd0, wB C a9 bd0, wB C a11 bd0, wB C a13 bd0]) := hD
  refine W.eq (g2 := F0 m 36 ls [.ref (a13 0), .int (nI 5), .ref u1]) rfl ?_
  refine q_aast (n := 5) hx hb hK hP hD hS 1 42 rfl rfl (by decide) (by decide) dX1_init_36 (fun H locs hP hD hS => ?_)
  rw [q_fset [([(h0, .inr (1, [.ref u1, .int (nI 0)])), (u1, .inl (C.2.2.2.2, 6, .inr (.inr (.inr (.inr (va_up (va_up (va_up (va_up (va_up (fun _ => none) 0 (some (a3 0))) 1 (some (a5 0))) 2 (some (a7 0))) 3 (some (a9 0))) 4 (some (a11 0))))))))] : va_W), wB C a3 bd0, wB C a5 bd0, wB C a7 bd0, wB C a9 bd0, wB C a11 bd0, wB C a13 bd0] 0 1 1 (B := ([(h0, .inr (1, [.ref u1, .int (nI 0)])), (u1, .inl (C.2.2.2.2, 6, .inr (.inr (.inr (.inr (va_up (va_up (va_up (va_up (va_up (fun _ => none) 0 (some (a3 0))) 1 (some (a5 0))) 2 (some (a7 0))) 3 (some (a9 0))) 4 (some (a11 0))))))))] : va_W)) rfl (Nat.le_of_ble_eq_true rfl) rfl] at hP hD
  have hP : va_P C.1 vwCl (List.flatten [([(h0, .inr (1, [.ref u1, .int (nI 0)])), (u1, .inl (C.2.2.2.2, 6, .inr (.inr (.inr (.inr (va_up (va_up (va_up (va_up (va_up (va_up (fun _ => none) 0 (some (a3 0))) 1 (some (a5 0))) 2 (some (a7 0))) 3 (some (a9 0))) 4 (some (a11 0))) 5 (some (a13 0))))))))] : va_W), wB C a3 bd0, wB C a5 bd0, wB C a7 bd0, wB C a9 bd0, wB C a11 bd0, wB C a13 bd0]) H := hP
  have hD : va_D (q_A ([(h0, .inr (1, [.null, .int (nI 0)]))]) s) (List.flatten [([(h0, .inr (1, [.ref u1, .int (nI 0)])), (u1, .inl (C.2.2.2.2, 6, .inr (.inr (.inr (.inr (va_up (va_up (va_up (va_up (va_up (va_up (fun _ => none) 0 (some (a3 0))) 1 (some (a5 0))) 2 (some (a7 0))) 3 (some (a9 0))) 4 (some (a11 0))) 5 (some (a13 0))))))))] : va_W), wB C a3 bd0, wB C a5 bd0, wB C a7 bd0, wB C a9 bd0, wB C a11 bd0, wB C a13 bd0]) := hD
  refine lv_iinc (v := nI 6) (lv' := [(1, .int (nI 6)), (0, .ref h0)]) hx hb dX1_init_37 hl (k := 0) rfl (by decide) (by decide) rfl (fun ls hl => ?_)
  refine lv_goto (tgt := 15) hx hb dX1_init_40 (by decide) ?_
  refine lv_iload_n hx hb dX1_init_15 rfl (lv_at hl 0 rfl) ?_
  refine lv_aload_n hx hb dX1_init_16 rfl (lv_at hl 1 rfl) ?_
  refine va_get (ci := 1) (v := .ref u1) (C := RX1) (T := TX1) (N := 2) hx hb hts hin1 hown hK.1 hP 0 rfl rfl 0 (by decide) hf11 (fun _ h9 => h9) rfl dX1_init_17 ?_
  refine va_alen hx hb hK.1 hP 1 3 rfl rfl (v := nI 6) rfl dX1_init_20 ?_
  refine lv_icmp_ge (tgt := 43) hx hb dX1_init_21 (by decide) (fun _ => ?_) (fun c => absurd (by decide) c)
  have hP := q_swpQ (g := fun k => some (((fun k => [a3, a5, a7, a9, a11, a13].getD k (fun _ => 0))) ((k + 0) % 6) 0)) hP 1 rfl (fun k hk => by rcases (show k = 0 ∨ k = 1 ∨ k = 2 ∨ k = 3 ∨ k = 4 ∨ k = 5 by omega) with rfl | rfl | rfl | rfl | rfl | rfl <;> rfl)
  rw [q_fset [([(h0, .inr (1, [.ref u1, .int (nI 0)])), (u1, .inl (C.2.2.2.2, 6, .inr (.inr (.inr (.inr (va_up (va_up (va_up (va_up (va_up (va_up (fun _ => none) 0 (some (a3 0))) 1 (some (a5 0))) 2 (some (a7 0))) 3 (some (a9 0))) 4 (some (a11 0))) 5 (some (a13 0))))))))] : va_W), wB C a3 bd0, wB C a5 bd0, wB C a7 bd0, wB C a9 bd0, wB C a11 bd0, wB C a13 bd0] 0 1 1 (B := ([(h0, .inr (1, [.ref u1, .int (nI 0)])), (u1, .inl (C.2.2.2.2, 6, .inr (.inr (.inr (.inr (va_up (va_up (va_up (va_up (va_up (va_up (fun _ => none) 0 (some (a3 0))) 1 (some (a5 0))) 2 (some (a7 0))) 3 (some (a9 0))) 4 (some (a11 0))) 5 (some (a13 0))))))))] : va_W)) rfl (Nat.le_of_ble_eq_true rfl) rfl] at hP
  have hP : va_P C.1 vwCl (List.flatten [wHa C (fun k => [h0, u1].getD k 0) (fun k => [a3, a5, a7, a9, a11, a13].getD k (fun _ => 0)) 0 0, wB C a3 bd0, wB C a5 bd0, wB C a7 bd0, wB C a9 bd0, wB C a11 bd0, wB C a13 bd0]) H := hP
  have hD : va_D (q_A ([(h0, .inr (1, [.null, .int (nI 0)]))]) s) (List.flatten [wHa C (fun k => [h0, u1].getD k 0) (fun k => [a3, a5, a7, a9, a11, a13].getD k (fun _ => 0)) 0 0, wB C a3 bd0, wB C a5 bd0, wB C a7 bd0, wB C a9 bd0, wB C a11 bd0, wB C a13 bd0]) := q_Dfst hD rfl
  have hQ9 : (fun w => ∃ (hq : Nat → Nat) (ba : Nat → Nat → Nat), hq 0 = h0 ∧ w = List.flatten [wHa C hq ba 0 0, wB C (ba 0) bd0, wB C (ba 1) bd0, wB C (ba 2) bd0, wB C (ba 3) bd0, wB C (ba 4) bd0, wB C (ba 5) bd0]) (List.flatten [wHa C (fun k => [h0, u1].getD k 0) (fun k => [a3, a5, a7, a9, a11, a13].getD k (fun _ => 0)) 0 0, wB C a3 bd0, wB C a5 bd0, wB C a7 bd0, wB C a9 bd0, wB C a11 bd0, wB C a13 bd0]) := ⟨(fun k => [h0, u1].getD k 0), (fun k => [a3, a5, a7, a9, a11, a13].getD k (fun _ => 0)), rfl, rfl⟩
  exact W.vret hx hb hr (fun t ht hW => ⟨⟨rfl, _, hQ9, by rw [ht]; exact hP, hD⟩, hS.F ht⟩) hS.2.2 dX1_init_43 hlocks
set_option maxHeartbeats 4000000 in
set_option maxRecDepth 100000 in
theorem n_X2 (l : Launch) (C : q_C) (h0 : Nat) : q_NC C l yX2_init wsX2_init 1 12 4 28 [.ref h0] [(h0, .inr (2, fsX2))] (fun w => ∃ iq : Nat → Nat, iq 0 = h0 ∧ w = wX C iq zN zN zN zN) := by
  refine q_headN (cc := cX2_init) (maxL := 1) (ret := none) (by decide +kernel) rfl (Nat.le_of_ble_eq_true rfl) ?_
  intro p e s m below meth c hx hb hr hlocks hml hown hin hts hK hO hP hD hS hA ls hl
  have hl : lv_has ls 1 [(0, .ref h0)] := hl
  have hP : va_P C.1 vwCl ([(h0, .inr (2, [.null, .null, .null, .null]))]) s.heap := hP
  have hf15 := hts (.fieldLink RX2 15 "RestedArms$Indices" "fresh" "[Z") (by decide +kernel)
  have hf19 := hts (.fieldLink RX2 19 "RestedArms$Indices" "values" "[J") (by decide +kernel)
  have hf22 := hts (.fieldLink RX2 22 "RestedArms$Indices" "own" "[J") (by decide +kernel)
  have hf9 := hts (.fieldLink RX2 9 "RestedArms$Indices" "table" "[J") (by decide +kernel)
  have hin2 : ∀ w ∈ u_ws RX2 TX2 4, w ∈ wsX2_init := by decide +kernel
  refine lv_aload_n hx hb dX2_init_0 rfl (lv_at hl 0 rfl) ?_
  refine W.objInit hx hb hown (hts (.methodLink RX2 3 objectInit) (by decide +kernel)) (hts (.instanceMethod objectInit) (by decide +kernel)) (hts _ (List.mem_of_getElem? (i := 3) rfl)) rfl (by rw [hml]; exact hl.1) rfl dX2_init_1 (Nat.le_of_ble_eq_true rfl) (Nat.le_of_ble_eq_true rfl) ?_
  refine W.eq (g2 := F0 m 4 ls []) rfl ?_
  refine lv_aload_n hx hb dX2_init_4 rfl (lv_at hl 0 rfl) ?_
  refine lv_bipush (v := nI 16) hx hb dX2_init_5 (by decide) ?_
  refine q_newJ (N := 16) hx hb (hts (.arrayClass .long) (by decide +kernel)) hK hP hD hS hA (Nat.le_of_ble_eq_true rfl) (Nat.le_of_ble_eq_true rfl) (Nat.le_of_ble_eq_true rfl) dX2_init_7 (fun u1 H hP hD hS => ?_)
  have hP : va_P C.1 vwCl ([(h0, .inr (2, [.null, .null, .null, .null])), (u1, .inl (C.2.2.1, 16, .inr (.inl (fun k => lN (zN k)))))]) H := hP
  have hD : va_D (q_A ([(h0, .inr (2, [.null, .null, .null, .null]))]) s) ([(h0, .inr (2, [.null, .null, .null, .null])), (u1, .inl (C.2.2.1, 16, .inr (.inl (fun k => lN (zN k)))))]) := hD
  refine va_putF (ci := 2) (v := .ref u1) (ty := .array .long) (C := RX2) (T := TX2) (N := 4) hx hb hts hin2 tyX2 tyX2_ok nmX2 hown hK.1 hP hD hS 0 rfl rfl 0 (by decide) hf9 (fun _ h9 => h9) rfl hin rfl (by decide +kernel) rfl rfl (Nat.le_of_ble_eq_true rfl) dX2_init_9 (fun H locs hP hD hS => ?_)
  have hP : va_P C.1 vwCl ([(h0, .inr (2, [.ref u1, .null, .null, .null])), (u1, .inl (C.2.2.1, 16, .inr (.inl (fun k => lN (zN k)))))]) H := hP
  have hD : va_D (q_A ([(h0, .inr (2, [.null, .null, .null, .null]))]) s) ([(h0, .inr (2, [.ref u1, .null, .null, .null])), (u1, .inl (C.2.2.1, 16, .inr (.inl (fun k => lN (zN k)))))]) := hD
  refine lv_aload_n hx hb dX2_init_12 rfl (lv_at hl 0 rfl) ?_
  refine lv_iconst (v := nI 4) hx hb dX2_init_13 (by decide) ?_
  refine q_newZ (N := 4) hx hb (hts (.arrayClass .boolean) (by decide +kernel)) hK hP hD hS hA (Nat.le_of_ble_eq_true rfl) (Nat.le_of_ble_eq_true rfl) (Nat.le_of_ble_eq_true rfl) dX2_init_14 (fun u2 H hP hD hS => ?_)
  have hP : va_P C.1 vwCl ([(h0, .inr (2, [.ref u1, .null, .null, .null])), (u1, .inl (C.2.2.1, 16, .inr (.inl (fun k => lN (zN k))))), (u2, .inl (C.2.2.2.1, 4, .inl (fun k => nI (zN k))))]) H := hP
  have hD : va_D (q_A ([(h0, .inr (2, [.null, .null, .null, .null]))]) s) ([(h0, .inr (2, [.ref u1, .null, .null, .null])), (u1, .inl (C.2.2.1, 16, .inr (.inl (fun k => lN (zN k))))), (u2, .inl (C.2.2.2.1, 4, .inl (fun k => nI (zN k))))]) := hD
  refine va_putF (ci := 2) (v := .ref u2) (ty := .array .boolean) (C := RX2) (T := TX2) (N := 4) hx hb hts hin2 tyX2 tyX2_ok nmX2 hown hK.1 hP hD hS 0 rfl rfl 1 (by decide) hf15 (fun _ h9 => h9) rfl hin rfl (by decide +kernel) rfl rfl (Nat.le_of_ble_eq_true rfl) dX2_init_16 (fun H locs hP hD hS => ?_)
  have hP : va_P C.1 vwCl ([(h0, .inr (2, [.ref u1, .ref u2, .null, .null])), (u1, .inl (C.2.2.1, 16, .inr (.inl (fun k => lN (zN k))))), (u2, .inl (C.2.2.2.1, 4, .inl (fun k => nI (zN k))))]) H := hP
  have hD : va_D (q_A ([(h0, .inr (2, [.null, .null, .null, .null]))]) s) ([(h0, .inr (2, [.ref u1, .ref u2, .null, .null])), (u1, .inl (C.2.2.1, 16, .inr (.inl (fun k => lN (zN k))))), (u2, .inl (C.2.2.2.1, 4, .inl (fun k => nI (zN k))))]) := hD
  refine lv_aload_n hx hb dX2_init_19 rfl (lv_at hl 0 rfl) ?_
  refine lv_iconst (v := nI 4) hx hb dX2_init_20 (by decide) ?_
  refine q_newJ (N := 4) hx hb (hts (.arrayClass .long) (by decide +kernel)) hK hP hD hS hA (Nat.le_of_ble_eq_true rfl) (Nat.le_of_ble_eq_true rfl) (Nat.le_of_ble_eq_true rfl) dX2_init_21 (fun u3 H hP hD hS => ?_)
  have hP : va_P C.1 vwCl ([(h0, .inr (2, [.ref u1, .ref u2, .null, .null])), (u1, .inl (C.2.2.1, 16, .inr (.inl (fun k => lN (zN k))))), (u2, .inl (C.2.2.2.1, 4, .inl (fun k => nI (zN k)))), (u3, .inl (C.2.2.1, 4, .inr (.inl (fun k => lN (zN k)))))]) H := hP
  have hD : va_D (q_A ([(h0, .inr (2, [.null, .null, .null, .null]))]) s) ([(h0, .inr (2, [.ref u1, .ref u2, .null, .null])), (u1, .inl (C.2.2.1, 16, .inr (.inl (fun k => lN (zN k))))), (u2, .inl (C.2.2.2.1, 4, .inl (fun k => nI (zN k)))), (u3, .inl (C.2.2.1, 4, .inr (.inl (fun k => lN (zN k)))))]) := hD
  refine va_putF (ci := 2) (v := .ref u3) (ty := .array .long) (C := RX2) (T := TX2) (N := 4) hx hb hts hin2 tyX2 tyX2_ok nmX2 hown hK.1 hP hD hS 0 rfl rfl 2 (by decide) hf19 (fun _ h9 => h9) rfl hin rfl (by decide +kernel) rfl rfl (Nat.le_of_ble_eq_true rfl) dX2_init_23 (fun H locs hP hD hS => ?_)
  have hP : va_P C.1 vwCl ([(h0, .inr (2, [.ref u1, .ref u2, .ref u3, .null])), (u1, .inl (C.2.2.1, 16, .inr (.inl (fun k => lN (zN k))))), (u2, .inl (C.2.2.2.1, 4, .inl (fun k => nI (zN k)))), (u3, .inl (C.2.2.1, 4, .inr (.inl (fun k => lN (zN k)))))]) H := hP
  have hD : va_D (q_A ([(h0, .inr (2, [.null, .null, .null, .null]))]) s) ([(h0, .inr (2, [.ref u1, .ref u2, .ref u3, .null])), (u1, .inl (C.2.2.1, 16, .inr (.inl (fun k => lN (zN k))))), (u2, .inl (C.2.2.2.1, 4, .inl (fun k => nI (zN k)))), (u3, .inl (C.2.2.1, 4, .inr (.inl (fun k => lN (zN k)))))]) := hD
  refine lv_aload_n hx hb dX2_init_26 rfl (lv_at hl 0 rfl) ?_
  refine lv_iconst (v := nI 4) hx hb dX2_init_27 (by decide) ?_
  refine q_newJ (N := 4) hx hb (hts (.arrayClass .long) (by decide +kernel)) hK hP hD hS hA (Nat.le_of_ble_eq_true rfl) (Nat.le_of_ble_eq_true rfl) (Nat.le_of_ble_eq_true rfl) dX2_init_28 (fun u4 H hP hD hS => ?_)
  have hP : va_P C.1 vwCl ([(h0, .inr (2, [.ref u1, .ref u2, .ref u3, .null])), (u1, .inl (C.2.2.1, 16, .inr (.inl (fun k => lN (zN k))))), (u2, .inl (C.2.2.2.1, 4, .inl (fun k => nI (zN k)))), (u3, .inl (C.2.2.1, 4, .inr (.inl (fun k => lN (zN k))))), (u4, .inl (C.2.2.1, 4, .inr (.inl (fun k => lN (zN k)))))]) H := hP
  have hD : va_D (q_A ([(h0, .inr (2, [.null, .null, .null, .null]))]) s) ([(h0, .inr (2, [.ref u1, .ref u2, .ref u3, .null])), (u1, .inl (C.2.2.1, 16, .inr (.inl (fun k => lN (zN k))))), (u2, .inl (C.2.2.2.1, 4, .inl (fun k => nI (zN k)))), (u3, .inl (C.2.2.1, 4, .inr (.inl (fun k => lN (zN k))))), (u4, .inl (C.2.2.1, 4, .inr (.inl (fun k => lN (zN k)))))]) := hD
  refine va_putF (ci := 2) (v := .ref u4) (ty := .array .long) (C := RX2) (T := TX2) (N := 4) hx hb hts hin2 tyX2 tyX2_ok nmX2 hown hK.1 hP hD hS 0 rfl rfl 3 (by decide) hf22 (fun _ h9 => h9) rfl hin rfl (by decide +kernel) rfl rfl (Nat.le_of_ble_eq_true rfl) dX2_init_30 (fun H locs hP hD hS => ?_)
  have hP : va_P C.1 vwCl ([(h0, .inr (2, [.ref u1, .ref u2, .ref u3, .ref u4])), (u1, .inl (C.2.2.1, 16, .inr (.inl (fun k => lN (zN k))))), (u2, .inl (C.2.2.2.1, 4, .inl (fun k => nI (zN k)))), (u3, .inl (C.2.2.1, 4, .inr (.inl (fun k => lN (zN k))))), (u4, .inl (C.2.2.1, 4, .inr (.inl (fun k => lN (zN k)))))]) H := hP
  have hD : va_D (q_A ([(h0, .inr (2, [.null, .null, .null, .null]))]) s) ([(h0, .inr (2, [.ref u1, .ref u2, .ref u3, .ref u4])), (u1, .inl (C.2.2.1, 16, .inr (.inl (fun k => lN (zN k))))), (u2, .inl (C.2.2.2.1, 4, .inl (fun k => nI (zN k)))), (u3, .inl (C.2.2.1, 4, .inr (.inl (fun k => lN (zN k))))), (u4, .inl (C.2.2.1, 4, .inr (.inl (fun k => lN (zN k)))))]) := hD
  have hQ9 : (fun w => ∃ iq : Nat → Nat, iq 0 = h0 ∧ w = wX C iq zN zN zN zN) ([(h0, .inr (2, [.ref u1, .ref u2, .ref u3, .ref u4])), (u1, .inl (C.2.2.1, 16, .inr (.inl (fun k => lN (zN k))))), (u2, .inl (C.2.2.2.1, 4, .inl (fun k => nI (zN k)))), (u3, .inl (C.2.2.1, 4, .inr (.inl (fun k => lN (zN k))))), (u4, .inl (C.2.2.1, 4, .inr (.inl (fun k => lN (zN k)))))]) := ⟨(fun k => [h0, u1, u2, u3, u4].getD k 0), rfl, rfl⟩
  exact W.vret hx hb hr (fun t ht hW => ⟨⟨rfl, _, hQ9, by rw [ht]; exact hP, hD⟩, hS.F ht⟩) hS.2.2 dX2_init_33 hlocks
set_option maxHeartbeats 4000000 in
set_option maxRecDepth 100000 in
theorem n_X3 (l : Launch) (C : q_C) (h0 : Nat) : q_NC C l yX3_init wsX3_init 1 12 1 60 [.ref h0] [(h0, .inr (3, fsX3))] (fun w => ∃ tt : Nat → Nat, tt 0 = h0 ∧ w = wT C tt 0 zN) := by
  refine q_headN (cc := cX3_init) (maxL := 1) (ret := none) (by decide +kernel) rfl (Nat.le_of_ble_eq_true rfl) ?_
  intro p e s m below meth c hx hb hr hlocks hml hown hin hts hK hO hP hD hS hA ls hl
  have hl : lv_has ls 1 [(0, .ref h0)] := hl
  have hP : va_P C.1 vwCl ([(h0, .inr (3, [.null, .int (nI 0)]))]) s.heap := hP
  have hf9 := hts (.fieldLink RX3 9 "RestedArms$Text" "codes" "[I") (by decide +kernel)
  have hin3 : ∀ w ∈ u_ws RX3 TX3 2, w ∈ wsX3_init := by decide +kernel
  refine lv_aload_n hx hb dX3_init_0 rfl (lv_at hl 0 rfl) ?_
  refine W.objInit hx hb hown (hts (.methodLink RX3 3 objectInit) (by decide +kernel)) (hts (.instanceMethod objectInit) (by decide +kernel)) (hts _ (List.mem_of_getElem? (i := 3) rfl)) rfl (by rw [hml]; exact hl.1) rfl dX3_init_1 (Nat.le_of_ble_eq_true rfl) (Nat.le_of_ble_eq_true rfl) ?_
  refine W.eq (g2 := F0 m 4 ls []) rfl ?_
  refine lv_aload_n hx hb dX3_init_4 rfl (lv_at hl 0 rfl) ?_
  refine lv_bipush (v := nI 60) hx hb dX3_init_5 (by decide) ?_
  refine q_newI (N := 60) hx hb (hts (.arrayClass .int) (by decide +kernel)) hK hP hD hS hA (Nat.le_of_ble_eq_true rfl) (Nat.le_of_ble_eq_true rfl) (Nat.le_of_ble_eq_true rfl) dX3_init_7 (fun u1 H hP hD hS => ?_)
  have hP : va_P C.1 vwCl ([(h0, .inr (3, [.null, .int (nI 0)])), (u1, .inl (C.2.1, 60, .inl (fun k => nI (zN k))))]) H := hP
  have hD : va_D (q_A ([(h0, .inr (3, [.null, .int (nI 0)]))]) s) ([(h0, .inr (3, [.null, .int (nI 0)])), (u1, .inl (C.2.1, 60, .inl (fun k => nI (zN k))))]) := hD
  refine va_putF (ci := 3) (v := .ref u1) (ty := .array .int) (C := RX3) (T := TX3) (N := 2) hx hb hts hin3 tyX3 tyX3_ok nmX3 hown hK.1 hP hD hS 0 rfl rfl 0 (by decide) hf9 (fun _ h9 => h9) rfl hin rfl (by decide +kernel) rfl rfl (Nat.le_of_ble_eq_true rfl) dX3_init_9 (fun H locs hP hD hS => ?_)
  have hP : va_P C.1 vwCl ([(h0, .inr (3, [.ref u1, .int (nI 0)])), (u1, .inl (C.2.1, 60, .inl (fun k => nI (zN k))))]) H := hP
  have hD : va_D (q_A ([(h0, .inr (3, [.null, .int (nI 0)]))]) s) ([(h0, .inr (3, [.ref u1, .int (nI 0)])), (u1, .inl (C.2.1, 60, .inl (fun k => nI (zN k))))]) := hD
  have hQ9 : (fun w => ∃ tt : Nat → Nat, tt 0 = h0 ∧ w = wT C tt 0 zN) ([(h0, .inr (3, [.ref u1, .int (nI 0)])), (u1, .inl (C.2.1, 60, .inl (fun k => nI (zN k))))]) := ⟨(fun k => [h0, u1].getD k 0), rfl, rfl⟩
  exact W.vret hx hb hr (fun t ht hW => ⟨⟨rfl, _, hQ9, by rw [ht]; exact hP, hD⟩, hS.F ht⟩) hS.2.2 dX3_init_12 hlocks
set_option maxHeartbeats 4000000 in
set_option maxRecDepth 100000 in
theorem n_X4 (l : Launch) (C : q_C) (h0 : Nat) : q_NC C l yX4_init wsX4_init 3 54 74 810 [.ref h0] [(h0, .inr (4, fsX4))] (fun w => ∃ (nw tr hq iq tt : Nat → Nat) (sc : Nat) (ba : Nat → Nat → Nat), w = wF C h0 nw tr hq iq tt sc ba (fun _ => 0) bd0 bd0 (fun _ => bd0) 0 0 zN zN zN zN 0 zN) := by
  refine q_headN (cc := cX4_init) (maxL := 1) (ret := none) (by decide +kernel) rfl (Nat.le_of_ble_eq_true rfl) ?_
  intro p e s m below meth c hx hb hr hlocks hml hown hin hts hK hO hP hD hS hA ls hl
  have hl : lv_has ls 1 [(0, .ref h0)] := hl
  have hP : va_P C.1 vwCl ([(h0, .inr (4, [.null, .null, .null, .null, .null, .null]))]) s.heap := hP
  have hf10 := hts (.fieldLink RX4 10 "RestedArms" "now" "LRestedArms$Board;") (by decide +kernel)
  have hf16 := hts (.fieldLink RX4 16 "RestedArms" "trial" "LRestedArms$Board;") (by decide +kernel)
  have hf22 := hts (.fieldLink RX4 22 "RestedArms" "history" "LRestedArms$History;") (by decide +kernel)
  have hf29 := hts (.fieldLink RX4 29 "RestedArms" "indices" "LRestedArms$Indices;") (by decide +kernel)
  have hf36 := hts (.fieldLink RX4 36 "RestedArms" "text" "LRestedArms$Text;") (by decide +kernel)
  have hf40 := hts (.fieldLink RX4 40 "RestedArms" "scores" "[J") (by decide +kernel)
  have hin0 : ∀ w ∈ u_ws RX0 TX0 12, w ∈ wsX4_init := by decide +kernel
  have hin1 : ∀ w ∈ u_ws RX1 TX1 2, w ∈ wsX4_init := by decide +kernel
  have hin2 : ∀ w ∈ u_ws RX2 TX2 4, w ∈ wsX4_init := by decide +kernel
  have hin3 : ∀ w ∈ u_ws RX3 TX3 2, w ∈ wsX4_init := by decide +kernel
  have hin4 : ∀ w ∈ u_ws RX4 TX4 6, w ∈ wsX4_init := by decide +kernel
  refine lv_aload_n hx hb dX4_init_0 rfl (lv_at hl 0 rfl) ?_
  refine W.objInit hx hb hown (hts (.methodLink RX4 1 objectInit) (by decide +kernel)) (hts (.instanceMethod objectInit) (by decide +kernel)) (hts _ (List.mem_of_getElem? (i := 3) rfl)) rfl (by rw [hml]; exact hl.1) rfl dX4_init_1 (Nat.le_of_ble_eq_true rfl) (Nat.le_of_ble_eq_true rfl) ?_
  refine W.eq (g2 := F0 m 4 ls []) rfl ?_
  refine lv_aload_n hx hb dX4_init_4 rfl (lv_at hl 0 rfl) ?_
  refine va_new (ci := 0) (fs := fsX0) (C := RX0) (T := TX0) (N := 12) hx hb hts hin0 tyX0 tyX0_ok hown (hts (.classLink RX4 7 RX0) (by decide +kernel)) (hts (.instantiable RX0 12) (by decide +kernel)) (hts (.initialized RX0) (by decide +kernel)) hK.1 hP hD hS hA rfl fsX0_ok (Nat.le_of_ble_eq_true rfl) (Nat.le_of_ble_eq_true rfl) dX4_init_5 (fun u1 H hP hD hS => ?_)
  refine lv_dup hx hb dX4_init_8 rfl ?_
  refine q_I (rest := [.ref u1, .ref h0]) ⟨hx, hb, hml, hown, hts⟩ (n_X0 l C u1) (cwI 0 hts gX4_init_X0_init rfl rfl rfl (hts (.initialized RX0) (by decide +kernel)) (hts (.methodLink RX4 9 yX0_init) (by decide +kernel)) (hts (.instanceMethod yX0_init) (by decide +kernel)) rfl (by decide +kernel) ⟨Nat.le_of_ble_eq_true rfl, Nat.le_of_ble_eq_true rfl⟩) hK hO hP hD hS hA hl.1 (Nat.le_of_ble_eq_true rfl) dX4_init_9 (Nat.le_of_ble_eq_true rfl) (Nat.le_of_ble_eq_true rfl) (fun w1 H locs hQ hP hD hS => ?_)
  obtain ⟨a2, rfl, rfl⟩ := hQ
  have hP : va_P C.1 vwCl (([(h0, .inr (4, [.null, .null, .null, .null, .null, .null]))] : va_W) ++ wB C a2 bd0) H := hP
  have hD : va_D (q_A ([(h0, .inr (4, [.null, .null, .null, .null, .null, .null]))]) s) (([(h0, .inr (4, [.null, .null, .null, .null, .null, .null]))] : va_W) ++ wB C a2 bd0) := hD
  refine W.eq (g2 := F0 m 12 ls [.ref (a2 0), .ref h0]) rfl ?_
  refine va_putF (ci := 4) (v := .ref (a2 0)) (ty := .object "RestedArms$Board") (C := RX4) (T := TX4) (N := 6) hx hb hts hin4 tyX4 tyX4_ok nmX4 hown hK.1 hP hD hS 0 rfl rfl 0 (by decide) hf10 (fun _ h9 => h9) rfl hin rfl (by decide +kernel) rfl rfl (Nat.le_of_ble_eq_true rfl) dX4_init_12 (fun H locs hP hD hS => ?_)
  have hP : va_P C.1 vwCl (([(h0, .inr (4, [.ref (a2 0), .null, .null, .null, .null, .null]))] : va_W) ++ wB C a2 bd0) H := hP
  have hD : va_D (q_A ([(h0, .inr (4, [.null, .null, .null, .null, .null, .null]))]) s) (([(h0, .inr (4, [.ref (a2 0), .null, .null, .null, .null, .null]))] : va_W) ++ wB C a2 bd0) := hD
  refine lv_aload_n hx hb dX4_init_15 rfl (lv_at hl 0 rfl) ?_
  refine va_new (ci := 0) (fs := fsX0) (C := RX0) (T := TX0) (N := 12) hx hb hts hin0 tyX0 tyX0_ok hown (hts (.classLink RX4 7 RX0) (by decide +kernel)) (hts (.instantiable RX0 12) (by decide +kernel)) (hts (.initialized RX0) (by decide +kernel)) hK.1 hP hD hS hA rfl fsX0_ok (Nat.le_of_ble_eq_true rfl) (Nat.le_of_ble_eq_true rfl) dX4_init_16 (fun u3 H hP hD hS => ?_)
  refine lv_dup hx hb dX4_init_19 rfl ?_
  refine q_I (rest := [.ref u3, .ref h0]) ⟨hx, hb, hml, hown, hts⟩ (n_X0 l C u3) (cwI 0 hts gX4_init_X0_init rfl rfl rfl (hts (.initialized RX0) (by decide +kernel)) (hts (.methodLink RX4 9 yX0_init) (by decide +kernel)) (hts (.instanceMethod yX0_init) (by decide +kernel)) rfl (by decide +kernel) ⟨Nat.le_of_ble_eq_true rfl, Nat.le_of_ble_eq_true rfl⟩) hK hO hP hD hS hA hl.1 (Nat.le_of_ble_eq_true rfl) dX4_init_20 (Nat.le_of_ble_eq_true rfl) (Nat.le_of_ble_eq_true rfl) (fun w1 H locs hQ hP hD hS => ?_)
  obtain ⟨a4, rfl, rfl⟩ := hQ
  have hP : va_P C.1 vwCl (([(h0, .inr (4, [.ref (a2 0), .null, .null, .null, .null, .null]))] : va_W) ++ wB C a2 bd0 ++ wB C a4 bd0) H := hP
  have hD : va_D (q_A ([(h0, .inr (4, [.null, .null, .null, .null, .null, .null]))]) s) (([(h0, .inr (4, [.ref (a2 0), .null, .null, .null, .null, .null]))] : va_W) ++ wB C a2 bd0 ++ wB C a4 bd0) := hD
  refine W.eq (g2 := F0 m 23 ls [.ref (a4 0), .ref h0]) rfl ?_
  refine va_putF (ci := 4) (v := .ref (a4 0)) (ty := .object "RestedArms$Board") (C := RX4) (T := TX4) (N := 6) hx hb hts hin4 tyX4 tyX4_ok nmX4 hown hK.1 hP hD hS 0 rfl rfl 1 (by decide) hf16 (fun _ h9 => h9) rfl hin rfl (by decide +kernel) rfl rfl (Nat.le_of_ble_eq_true rfl) dX4_init_23 (fun H locs hP hD hS => ?_)
  have hP : va_P C.1 vwCl (([(h0, .inr (4, [.ref (a2 0), .ref (a4 0), .null, .null, .null, .null]))] : va_W) ++ wB C a2 bd0 ++ wB C a4 bd0) H := hP
  have hD : va_D (q_A ([(h0, .inr (4, [.null, .null, .null, .null, .null, .null]))]) s) (([(h0, .inr (4, [.ref (a2 0), .ref (a4 0), .null, .null, .null, .null]))] : va_W) ++ wB C a2 bd0 ++ wB C a4 bd0) := hD
  refine lv_aload_n hx hb dX4_init_26 rfl (lv_at hl 0 rfl) ?_
  refine va_new (ci := 1) (fs := fsX1) (C := RX1) (T := TX1) (N := 2) hx hb hts hin1 tyX1 tyX1_ok hown (hts (.classLink RX4 19 RX1) (by decide +kernel)) (hts (.instantiable RX1 2) (by decide +kernel)) (hts (.initialized RX1) (by decide +kernel)) hK.1 hP hD hS hA rfl fsX1_ok (Nat.le_of_ble_eq_true rfl) (Nat.le_of_ble_eq_true rfl) dX4_init_27 (fun u5 H hP hD hS => ?_)
  refine lv_dup hx hb dX4_init_30 rfl ?_
  refine q_I (rest := [.ref u5, .ref h0]) ⟨hx, hb, hml, hown, hts⟩ (n_X1 l C u5) (cwI 0 hts gX4_init_X1_init rfl rfl rfl (hts (.initialized RX1) (by decide +kernel)) (hts (.methodLink RX4 21 yX1_init) (by decide +kernel)) (hts (.instanceMethod yX1_init) (by decide +kernel)) rfl (by decide +kernel) ⟨Nat.le_of_ble_eq_true rfl, Nat.le_of_ble_eq_true rfl⟩) hK hO hP hD hS hA hl.1 (Nat.le_of_ble_eq_true rfl) dX4_init_31 (Nat.le_of_ble_eq_true rfl) (Nat.le_of_ble_eq_true rfl) (fun w1 H locs hQ hP hD hS => ?_)
  obtain ⟨hq, ba, rfl, rfl⟩ := hQ
  have hP : va_P C.1 vwCl (List.flatten [([(h0, .inr (4, [.ref (a2 0), .ref (a4 0), .null, .null, .null, .null]))] : va_W), wB C a2 bd0, wB C a4 bd0, wHa C hq ba 0 0, wB C (ba 0) bd0, wB C (ba 1) bd0, wB C (ba 2) bd0, wB C (ba 3) bd0, wB C (ba 4) bd0, wB C (ba 5) bd0]) H := hP
  have hD : va_D (q_A ([(h0, .inr (4, [.null, .null, .null, .null, .null, .null]))]) s) (List.flatten [([(h0, .inr (4, [.ref (a2 0), .ref (a4 0), .null, .null, .null, .null]))] : va_W), wB C a2 bd0, wB C a4 bd0, wHa C hq ba 0 0, wB C (ba 0) bd0, wB C (ba 1) bd0, wB C (ba 2) bd0, wB C (ba 3) bd0, wB C (ba 4) bd0, wB C (ba 5) bd0]) := hD
  refine W.eq (g2 := F0 m 34 ls [.ref (hq 0), .ref h0]) rfl ?_
  refine va_putF (ci := 4) (v := .ref (hq 0)) (ty := .object "RestedArms$History") (C := RX4) (T := TX4) (N := 6) hx hb hts hin4 tyX4 tyX4_ok nmX4 hown hK.1 hP hD hS 0 rfl rfl 2 (by decide) hf22 (fun _ h9 => h9) rfl hin rfl (by decide +kernel) rfl rfl (Nat.le_of_ble_eq_true rfl) dX4_init_34 (fun H locs hP hD hS => ?_)
  rw [q_fset [([(h0, .inr (4, [.ref (a2 0), .ref (a4 0), .null, .null, .null, .null]))] : va_W), wB C a2 bd0, wB C a4 bd0, wHa C hq ba 0 0, wB C (ba 0) bd0, wB C (ba 1) bd0, wB C (ba 2) bd0, wB C (ba 3) bd0, wB C (ba 4) bd0, wB C (ba 5) bd0] 0 0 0 (B := ([(h0, .inr (4, [.ref (a2 0), .ref (a4 0), .null, .null, .null, .null]))] : va_W)) rfl (Nat.le_of_ble_eq_true rfl) rfl] at hP hD
  have hP : va_P C.1 vwCl (List.flatten [([(h0, .inr (4, [.ref (a2 0), .ref (a4 0), .ref (hq 0), .null, .null, .null]))] : va_W), wB C a2 bd0, wB C a4 bd0, wHa C hq ba 0 0, wB C (ba 0) bd0, wB C (ba 1) bd0, wB C (ba 2) bd0, wB C (ba 3) bd0, wB C (ba 4) bd0, wB C (ba 5) bd0]) H := hP
  have hD : va_D (q_A ([(h0, .inr (4, [.null, .null, .null, .null, .null, .null]))]) s) (List.flatten [([(h0, .inr (4, [.ref (a2 0), .ref (a4 0), .ref (hq 0), .null, .null, .null]))] : va_W), wB C a2 bd0, wB C a4 bd0, wHa C hq ba 0 0, wB C (ba 0) bd0, wB C (ba 1) bd0, wB C (ba 2) bd0, wB C (ba 3) bd0, wB C (ba 4) bd0, wB C (ba 5) bd0]) := hD
  refine lv_aload_n hx hb dX4_init_37 rfl (lv_at hl 0 rfl) ?_
  refine va_new (ci := 2) (fs := fsX2) (C := RX2) (T := TX2) (N := 4) hx hb hts hin2 tyX2 tyX2_ok hown (hts (.classLink RX4 26 RX2) (by decide +kernel)) (hts (.instantiable RX2 4) (by decide +kernel)) (hts (.initialized RX2) (by decide +kernel)) hK.1 hP hD hS hA rfl fsX2_ok (Nat.le_of_ble_eq_true rfl) (Nat.le_of_ble_eq_true rfl) dX4_init_38 (fun u7 H hP hD hS => ?_)
  refine lv_dup hx hb dX4_init_41 rfl ?_
  refine q_I (rest := [.ref u7, .ref h0]) ⟨hx, hb, hml, hown, hts⟩ (n_X2 l C u7) (cwI 0 hts gX4_init_X2_init rfl rfl rfl (hts (.initialized RX2) (by decide +kernel)) (hts (.methodLink RX4 28 yX2_init) (by decide +kernel)) (hts (.instanceMethod yX2_init) (by decide +kernel)) rfl (by decide +kernel) ⟨Nat.le_of_ble_eq_true rfl, Nat.le_of_ble_eq_true rfl⟩) hK hO hP hD hS hA hl.1 (Nat.le_of_ble_eq_true rfl) dX4_init_42 (Nat.le_of_ble_eq_true rfl) (Nat.le_of_ble_eq_true rfl) (fun w1 H locs hQ hP hD hS => ?_)
  obtain ⟨iq, rfl, rfl⟩ := hQ
  rw [q_flatN] at hP hD
  have hP : va_P C.1 vwCl (List.flatten [([(h0, .inr (4, [.ref (a2 0), .ref (a4 0), .ref (hq 0), .null, .null, .null]))] : va_W), wB C a2 bd0, wB C a4 bd0, wHa C hq ba 0 0, wB C (ba 0) bd0, wB C (ba 1) bd0, wB C (ba 2) bd0, wB C (ba 3) bd0, wB C (ba 4) bd0, wB C (ba 5) bd0, wX C iq zN zN zN zN]) H := hP
  have hD : va_D (q_A ([(h0, .inr (4, [.null, .null, .null, .null, .null, .null]))]) s) (List.flatten [([(h0, .inr (4, [.ref (a2 0), .ref (a4 0), .ref (hq 0), .null, .null, .null]))] : va_W), wB C a2 bd0, wB C a4 bd0, wHa C hq ba 0 0, wB C (ba 0) bd0, wB C (ba 1) bd0, wB C (ba 2) bd0, wB C (ba 3) bd0, wB C (ba 4) bd0, wB C (ba 5) bd0, wX C iq zN zN zN zN]) := hD
  refine W.eq (g2 := F0 m 45 ls [.ref (iq 0), .ref h0]) rfl ?_
  refine va_putF (ci := 4) (v := .ref (iq 0)) (ty := .object "RestedArms$Indices") (C := RX4) (T := TX4) (N := 6) hx hb hts hin4 tyX4 tyX4_ok nmX4 hown hK.1 hP hD hS 0 rfl rfl 3 (by decide) hf29 (fun _ h9 => h9) rfl hin rfl (by decide +kernel) rfl rfl (Nat.le_of_ble_eq_true rfl) dX4_init_45 (fun H locs hP hD hS => ?_)
  rw [q_fset [([(h0, .inr (4, [.ref (a2 0), .ref (a4 0), .ref (hq 0), .null, .null, .null]))] : va_W), wB C a2 bd0, wB C a4 bd0, wHa C hq ba 0 0, wB C (ba 0) bd0, wB C (ba 1) bd0, wB C (ba 2) bd0, wB C (ba 3) bd0, wB C (ba 4) bd0, wB C (ba 5) bd0, wX C iq zN zN zN zN] 0 0 0 (B := ([(h0, .inr (4, [.ref (a2 0), .ref (a4 0), .ref (hq 0), .null, .null, .null]))] : va_W)) rfl (Nat.le_of_ble_eq_true rfl) rfl] at hP hD
  have hP : va_P C.1 vwCl (List.flatten [([(h0, .inr (4, [.ref (a2 0), .ref (a4 0), .ref (hq 0), .ref (iq 0), .null, .null]))] : va_W), wB C a2 bd0, wB C a4 bd0, wHa C hq ba 0 0, wB C (ba 0) bd0, wB C (ba 1) bd0, wB C (ba 2) bd0, wB C (ba 3) bd0, wB C (ba 4) bd0, wB C (ba 5) bd0, wX C iq zN zN zN zN]) H := hP
  have hD : va_D (q_A ([(h0, .inr (4, [.null, .null, .null, .null, .null, .null]))]) s) (List.flatten [([(h0, .inr (4, [.ref (a2 0), .ref (a4 0), .ref (hq 0), .ref (iq 0), .null, .null]))] : va_W), wB C a2 bd0, wB C a4 bd0, wHa C hq ba 0 0, wB C (ba 0) bd0, wB C (ba 1) bd0, wB C (ba 2) bd0, wB C (ba 3) bd0, wB C (ba 4) bd0, wB C (ba 5) bd0, wX C iq zN zN zN zN]) := hD
  refine lv_aload_n hx hb dX4_init_48 rfl (lv_at hl 0 rfl) ?_
  refine va_new (ci := 3) (fs := fsX3) (C := RX3) (T := TX3) (N := 2) hx hb hts hin3 tyX3 tyX3_ok hown (hts (.classLink RX4 33 RX3) (by decide +kernel)) (hts (.instantiable RX3 2) (by decide +kernel)) (hts (.initialized RX3) (by decide +kernel)) hK.1 hP hD hS hA rfl fsX3_ok (Nat.le_of_ble_eq_true rfl) (Nat.le_of_ble_eq_true rfl) dX4_init_49 (fun u8 H hP hD hS => ?_)
  refine lv_dup hx hb dX4_init_52 rfl ?_
  refine q_I (rest := [.ref u8, .ref h0]) ⟨hx, hb, hml, hown, hts⟩ (n_X3 l C u8) (cwI 0 hts gX4_init_X3_init rfl rfl rfl (hts (.initialized RX3) (by decide +kernel)) (hts (.methodLink RX4 35 yX3_init) (by decide +kernel)) (hts (.instanceMethod yX3_init) (by decide +kernel)) rfl (by decide +kernel) ⟨Nat.le_of_ble_eq_true rfl, Nat.le_of_ble_eq_true rfl⟩) hK hO hP hD hS hA hl.1 (Nat.le_of_ble_eq_true rfl) dX4_init_53 (Nat.le_of_ble_eq_true rfl) (Nat.le_of_ble_eq_true rfl) (fun w1 H locs hQ hP hD hS => ?_)
  obtain ⟨tt, rfl, rfl⟩ := hQ
  rw [q_flatN] at hP hD
  have hP : va_P C.1 vwCl (List.flatten [([(h0, .inr (4, [.ref (a2 0), .ref (a4 0), .ref (hq 0), .ref (iq 0), .null, .null]))] : va_W), wB C a2 bd0, wB C a4 bd0, wHa C hq ba 0 0, wB C (ba 0) bd0, wB C (ba 1) bd0, wB C (ba 2) bd0, wB C (ba 3) bd0, wB C (ba 4) bd0, wB C (ba 5) bd0, wX C iq zN zN zN zN, wT C tt 0 zN]) H := hP
  have hD : va_D (q_A ([(h0, .inr (4, [.null, .null, .null, .null, .null, .null]))]) s) (List.flatten [([(h0, .inr (4, [.ref (a2 0), .ref (a4 0), .ref (hq 0), .ref (iq 0), .null, .null]))] : va_W), wB C a2 bd0, wB C a4 bd0, wHa C hq ba 0 0, wB C (ba 0) bd0, wB C (ba 1) bd0, wB C (ba 2) bd0, wB C (ba 3) bd0, wB C (ba 4) bd0, wB C (ba 5) bd0, wX C iq zN zN zN zN, wT C tt 0 zN]) := hD
  refine W.eq (g2 := F0 m 56 ls [.ref (tt 0), .ref h0]) rfl ?_
  refine va_putF (ci := 4) (v := .ref (tt 0)) (ty := .object "RestedArms$Text") (C := RX4) (T := TX4) (N := 6) hx hb hts hin4 tyX4 tyX4_ok nmX4 hown hK.1 hP hD hS 0 rfl rfl 4 (by decide) hf36 (fun _ h9 => h9) rfl hin rfl (by decide +kernel) rfl rfl (Nat.le_of_ble_eq_true rfl) dX4_init_56 (fun H locs hP hD hS => ?_)
  rw [q_fset [([(h0, .inr (4, [.ref (a2 0), .ref (a4 0), .ref (hq 0), .ref (iq 0), .null, .null]))] : va_W), wB C a2 bd0, wB C a4 bd0, wHa C hq ba 0 0, wB C (ba 0) bd0, wB C (ba 1) bd0, wB C (ba 2) bd0, wB C (ba 3) bd0, wB C (ba 4) bd0, wB C (ba 5) bd0, wX C iq zN zN zN zN, wT C tt 0 zN] 0 0 0 (B := ([(h0, .inr (4, [.ref (a2 0), .ref (a4 0), .ref (hq 0), .ref (iq 0), .null, .null]))] : va_W)) rfl (Nat.le_of_ble_eq_true rfl) rfl] at hP hD
  have hP : va_P C.1 vwCl (List.flatten [([(h0, .inr (4, [.ref (a2 0), .ref (a4 0), .ref (hq 0), .ref (iq 0), .ref (tt 0), .null]))] : va_W), wB C a2 bd0, wB C a4 bd0, wHa C hq ba 0 0, wB C (ba 0) bd0, wB C (ba 1) bd0, wB C (ba 2) bd0, wB C (ba 3) bd0, wB C (ba 4) bd0, wB C (ba 5) bd0, wX C iq zN zN zN zN, wT C tt 0 zN]) H := hP
  have hD : va_D (q_A ([(h0, .inr (4, [.null, .null, .null, .null, .null, .null]))]) s) (List.flatten [([(h0, .inr (4, [.ref (a2 0), .ref (a4 0), .ref (hq 0), .ref (iq 0), .ref (tt 0), .null]))] : va_W), wB C a2 bd0, wB C a4 bd0, wHa C hq ba 0 0, wB C (ba 0) bd0, wB C (ba 1) bd0, wB C (ba 2) bd0, wB C (ba 3) bd0, wB C (ba 4) bd0, wB C (ba 5) bd0, wX C iq zN zN zN zN, wT C tt 0 zN]) := hD
  refine lv_aload_n hx hb dX4_init_59 rfl (lv_at hl 0 rfl) ?_
  refine lv_iconst (v := nI 4) hx hb dX4_init_60 (by decide) ?_
  refine q_newJ (N := 4) hx hb (hts (.arrayClass .long) (by decide +kernel)) hK hP hD hS hA (Nat.le_of_ble_eq_true rfl) (Nat.le_of_ble_eq_true rfl) (Nat.le_of_ble_eq_true rfl) dX4_init_61 (fun u9 H hP hD hS => ?_)
  rw [q_flatN] at hP hD
  have hP : va_P C.1 vwCl (List.flatten [([(h0, .inr (4, [.ref (a2 0), .ref (a4 0), .ref (hq 0), .ref (iq 0), .ref (tt 0), .null]))] : va_W), wB C a2 bd0, wB C a4 bd0, wHa C hq ba 0 0, wB C (ba 0) bd0, wB C (ba 1) bd0, wB C (ba 2) bd0, wB C (ba 3) bd0, wB C (ba 4) bd0, wB C (ba 5) bd0, wX C iq zN zN zN zN, wT C tt 0 zN, ([(u9, .inl (C.2.2.1, 4, .inr (.inl (fun k => lN (zN k)))))] : va_W)]) H := hP
  have hD : va_D (q_A ([(h0, .inr (4, [.null, .null, .null, .null, .null, .null]))]) s) (List.flatten [([(h0, .inr (4, [.ref (a2 0), .ref (a4 0), .ref (hq 0), .ref (iq 0), .ref (tt 0), .null]))] : va_W), wB C a2 bd0, wB C a4 bd0, wHa C hq ba 0 0, wB C (ba 0) bd0, wB C (ba 1) bd0, wB C (ba 2) bd0, wB C (ba 3) bd0, wB C (ba 4) bd0, wB C (ba 5) bd0, wX C iq zN zN zN zN, wT C tt 0 zN, ([(u9, .inl (C.2.2.1, 4, .inr (.inl (fun k => lN (zN k)))))] : va_W)]) := hD
  refine va_putF (ci := 4) (v := .ref u9) (ty := .array .long) (C := RX4) (T := TX4) (N := 6) hx hb hts hin4 tyX4 tyX4_ok nmX4 hown hK.1 hP hD hS 0 rfl rfl 5 (by decide) hf40 (fun _ h9 => h9) rfl hin rfl (by decide +kernel) rfl rfl (Nat.le_of_ble_eq_true rfl) dX4_init_63 (fun H locs hP hD hS => ?_)
  rw [q_fset [([(h0, .inr (4, [.ref (a2 0), .ref (a4 0), .ref (hq 0), .ref (iq 0), .ref (tt 0), .null]))] : va_W), wB C a2 bd0, wB C a4 bd0, wHa C hq ba 0 0, wB C (ba 0) bd0, wB C (ba 1) bd0, wB C (ba 2) bd0, wB C (ba 3) bd0, wB C (ba 4) bd0, wB C (ba 5) bd0, wX C iq zN zN zN zN, wT C tt 0 zN, ([(u9, .inl (C.2.2.1, 4, .inr (.inl (fun k => lN (zN k)))))] : va_W)] 0 0 0 (B := ([(h0, .inr (4, [.ref (a2 0), .ref (a4 0), .ref (hq 0), .ref (iq 0), .ref (tt 0), .null]))] : va_W)) rfl (Nat.le_of_ble_eq_true rfl) rfl] at hP hD
  have hP : va_P C.1 vwCl (List.flatten [([(h0, .inr (4, [.ref (a2 0), .ref (a4 0), .ref (hq 0), .ref (iq 0), .ref (tt 0), .ref u9]))] : va_W), wB C a2 bd0, wB C a4 bd0, wHa C hq ba 0 0, wB C (ba 0) bd0, wB C (ba 1) bd0, wB C (ba 2) bd0, wB C (ba 3) bd0, wB C (ba 4) bd0, wB C (ba 5) bd0, wX C iq zN zN zN zN, wT C tt 0 zN, ([(u9, .inl (C.2.2.1, 4, .inr (.inl (fun k => lN (zN k)))))] : va_W)]) H := hP
  have hD : va_D (q_A ([(h0, .inr (4, [.null, .null, .null, .null, .null, .null]))]) s) (List.flatten [([(h0, .inr (4, [.ref (a2 0), .ref (a4 0), .ref (hq 0), .ref (iq 0), .ref (tt 0), .ref u9]))] : va_W), wB C a2 bd0, wB C a4 bd0, wHa C hq ba 0 0, wB C (ba 0) bd0, wB C (ba 1) bd0, wB C (ba 2) bd0, wB C (ba 3) bd0, wB C (ba 4) bd0, wB C (ba 5) bd0, wX C iq zN zN zN zN, wT C tt 0 zN, ([(u9, .inl (C.2.2.1, 4, .inr (.inl (fun k => lN (zN k)))))] : va_W)]) := hD
  have hP := q_swpL (g := fun k => zL ((fun _ => (0 : Int)) k)) hP 74 rfl (fun k _ => zL_0.symm)
  rw [q_fset [([(h0, .inr (4, [.ref (a2 0), .ref (a4 0), .ref (hq 0), .ref (iq 0), .ref (tt 0), .ref u9]))] : va_W), wB C a2 bd0, wB C a4 bd0, wHa C hq ba 0 0, wB C (ba 0) bd0, wB C (ba 1) bd0, wB C (ba 2) bd0, wB C (ba 3) bd0, wB C (ba 4) bd0, wB C (ba 5) bd0, wX C iq zN zN zN zN, wT C tt 0 zN, ([(u9, .inl (C.2.2.1, 4, .inr (.inl (fun k => lN (zN k)))))] : va_W)] 12 0 74 (B := ([(u9, .inl (C.2.2.1, 4, .inr (.inl (fun k => lN (zN k)))))] : va_W)) rfl (Nat.le_of_ble_eq_true rfl) rfl] at hP
  have hP : va_P C.1 vwCl (List.flatten [([(h0, .inr (4, [.ref (a2 0), .ref (a4 0), .ref (hq 0), .ref (iq 0), .ref (tt 0), .ref u9]))] : va_W), wB C a2 bd0, wB C a4 bd0, wHa C hq ba 0 0, wB C (ba 0) bd0, wB C (ba 1) bd0, wB C (ba 2) bd0, wB C (ba 3) bd0, wB C (ba 4) bd0, wB C (ba 5) bd0, wX C iq zN zN zN zN, wT C tt 0 zN, [(u9, .inl (C.2.2.1, 4, .inr (.inl (fun k => zL ((fun _ => (0 : Int)) k)))))]]) H := hP
  have hD : va_D (q_A ([(h0, .inr (4, [.null, .null, .null, .null, .null, .null]))]) s) (List.flatten [([(h0, .inr (4, [.ref (a2 0), .ref (a4 0), .ref (hq 0), .ref (iq 0), .ref (tt 0), .ref u9]))] : va_W), wB C a2 bd0, wB C a4 bd0, wHa C hq ba 0 0, wB C (ba 0) bd0, wB C (ba 1) bd0, wB C (ba 2) bd0, wB C (ba 3) bd0, wB C (ba 4) bd0, wB C (ba 5) bd0, wX C iq zN zN zN zN, wT C tt 0 zN, [(u9, .inl (C.2.2.1, 4, .inr (.inl (fun k => zL ((fun _ => (0 : Int)) k)))))]]) := q_Dfst hD rfl
  have hperm := (List.Perm.cons ((h0, .inr (4, [.ref (a2 0), .ref (a4 0), .ref (hq 0), .ref (iq 0), .ref (tt 0), .ref u9]))) (List.perm_append_singleton ((u9, .inl (C.2.2.1, 4, .inr (.inl (fun k => zL ((fun _ => (0 : Int)) k))))) : Nat × va_E) (List.flatten [wB C a2 bd0, wB C a4 bd0, wHa C hq ba 0 0, wB C (ba 0) bd0, wB C (ba 1) bd0, wB C (ba 2) bd0, wB C (ba 3) bd0, wB C (ba 4) bd0, wB C (ba 5) bd0, wX C iq zN zN zN zN, wT C tt 0 zN])))
  have hP : va_P C.1 vwCl (wF C h0 a2 a4 hq iq tt u9 ba (fun _ => 0) bd0 bd0 (fun _ => bd0) 0 0 zN zN zN zN 0 zN) H := q_permP (show (List.flatten [([(h0, .inr (4, [.ref (a2 0), .ref (a4 0), .ref (hq 0), .ref (iq 0), .ref (tt 0), .ref u9]))] : va_W), wB C a2 bd0, wB C a4 bd0, wHa C hq ba 0 0, wB C (ba 0) bd0, wB C (ba 1) bd0, wB C (ba 2) bd0, wB C (ba 3) bd0, wB C (ba 4) bd0, wB C (ba 5) bd0, wX C iq zN zN zN zN, wT C tt 0 zN, [(u9, .inl (C.2.2.1, 4, .inr (.inl (fun k => zL ((fun _ => (0 : Int)) k)))))]] : va_W).Perm (wF C h0 a2 a4 hq iq tt u9 ba (fun _ => 0) bd0 bd0 (fun _ => bd0) 0 0 zN zN zN zN 0 zN) from hperm) hP
  have hD : va_D (q_A ([(h0, .inr (4, [.null, .null, .null, .null, .null, .null]))]) s) (wF C h0 a2 a4 hq iq tt u9 ba (fun _ => 0) bd0 bd0 (fun _ => bd0) 0 0 zN zN zN zN 0 zN) := q_permD (show (List.flatten [([(h0, .inr (4, [.ref (a2 0), .ref (a4 0), .ref (hq 0), .ref (iq 0), .ref (tt 0), .ref u9]))] : va_W), wB C a2 bd0, wB C a4 bd0, wHa C hq ba 0 0, wB C (ba 0) bd0, wB C (ba 1) bd0, wB C (ba 2) bd0, wB C (ba 3) bd0, wB C (ba 4) bd0, wB C (ba 5) bd0, wX C iq zN zN zN zN, wT C tt 0 zN, [(u9, .inl (C.2.2.1, 4, .inr (.inl (fun k => zL ((fun _ => (0 : Int)) k)))))]] : va_W).Perm (wF C h0 a2 a4 hq iq tt u9 ba (fun _ => 0) bd0 bd0 (fun _ => bd0) 0 0 zN zN zN zN 0 zN) from hperm) hD
  have hQ9 : (fun w => ∃ (nw tr hq iq tt : Nat → Nat) (sc : Nat) (ba : Nat → Nat → Nat), w = wF C h0 nw tr hq iq tt sc ba (fun _ => 0) bd0 bd0 (fun _ => bd0) 0 0 zN zN zN zN 0 zN) (wF C h0 a2 a4 hq iq tt u9 ba (fun _ => 0) bd0 bd0 (fun _ => bd0) 0 0 zN zN zN zN 0 zN) := ⟨a2, a4, hq, iq, tt, u9, ba, rfl⟩
  exact W.vret hx hb hr (fun t ht hW => ⟨⟨rfl, _, hQ9, by rw [ht]; exact hP, hD⟩, hS.F ht⟩) hS.2.2 dX4_init_66 hlocks
