/-! what lies beside a world: the statics of Throwable and of the class, texts, words of exceptions; methods that throw -/
def q_xw : List Cond := [.castable "java/lang/IllegalArgumentException" "java/lang/IllegalArgumentException", .castable "java/lang/IllegalStateException" "java/lang/IllegalStateException", .castable "java/lang/IndexOutOfBoundsException" "java/lang/IndexOutOfBoundsException", .declares (Bundle.initS "java/lang/RuntimeException"), .declares (Bundle.initS "java/lang/Exception"), .declares (Bundle.initS Bundle.tN)]
theorem q_xw_form : ∀ w ∈ q_xw, (∃ a b, w = .castable a b) ∨ ∃ x, w = .declares x := by
  intro w hw
  simp only [q_xw, List.mem_cons, List.not_mem_nil, or_false] at hw
  rcases hw with rfl | rfl | rfl | rfl | rfl | rfl
  · exact Or.inl ⟨_, _, rfl⟩
  · exact Or.inl ⟨_, _, rfl⟩
  · exact Or.inl ⟨_, _, rfl⟩
  · exact Or.inr ⟨_, rfl⟩
  · exact Or.inr ⟨_, rfl⟩
  · exact Or.inr ⟨_, rfl⟩
def q_sx : List (Nat × String) := [(178, "no state is saved")]
def q_nc : List (String × String) := []
def q_Wo (U : State) : Prop := (∀ w ∈ q_xw, va_Nw w U) ∧ (∀ x ∈ q_sx, ∃ sa, vk_R RX4 x.1 x.2 sa U) ∧ ∀ x ∈ q_nc, va_Nc x.1 x.2 U
theorem q_Wo.calling {U : State} {g : JFrame} {mk : MethodId} {a : Array Value} (h : q_Wo U) : q_Wo (U.calling g mk a) :=
  ⟨fun w hw => by
    rcases q_xw_form w hw with ⟨a, b, rfl⟩ | ⟨x, rfl⟩
    · exact va_tabs (A := #[]) (A' := #[]) (u := U) rfl rfl (h.1 _ hw)
    · exact va_tabs (A := #[]) (A' := #[]) (u := U) rfl rfl (h.1 _ hw), fun x hx => by
    obtain ⟨sa, q⟩ := h.2.1 x hx
    exact ⟨sa, vk_R.same (u := U) rfl q⟩, fun x hx => va_Nc.moved (u := U) (Vm.Alike.refl U.vm) (h.2.2 x hx)⟩
theorem q_Wo.warm {s U : State} (hW : s.WarmedH U.vm) (h : q_Wo s) : q_Wo U :=
  ⟨fun w hw => by
    rcases q_xw_form w hw with ⟨a, b, rfl⟩ | ⟨x, rfl⟩
    · exact va_Nw.warmC hW (h.1 _ hw)
    · exact va_tabs (A := #[]) (A' := #[]) rfl (rfl : (s.setVm U.vm).vm = U.vm) (by rw [Cond.declares_setVm hW.alike]; exact h.1 _ hw), fun x hx => by
    obtain ⟨sa, q⟩ := h.2.1 x hx
    exact ⟨sa, vk_R.warm hW q⟩, fun x hx => va_Nc.moved hW.alike (h.2.2 x hx)⟩
def q_E (A : Nat → Prop) (U : State) (H : Heap) : Prop := vx_Zq Bundle.tN "UNASSIGNED_STACK" Bundle.steD A U H ∧ vx_Zq Bundle.tN "SUPPRESSED_SENTINEL" Bundle.listD A U H ∧ ∃ a0 a1 : Nat, (va_Z RX4 "LEAST_SETTING" "[I" (.ref a0) A U H ∧ va_X a0 4 (fun k => nI (leS k)) U H ∧ a0 < H.size ∧ ¬ A a0) ∧ va_Z RX4 "GREATEST_SETTING" "[I" (.ref a1) A U H ∧ va_X a1 4 (fun k => nI (grS k)) U H ∧ a1 < H.size ∧ ¬ A a1
theorem q_E.kept {A : Nat → Prop} {U : State} {H H1 : Heap} (h : q_E A U H) (hz : H.size ≤ H1.size) (hq : ∀ a : Nat, a < H.size → ¬ A a → H1[a]? = H[a]?) : q_E A U H1 := by
  obtain ⟨h1, h2, a0, a1, ⟨b1, b2, b3, b4⟩, c1, c2, c3, c4⟩ := h
  exact ⟨h1.kept hq, h2.kept hq, a0, a1, ⟨b1.kept hq, b2.kept (hq _ b3 b4), Nat.lt_of_lt_of_le b3 hz, b4⟩, c1.kept hq, c2.kept (hq _ c3 c4), Nat.lt_of_lt_of_le c3 hz, c4⟩
theorem q_E.moved {A : Nat → Prop} {u U : State} {H : Heap} (hvm : u.vm.Alike U.vm) (h : q_E A u H) : q_E A U H := by
  obtain ⟨h1, h2, a0, a1, ⟨b1, b2, b3, b4⟩, c1, c2, c3, c4⟩ := h
  exact ⟨h1.moved hvm, h2.moved hvm, a0, a1, ⟨b1.moved hvm, b2.moved hvm, b3, b4⟩, c1.moved hvm, c2.moved hvm, c3, c4⟩
theorem q_E.narrow {A B : Nat → Prop} {U : State} {H : Heap} (h : q_E A U H) (hAB : ∀ q, B q → A q) : q_E B U H := by
  obtain ⟨h1, h2, a0, a1, ⟨b1, b2, b3, b4⟩, c1, c2, c3, c4⟩ := h
  exact ⟨h1.narrow hAB, h2.narrow hAB, a0, a1, ⟨b1.narrow hAB, b2, b3, fun z => b4 (hAB _ z)⟩, c1.narrow hAB, c2, c3, fun z => c4 (hAB _ z)⟩
def q_PcE (C : q_C) (av : List Value) (ws : va_W) (sz : Nat) : Array Value → State → Prop := va_Pc av (fun U => U.heap.size = sz ∧ va_P C.1 vwCl ws U.heap ∧ q_K C U ∧ va_D (fun _ => True) ws ∧ q_Wo U ∧ q_E (va_A ws sz) U U.heap)
theorem q_blindE {C : q_C} {av : List Value} {ws : va_W} {sz : Nat} : FrameBlind (q_PcE C av ws sz) := fun _ U _ _ h => ⟨h.1, h.2.1, h.2.2.1, h.2.2.2.1.calling, h.2.2.2.2.1, h.2.2.2.2.2.1.calling, h.2.2.2.2.2.2.moved (u := U) (Vm.Alike.refl U.vm)⟩
/-- as q_M, with what lies beside the world at hand -/
def q_ME (C : q_C) (l : Launch) (y : MethodName) (w : List Cond) (fr lo : Nat) (av : List Value) (ws : va_W) (Q : Option Value → va_W → Prop) : Prop :=
  ∀ sz : Nat, Met l y w ({ frames := fr, cells := 0, slots := 0, locals := lo }) (q_PcE C av ws sz) (q_Qc C ws sz Q) 0 0 (va_A ws sz)
theorem q_M.toE {C : q_C} {l : Launch} {y : MethodName} {w : List Cond} {fr lo : Nat} {av : List Value} {ws : va_W} {Q : Option Value → va_W → Prop} (h : q_M C l y w fr lo av ws Q) : q_ME C l y w fr lo av ws Q := fun sz p e h1 h2 h3 s m args below f1 f2 f3 k =>
  h sz p e h1 h2 h3 s m args below f1 f2 ⟨f3.1, f3.2.1, f3.2.2.1, f3.2.2.2.1, f3.2.2.2.2.1⟩ k
def q_XC (C : q_C) (ws : va_W) (sz : Nat) (E : String) : String → State → State → Prop := fun E' st t => E' = E ∧ va_P C.1 vwCl ws t.heap ∧ va_F (va_A ws sz) st t
/-- a method that throws an E, and changes nothing -/
def q_T (C : q_C) (l : Launch) (y : MethodName) (w : List Cond) (fr lo : Nat) (av : List Value) (ws : va_W) (E : String) : Prop :=
  ∀ sz : Nat, vx_Met l y w ({ frames := fr, cells := 1, slots := 6, locals := lo }) (q_PcE C av ws sz) (fun _ _ _ _ => False) (q_XC C ws sz E) 1 6 (va_A ws sz)
abbrev q_R1 (fr lo : Nat) : Room := { frames := fr, cells := 1, slots := 6, locals := lo }
def q_GT (C : q_C) (below : List Frame) (ws : va_W) (E : String) (a : Array Value) (s : State) : State → Prop := vx_MQ below (fun _ _ _ _ => False) (q_XC C ws s.heap.size E) a s 1 6 (va_A ws s.heap.size)
theorem q_headE {C : q_C} {l : Launch} {y : MethodName} {w w' : List Cond} {fr lo : Nat} {av : List Value} {ws : va_W} {Q : Option Value → va_W → Prop} {cc : ByteArray} {maxL : Nat} {ret : Option FieldType}
    (hy : plainFor y = true) (hw : w = Cond.code y cc maxL ret :: w') (hn : (lg_sl av).length ≤ maxL)
    (body : ∀ (p : Program) (e : Env) (s : State) (m : MethodId) (below : List Frame) (meth : Method) (c : Code), p.tables.exec = Jvm.exec → c.code = cc → meth.sig.returnType = ret → meth.locks = false → c.maxLocals = maxL → s.vm.findClass y.cls = some m.cls → (∀ x ∈ w, x.before av.toArray s = true) → q_K C s → q_Wo s → q_E (q_A ws s) s s.heap →
      va_P C.1 vwCl ws s.heap → va_D (q_A ws s) ws → va_S (q_A ws s) s.heap s.heap [] → (∀ q : Nat, s.heap.size ≤ q → q_A ws s q) → ∀ ls : Array Slot, lv_has ls maxL (lv_args 0 av) →
      W p l e (q_R fr lo) s m av.toArray below meth c s.heap [] 0 0 (q_G C below ws Q av.toArray s) (F0 m 0 ls [])) : q_ME C l y w fr lo av ws Q := by
  intro sz
  refine va_MetF (cc := cc) (maxL := maxL) (ret := ret) hy hw ?_
  intro p e s m args below meth c s₁ B hml hv
  obtain ⟨rfl, hsz, hP, hK, hD0, hV, hE⟩ := hv
  subst hsz
  rw [lg_entry_eq]
  exact body p e s m below meth c B.exec B.bytes B.returns B.notSynchronized hml (findClass_of_methodNamed B.named) (atoms_spec (ws := w) B.pre) hK hV hE hP hD0.self va_S.rf (fun q h => Or.inr h) _ (lv_entry av hn)
theorem q_headT {C : q_C} {l : Launch} {y : MethodName} {w w' : List Cond} {fr lo : Nat} {av : List Value} {ws : va_W} {E : String} {cc : ByteArray} {maxL : Nat} {ret : Option FieldType}
    (hy : plainName y.cls = true) (hw : w = Cond.code y cc maxL ret :: w') (hn : (lg_sl av).length ≤ maxL)
    (body : ∀ (p : Program) (e : Env) (s : State) (m : MethodId) (below : List Frame) (meth : Method) (c : Code), p.tables.exec = Jvm.exec → c.code = cc → meth.sig.returnType = ret → meth.locks = false → c.maxLocals = maxL → s.vm.findClass y.cls = some m.cls → (∀ x ∈ w, x.before av.toArray s = true) → q_K C s → q_Wo s → q_E (q_A ws s) s s.heap →
      va_P C.1 vwCl ws s.heap → va_D (q_A ws s) ws → va_S (q_A ws s) s.heap s.heap [] → (∀ q : Nat, s.heap.size ≤ q → q_A ws s q) → (∀ x ∈ c.exceptionTable.toList, False) → ∀ ls : Array Slot, lv_has ls maxL (lv_args 0 av) →
      W p l e (q_R1 fr lo) s m av.toArray below meth c s.heap [] 0 0 (q_GT C below ws E av.toArray s) (F0 m 0 ls [])) : q_T C l y w fr lo av ws E := by
  intro sz
  refine vx_ofW (cc := cc) (maxL := maxL) (ret := ret) hy hw ?_
  intro p e s m args below meth c s₁ B hml ht hv
  obtain ⟨rfl, hsz, hP, hK, hD0, hV, hE⟩ := hv
  subst hsz
  rw [lg_entry_eq]
  exact body p e s m below meth c B.exec B.bytes B.returns B.notSynchronized hml (findClass_of_methodNamed B.named) (atoms_spec (ws := w) B.pre) hK hV hE hP hD0.self va_S.rf (fun q h => Or.inr h) ht _ (lv_entry av hn)
section QThr
variable {p : Program} {l : Launch} {e : Env} {R : Room} {s : State} {m : MethodId} {args : Array Value} {below : List Frame} {meth : Method} {c : Code} {H : Heap} {locs : List Loc} {cells slots : Nat} {Q : State → Prop}
variable {cc : ByteArray} {pc : Nat} {ls : Array Slot} {rest st0 : List Value} {C : q_C} {ws : va_W} {E : String} {A0 : Nat → Prop} {H0 : Heap} {a : Array Value}
theorem q_xcT {t : State} (hP : va_P C.1 vwCl ws H) (hS : va_S (q_A ws s) s.heap H locs) (h1 : H.size ≤ t.heap.size) (h2 : ∀ q : Nat, q < H.size → t.heap[q]? = H[q]?) : q_XC C ws s.heap.size E E s t :=
  ⟨rfl, hP.kept (fun k q hk => h2 q.1 (hP k q hk).lt), Nat.le_trans hS.1 h1, fun q q1 q2 => (h2 q (Nat.lt_of_lt_of_le q1 hS.1)).trans (hS.2.1 q q1 q2)⟩
theorem q_callT {X wc : va_W} (hr : vx_Run p l e R s m args below meth c H locs cells slots 1 6 (F0 m pc ls st0) rest (fun _ _ _ => False) (q_XC C wc H.size E) (va_A wc H.size)) (hP : va_P C.1 vwCl X H) (hD : va_D A0 X) (hS : va_S A0 H0 H locs) (hA : ∀ q, H0.size ≤ q → A0 q)
    (is : List Nat) (hC : is.map (fun i => X[i]?) = wc.map some)
    (kx : ∀ (ce : Cell) (q9 : Addr) (H1 : Heap) (locs1 : List Loc), va_P C.1 vwCl X H1 → va_S A0 H0 H1 locs1 → H1[q9]? = some ce → ce.vm = .none → s.vm.findClass E = some ce.cls → vx_W p l e R s m args below meth c H1 locs1 (cells + 1) (slots + 6) Q (F0 m pc ls rest) q9) : W p l e R s m args below meth c H locs cells slots Q (F0 m pc ls st0) := by
  intro T hT X0
  rcases hr T hT X0 with ⟨v, st₀, t, T', L, h0, X', hL, e1, e2, hq, st⟩ | ⟨q, st₀, t, T', L, E', ce, h0, X', hL, e1, e2, ⟨rfl, hp, hz, hk⟩, hce, hcv, hcl, st⟩
  · exact hq.elim
  · rw [h0] at hz hk
    have hf : ∀ q, va_A wc H.size q → A0 q := va_free hD hS hA is hC
    have hp' : va_P C.1 vwCl wc T'.heap := by rw [e1]; exact hp
    obtain ⟨hP1, -⟩ := q_put_back (H1 := T'.heap) hP hD is hC rfl (fun q h1 h2 => by rw [e1]; exact hk q h1 h2) hp'
    rw [q_put_id hC] at hP1
    obtain ⟨t2, a1, b1⟩ := kx ce q T'.heap (locs ++ L) hP1 ⟨Nat.le_trans hS.1 (by rw [e1]; exact hz), fun q h1 h2 => by
        rw [e1, hk q (Nat.lt_of_lt_of_le h1 hS.1) (fun h3 => h2 (hf q h3))]
        exact hS.2.1 q h1 h2, fun x hx => (List.mem_append.mp hx).elim (fun h => hS.2.2 x h) (fun h => hf _ (hL x h))⟩ (by rw [e1]; exact hce) hcv hcl T' rfl X'
    exact ⟨t2, st.trans a1, b1⟩
variable {X wc : va_W} {Qm : Option Value → va_W → Prop} {bytes : ByteArray} {nL maxL index n fr lo : Nat} {Ts wM : List Cond} {own CC : String} {y : MethodName} {ret : Option FieldType} {As : List Value} {b : Nat}
theorem q_preE {U : State} (hK : q_K C s) (hV : q_Wo s) (hE : q_E A0 s H0) (hP : va_P C.1 vwCl X H) (hD : va_D A0 X) (hS : va_S A0 H0 H locs) (hA : ∀ q, H0.size ≤ q → A0 q) (is : List Nat) (hnd : va_nd is = true) (hC : is.map (fun i => X[i]?) = wc.map some) (hU : U.heap = H) (hW2 : s.WarmedH U.vm) : q_PcE C As wc H.size As.toArray U := by
  have hE2 : q_E (va_A wc H.size) s H := (hE.kept hS.1 hS.2.1).narrow (va_free hD hS hA is hC)
  exact ⟨rfl, by rw [hU], by rw [hU]; exact hP.sub is (q_fm hC), hK.warm hW2, (hD.sub is hnd hC).weaken (fun _ _ _ _ => trivial), hV.warm hW2, by rw [hU]; exact hE2.moved hW2.alike⟩
/-- a call by a name of a method that throws -/
theorem q_TV (S : CallFix p m c cc nL s args Ts own) (hM : q_T C l y wM fr lo (.ref b :: As) wc E) (cw : CallW R s args own CC index y bytes maxL ret wM (q_R1 fr lo) 1 6 n) (hK : q_K C s) (hV : q_Wo s) (hE : q_E A0 s H0) (hP : va_P C.1 vwCl X H) (hD : va_D A0 X) (hS : va_S A0 H0 H locs) (hA : ∀ q, H0.size ≤ q → A0 q)
    (is : List Nat) (hnd : va_nd is = true) (hC : is.map (fun i => X[i]?) = wc.map some) (q0 : Nat) {ci : Nat} {fs : List Value} {q : vw_C} (he : X[q0]? = some (b, .inr (ci, fs))) (hc : vwCl[ci]? = some q) (hq : q.1 = CC)
    (hn : As.length = n) (hsize : ls.size = nL) (hstack : st0 = As.reverse ++ .ref b :: rest) (hW : (rest.map fun v => v.category).sum ≤ 8) (hdg : decode cc pc = .ok (.invokevirtual index, 3)) (hce : cells + 1 ≤ R.cells) (hsl : slots + 6 ≤ R.slots)
    (kx : ∀ (ce : Cell) (q9 : Addr) (H1 : Heap) (locs1 : List Loc), va_P C.1 vwCl X H1 → va_S A0 H0 H1 locs1 → H1[q9]? = some ce → ce.vm = .none → s.vm.findClass E = some ce.cls → vx_W p l e R s m args below meth c H1 locs1 (cells + 1) (slots + 6) Q (F0 m pc ls rest) q9) : W p l e R s m args below meth c H locs cells slots Q (F0 m pc ls st0) := by
  have hr := va_recv hK.1 hP hc he
  rw [hq] at hr
  exact q_callT (vx_runV (rest := rest) S (hM H.size) cw ⟨q_blindE, hr, fun _ hU hW2 => q_preE hK hV hE hP hD hS hA is hnd hC hU hW2⟩ rfl hn hsize hstack (lv_room hW) hdg ⟨hce, hsl⟩) hP hD hS hA is hC kx
end QThr
/-! at, of a row that lies beside the world -/
def q_PcX (C : q_C) (av : List Value) (a0 N : Nat) (f : Nat → Int32) (sz : Nat) : Array Value → State → Prop := va_Pc av (fun U => U.heap.size = sz ∧ q_K C U ∧ va_X a0 N f U U.heap ∧ a0 < sz)
theorem q_blindX {C : q_C} {av : List Value} {a0 N : Nat} {f : Nat → Int32} {sz : Nat} : FrameBlind (q_PcX C av a0 N f sz) := fun _ U _ _ h => ⟨h.1, h.2.1, h.2.2.1.calling, va_X.moved (u := U) (Vm.Alike.refl U.vm) h.2.2.2.1, h.2.2.2.2⟩
set_option maxHeartbeats 4000000 in
set_option maxRecDepth 100000 in
theorem c_X4_atX (l : Launch) (C : q_C) (a0 N k : Nat) (f : Nat → Int32) (hk : k < N) (hN : N < 2 ^ 31) (sz : Nat) : Met l yX4_at wsX4_at (q_R 0 0) (q_PcX C [.ref a0, .int (nI k)] a0 N f sz) (q_Qc C [] sz (fun r w => r = some (.int (f k)) ∧ w = [])) 0 0 (va_A [] sz) := by
  refine va_MetF (cc := cX4_at) (maxL := 2) (ret := (some .int)) (by decide +kernel) rfl ?_
  intro p e s m args below meth c s₁ B hml hv
  obtain ⟨rfl, hsz, hK, hX, hbl⟩ := hv
  subst hsz
  rw [lg_entry_eq]
  have hx := B.exec
  have hb := B.bytes
  have hr := B.returns
  have hlocks := B.notSynchronized
  have hS : va_S (q_A [] s) s.heap s.heap [] := va_S.rf
  have hP : va_P C.1 vwCl [] s.heap := fun k q h => by simp at h
  have hbA : ¬ q_A [] s a0 := by
    rintro (⟨k, e, h⟩ | h)
    · simp at h
    · exact absurd hbl (Nat.not_lt.mpr h)
  have hl := lv_entry [.ref a0, .int (nI k)] (n := 2) (Nat.le_of_ble_eq_true rfl)
  show W p l e (q_R 0 0) s m _ below meth c s.heap [] 0 0 (q_G C below [] (fun r w => r = some (.int (f k)) ∧ w = []) _ s) _
  generalize (lg_sl ([.ref a0, .int (nI k)]) ++ List.replicate (2 - (lg_sl ([.ref a0, .int (nI k)])).length) Slot.unset).toArray = ls at hl ⊢
  have hl : lv_has ls 2 [(0, .ref a0), (1, .int (nI k))] := hl
  refine lv_iload_n hx hb dX4_at_0 rfl (lv_at hl 1 rfl) ?_
  refine lv_if_lt (tgt := 16) hx hb dX4_at_1 (by decide) (fun c1 => ?_) (fun c1 => ?_)
  · have c1 : k < 0 := q_nlt0 (by omega) (by omega) c1
    exact absurd c1 (by omega)
  refine lv_iload_n hx hb dX4_at_4 rfl (lv_at hl 1 rfl) ?_
  refine lv_aload_n hx hb dX4_at_5 rfl (lv_at hl 0 rfl) ?_
  refine va_slen hx hb hX hbl hbA hS dX4_at_6 ?_
  refine lv_icmp_ge (tgt := 16) hx hb dX4_at_7 (by decide) (fun c7 => ?_) (fun c7 => ?_)
  · have c7 : N ≤ k := q_nge (by omega) (by omega) c7
    exact absurd c7 (by omega)
  refine lv_aload_n hx hb dX4_at_10 rfl (lv_at hl 0 rfl) ?_
  refine lv_iload_n hx hb dX4_at_11 rfl (lv_at hl 1 rfl) ?_
  refine va_sld hx hb hX hbl hbA hS (vp_in_nI hk hN) dX4_at_12 ?_
  refine q_ti (y := f k) (by rw [nI_clamp (by omega)]) ?_
  refine lv_goto (tgt := 17) hx hb dX4_at_13 (by decide) ?_
  exact q_iret hx hb hr hlocks (w1 := []) hP hS rfl dX4_at_17 ⟨rfl, rfl⟩
section QSX
variable {p : Program} {l : Launch} {e : Env} {R : Room} {s : State} {m : MethodId} {args : Array Value} {below : List Frame} {meth : Method} {c : Code} {H : Heap} {locs : List Loc} {cells slots : Nat} {Q : State → Prop}
variable {cc bytes : ByteArray} {pc : Nat} {ls : Array Slot} {rest st0 : List Value} {C : q_C} {X : va_W} {A0 : Nat → Prop} {H0 : Heap} {nL maxL index n : Nat} {Ts wM : List Cond} {own : String} {ret : Option FieldType}
theorem q_SX {a0 N k : Nat} {f : Nat → Int32} (S : CallFix p m c cc nL s args Ts own) (hk : k < N) (hN : N < 2 ^ 31) (cw : CallB R s args own index yX4_at bytes maxL ret wsX4_at (q_R 0 0) 0 0 n ∧ (Cond.static yX4_at).before args s = true) (hK : q_K C s) (hX : va_X a0 N f s H) (hbl : a0 < H.size) (hP : va_P C.1 vwCl X H) (hD : va_D A0 X) (hS : va_S A0 H0 H locs) (hA : ∀ q, H0.size ≤ q → A0 q)
    (hn : 2 = n) (hsize : ls.size = nL) (hstack : st0 = .int (nI k) :: .ref a0 :: rest) (hW : (rest.map fun v => v.category).sum ≤ 8) (hdg : decode cc pc = .ok (.invokestatic index, 3)) (hce : cells ≤ R.cells) (hsl : slots ≤ R.slots)
    (kk : ∀ (H1 : Heap) (locs1 : List Loc), va_P C.1 vwCl X H1 → va_S A0 H0 H1 locs1 → W p l e R s m args below meth c H1 locs1 cells slots Q (F0 m (pc + 3) ls (.int (f k) :: rest))) : W p l e R s m args below meth c H locs cells slots Q (F0 m pc ls st0) := by
  refine q_call (X := X) (wc := []) (va_runS (rest := rest) (As := [.ref a0, .int (nI k)]) S (c_X4_atX l C a0 N k f hk hN H.size) cw ⟨q_blindX, fun U hU hW2 => ⟨rfl, by rw [hU], hK.warm hW2, by rw [hU]; exact va_X.moved hW2.alike hX, hbl⟩⟩ rfl hn hsize hstack (lv_room hW) hdg ⟨hce, hsl⟩) hP hD hS hA [] rfl (fun r w1 H1 locs1 hQ hP1 _ hS1 => ?_)
  obtain ⟨rfl, rfl⟩ := hQ
  exact kk H1 locs1 hP1 hS1
end QSX
