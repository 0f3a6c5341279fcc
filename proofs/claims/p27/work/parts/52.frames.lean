/-! a contract over some blocks, as one over more of them -/
theorem q_blk_sub {D : va_G} {cl : List vw_C} {A0 : Nat → Prop} {Bs cs : List va_W} {H : Heap} (hP : va_P D cl Bs.flatten H) (hD : va_D A0 Bs.flatten) (is : List Nat) (hnd : va_nd is = true) (hC : is.map (fun i => Bs[i]?) = cs.map some) : va_P D cl cs.flatten H ∧ va_D (fun _ => True) cs.flatten ∧ ∀ sz q, va_A cs.flatten sz q → va_A Bs.flatten sz q := by
  have hsub : ∀ c0 ∈ cs, ∃ i ∈ is, Bs[i]? = some c0 := by
    intro c0 hc0
    obtain ⟨i0, hi0⟩ := List.getElem?_of_mem hc0
    have hx : (is.map (fun i => Bs[i]?))[i0]? = some (some c0) := by rw [hC, List.getElem?_map, hi0]; rfl
    rw [List.getElem?_map] at hx
    cases hi : is[i0]? with
    | none => rw [hi] at hx; cases hx
    | some i => rw [hi] at hx; exact ⟨i, List.mem_of_getElem? hi, Option.some.inj hx⟩
  have hPc : va_P D cl cs.flatten H := by
    rw [q_P_mem] at hP ⊢
    intro x hx
    obtain ⟨c0, hc0, hxc⟩ := List.mem_flatten.mp hx
    obtain ⟨i, -, hi⟩ := hsub c0 hc0
    exact hP x (List.mem_flatten.mpr ⟨c0, List.mem_of_getElem? hi, hxc⟩)
  have hDc : va_D (fun _ => True) cs.flatten := by
    rw [q_D_nd]
    refine ⟨?_, fun _ _ => trivial⟩
    have hnod : (Bs.map (fun d => d.map Prod.fst)).flatten.Nodup := by
      have := (q_D_nd.mp hD).1
      rw [List.map_flatten] at this
      exact this
    rw [List.map_flatten]
    have key : ∀ (is : List Nat) (cs : List va_W), va_nd is = true → is.map (fun i => Bs[i]?) = cs.map some → (cs.map (fun d => d.map Prod.fst)).flatten.Nodup := by
      intro is
      induction is with
      | nil => intro cs _ h; cases cs with
        | nil => simp
        | cons => simp at h
      | cons i is ih =>
        intro cs hn h
        cases cs with
        | nil => simp at h
        | cons c0 cs =>
          simp only [List.map_cons, List.cons.injEq] at h
          simp only [va_nd, Bool.and_eq_true, decide_eq_true_eq] at hn
          rw [List.map_cons, List.flatten_cons, List.nodup_append]
          refine ⟨?_, ih cs hn.2 h.2, fun x hx z hz e => ?_⟩
          · have hmem : c0.map Prod.fst ∈ Bs.map (fun d => d.map Prod.fst) := List.mem_map.mpr ⟨c0, List.mem_of_getElem? h.1, rfl⟩
            clear h hn ih
            generalize Bs.map (fun d => d.map Prod.fst) = LL at hnod hmem
            induction LL with
            | nil => simp at hmem
            | cons Y LL ih2 =>
              rw [List.flatten_cons, List.nodup_append] at hnod
              rcases List.mem_cons.mp hmem with h9 | h9
              · rw [h9]; exact hnod.1
              · exact ih2 hnod.2.1 h9
          · obtain ⟨d0, hd0, hzd⟩ := List.mem_flatten.mp hz
            obtain ⟨c1, hc1, rfl⟩ := List.mem_map.mp hd0
            obtain ⟨i1, hi1⟩ := List.getElem?_of_mem hc1
            have hx1 : (is.map (fun i => Bs[i]?))[i1]? = some (some c1) := by rw [h.2, List.getElem?_map, hi1]; rfl
            rw [List.getElem?_map] at hx1
            cases hii : is[i1]? with
            | none => rw [hii] at hx1; cases hx1
            | some k =>
              rw [hii] at hx1
              have hx1 : Bs[k]? = some c1 := Option.some.inj hx1
              exact q_ndf hnod (i := i) (k := k) (x := c0.map Prod.fst) (y := c1.map Prod.fst) (a := x) (by rw [List.getElem?_map, h.1]; rfl) (by rw [List.getElem?_map, hx1]; rfl) (fun e => hn.1 (by rw [e]; exact List.mem_of_getElem? hii)) hx (by rw [e]; exact hzd)
    exact key is cs hnd hC
  refine ⟨hPc, hDc, fun sz q h => ?_⟩
  rcases h with ⟨j, x, hj⟩ | hge
  · obtain ⟨c0, hc0, hqc⟩ := List.mem_flatten.mp (List.mem_of_getElem? hj)
    obtain ⟨i, -, hi⟩ := hsub c0 hc0
    obtain ⟨k, hk⟩ := List.getElem?_of_mem (List.mem_flatten.mpr ⟨c0, List.mem_of_getElem? hi, hqc⟩)
    exact Or.inl ⟨k, x, hk⟩
  · exact Or.inr hge
theorem q_ME.frameB {C : q_C} {l : Launch} {y : MethodName} {w : List Cond} {fr lo : Nat} {av : List Value} {Bs cs : List va_W} {Qm Q' : Option Value → va_W → Prop} (is : List Nat) (hnd : va_nd is = true) (hC : is.map (fun i => Bs[i]?) = cs.map some) (h : q_ME C l y w fr lo av cs.flatten Qm)
    (hQ : ∀ r w1, Qm r w1 → ∃ ds : List va_W, w1 = ds.flatten ∧ ds.map (fun d => d.map Prod.fst) = cs.map (fun d => d.map Prod.fst) ∧ Q' r (q_pb Bs is ds).flatten) : q_ME C l y w fr lo av Bs.flatten Q' := fun sz p e h1 h2 h3 s m args below f1 f2 f3 k => by
  obtain ⟨g1, g2, g3, g4, g5, g6, g7⟩ := f3
  obtain ⟨b1, b2, b3⟩ := q_blk_sub g3 g5 is hnd hC
  obtain ⟨n, o, a, b, c, ⟨⟨⟨r, w1, e1, e2, e3, e4⟩, e5⟩, L, e6, e7⟩⟩ := h sz p e h1 h2 h3 s m args below f1 f2 ⟨g1, g2, b1, g4, b2, g6, g7.narrow (b3 sz)⟩ k
  obtain ⟨ds, rfl, hdn, hq⟩ := hQ r w1 e2
  have back := q_pb_back g3 g5 is hnd hC hdn (fun q q1 q2 => e5.2 q q1 (by rw [← g2]; exact q2)) e4
  refine ⟨n, o, a, b, c, ⟨⟨⟨r, _, e1, hq, ?_, back.1⟩, e5.1, fun q q1 q2 => e5.2 q q1 (fun z => q2 (b3 sz q z))⟩, L, e6, fun q hq => b3 sz _ (e7 q hq)⟩⟩
  rw [List.map_flatten, List.map_flatten, q_pb_fst is ds cs Bs hnd hC hdn]
/-- a contract that makes one cell -/
def q_M1 (C : q_C) (l : Launch) (y : MethodName) (w : List Cond) (fr lo : Nat) (av : List Value) (ws : va_W) (Q : Option Value → va_W → Prop) : Prop :=
  ∀ sz : Nat, Met l y w (q_R1 fr lo) (q_PcE C av ws sz) (q_Qc C ws sz Q) 1 6 (va_A ws sz)
section QLaw
variable {p : Program} {l : Launch} {e : Env} {R : Room} {s : State} {m : MethodId} {args : Array Value} {below : List Frame} {meth : Method} {c : Code} {H : Heap} {locs : List Loc} {cells slots : Nat} {Q : State → Prop}
variable {pc : Nat} {ls : Array Slot} {rest st0 : List Value} {a : Array Value} {A0 : Nat → Prop} {H0 : Heap}
variable {C : q_C} {Bs cs : List va_W} {Qm : Option Value → va_W → Prop} {cc bytes : ByteArray} {nL maxL index n fr lo : Nat} {Ts wM : List Cond} {own CC : String} {y : MethodName} {ret : Option FieldType} {As : List Value} {b mc ms : Nat} {hh : List (Nat × Nat × Nat × Nat)}
theorem q_callBm (hr : va_Run p l e R s m args below meth c H locs cells slots mc ms (F0 m pc ls st0) rest (q_Qc C cs.flatten H.size Qm a) (va_A cs.flatten H.size)) (hP : va_P C.1 vwCl Bs.flatten H) (hD : va_D A0 Bs.flatten) (hS : va_S A0 H0 H locs) (hA : ∀ q, H0.size ≤ q → A0 q)
    (is : List Nat) (hnd : va_nd is = true) (hC : is.map (fun i => Bs[i]?) = cs.map some)
    (kk : ∀ (r : Option Value) (w1 : va_W) (H1 : Heap) (locs1 : List Loc), Qm r w1 → (∀ ds : List va_W, w1 = ds.flatten → ds.map (fun d => d.map Prod.fst) = cs.map (fun d => d.map Prod.fst) → va_P C.1 vwCl (q_pb Bs is ds).flatten H1 ∧ va_D A0 (q_pb Bs is ds).flatten) → va_S A0 H0 H1 locs1 → W p l e R s m args below meth c H1 locs1 (cells + mc) (slots + ms) Q (F0 m (pc + 3) ls (r.toList ++ rest))) : W p l e R s m args below meth c H locs cells slots Q (F0 m pc ls st0) := by
  intro T hT X0
  obtain ⟨v, st₀, t, T', L, h0, X', hL, e1, e2, ⟨⟨r, w1, hv, hq, hn, hp⟩, hz, hk⟩, st⟩ := hr T hT X0
  cases hv
  rw [h0] at hz hk
  have hf : ∀ q, va_A cs.flatten H.size q → A0 q := by
    intro q hq9
    rcases (q_blk_sub hP hD is hnd hC).2.2 _ q hq9 with ⟨k, x, hk9⟩ | hge
    · exact hD.2 k (q, x) hk9
    · exact hA q (Nat.le_trans hS.1 hge)
  obtain ⟨t2, a1, b1⟩ := kk v w1 T'.heap (locs ++ L) hq (fun ds hds hdn => by
      subst hds
      exact q_pb_back hP hD is hnd hC hdn (fun q h1 h2 => by rw [e1]; exact hk q h1 h2) (by rw [e1]; exact hp)) ⟨Nat.le_trans hS.1 (by rw [e1]; exact hz), fun q h1 h2 => by
      rw [e1, hk q (Nat.lt_of_lt_of_le h1 hS.1) (fun h3 => h2 (hf q h3))]
      exact hS.2.1 q h1 h2, fun x hx => (List.mem_append.mp hx).elim (fun h => hS.2.2 x h) (fun h => hf _ (hL x h))⟩ T' rfl X'
  exact ⟨t2, st t2 a1, b1⟩
theorem q_preB {U : State} (hK : q_K C s) (hV : q_Wo s) (hE : q_E A0 s H0) (hP : va_P C.1 vwCl Bs.flatten H) (hD : va_D A0 Bs.flatten) (hS : va_S A0 H0 H locs) (hA : ∀ q, H0.size ≤ q → A0 q) (is : List Nat) (hnd : va_nd is = true) (hC : is.map (fun i => Bs[i]?) = cs.map some) (hU : U.heap = H) (hW2 : s.WarmedH U.vm) : q_PcE C As cs.flatten H.size As.toArray U := by
  obtain ⟨b1, b2, b3⟩ := q_blk_sub hP hD is hnd hC
  have hf : ∀ q, va_A cs.flatten H.size q → A0 q := by
    intro q hq9
    rcases b3 _ q hq9 with ⟨k, x, hk9⟩ | hge
    · exact hD.2 k (q, x) hk9
    · exact hA q (Nat.le_trans hS.1 hge)
  have hE2 : q_E (va_A cs.flatten H.size) s H := (hE.kept hS.1 hS.2.1).narrow hf
  exact ⟨rfl, by rw [hU], by rw [hU]; exact b1, hK.warm hW2, b2, hV.warm hW2, by rw [hU]; exact hE2.moved hW2.alike⟩
theorem q_VBE (S : CallFix p m c cc nL s args Ts own) (hM : q_ME C l y wM fr lo (.ref b :: As) cs.flatten Qm) (cw : CallW R s args own CC index y bytes maxL ret wM (q_R fr lo) 0 0 n) (hK : q_K C s) (hV : q_Wo s) (hE : q_E A0 s H0) (hP : va_P C.1 vwCl Bs.flatten H) (hD : va_D A0 Bs.flatten) (hS : va_S A0 H0 H locs) (hA : ∀ q, H0.size ≤ q → A0 q)
    (is : List Nat) (hnd : va_nd is = true) (hC : is.map (fun i => Bs[i]?) = cs.map some) (q0 : Nat) {ci : Nat} {fs : List Value} {q : vw_C} (he : Bs.flatten[q0]? = some (b, .inr (ci, fs))) (hc : vwCl[ci]? = some q) (hq : q.1 = CC)
    (hn : As.length = n) (hsize : ls.size = nL) (hstack : st0 = As.reverse ++ .ref b :: rest) (hW : (rest.map fun v => v.category).sum ≤ 8) (hdg : decode cc pc = .ok (.invokevirtual index, 3)) (hce : cells ≤ R.cells) (hsl : slots ≤ R.slots)
    (kk : ∀ (r : Option Value) (w1 : va_W) (H1 : Heap) (locs1 : List Loc), Qm r w1 → (∀ ds : List va_W, w1 = ds.flatten → ds.map (fun d => d.map Prod.fst) = cs.map (fun d => d.map Prod.fst) → va_P C.1 vwCl (q_pb Bs is ds).flatten H1 ∧ va_D A0 (q_pb Bs is ds).flatten) → va_S A0 H0 H1 locs1 → W p l e R s m args below meth c H1 locs1 cells slots Q (F0 m (pc + 3) ls (r.toList ++ rest))) : W p l e R s m args below meth c H locs cells slots Q (F0 m pc ls st0) := by
  have hr := va_recv hK.1 hP hc he
  rw [hq] at hr
  exact q_callBm (mc := 0) (ms := 0) (va_runV (rest := rest) S (hM H.size) cw ⟨q_blindE, hr, fun _ hU hW2 => q_preB hK hV hE hP hD hS hA is hnd hC hU hW2⟩ rfl hn hsize hstack (lv_room hW) hdg ⟨hce, hsl⟩) hP hD hS hA is hnd hC kk
/-- a static call of a method with a table of its own -/
theorem q_SWB (S : CallFix p m c cc nL s args Ts own) (hM : q_ME C l y wM fr lo As cs.flatten Qm) (cw : vx_CSW R s args own index y bytes maxL ret hh wM (q_R fr lo) 0 0 n) (hK : q_K C s) (hV : q_Wo s) (hE : q_E A0 s H0) (hP : va_P C.1 vwCl Bs.flatten H) (hD : va_D A0 Bs.flatten) (hS : va_S A0 H0 H locs) (hA : ∀ q, H0.size ≤ q → A0 q)
    (is : List Nat) (hnd : va_nd is = true) (hC : is.map (fun i => Bs[i]?) = cs.map some)
    (hn : As.length = n) (hsize : ls.size = nL) (hstack : st0 = As.reverse ++ rest) (hW : (rest.map fun v => v.category).sum ≤ 8) (hdg : decode cc pc = .ok (.invokestatic index, 3)) (hce : cells ≤ R.cells) (hsl : slots ≤ R.slots)
    (kk : ∀ (r : Option Value) (w1 : va_W) (H1 : Heap) (locs1 : List Loc), Qm r w1 → (∀ ds : List va_W, w1 = ds.flatten → ds.map (fun d => d.map Prod.fst) = cs.map (fun d => d.map Prod.fst) → va_P C.1 vwCl (q_pb Bs is ds).flatten H1 ∧ va_D A0 (q_pb Bs is ds).flatten) → va_S A0 H0 H1 locs1 → W p l e R s m args below meth c H1 locs1 cells slots Q (F0 m (pc + 3) ls (r.toList ++ rest))) : W p l e R s m args below meth c H locs cells slots Q (F0 m pc ls st0) :=
  q_callBm (mc := 0) (ms := 0) (vx_runSW (rest := rest) S (hM H.size) cw ⟨q_blindE, fun _ hU hW2 => q_preB hK hV hE hP hD hS hA is hnd hC hU hW2⟩ rfl hn hsize hstack (lv_room hW) hdg ⟨hce, hsl⟩) hP hD hS hA is hnd hC kk
theorem q_SWB1 (S : CallFix p m c cc nL s args Ts own) (hM : q_M1 C l y wM fr lo As cs.flatten Qm) (cw : vx_CSW R s args own index y bytes maxL ret hh wM (q_R1 fr lo) 1 6 n) (hK : q_K C s) (hV : q_Wo s) (hE : q_E A0 s H0) (hP : va_P C.1 vwCl Bs.flatten H) (hD : va_D A0 Bs.flatten) (hS : va_S A0 H0 H locs) (hA : ∀ q, H0.size ≤ q → A0 q)
    (is : List Nat) (hnd : va_nd is = true) (hC : is.map (fun i => Bs[i]?) = cs.map some)
    (hn : As.length = n) (hsize : ls.size = nL) (hstack : st0 = As.reverse ++ rest) (hW : (rest.map fun v => v.category).sum ≤ 8) (hdg : decode cc pc = .ok (.invokestatic index, 3)) (hce : cells + 1 ≤ R.cells) (hsl : slots + 6 ≤ R.slots)
    (kk : ∀ (r : Option Value) (w1 : va_W) (H1 : Heap) (locs1 : List Loc), Qm r w1 → (∀ ds : List va_W, w1 = ds.flatten → ds.map (fun d => d.map Prod.fst) = cs.map (fun d => d.map Prod.fst) → va_P C.1 vwCl (q_pb Bs is ds).flatten H1 ∧ va_D A0 (q_pb Bs is ds).flatten) → va_S A0 H0 H1 locs1 → W p l e R s m args below meth c H1 locs1 (cells + 1) (slots + 6) Q (F0 m (pc + 3) ls (r.toList ++ rest))) : W p l e R s m args below meth c H locs cells slots Q (F0 m pc ls st0) :=
  q_callBm (mc := 1) (ms := 6) (vx_runSW (rest := rest) S (hM H.size) cw ⟨q_blindE, fun _ hU hW2 => q_preB hK hV hE hP hD hS hA is hnd hC hU hW2⟩ rfl hn hsize hstack (lv_room hW) hdg ⟨hce, hsl⟩) hP hD hS hA is hnd hC kk
end QLaw
/-! methods with a table of their own -/
theorem q_headW {C : q_C} {l : Launch} {y : MethodName} {w w' : List Cond} {fr lo : Nat} {av : List Value} {ws : va_W} {Q : Option Value → va_W → Prop} {cc : ByteArray} {maxL : Nat} {ret : Option FieldType} {hh : List (Nat × Nat × Nat × Nat)}
    (hy : plainName y.cls = true) (hw : w = Cond.codeWith y cc maxL ret hh :: w') (hn : (lg_sl av).length ≤ maxL)
    (body : ∀ (p : Program) (e : Env) (s : State) (m : MethodId) (below : List Frame) (meth : Method) (c : Code), p.tables.exec = Jvm.exec → c.code = cc → meth.sig.returnType = ret → meth.locks = false → c.maxLocals = maxL → s.vm.findClass y.cls = some m.cls → (∀ x ∈ w, x.before av.toArray s = true) → q_K C s → q_Wo s → q_E (q_A ws s) s s.heap →
      va_P C.1 vwCl ws s.heap → va_D (q_A ws s) ws → va_S (q_A ws s) s.heap s.heap [] → (∀ q : Nat, s.heap.size ≤ q → q_A ws s q) → c.exceptionTable.toList = tableOf hh → ∀ ls : Array Slot, lv_has ls maxL (lv_args 0 av) →
      W p l e (q_R fr lo) s m av.toArray below meth c s.heap [] 0 0 (q_G C below ws Q av.toArray s) (F0 m 0 ls [])) : q_ME C l y w fr lo av ws Q := by
  intro sz
  refine va_MetW (cc := cc) (maxL := maxL) (ret := ret) (hh := hh) hy hw ?_
  intro p e s m args below meth c s₁ B hml hv
  obtain ⟨rfl, hsz, hP, hK, hD0, hV, hE⟩ := hv
  subst hsz
  rw [lg_entry_eq]
  have hts := atoms_spec (ws := w) B.pre
  exact body p e s m below meth c B.exec B.bytes B.returns B.notSynchronized hml (findClass_of_methodNamed B.named) hts hK hV hE hP hD0.self va_S.rf (fun q h => Or.inr h) (vx_table (x := y) B (hts _ (by rw [hw]; exact List.mem_cons_self))) _ (lv_entry av hn)
def q_G1 (C : q_C) (below : List Frame) (ws : va_W) (Q : Option Value → va_W → Prop) (a : Array Value) (s : State) : State → Prop := MQ below (q_Qc C ws s.heap.size Q) a s 1 6 (va_A ws s.heap.size)
theorem q_headW1 {C : q_C} {l : Launch} {y : MethodName} {w w' : List Cond} {fr lo : Nat} {av : List Value} {ws : va_W} {Q : Option Value → va_W → Prop} {cc : ByteArray} {maxL : Nat} {ret : Option FieldType} {hh : List (Nat × Nat × Nat × Nat)}
    (hy : plainName y.cls = true) (hw : w = Cond.codeWith y cc maxL ret hh :: w') (hn : (lg_sl av).length ≤ maxL)
    (body : ∀ (p : Program) (e : Env) (s : State) (m : MethodId) (below : List Frame) (meth : Method) (c : Code), p.tables.exec = Jvm.exec → c.code = cc → meth.sig.returnType = ret → meth.locks = false → c.maxLocals = maxL → s.vm.findClass y.cls = some m.cls → (∀ x ∈ w, x.before av.toArray s = true) → q_K C s → q_Wo s → q_E (q_A ws s) s s.heap →
      va_P C.1 vwCl ws s.heap → va_D (q_A ws s) ws → va_S (q_A ws s) s.heap s.heap [] → (∀ q : Nat, s.heap.size ≤ q → q_A ws s q) → c.exceptionTable.toList = tableOf hh → ∀ ls : Array Slot, lv_has ls maxL (lv_args 0 av) →
      W p l e (q_R1 fr lo) s m av.toArray below meth c s.heap [] 0 0 (q_G1 C below ws Q av.toArray s) (F0 m 0 ls [])) : q_M1 C l y w fr lo av ws Q := by
  intro sz
  refine va_MetW (cc := cc) (maxL := maxL) (ret := ret) (hh := hh) hy hw ?_
  intro p e s m args below meth c s₁ B hml hv
  obtain ⟨rfl, hsz, hP, hK, hD0, hV, hE⟩ := hv
  subst hsz
  rw [lg_entry_eq]
  have hts := atoms_spec (ws := w) B.pre
  exact body p e s m below meth c B.exec B.bytes B.returns B.notSynchronized hml (findClass_of_methodNamed B.named) hts hK hV hE hP hD0.self va_S.rf (fun q h => Or.inr h) (vx_table (x := y) B (hts _ (by rw [hw]; exact List.mem_cons_self))) _ (lv_entry av hn)
section QEnd1
variable {p : Program} {l : Launch} {e : Env} {R : Room} {s : State} {m : MethodId} {args : Array Value} {below : List Frame} {meth : Method} {c : Code} {H : Heap} {locs : List Loc} {C : q_C} {ws w1 : va_W} {Q : Option Value → va_W → Prop} {cc : ByteArray} {pc : Nat} {ls : Array Slot}
theorem q_iret1 {v : Int32} (hx : p.tables.exec = Jvm.exec) (hb : c.code = cc) (hr : meth.sig.returnType = some .int) (hlocks : meth.locks = false) (hP : va_P C.1 vwCl w1 H) (hS : va_S (q_A ws s) s.heap H locs) (hN : w1.map Prod.fst = ws.map Prod.fst) (hdg : decode cc pc = .ok (.ireturn, 1)) (hQ : Q (some (.int v)) w1) : W p l e R s m args below meth c H locs (0 + 1) (0 + 6) (q_G1 C below ws Q args s) (F0 m pc ls [.int v]) :=
  W.iret hx hb hr (q_endQ hQ hN hP hS) hS.2.2 hdg hlocks
end QEnd1
/-! the whole class, the whole model, the answer's row -/
abbrev wF (C : q_C) (x : Nat) (nw tr hq iq tt : Nat → Nat) (sc : Nat) (ba : Nat → Nat → Nat) (z : Nat → Int) (b b2 : Bd) (ph : Nat → Bd) (r n : Nat) (t f v o : Nat → Nat) (y : Nat) (cd : Nat → Nat) : va_W := List.flatten [wA C x nw tr hq iq tt sc z, wB C nw b, wB C tr b2, wHa C hq ba r n, wB C (ba 0) (ph 0), wB C (ba 1) (ph 1), wB C (ba 2) (ph 2), wB C (ba 3) (ph 3), wB C (ba 4) (ph 4), wB C (ba 5) (ph 5), wX C iq t f v o, wT C tt y cd]
