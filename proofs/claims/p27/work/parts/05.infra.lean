/-! my own frame for methods that neither throw nor make cells: worlds in place, one relation for answer and world -/
abbrev q_C : Type := va_G × ClassId × ClassId × ClassId × ClassId
abbrev q_tys (C : q_C) : List (ClassId × FieldType) := [(C.2.1, .int), (C.2.2.1, .long), (C.2.2.2.1, .boolean), (C.2.2.2.2, .object "RestedArms$Board")]
def q_nest : List Cond := [.methodLinkNest RX0 58 yX4_store "RestedArms", .methodLinkNest RX0 62 yX4_at "RestedArms", .methodLinkNest RX0 74 yX4_slotOf "RestedArms", .methodLinkNest RX2 25 yX4_slotOf "RestedArms", .methodLinkNest RX2 33 yX4_store_ "RestedArms", .methodLinkNest RX2 43 yX4_at "RestedArms", .methodLinkNest RX2 64 yX4_at_ "RestedArms"]
theorem q_nest_on : ∀ w ∈ q_nest, w.onTables = true := by decide +kernel
theorem q_nest_form : ∀ w ∈ q_nest, ∃ (a : String) (i : Nat) (x : MethodName) (h : String), w = .methodLinkNest a i x h := by
  intro w hw
  simp only [q_nest, List.mem_cons, List.not_mem_nil, or_false] at hw
  rcases hw with rfl | rfl | rfl | rfl | rfl | rfl | rfl <;> exact ⟨_, _, _, _, rfl⟩
def q_K (C : q_C) (U : State) : Prop := va_K C.1 vwCl (q_tys C) U ∧ ∀ w ∈ q_nest, va_Nw w U
theorem q_K.calling {C : q_C} {U : State} {g : JFrame} {mk : MethodId} {a : Array Value} (h : q_K C U) : q_K C (U.calling g mk a) :=
  ⟨va_K.moved (u := U) (U := U.calling g mk a) (Vm.Alike.refl U.vm) h.1, fun w hw => va_tabs (A := #[]) (A' := #[]) (u := U) (q_nest_on w hw) rfl (show w.before #[] U = true from h.2 w hw)⟩
theorem q_K.warm {C : q_C} {s U : State} (hW : s.WarmedH U.vm) (h : q_K C s) : q_K C U :=
  ⟨va_K.moved hW.alike h.1, fun w hw => by
    obtain ⟨a, i, x, h0, rfl⟩ := q_nest_form w hw
    exact va_Nw.warmM hW (h.2 _ hw)⟩
theorem q_nw {C : q_C} {U : State} (h : q_K C U) (k : Nat) {w : Cond} (hk : q_nest[k]? = some w) : va_Nw w U := h.2 w (List.mem_of_getElem? hk)
def q_Pc (C : q_C) (av : List Value) (ws : va_W) (sz : Nat) : Array Value → State → Prop := va_Pc av (fun U => U.heap.size = sz ∧ va_P C.1 vwCl ws U.heap ∧ q_K C U ∧ va_D (fun _ => True) ws)
theorem q_blind {C : q_C} {av : List Value} {ws : va_W} {sz : Nat} : FrameBlind (q_Pc C av ws sz) := fun _ _ _ _ h => ⟨h.1, h.2.1, h.2.2.1, h.2.2.2.1.calling, h.2.2.2.2⟩
def q_Qc (C : q_C) (ws : va_W) (sz : Nat) (Q : Option Value → va_W → Prop) : Array Value → State → Outcome → State → Prop :=
  fun _ st oc t => (∃ (r : Option Value) (w1 : va_W), oc = .returned r ∧ Q r w1 ∧ w1.map Prod.fst = ws.map Prod.fst ∧ va_P C.1 vwCl w1 t.heap) ∧ va_F (va_A ws sz) st t
/-- a method's contract: from the world ws it answers r and leaves the world w1 with Q r w1; no cell comes, none but those of ws changes -/
def q_M (C : q_C) (l : Launch) (y : MethodName) (w : List Cond) (fr lo : Nat) (av : List Value) (ws : va_W) (Q : Option Value → va_W → Prop) : Prop :=
  ∀ sz : Nat, Met l y w ({ frames := fr, cells := 0, slots := 0, locals := lo }) (q_Pc C av ws sz) (q_Qc C ws sz Q) 0 0 (va_A ws sz)
def q_A (ws : va_W) (s : State) : Nat → Prop := va_A ws s.heap.size
def q_G (C : q_C) (below : List Frame) (ws : va_W) (Q : Option Value → va_W → Prop) (a : Array Value) (s : State) : State → Prop := MQ below (q_Qc C ws s.heap.size Q) a s 0 0 (va_A ws s.heap.size)
abbrev q_R (fr lo : Nat) : Room := { frames := fr, cells := 0, slots := 0, locals := lo }
theorem q_head {C : q_C} {l : Launch} {y : MethodName} {w w' : List Cond} {fr lo : Nat} {av : List Value} {ws : va_W} {Q : Option Value → va_W → Prop} {cc : ByteArray} {maxL : Nat} {ret : Option FieldType}
    (hy : plainFor y = true) (hw : w = Cond.code y cc maxL ret :: w') (hn : (lg_sl av).length ≤ maxL)
    (body : ∀ (p : Program) (e : Env) (s : State) (m : MethodId) (below : List Frame) (meth : Method) (c : Code), p.tables.exec = Jvm.exec → c.code = cc → meth.sig.returnType = ret → meth.locks = false → c.maxLocals = maxL → s.vm.findClass y.cls = some m.cls → (∀ x ∈ w, x.before av.toArray s = true) → q_K C s →
      va_P C.1 vwCl ws s.heap → va_D (q_A ws s) ws → va_S (q_A ws s) s.heap s.heap [] → (∀ q : Nat, s.heap.size ≤ q → q_A ws s q) → ∀ ls : Array Slot, lv_has ls maxL (lv_args 0 av) →
      W p l e (q_R fr lo) s m av.toArray below meth c s.heap [] 0 0 (q_G C below ws Q av.toArray s) (F0 m 0 ls [])) : q_M C l y w fr lo av ws Q := by
  intro sz
  refine va_MetF (cc := cc) (maxL := maxL) (ret := ret) hy hw ?_
  intro p e s m args below meth c s₁ B hml hv
  obtain ⟨rfl, hsz, hP, hK, hD0⟩ := hv
  subst hsz
  rw [lg_entry_eq]
  exact body p e s m below meth c B.exec B.bytes B.returns B.notSynchronized hml (findClass_of_methodNamed B.named) (atoms_spec (ws := w) B.pre) hK hP hD0.self va_S.rf (fun q h => Or.inr h) _ (lv_entry av hn)
theorem q_endQ {C : q_C} {ws w1 : va_W} {Q : Option Value → va_W → Prop} {r : Option Value} {s : State} {H : Heap} {locs : List Loc} {a : Array Value} (hQ : Q r w1) (hN : w1.map Prod.fst = ws.map Prod.fst) (hP : va_P C.1 vwCl w1 H) (hS : va_S (q_A ws s) s.heap H locs) :
    ∀ t : State, t.heap = H → s.WarmedH t.vm → q_Qc C ws s.heap.size Q a s (.returned r) t := fun t ht _ => ⟨⟨r, w1, rfl, hQ, hN, by rw [ht]; exact hP⟩, hS.F ht⟩
section QEnd
variable {p : Program} {l : Launch} {e : Env} {R : Room} {s : State} {m : MethodId} {args : Array Value} {below : List Frame} {meth : Method} {c : Code} {H : Heap} {locs : List Loc} {C : q_C} {ws w1 : va_W} {Q : Option Value → va_W → Prop} {cc : ByteArray} {pc : Nat} {ls : Array Slot}
theorem q_iret {v : Int32} (hx : p.tables.exec = Jvm.exec) (hb : c.code = cc) (hr : meth.sig.returnType = some .int) (hlocks : meth.locks = false) (hP : va_P C.1 vwCl w1 H) (hS : va_S (q_A ws s) s.heap H locs) (hN : w1.map Prod.fst = ws.map Prod.fst) (hdg : decode cc pc = .ok (.ireturn, 1)) (hQ : Q (some (.int v)) w1) : W p l e R s m args below meth c H locs 0 0 (q_G C below ws Q args s) (F0 m pc ls [.int v]) :=
  W.iret hx hb hr (q_endQ hQ hN hP hS) hS.2.2 hdg hlocks
theorem q_zret {v : Int32} (hx : p.tables.exec = Jvm.exec) (hb : c.code = cc) (hr : meth.sig.returnType = some .boolean) (hlocks : meth.locks = false) (hn : narrow .boolean (.int v) = .int v) (hP : va_P C.1 vwCl w1 H) (hS : va_S (q_A ws s) s.heap H locs) (hN : w1.map Prod.fst = ws.map Prod.fst) (hdg : decode cc pc = .ok (.ireturn, 1)) (hQ : Q (some (.int v)) w1) : W p l e R s m args below meth c H locs 0 0 (q_G C below ws Q args s) (F0 m pc ls [.int v]) :=
  W.zret hx hb hr hn (q_endQ hQ hN hP hS) hS.2.2 hdg hlocks
theorem q_lret {v : Int64} (hx : p.tables.exec = Jvm.exec) (hb : c.code = cc) (hr : meth.sig.returnType = some .long) (hlocks : meth.locks = false) (hP : va_P C.1 vwCl w1 H) (hS : va_S (q_A ws s) s.heap H locs) (hN : w1.map Prod.fst = ws.map Prod.fst) (hdg : decode cc pc = .ok (.lreturn, 1)) (hQ : Q (some (.long v)) w1) : W p l e R s m args below meth c H locs 0 0 (q_G C below ws Q args s) (F0 m pc ls [.long v]) :=
  W.lret hx hb hr (q_endQ hQ hN hP hS) hS.2.2 hdg hlocks
theorem q_vret (hx : p.tables.exec = Jvm.exec) (hb : c.code = cc) (hr : meth.sig.returnType = none) (hlocks : meth.locks = false) (hP : va_P C.1 vwCl w1 H) (hS : va_S (q_A ws s) s.heap H locs) (hN : w1.map Prod.fst = ws.map Prod.fst) (hdg : decode cc pc = .ok (.return_, 1)) (hQ : Q none w1) : W p l e R s m args below meth c H locs 0 0 (q_G C below ws Q args s) (F0 m pc ls []) :=
  W.vret hx hb hr (q_endQ hQ hN hP hS) hS.2.2 hdg hlocks
theorem q_aret {v : Value} {rt : FieldType} (hx : p.tables.exec = Jvm.exec) (hb : c.code = cc) (hr : meth.sig.returnType = some rt) (hlocks : meth.locks = false) (hrt : (∃ n, rt = .object n) ∨ ∃ t, rt = .array t) (hv : v = .null ∨ ∃ a, v = .ref a) (hP : va_P C.1 vwCl w1 H) (hS : va_S (q_A ws s) s.heap H locs) (hN : w1.map Prod.fst = ws.map Prod.fst) (hdg : decode cc pc = .ok (.areturn, 1)) (hQ : Q (some v) w1) : W p l e R s m args below meth c H locs 0 0 (q_G C below ws Q args s) (F0 m pc ls [v]) :=
  W.aret hx hb hr hrt hv (q_endQ hQ hN hP hS) hS.2.2 hdg hlocks
end QEnd
/-- a world with the callee's cells put back at their places -/
def q_put (X : va_W) : List Nat → va_W → va_W
  | i :: is, c :: cs => q_put (X.set i c) is cs
  | _, _ => X
theorem q_put_len : ∀ (is : List Nat) (cs X : va_W), (q_put X is cs).length = X.length
  | [], _, _ => by simp [q_put]
  | _ :: _, [], _ => by simp [q_put]
  | i :: is, c :: cs, X => by rw [q_put, q_put_len is cs]; simp
theorem q_put_get : ∀ (is : List Nat) (cs X : va_W) (k : Nat) (q : Nat × va_E), is.length = cs.length → (q_put X is cs)[k]? = some q → (∃ j : Nat, is[j]? = some k ∧ cs[j]? = some q) ∨ (k ∉ is ∧ X[k]? = some q)
  | [], [], X, k, q, _, h => Or.inr ⟨List.not_mem_nil, h⟩
  | [], _ :: _, _, _, _, hl, _ => by simp at hl
  | _ :: _, [], _, _, _, hl, _ => by simp at hl
  | i :: is, c :: cs, X, k, q, hl, h => by
    rw [q_put] at h
    rcases q_put_get is cs (X.set i c) k q (by simpa using hl) h with ⟨j, h1, h2⟩ | ⟨h1, h2⟩
    · exact Or.inl ⟨j + 1, h1, h2⟩
    · by_cases hk : k = i
      · subst hk
        have hlt := (List.getElem?_eq_some_iff.mp h2).1
        rw [List.length_set] at hlt
        rw [List.getElem?_set_self hlt] at h2
        exact Or.inl ⟨0, rfl, h2⟩
      · rw [List.getElem?_set_ne (Ne.symm hk)] at h2
        exact Or.inr ⟨fun hm => (List.mem_cons.mp hm).elim hk h1, h2⟩
theorem q_map_get {is : List Nat} {X wc : va_W} (hC : is.map (fun i => X[i]?) = wc.map some) {j k : Nat} (hj : is[j]? = some k) : ∃ c, wc[j]? = some c ∧ X[k]? = some c := by
  have h1 : (is.map (fun i => X[i]?))[j]? = some X[k]? := by rw [List.getElem?_map, hj]; rfl
  rw [hC, List.getElem?_map] at h1
  cases hw : wc[j]? with
  | none => rw [hw] at h1; cases h1
  | some c => rw [hw] at h1; exact ⟨c, rfl, (Option.some.inj h1).symm⟩
theorem q_fst_get {w1 wc : va_W} (hN : w1.map Prod.fst = wc.map Prod.fst) {j : Nat} {q c : Nat × va_E} (h1 : w1[j]? = some q) (h2 : wc[j]? = some c) : q.1 = c.1 := by
  have e1 : (w1.map Prod.fst)[j]? = some q.1 := by rw [List.getElem?_map, h1]; rfl
  have e2 : (wc.map Prod.fst)[j]? = some c.1 := by rw [List.getElem?_map, h2]; rfl
  rw [hN, e2] at e1
  exact (Option.some.inj e1).symm
theorem q_put_back {D : va_G} {cl : List vw_C} {A0 : Nat → Prop} {X wc w1 : va_W} {H H1 : Heap} (hP : va_P D cl X H) (hD : va_D A0 X) (is : List Nat) (hC : is.map (fun i => X[i]?) = wc.map some) (hN : w1.map Prod.fst = wc.map Prod.fst)
    (hk : ∀ q : Nat, q < H.size → ¬ va_A wc H.size q → H1[q]? = H[q]?) (hP1 : va_P D cl w1 H1) : va_P D cl (q_put X is w1) H1 ∧ va_D A0 (q_put X is w1) := by
  have hlen : is.length = w1.length := by
    have a := congrArg List.length hC
    have b := congrArg List.length hN
    simp only [List.length_map] at a b
    omega
  have key : ∀ (k : Nat) (q : Nat × va_E), (q_put X is w1)[k]? = some q → ∃ c, X[k]? = some c ∧ c.1 = q.1 := by
    intro k q hq
    rcases q_put_get is w1 X k q hlen hq with ⟨j, h1, h2⟩ | ⟨-, h2⟩
    · obtain ⟨c, h3, h4⟩ := q_map_get hC h1
      exact ⟨c, h4, (q_fst_get hN h2 h3).symm⟩
    · exact ⟨q, h2, rfl⟩
  refine ⟨fun k q hq => ?_, fun i j p q hi hj hpq => ?_, fun k q hq => ?_⟩
  · rcases q_put_get is w1 X k q hlen hq with ⟨j, h1, h2⟩ | ⟨h1, h2⟩
    · exact hP1 j q h2
    · refine (hP k q h2).kept (hk q.1 (hP k q h2).lt ?_)
      rintro (⟨j, c, hj⟩ | hge)
      · have hj1 : (wc.map some)[j]? = some (some (q.1, c)) := by rw [List.getElem?_map, hj]; rfl
        rw [← hC, List.getElem?_map] at hj1
        cases hi : is[j]? with
        | none => rw [hi] at hj1; cases hj1
        | some i =>
          rw [hi] at hj1
          have hx : X[i]? = some (q.1, c) := Option.some.inj hj1
          have := hD.1 k i q (q.1, c) h2 hx rfl
          subst this
          exact h1 (List.mem_of_getElem? hi)
      · exact absurd (hP k q h2).lt (Nat.not_lt.mpr hge)
  · obtain ⟨c1, a1, b1⟩ := key i p hi
    obtain ⟨c2, a2, b2⟩ := key j q hj
    exact hD.1 i j c1 c2 a1 a2 (b1.trans (hpq.trans b2.symm))
  · obtain ⟨c1, a1, b1⟩ := key k q hq
    rw [← b1]
    exact hD.2 k c1 a1
theorem q_fm {X : va_W} : ∀ {is : List Nat} {wc : va_W}, is.map (fun i => X[i]?) = wc.map some → is.filterMap (fun i => X[i]?) = wc
  | [], [], _ => rfl
  | [], _ :: _, h => by simp at h
  | _ :: _, [], h => by simp at h
  | i :: is, c :: cs, h => by
    simp only [List.map_cons, List.cons.injEq] at h
    rw [List.filterMap_cons, h.1, q_fm h.2]
section QCall
variable {p : Program} {l : Launch} {e : Env} {R : Room} {s : State} {m : MethodId} {args : Array Value} {below : List Frame} {meth : Method} {c : Code} {H : Heap} {locs : List Loc} {cells slots : Nat} {Q : State → Prop}
variable {pc : Nat} {ls : Array Slot} {rest st0 : List Value} {a : Array Value} {A0 : Nat → Prop} {H0 : Heap}
theorem q_call {C : q_C} {X wc : va_W} {Qm : Option Value → va_W → Prop} (hr : va_Run p l e R s m args below meth c H locs cells slots 0 0 (F0 m pc ls st0) rest (q_Qc C wc H.size Qm a) (va_A wc H.size)) (hP : va_P C.1 vwCl X H) (hD : va_D A0 X) (hS : va_S A0 H0 H locs) (hA : ∀ q, H0.size ≤ q → A0 q)
    (is : List Nat) (hC : is.map (fun i => X[i]?) = wc.map some)
    (kk : ∀ (r : Option Value) (w1 : va_W) (H1 : Heap) (locs1 : List Loc), Qm r w1 → va_P C.1 vwCl (q_put X is w1) H1 → va_D A0 (q_put X is w1) → va_S A0 H0 H1 locs1 → W p l e R s m args below meth c H1 locs1 cells slots Q (F0 m (pc + 3) ls (r.toList ++ rest))) : W p l e R s m args below meth c H locs cells slots Q (F0 m pc ls st0) := by
  intro T hT X0
  obtain ⟨v, st₀, t, T', L, h0, X', hL, e1, e2, ⟨⟨r, w1, hv, hq, hn, hp⟩, hz, hk⟩, st⟩ := hr T hT X0
  cases hv
  rw [h0] at hz hk
  have hf : ∀ q, va_A wc H.size q → A0 q := va_free hD hS hA is hC
  have hp' : va_P C.1 vwCl w1 T'.heap := by rw [e1]; exact hp
  obtain ⟨hP1, hD1⟩ := q_put_back (H1 := T'.heap) hP hD is hC hn (fun q h1 h2 => by rw [e1]; exact hk q h1 h2) hp'
  obtain ⟨t2, a1, b1⟩ := kk v w1 T'.heap (locs ++ L) hq hP1 hD1 ⟨Nat.le_trans hS.1 (by rw [e1]; exact hz), fun q h1 h2 => by
      rw [e1, hk q (Nat.lt_of_lt_of_le h1 hS.1) (fun h3 => h2 (hf q h3))]
      exact hS.2.1 q h1 h2, fun x hx => (List.mem_append.mp hx).elim (fun h => hS.2.2 x h) (fun h => hf _ (hL x h))⟩ T' rfl X'
  exact ⟨t2, st t2 a1, b1⟩
variable {C : q_C} {X wc : va_W} {Qm : Option Value → va_W → Prop} {cc bytes : ByteArray} {nL maxL index n fr lo : Nat} {Ts wM : List Cond} {own CC host : String} {y : MethodName} {ret : Option FieldType} {As : List Value} {b : Nat}
/-- a call by a name: the receiver lies in the world at place q0 -/
theorem q_V (S : CallFix p m c cc nL s args Ts own) (hM : q_M C l y wM fr lo (.ref b :: As) wc Qm) (cw : CallW R s args own CC index y bytes maxL ret wM (q_R fr lo) 0 0 n) (hK : q_K C s) (hP : va_P C.1 vwCl X H) (hD : va_D A0 X) (hS : va_S A0 H0 H locs) (hA : ∀ q, H0.size ≤ q → A0 q)
    (is : List Nat) (hnd : va_nd is = true) (hC : is.map (fun i => X[i]?) = wc.map some) (q0 : Nat) {ci : Nat} {fs : List Value} {q : vw_C} (he : X[q0]? = some (b, .inr (ci, fs))) (hc : vwCl[ci]? = some q) (hq : q.1 = CC)
    (hn : As.length = n) (hsize : ls.size = nL) (hstack : st0 = As.reverse ++ .ref b :: rest) (hW : (rest.map fun v => v.category).sum ≤ 8) (hdg : decode cc pc = .ok (.invokevirtual index, 3)) (hce : cells ≤ R.cells) (hsl : slots ≤ R.slots)
    (kk : ∀ (r : Option Value) (w1 : va_W) (H1 : Heap) (locs1 : List Loc), Qm r w1 → va_P C.1 vwCl (q_put X is w1) H1 → va_D A0 (q_put X is w1) → va_S A0 H0 H1 locs1 → W p l e R s m args below meth c H1 locs1 cells slots Q (F0 m (pc + 3) ls (r.toList ++ rest))) : W p l e R s m args below meth c H locs cells slots Q (F0 m pc ls st0) := by
  have hPc : va_P C.1 vwCl wc H := hP.sub is (q_fm hC)
  have hDc : va_D A0 wc := hD.sub is hnd hC
  have hr := va_recv hK.1 hP hc he
  rw [hq] at hr
  exact q_call (va_runV (rest := rest) S (hM H.size) cw ⟨q_blind, hr, fun U hU hW2 => ⟨rfl, by rw [hU], by rw [hU]; exact hPc, hK.warm hW2, hDc.weaken (fun _ _ _ _ => trivial)⟩⟩ rfl hn hsize hstack (lv_room hW) hdg ⟨hce, hsl⟩) hP hD hS hA is hC kk
/-- a static call within the class -/
theorem q_S (S : CallFix p m c cc nL s args Ts own) (hM : q_M C l y wM fr lo As wc Qm) (cw : CallB R s args own index y bytes maxL ret wM (q_R fr lo) 0 0 n ∧ (Cond.static y).before args s = true) (hK : q_K C s) (hP : va_P C.1 vwCl X H) (hD : va_D A0 X) (hS : va_S A0 H0 H locs) (hA : ∀ q, H0.size ≤ q → A0 q)
    (is : List Nat) (hnd : va_nd is = true) (hC : is.map (fun i => X[i]?) = wc.map some)
    (hn : As.length = n) (hsize : ls.size = nL) (hstack : st0 = As.reverse ++ rest) (hW : (rest.map fun v => v.category).sum ≤ 8) (hdg : decode cc pc = .ok (.invokestatic index, 3)) (hce : cells ≤ R.cells) (hsl : slots ≤ R.slots)
    (kk : ∀ (r : Option Value) (w1 : va_W) (H1 : Heap) (locs1 : List Loc), Qm r w1 → va_P C.1 vwCl (q_put X is w1) H1 → va_D A0 (q_put X is w1) → va_S A0 H0 H1 locs1 → W p l e R s m args below meth c H1 locs1 cells slots Q (F0 m (pc + 3) ls (r.toList ++ rest))) : W p l e R s m args below meth c H locs cells slots Q (F0 m pc ls st0) := by
  have hPc : va_P C.1 vwCl wc H := hP.sub is (q_fm hC)
  have hDc : va_D A0 wc := hD.sub is hnd hC
  exact q_call (va_runS (rest := rest) S (hM H.size) cw ⟨q_blind, fun U hU hW2 => ⟨rfl, by rw [hU], by rw [hU]; exact hPc, hK.warm hW2, hDc.weaken (fun _ _ _ _ => trivial)⟩⟩ rfl hn hsize hstack (lv_room hW) hdg ⟨hce, hsl⟩) hP hD hS hA is hC kk
/-- a static call of a nest mate's private method -/
theorem q_N (S : CallFix p m c cc nL s args Ts own) (hM : q_M C l y wM fr lo As wc Qm) (cw : va_CN R s args own index y host bytes maxL ret wM (q_R fr lo) 0 0 n ∧ (Cond.static y).before args s = true ∧ True) (hK : q_K C s) (hP : va_P C.1 vwCl X H) (hD : va_D A0 X) (hS : va_S A0 H0 H locs) (hA : ∀ q, H0.size ≤ q → A0 q)
    (is : List Nat) (hnd : va_nd is = true) (hC : is.map (fun i => X[i]?) = wc.map some)
    (hn : As.length = n) (hsize : ls.size = nL) (hstack : st0 = As.reverse ++ rest) (hW : (rest.map fun v => v.category).sum ≤ 8) (hdg : decode cc pc = .ok (.invokestatic index, 3)) (hce : cells ≤ R.cells) (hsl : slots ≤ R.slots)
    (kk : ∀ (r : Option Value) (w1 : va_W) (H1 : Heap) (locs1 : List Loc), Qm r w1 → va_P C.1 vwCl (q_put X is w1) H1 → va_D A0 (q_put X is w1) → va_S A0 H0 H1 locs1 → W p l e R s m args below meth c H1 locs1 cells slots Q (F0 m (pc + 3) ls (r.toList ++ rest))) : W p l e R s m args below meth c H locs cells slots Q (F0 m pc ls st0) := by
  have hPc : va_P C.1 vwCl wc H := hP.sub is (q_fm hC)
  have hDc : va_D A0 wc := hD.sub is hnd hC
  exact q_call (va_runSN (rest := rest) S (hM H.size) cw ⟨q_blind, fun U hU hW2 => ⟨rfl, by rw [hU], by rw [hU]; exact hPc, hK.warm hW2, hDc.weaken (fun _ _ _ _ => trivial)⟩⟩ rfl hn hsize hstack (lv_room hW) hdg ⟨hce, hsl⟩) hP hD hS hA is hC kk
end QCall
section QRows
variable {p : Program} {l : Launch} {e : Env} {R : Room} {s : State} {m : MethodId} {args : Array Value} {below : List Frame} {meth : Method} {c : Code} {H : Heap} {locs : List Loc} {cells slots : Nat} {Q : State → Prop}
variable {cc : ByteArray} {pc : Nat} {ls : Array Slot} {rest : List Value} {C : q_C} {X : va_W} {A : Nat → Prop} {H0 : Heap} {a : Nat}
theorem q_ti {x y : Int32} (h : x = y) (k : W p l e R s m args below meth c H locs cells slots Q (F0 m pc ls (.int y :: rest))) : W p l e R s m args below meth c H locs cells slots Q (F0 m pc ls (.int x :: rest)) := by rw [h]; exact k
theorem q_tl {x y : Int64} (h : x = y) (k : W p l e R s m args below meth c H locs cells slots Q (F0 m pc ls (.long y :: rest))) : W p l e R s m args below meth c H locs cells slots Q (F0 m pc ls (.long x :: rest)) := by rw [h]; exact k
theorem q_td {x y : UInt64} (h : x = y) (k : W p l e R s m args below meth c H locs cells slots Q (F0 m pc ls (.double y :: rest))) : W p l e R s m args below meth c H locs cells slots Q (F0 m pc ls (.double x :: rest)) := by rw [h]; exact k
theorem q_iald {n N : Nat} {f : Nat → Int32} {v : Int32} (hx : p.tables.exec = Jvm.exec) (hb : c.code = cc) (hK : q_K C s) (hP : va_P C.1 vwCl X H) (q0 : Nat) (ha : X[q0]? = some (a, .inl (C.2.1, N, .inl f))) (hn : n < N) (hN : N < 2 ^ 31) (hv : f n = v) (hdg : decode cc pc = .ok (.iaload, 1))
    (kk : W p l e R s m args below meth c H locs cells slots Q (F0 m (pc + 1) ls (.int v :: rest))) : W p l e R s m args below meth c H locs cells slots Q (F0 m pc ls (.int (nI n) :: .ref a :: rest)) := by
  refine va_iald hx hb hK.1 hP q0 0 ha rfl (vp_in_nI hn hN) hdg ?_
  rw [nI_clamp (by omega), hv]
  exact kk
theorem q_lald {n N : Nat} {f : Nat → Int64} {v : Int64} (hx : p.tables.exec = Jvm.exec) (hb : c.code = cc) (hK : q_K C s) (hP : va_P C.1 vwCl X H) (q0 : Nat) (ha : X[q0]? = some (a, .inl (C.2.2.1, N, .inr (.inl f)))) (hn : n < N) (hN : N < 2 ^ 31) (hv : f n = v) (hdg : decode cc pc = .ok (.laload, 1))
    (kk : W p l e R s m args below meth c H locs cells slots Q (F0 m (pc + 1) ls (.long v :: rest))) : W p l e R s m args below meth c H locs cells slots Q (F0 m pc ls (.int (nI n) :: .ref a :: rest)) := by
  refine va_lald hx hb hK.1 hP q0 1 ha rfl (vp_in_nI hn hN) hdg ?_
  rw [nI_clamp (by omega), hv]
  exact kk
theorem q_zald {n N : Nat} {f : Nat → Int32} {v : Int32} (hx : p.tables.exec = Jvm.exec) (hb : c.code = cc) (hK : q_K C s) (hP : va_P C.1 vwCl X H) (q0 : Nat) (ha : X[q0]? = some (a, .inl (C.2.2.2.1, N, .inl f))) (hn : n < N) (hN : N < 2 ^ 31) (hv : f n = v) (hdg : decode cc pc = .ok (.baload, 1))
    (kk : W p l e R s m args below meth c H locs cells slots Q (F0 m (pc + 1) ls (.int v :: rest))) : W p l e R s m args below meth c H locs cells slots Q (F0 m pc ls (.int (nI n) :: .ref a :: rest)) := by
  refine va_zald hx hb hK.1 hP q0 2 ha rfl (vp_in_nI hn hN) hdg ?_
  rw [nI_clamp (by omega), hv]
  exact kk
theorem q_iast {n N : Nat} {f : Nat → Int32} {x : Int32} (hx : p.tables.exec = Jvm.exec) (hb : c.code = cc) (hK : q_K C s) (hP : va_P C.1 vwCl X H) (hD : va_D A X) (hS : va_S A H0 H locs) (q0 : Nat) (ha : X[q0]? = some (a, .inl (C.2.1, N, .inl f))) (hn : n < N) (hN : N < 2 ^ 31) (hdg : decode cc pc = .ok (.iastore, 1))
    (kk : ∀ (H1 : Heap) (locs1 : List Loc), va_P C.1 vwCl (X.set q0 (a, .inl (C.2.1, N, .inl (upd f n x)))) H1 → va_D A (X.set q0 (a, .inl (C.2.1, N, .inl (upd f n x)))) → va_S A H0 H1 locs1 → W p l e R s m args below meth c H1 locs1 cells slots Q (F0 m (pc + 1) ls rest)) : W p l e R s m args below meth c H locs cells slots Q (F0 m pc ls (.int x :: .int (nI n) :: .ref a :: rest)) := by
  refine va_iast hx hb hK.1 hP hD hS q0 0 ha rfl (vp_in_nI hn hN) hdg ?_
  rw [nI_clamp (by omega)]
  exact kk
theorem q_last {n N : Nat} {f : Nat → Int64} {x : Int64} (hx : p.tables.exec = Jvm.exec) (hb : c.code = cc) (hK : q_K C s) (hP : va_P C.1 vwCl X H) (hD : va_D A X) (hS : va_S A H0 H locs) (q0 : Nat) (ha : X[q0]? = some (a, .inl (C.2.2.1, N, .inr (.inl f)))) (hn : n < N) (hN : N < 2 ^ 31) (hdg : decode cc pc = .ok (.lastore, 1))
    (kk : ∀ (H1 : Heap) (locs1 : List Loc), va_P C.1 vwCl (X.set q0 (a, .inl (C.2.2.1, N, .inr (.inl (vp_updL f n x))))) H1 → va_D A (X.set q0 (a, .inl (C.2.2.1, N, .inr (.inl (vp_updL f n x))))) → va_S A H0 H1 locs1 → W p l e R s m args below meth c H1 locs1 cells slots Q (F0 m (pc + 1) ls rest)) : W p l e R s m args below meth c H locs cells slots Q (F0 m pc ls (.long x :: .int (nI n) :: .ref a :: rest)) := by
  refine va_last hx hb hK.1 hP hD hS q0 1 ha rfl (vp_in_nI hn hN) hdg ?_
  rw [nI_clamp (by omega)]
  exact kk
theorem q_zast {n N : Nat} {f : Nat → Int32} {x : Int32} (hx : p.tables.exec = Jvm.exec) (hb : c.code = cc) (hK : q_K C s) (hP : va_P C.1 vwCl X H) (hD : va_D A X) (hS : va_S A H0 H locs) (q0 : Nat) (ha : X[q0]? = some (a, .inl (C.2.2.2.1, N, .inl f))) (hn : n < N) (hN : N < 2 ^ 31) (hz : vp_nar .boolean x = x) (hdg : decode cc pc = .ok (.bastore, 1))
    (kk : ∀ (H1 : Heap) (locs1 : List Loc), va_P C.1 vwCl (X.set q0 (a, .inl (C.2.2.2.1, N, .inl (upd f n x)))) H1 → va_D A (X.set q0 (a, .inl (C.2.2.2.1, N, .inl (upd f n x)))) → va_S A H0 H1 locs1 → W p l e R s m args below meth c H1 locs1 cells slots Q (F0 m (pc + 1) ls rest)) : W p l e R s m args below meth c H locs cells slots Q (F0 m pc ls (.int x :: .int (nI n) :: .ref a :: rest)) := by
  refine va_zast hx hb hK.1 hP hD hS q0 2 ha rfl (vp_in_nI hn hN) hdg ?_
  rw [nI_clamp (by omega), hz]
  exact kk
end QRows
/-! truth values -/
def q_b (b : Bool) : Int32 := if b = true then 1 else 0
theorem q_b0 {b : Bool} : q_b b = 0 ↔ b = false := by cases b <;> simp [q_b]
theorem q_b1 {b : Bool} : ¬ q_b b = 0 ↔ b = true := by cases b <;> simp [q_b]
theorem q_bn {b : Bool} : narrow .boolean (.int (q_b b)) = .int (q_b b) := by cases b <;> rfl
theorem q_bt {b : Bool} (h : b = true) : nI 1 = q_b b := by rw [h]; decide
theorem q_bf {b : Bool} (h : b = false) : nI 0 = q_b b := by rw [h]; decide
/-! comparisons of numbers that are known as Nat -/
theorem q_nlt {a b : Nat} (ha : a < 2 ^ 31) (hb : b < 2 ^ 31) (h : nI a < nI b) : a < b := (nI_ltI ha hb).mp h
theorem q_nlt' {a b : Nat} (ha : a < 2 ^ 31) (hb : b < 2 ^ 31) (h : ¬ nI a < nI b) : b ≤ a := Nat.not_lt.mp fun q => h ((nI_ltI ha hb).mpr q)
theorem q_nge {a b : Nat} (ha : a < 2 ^ 31) (hb : b < 2 ^ 31) (h : nI b ≤ nI a) : b ≤ a := (nI_leI hb ha).mp h
theorem q_nge' {a b : Nat} (ha : a < 2 ^ 31) (hb : b < 2 ^ 31) (h : ¬ nI b ≤ nI a) : a < b := Nat.not_le.mp fun q => h ((nI_leI hb ha).mpr q)
theorem q_ngt {a b : Nat} (ha : a < 2 ^ 31) (hb : b < 2 ^ 31) (h : nI b < nI a) : b < a := (nI_ltI hb ha).mp h
theorem q_ngt' {a b : Nat} (ha : a < 2 ^ 31) (hb : b < 2 ^ 31) (h : ¬ nI b < nI a) : a ≤ b := Nat.not_lt.mp fun q => h ((nI_ltI hb ha).mpr q)
theorem q_nle {a b : Nat} (ha : a < 2 ^ 31) (hb : b < 2 ^ 31) (h : nI a ≤ nI b) : a ≤ b := (nI_leI ha hb).mp h
theorem q_nle' {a b : Nat} (ha : a < 2 ^ 31) (hb : b < 2 ^ 31) (h : ¬ nI a ≤ nI b) : b < a := Nat.not_le.mp fun q => h ((nI_leI ha hb).mpr q)
theorem q_neq {a b : Nat} (ha : a < 2 ^ 31) (hb : b < 2 ^ 31) (h : nI a = nI b) : a = b := (nI_eq ha hb).mp h
theorem q_neq' {a b : Nat} (ha : a < 2 ^ 31) (hb : b < 2 ^ 31) (h : ¬ nI a = nI b) : a ≠ b := fun q => h ((nI_eq ha hb).mpr q)
theorem q_nne {a b : Nat} (ha : a < 2 ^ 31) (hb : b < 2 ^ 31) (h : ¬ nI a = nI b) : a ≠ b := q_neq' ha hb h
theorem q_nne' {a b : Nat} (ha : a < 2 ^ 31) (hb : b < 2 ^ 31) (h : nI a = nI b) : a = b := q_neq ha hb h
theorem q_nlt0 {a : Nat} (ha : a < 2 ^ 31) (hb : 0 < 2 ^ 31) (h : nI a < 0) : a < 0 := q_nlt ha hb (nI_0 ▸ h)
theorem q_nlt0' {a : Nat} (ha : a < 2 ^ 31) (hb : 0 < 2 ^ 31) (h : ¬ nI a < 0) : 0 ≤ a := Nat.zero_le _
theorem q_nge0 {a : Nat} (ha : a < 2 ^ 31) (hb : 0 < 2 ^ 31) (h : 0 ≤ nI a) : 0 ≤ a := Nat.zero_le _
theorem q_nge0' {a : Nat} (ha : a < 2 ^ 31) (hb : 0 < 2 ^ 31) (h : ¬ 0 ≤ nI a) : a < 0 := absurd (nI_pos' ha) h
theorem q_ngt0 {a : Nat} (ha : a < 2 ^ 31) (hb : 0 < 2 ^ 31) (h : 0 < nI a) : 0 < a := q_ngt ha hb (nI_0.symm ▸ h)
theorem q_ngt0' {a : Nat} (ha : a < 2 ^ 31) (hb : 0 < 2 ^ 31) (h : ¬ 0 < nI a) : a ≤ 0 := q_ngt' ha hb (nI_0.symm ▸ h)
theorem q_nle0 {a : Nat} (ha : a < 2 ^ 31) (hb : 0 < 2 ^ 31) (h : nI a ≤ 0) : a ≤ 0 := q_nle ha hb (nI_0.symm ▸ h)
theorem q_nle0' {a : Nat} (ha : a < 2 ^ 31) (hb : 0 < 2 ^ 31) (h : ¬ nI a ≤ 0) : 0 < a := q_nle' ha hb (nI_0.symm ▸ h)
theorem q_neq0 {a : Nat} (ha : a < 2 ^ 31) (hb : 0 < 2 ^ 31) (h : nI a = 0) : a = 0 := q_neq ha hb (nI_0.symm ▸ h)
theorem q_neq0' {a : Nat} (ha : a < 2 ^ 31) (hb : 0 < 2 ^ 31) (h : ¬ nI a = 0) : a ≠ 0 := q_neq' ha hb (nI_0.symm ▸ h)
theorem q_nne0 {a : Nat} (ha : a < 2 ^ 31) (hb : 0 < 2 ^ 31) (h : ¬ nI a = 0) : a ≠ 0 := q_neq0' ha hb h
theorem q_nne0' {a : Nat} (ha : a < 2 ^ 31) (hb : 0 < 2 ^ 31) (h : nI a = 0) : a = 0 := q_neq0 ha hb h
theorem q_llt {x y : Int64} (h : lg_cmp x y < 0) : x < y := (lg_cmp_lt x y).mp h
theorem q_llt' {x y : Int64} (h : ¬ lg_cmp x y < 0) : y ≤ x := Int64.not_lt.mp fun q => h ((lg_cmp_lt x y).mpr q)
theorem q_lge {x y : Int64} (h : 0 ≤ lg_cmp x y) : y ≤ x := (lg_cmp_ge x y).mp h
theorem q_lge' {x y : Int64} (h : ¬ 0 ≤ lg_cmp x y) : x < y := Int64.not_le.mp fun q => h ((lg_cmp_ge x y).mpr q)
theorem q_lgt {x y : Int64} (h : 0 < lg_cmp x y) : y < x := (lg_cmp_gt x y).mp h
theorem q_lgt' {x y : Int64} (h : ¬ 0 < lg_cmp x y) : x ≤ y := Int64.not_lt.mp fun q => h ((lg_cmp_gt x y).mpr q)
theorem q_lle {x y : Int64} (h : lg_cmp x y ≤ 0) : x ≤ y := (lg_cmp_le x y).mp h
theorem q_lle' {x y : Int64} (h : ¬ lg_cmp x y ≤ 0) : y < x := Int64.not_le.mp fun q => h ((lg_cmp_le x y).mpr q)
theorem q_leq {x y : Int64} (h : lg_cmp x y = 0) : x = y := (lg_cmp_eq x y).mp h
theorem q_leq' {x y : Int64} (h : ¬ lg_cmp x y = 0) : x ≠ y := fun q => h ((lg_cmp_eq x y).mpr q)
theorem q_lne {x y : Int64} (h : ¬ lg_cmp x y = 0) : x ≠ y := q_leq' h
theorem q_lne' {x y : Int64} (h : lg_cmp x y = 0) : x = y := q_leq h
theorem q_Llt {a b : Nat} (ha : a < 2 ^ 63) (hb : b < 2 ^ 63) (h : lg_cmp (lN a) (lN b) < 0) : a < b := (pk_lLT ha hb).mp (q_llt h)
theorem q_Llt' {a b : Nat} (ha : a < 2 ^ 63) (hb : b < 2 ^ 63) (h : ¬ lg_cmp (lN a) (lN b) < 0) : b ≤ a := (pk_lLE hb ha).mp (q_llt' h)
theorem q_Lge {a b : Nat} (ha : a < 2 ^ 63) (hb : b < 2 ^ 63) (h : 0 ≤ lg_cmp (lN a) (lN b)) : b ≤ a := (pk_lLE hb ha).mp (q_lge h)
theorem q_Lge' {a b : Nat} (ha : a < 2 ^ 63) (hb : b < 2 ^ 63) (h : ¬ 0 ≤ lg_cmp (lN a) (lN b)) : a < b := (pk_lLT ha hb).mp (q_lge' h)
theorem q_Lgt {a b : Nat} (ha : a < 2 ^ 63) (hb : b < 2 ^ 63) (h : 0 < lg_cmp (lN a) (lN b)) : b < a := (pk_lLT hb ha).mp (q_lgt h)
theorem q_Lgt' {a b : Nat} (ha : a < 2 ^ 63) (hb : b < 2 ^ 63) (h : ¬ 0 < lg_cmp (lN a) (lN b)) : a ≤ b := (pk_lLE ha hb).mp (q_lgt' h)
theorem q_Lle {a b : Nat} (ha : a < 2 ^ 63) (hb : b < 2 ^ 63) (h : lg_cmp (lN a) (lN b) ≤ 0) : a ≤ b := (pk_lLE ha hb).mp (q_lle h)
theorem q_Lle' {a b : Nat} (ha : a < 2 ^ 63) (hb : b < 2 ^ 63) (h : ¬ lg_cmp (lN a) (lN b) ≤ 0) : b < a := (pk_lLT hb ha).mp (q_lle' h)
theorem q_Leq {a b : Nat} (ha : a < 2 ^ 63) (hb : b < 2 ^ 63) (h : lg_cmp (lN a) (lN b) = 0) : a = b := (pk_lEQ ha hb).mp (q_leq h)
theorem q_Leq' {a b : Nat} (ha : a < 2 ^ 63) (hb : b < 2 ^ 63) (h : ¬ lg_cmp (lN a) (lN b) = 0) : a ≠ b := fun q => q_leq' h ((pk_lEQ ha hb).mpr q)
theorem q_Lne {a b : Nat} (ha : a < 2 ^ 63) (hb : b < 2 ^ 63) (h : ¬ lg_cmp (lN a) (lN b) = 0) : a ≠ b := q_Leq' ha hb h
theorem q_Lne' {a b : Nat} (ha : a < 2 ^ 63) (hb : b < 2 ^ 63) (h : lg_cmp (lN a) (lN b) = 0) : a = b := q_Leq ha hb h
theorem q_lmax {a b : Nat} (ha : a < 2 ^ 63) (hb : b < 2 ^ 63) : (if lN b < lN a then lN a else lN b) = lN (max a b) := by
  by_cases h : b < a
  · rw [if_pos ((pk_lLT hb ha).mpr h), Nat.max_eq_left (Nat.le_of_lt h)]
  · rw [if_neg (fun q => h ((pk_lLT hb ha).mp q)), Nat.max_eq_right (Nat.not_lt.mp h)]
