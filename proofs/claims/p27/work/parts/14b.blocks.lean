/-! worlds of many blocks: a call's blocks are put back as blocks; what is only read stays as it stands -/
theorem q_put_id : ∀ {is : List Nat} {X wc : va_W}, is.map (fun i => X[i]?) = wc.map some → q_put X is wc = X
  | [], X, [], _ => rfl
  | [], _, _ :: _, h => by simp at h
  | _ :: _, _, [], h => by simp at h
  | i :: is, X, c :: cs, h => by
    simp only [List.map_cons, List.cons.injEq] at h
    have hs : X.set i c = X := by
      obtain ⟨hi, hc⟩ := List.getElem?_eq_some_iff.mp h.1
      rw [← hc, List.set_getElem_self]
    rw [q_put, hs]
    exact q_put_id h.2
def q_pb (Bs : List va_W) : List Nat → List va_W → List va_W
  | i :: is, d :: ds => q_pb (Bs.set i d) is ds
  | _, _ => Bs
theorem q_pb_get : ∀ (is : List Nat) (ds Bs : List va_W) (k : Nat) (B : va_W), is.length = ds.length → (q_pb Bs is ds)[k]? = some B → B ∈ ds ∨ (k ∉ is ∧ Bs[k]? = some B)
  | [], [], _, _, _, _, h => Or.inr ⟨List.not_mem_nil, h⟩
  | [], _ :: _, _, _, _, hl, _ => by simp at hl
  | _ :: _, [], _, _, _, hl, _ => by simp at hl
  | i :: is, d :: ds, Bs, k, B, hl, h => by
    rw [q_pb] at h
    rcases q_pb_get is ds (Bs.set i d) k B (by simpa using hl) h with h1 | ⟨h1, h2⟩
    · exact Or.inl (List.mem_cons_of_mem _ h1)
    · by_cases hk : k = i
      · subst hk
        have hlt := (List.getElem?_eq_some_iff.mp h2).1
        rw [List.length_set] at hlt
        rw [List.getElem?_set_self hlt] at h2
        cases h2
        exact Or.inl List.mem_cons_self
      · rw [List.getElem?_set_ne (Ne.symm hk)] at h2
        exact Or.inr ⟨fun hm => (List.mem_cons.mp hm).elim hk h1, h2⟩
theorem q_pb_fst : ∀ (is : List Nat) (ds cs Bs : List va_W), va_nd is = true → is.map (fun i => Bs[i]?) = cs.map some → ds.map (fun d => d.map Prod.fst) = cs.map (fun d => d.map Prod.fst) → (q_pb Bs is ds).map (fun d => d.map Prod.fst) = Bs.map (fun d => d.map Prod.fst)
  | [], _, _, _, _, _, _ => by simp [q_pb]
  | _ :: _, [], _, _, _, _, _ => by simp [q_pb]
  | i :: is, d :: ds, [], _, _, h, _ => by simp at h
  | i :: is, d :: ds, c :: cs, Bs, hn, hC, hf => by
    simp only [List.map_cons, List.cons.injEq] at hC hf
    simp only [va_nd, Bool.and_eq_true, decide_eq_true_eq] at hn
    have h1 : (Bs.set i d).map (fun d => d.map Prod.fst) = Bs.map (fun d => d.map Prod.fst) := by
      obtain ⟨hi, hc⟩ := List.getElem?_eq_some_iff.mp hC.1
      rw [List.map_set, hf.1, ← hc, ← List.getElem_map (fun d : va_W => d.map Prod.fst) (h := by simpa using hi), List.set_getElem_self]
    rw [q_pb, q_pb_fst is ds cs (Bs.set i d) hn.2 ?_ hf.2, h1]
    rw [← hC.2]
    apply List.map_congr_left
    intro j hj
    rw [List.getElem?_set_ne (fun e => hn.1 (by rw [e]; exact hj))]
theorem q_ndf : ∀ {L : List (List Nat)}, L.flatten.Nodup → ∀ {i k : Nat} {x y : List Nat} {a : Nat}, L[i]? = some x → L[k]? = some y → i ≠ k → a ∈ x → a ∈ y → False
  | [], _, _, _, _, _, _, h, _, _, _, _ => by simp at h
  | B :: L, hn, i, k, x, y, a, hi, hk, hne, hx, hy => by
    rw [List.flatten_cons, List.nodup_append] at hn
    cases i with
    | zero =>
      cases k with
      | zero => exact hne rfl
      | succ k =>
        rw [List.getElem?_cons_zero] at hi
        cases hi
        rw [List.getElem?_cons_succ] at hk
        exact hn.2.2 a hx a (List.mem_flatten.mpr ⟨y, List.mem_of_getElem? hk, hy⟩) rfl
    | succ i =>
      cases k with
      | zero =>
        rw [List.getElem?_cons_zero] at hk
        cases hk
        rw [List.getElem?_cons_succ] at hi
        exact hn.2.2 a hy a (List.mem_flatten.mpr ⟨x, List.mem_of_getElem? hi, hx⟩) rfl
      | succ k =>
        rw [List.getElem?_cons_succ] at hi hk
        exact q_ndf hn.2.1 hi hk (fun e => hne (by rw [e])) hx hy
theorem q_P_mem {D : va_G} {cl : List vw_C} {ws : va_W} {H : Heap} : va_P D cl ws H ↔ ∀ q ∈ ws, va_at D cl q H :=
  ⟨fun h q hq => by obtain ⟨k, hk⟩ := List.getElem?_of_mem hq; exact h k q hk, fun h k q hk => h q (List.mem_of_getElem? hk)⟩
theorem q_D_nd {A : Nat → Prop} {ws : va_W} : va_D A ws ↔ (ws.map Prod.fst).Nodup ∧ ∀ a ∈ ws.map Prod.fst, A a := by
  constructor
  · intro h
    refine ⟨?_, fun a ha => ?_⟩
    · refine List.pairwise_iff_getElem.mpr (fun i j hi hj hij e => ?_)
      rw [List.length_map] at hi hj
      rw [List.getElem_map, List.getElem_map] at e
      have := h.1 i j _ _ (List.getElem?_eq_getElem hi) (List.getElem?_eq_getElem hj) e
      omega
    · obtain ⟨q, hq, rfl⟩ := List.mem_map.mp ha
      obtain ⟨k, hk⟩ := List.getElem?_of_mem hq
      exact h.2 k q hk
  · intro h
    refine ⟨fun i j p q hi hj e => ?_, fun k q hk => h.2 _ (List.mem_map.mpr ⟨q, List.mem_of_getElem? hk, rfl⟩)⟩
    obtain ⟨hil, hie⟩ := List.getElem?_eq_some_iff.mp hi
    obtain ⟨hjl, hje⟩ := List.getElem?_eq_some_iff.mp hj
    have hn := List.pairwise_iff_getElem.mp h.1
    rcases Nat.lt_trichotomy i j with g | g | g
    · exact absurd (by rw [List.getElem_map, List.getElem_map, hie, hje]; exact e) (hn i j (by rw [List.length_map]; exact hil) (by rw [List.length_map]; exact hjl) g)
    · exact g
    · exact absurd (by rw [List.getElem_map, List.getElem_map, hie, hje]; exact e.symm) (hn j i (by rw [List.length_map]; exact hjl) (by rw [List.length_map]; exact hil) g)
theorem q_D_eq {A : Nat → Prop} {ws w1 : va_W} (h : va_D A ws) (e : w1.map Prod.fst = ws.map Prod.fst) : va_D A w1 := by
  rw [q_D_nd] at h ⊢
  rw [e]
  exact h
theorem q_pb_back {D : va_G} {cl : List vw_C} {A0 : Nat → Prop} {Bs cs ds : List va_W} {H H1 : Heap} (hP : va_P D cl Bs.flatten H) (hD : va_D A0 Bs.flatten) (is : List Nat) (hnd : va_nd is = true) (hC : is.map (fun i => Bs[i]?) = cs.map some) (hN : ds.map (fun d => d.map Prod.fst) = cs.map (fun d => d.map Prod.fst))
    (hk : ∀ q : Nat, q < H.size → ¬ va_A cs.flatten H.size q → H1[q]? = H[q]?) (hP1 : va_P D cl ds.flatten H1) : va_P D cl (q_pb Bs is ds).flatten H1 ∧ va_D A0 (q_pb Bs is ds).flatten := by
  have hlen : is.length = ds.length := by
    have a := congrArg List.length hC
    have b := congrArg List.length hN
    simp only [List.length_map] at a b
    omega
  have hfst := q_pb_fst is ds cs Bs hnd hC hN
  have hff : (q_pb Bs is ds).flatten.map Prod.fst = Bs.flatten.map Prod.fst := by
    rw [List.map_flatten, List.map_flatten, hfst]
  have hnod : (Bs.map (fun d => d.map Prod.fst)).flatten.Nodup := by
    have := (q_D_nd.mp hD).1
    rw [List.map_flatten] at this
    exact this
  refine ⟨?_, q_D_eq hD hff⟩
  rw [q_P_mem] at hP hP1 ⊢
  intro q hq
  obtain ⟨B, hB, hqB⟩ := List.mem_flatten.mp hq
  obtain ⟨k, hkB⟩ := List.getElem?_of_mem hB
  rcases q_pb_get is ds Bs k B hlen hkB with h1 | ⟨h1, h2⟩
  · exact hP1 q (List.mem_flatten.mpr ⟨B, h1, hqB⟩)
  · have h0 := hP q (List.mem_flatten.mpr ⟨B, List.mem_of_getElem? h2, hqB⟩)
    refine h0.kept (hk q.1 h0.lt ?_)
    rintro (⟨j, c, hj⟩ | hge)
    · obtain ⟨c0, hc0, hqc⟩ := List.mem_flatten.mp (List.mem_of_getElem? hj)
      obtain ⟨i0, hi0⟩ := List.getElem?_of_mem hc0
      have hx : (is.map (fun i => Bs[i]?))[i0]? = some (some c0) := by rw [hC, List.getElem?_map, hi0]; rfl
      rw [List.getElem?_map] at hx
      cases hi : is[i0]? with
      | none => rw [hi] at hx; cases hx
      | some i =>
        rw [hi] at hx
        have hx : Bs[i]? = some c0 := Option.some.inj hx
        exact q_ndf hnod (i := k) (k := i) (x := B.map Prod.fst) (y := c0.map Prod.fst) (a := q.1) (by rw [List.getElem?_map, h2]; rfl) (by rw [List.getElem?_map, hx]; rfl) (fun e => h1 (by rw [e]; exact List.mem_of_getElem? hi)) (List.mem_map.mpr ⟨q, hqB, rfl⟩) (List.mem_map.mpr ⟨(q.1, c), hqc, rfl⟩)
    · exact absurd h0.lt (Nat.not_lt.mpr hge)
theorem q_fset : ∀ (Bs : List va_W) (i j k : Nat) {B : va_W} {c : Nat × va_E}, Bs[i]? = some B → j < B.length → ((Bs.take i).map List.length).sum + j = k → Bs.flatten.set k c = (Bs.set i (B.set j c)).flatten
  | [], i, _, _, _, _, h, _, _ => by simp at h
  | X :: Bs, 0, j, k, B, c, h, hj, hk => by
    rw [List.getElem?_cons_zero] at h
    cases h
    simp only [List.take_zero, List.map_nil, List.sum_nil, Nat.zero_add] at hk
    subst hk
    rw [List.set_cons_zero, List.flatten_cons, List.flatten_cons, List.set_append_left _ _ hj]
  | X :: Bs, i + 1, j, k, B, c, h, hj, hk => by
    rw [List.getElem?_cons_succ] at h
    simp only [List.take_succ_cons, List.map_cons, List.sum_cons] at hk
    rw [List.set_cons_succ, List.flatten_cons, List.flatten_cons, List.set_append_right _ _ (by omega)]
    rw [q_fset Bs i j (k - X.length) h hj (by omega)]
section QBlk
variable {p : Program} {l : Launch} {e : Env} {R : Room} {s : State} {m : MethodId} {args : Array Value} {below : List Frame} {meth : Method} {c : Code} {H : Heap} {locs : List Loc} {cells slots : Nat} {Q : State → Prop}
variable {pc : Nat} {ls : Array Slot} {rest st0 : List Value} {a : Array Value} {A0 : Nat → Prop} {H0 : Heap}
variable {C : q_C} {X wc : va_W} {Bs cs : List va_W} {Qm : Option Value → va_W → Prop} {cc bytes : ByteArray} {nL maxL index n fr lo : Nat} {Ts wM : List Cond} {own CC host : String} {y : MethodName} {ret : Option FieldType} {As : List Value} {b : Nat} {r0 : Option Value}
theorem q_callB (hr : va_Run p l e R s m args below meth c H locs cells slots 0 0 (F0 m pc ls st0) rest (q_Qc C cs.flatten H.size Qm a) (va_A cs.flatten H.size)) (hP : va_P C.1 vwCl Bs.flatten H) (hD : va_D A0 Bs.flatten) (hS : va_S A0 H0 H locs) (hA : ∀ q, H0.size ≤ q → A0 q)
    (is : List Nat) (hnd : va_nd is = true) (hC : is.map (fun i => Bs[i]?) = cs.map some)
    (kk : ∀ (r : Option Value) (w1 : va_W) (H1 : Heap) (locs1 : List Loc), Qm r w1 → (∀ ds : List va_W, w1 = ds.flatten → ds.map (fun d => d.map Prod.fst) = cs.map (fun d => d.map Prod.fst) → va_P C.1 vwCl (q_pb Bs is ds).flatten H1 ∧ va_D A0 (q_pb Bs is ds).flatten) → va_S A0 H0 H1 locs1 → W p l e R s m args below meth c H1 locs1 cells slots Q (F0 m (pc + 3) ls (r.toList ++ rest))) : W p l e R s m args below meth c H locs cells slots Q (F0 m pc ls st0) := by
  intro T hT X0
  obtain ⟨v, st₀, t, T', L, h0, X', hL, e1, e2, ⟨⟨r, w1, hv, hq, hn, hp⟩, hz, hk⟩, st⟩ := hr T hT X0
  cases hv
  rw [h0] at hz hk
  have hf : ∀ q, va_A cs.flatten H.size q → A0 q := by
    rintro q (⟨j, x, hj⟩ | hge)
    · obtain ⟨c0, hc0, hqc⟩ := List.mem_flatten.mp (List.mem_of_getElem? hj)
      have hcB : c0 ∈ Bs := by
        obtain ⟨i0, hi0⟩ := List.getElem?_of_mem hc0
        have hx : (is.map (fun i => Bs[i]?))[i0]? = some (some c0) := by rw [hC, List.getElem?_map, hi0]; rfl
        rw [List.getElem?_map] at hx
        cases hi : is[i0]? with
        | none => rw [hi] at hx; cases hx
        | some i => rw [hi] at hx; exact List.mem_of_getElem? (Option.some.inj hx)
      exact (q_D_nd.mp hD).2 q (List.mem_map.mpr ⟨(q, x), List.mem_flatten.mpr ⟨c0, hcB, hqc⟩, rfl⟩)
    · exact hA q (Nat.le_trans hS.1 hge)
  obtain ⟨t2, a1, b1⟩ := kk v w1 T'.heap (locs ++ L) hq (fun ds hds hdn => by
      subst hds
      exact q_pb_back hP hD is hnd hC hdn (fun q h1 h2 => by rw [e1]; exact hk q h1 h2) (by rw [e1]; exact hp)) ⟨Nat.le_trans hS.1 (by rw [e1]; exact hz), fun q h1 h2 => by
      rw [e1, hk q (Nat.lt_of_lt_of_le h1 hS.1) (fun h3 => h2 (hf q h3))]
      exact hS.2.1 q h1 h2, fun x hx => (List.mem_append.mp hx).elim (fun h => hS.2.2 x h) (fun h => hf _ (hL x h))⟩ T' rfl X'
  exact ⟨t2, st t2 a1, b1⟩
theorem q_VB (S : CallFix p m c cc nL s args Ts own) (hM : q_M C l y wM fr lo (.ref b :: As) cs.flatten Qm) (cw : CallW R s args own CC index y bytes maxL ret wM (q_R fr lo) 0 0 n) (hK : q_K C s) (hP : va_P C.1 vwCl Bs.flatten H) (hD : va_D A0 Bs.flatten) (hS : va_S A0 H0 H locs) (hA : ∀ q, H0.size ≤ q → A0 q)
    (is : List Nat) (hnd : va_nd is = true) (hC : is.map (fun i => Bs[i]?) = cs.map some) (q0 : Nat) {ci : Nat} {fs : List Value} {q : vw_C} (he : Bs.flatten[q0]? = some (b, .inr (ci, fs))) (hc : vwCl[ci]? = some q) (hq : q.1 = CC)
    (hn : As.length = n) (hsize : ls.size = nL) (hstack : st0 = As.reverse ++ .ref b :: rest) (hW : (rest.map fun v => v.category).sum ≤ 8) (hdg : decode cc pc = .ok (.invokevirtual index, 3)) (hce : cells ≤ R.cells) (hsl : slots ≤ R.slots)
    (kk : ∀ (r : Option Value) (w1 : va_W) (H1 : Heap) (locs1 : List Loc), Qm r w1 → (∀ ds : List va_W, w1 = ds.flatten → ds.map (fun d => d.map Prod.fst) = cs.map (fun d => d.map Prod.fst) → va_P C.1 vwCl (q_pb Bs is ds).flatten H1 ∧ va_D A0 (q_pb Bs is ds).flatten) → va_S A0 H0 H1 locs1 → W p l e R s m args below meth c H1 locs1 cells slots Q (F0 m (pc + 3) ls (r.toList ++ rest))) : W p l e R s m args below meth c H locs cells slots Q (F0 m pc ls st0) := by
  have hsub : ∀ c0 ∈ cs, ∃ i ∈ is, Bs[i]? = some c0 := by
    intro c0 hc0
    obtain ⟨i0, hi0⟩ := List.getElem?_of_mem hc0
    have hx : (is.map (fun i => Bs[i]?))[i0]? = some (some c0) := by rw [hC, List.getElem?_map, hi0]; rfl
    rw [List.getElem?_map] at hx
    cases hi : is[i0]? with
    | none => rw [hi] at hx; cases hx
    | some i => rw [hi] at hx; exact ⟨i, List.mem_of_getElem? hi, Option.some.inj hx⟩
  have hPc : va_P C.1 vwCl cs.flatten H := by
    rw [q_P_mem] at hP ⊢
    intro x hx
    obtain ⟨c0, hc0, hxc⟩ := List.mem_flatten.mp hx
    obtain ⟨i, -, hi⟩ := hsub c0 hc0
    exact hP x (List.mem_flatten.mpr ⟨c0, List.mem_of_getElem? hi, hxc⟩)
  have hDc : va_D (fun _ => True) cs.flatten := by
    rw [q_D_nd]
    refine ⟨?_, fun _ _ => trivial⟩
    have hnod : (Bs.map (fun d => d.map Prod.fst)).flatten.Nodup := by
      have := (q_D_nd.mp hD).1
      rw [List.map_flatten] at this
      exact this
    rw [List.map_flatten]
    have key : ∀ (is : List Nat) (cs : List va_W), va_nd is = true → is.map (fun i => Bs[i]?) = cs.map some → (cs.map (fun d => d.map Prod.fst)).flatten.Nodup := by
      intro is
      induction is with
      | nil => intro cs _ h; cases cs with
        | nil => simp
        | cons => simp at h
      | cons i is ih =>
        intro cs hn h
        cases cs with
        | nil => simp at h
        | cons c0 cs =>
          simp only [List.map_cons, List.cons.injEq] at h
          simp only [va_nd, Bool.and_eq_true, decide_eq_true_eq] at hn
          rw [List.map_cons, List.flatten_cons, List.nodup_append]
          refine ⟨?_, ih cs hn.2 h.2, fun x hx z hz e => ?_⟩
          · have hmem : c0.map Prod.fst ∈ Bs.map (fun d => d.map Prod.fst) := List.mem_map.mpr ⟨c0, List.mem_of_getElem? h.1, rfl⟩
            clear h hn ih
            generalize Bs.map (fun d => d.map Prod.fst) = LL at hnod hmem
            induction LL with
            | nil => simp at hmem
            | cons Y LL ih2 =>
              rw [List.flatten_cons, List.nodup_append] at hnod
              rcases List.mem_cons.mp hmem with h9 | h9
              · rw [h9]; exact hnod.1
              · exact ih2 hnod.2.1 h9
          · obtain ⟨d0, hd0, hzd⟩ := List.mem_flatten.mp hz
            obtain ⟨c1, hc1, rfl⟩ := List.mem_map.mp hd0
            obtain ⟨i1, hi1⟩ := List.getElem?_of_mem hc1
            have hx1 : (is.map (fun i => Bs[i]?))[i1]? = some (some c1) := by rw [h.2, List.getElem?_map, hi1]; rfl
            rw [List.getElem?_map] at hx1
            cases hii : is[i1]? with
            | none => rw [hii] at hx1; cases hx1
            | some k =>
              rw [hii] at hx1
              have hx1 : Bs[k]? = some c1 := Option.some.inj hx1
              exact q_ndf hnod (i := i) (k := k) (x := c0.map Prod.fst) (y := c1.map Prod.fst) (a := x) (by rw [List.getElem?_map, h.1]; rfl) (by rw [List.getElem?_map, hx1]; rfl) (fun e => hn.1 (by rw [e]; exact List.mem_of_getElem? hii)) hx (by rw [e]; exact hzd)
    exact key is cs hnd hC
  have hr := va_recv hK.1 hP hc he
  rw [hq] at hr
  exact q_callB (va_runV (rest := rest) S (hM H.size) cw ⟨q_blind, hr, fun U hU hW2 => ⟨rfl, by rw [hU], by rw [hU]; exact hPc, hK.warm hW2, hDc⟩⟩ rfl hn hsize hstack (lv_room hW) hdg ⟨hce, hsl⟩) hP hD hS hA is hnd hC kk
/-! calls that only read -/
theorem q_V0 (S : CallFix p m c cc nL s args Ts own) (hM : q_M C l y wM fr lo (.ref b :: As) wc (fun r w => r = r0 ∧ w = wc)) (cw : CallW R s args own CC index y bytes maxL ret wM (q_R fr lo) 0 0 n) (hK : q_K C s) (hP : va_P C.1 vwCl X H) (hD : va_D A0 X) (hS : va_S A0 H0 H locs) (hA : ∀ q, H0.size ≤ q → A0 q)
    (is : List Nat) (hnd : va_nd is = true) (hC : is.map (fun i => X[i]?) = wc.map some) (q0 : Nat) {ci : Nat} {fs : List Value} {q : vw_C} (he : X[q0]? = some (b, .inr (ci, fs))) (hc : vwCl[ci]? = some q) (hq : q.1 = CC)
    (hn : As.length = n) (hsize : ls.size = nL) (hstack : st0 = As.reverse ++ .ref b :: rest) (hW : (rest.map fun v => v.category).sum ≤ 8) (hdg : decode cc pc = .ok (.invokevirtual index, 3)) (hce : cells ≤ R.cells) (hsl : slots ≤ R.slots)
    (kk : ∀ (H1 : Heap) (locs1 : List Loc), va_P C.1 vwCl X H1 → va_S A0 H0 H1 locs1 → W p l e R s m args below meth c H1 locs1 cells slots Q (F0 m (pc + 3) ls (r0.toList ++ rest))) : W p l e R s m args below meth c H locs cells slots Q (F0 m pc ls st0) :=
  q_V S hM cw hK hP hD hS hA is hnd hC q0 he hc hq hn hsize hstack hW hdg hce hsl (fun r w1 H1 locs1 hQ hP1 _ hS1 => by
    obtain ⟨rfl, rfl⟩ := hQ
    rw [q_put_id hC] at hP1
    exact kk H1 locs1 hP1 hS1)
theorem q_S0 (S : CallFix p m c cc nL s args Ts own) (hM : q_M C l y wM fr lo As wc (fun r w => r = r0 ∧ w = wc)) (cw : CallB R s args own index y bytes maxL ret wM (q_R fr lo) 0 0 n ∧ (Cond.static y).before args s = true) (hK : q_K C s) (hP : va_P C.1 vwCl X H) (hD : va_D A0 X) (hS : va_S A0 H0 H locs) (hA : ∀ q, H0.size ≤ q → A0 q)
    (is : List Nat) (hnd : va_nd is = true) (hC : is.map (fun i => X[i]?) = wc.map some)
    (hn : As.length = n) (hsize : ls.size = nL) (hstack : st0 = As.reverse ++ rest) (hW : (rest.map fun v => v.category).sum ≤ 8) (hdg : decode cc pc = .ok (.invokestatic index, 3)) (hce : cells ≤ R.cells) (hsl : slots ≤ R.slots)
    (kk : ∀ (H1 : Heap) (locs1 : List Loc), va_P C.1 vwCl X H1 → va_S A0 H0 H1 locs1 → W p l e R s m args below meth c H1 locs1 cells slots Q (F0 m (pc + 3) ls (r0.toList ++ rest))) : W p l e R s m args below meth c H locs cells slots Q (F0 m pc ls st0) :=
  q_S S hM cw hK hP hD hS hA is hnd hC hn hsize hstack hW hdg hce hsl (fun r w1 H1 locs1 hQ hP1 _ hS1 => by
    obtain ⟨rfl, rfl⟩ := hQ
    rw [q_put_id hC] at hP1
    exact kk H1 locs1 hP1 hS1)
theorem q_N0 (S : CallFix p m c cc nL s args Ts own) (hM : q_M C l y wM fr lo As wc (fun r w => r = r0 ∧ w = wc)) (cw : va_CN R s args own index y host bytes maxL ret wM (q_R fr lo) 0 0 n ∧ (Cond.static y).before args s = true ∧ True) (hK : q_K C s) (hP : va_P C.1 vwCl X H) (hD : va_D A0 X) (hS : va_S A0 H0 H locs) (hA : ∀ q, H0.size ≤ q → A0 q)
    (is : List Nat) (hnd : va_nd is = true) (hC : is.map (fun i => X[i]?) = wc.map some)
    (hn : As.length = n) (hsize : ls.size = nL) (hstack : st0 = As.reverse ++ rest) (hW : (rest.map fun v => v.category).sum ≤ 8) (hdg : decode cc pc = .ok (.invokestatic index, 3)) (hce : cells ≤ R.cells) (hsl : slots ≤ R.slots)
    (kk : ∀ (H1 : Heap) (locs1 : List Loc), va_P C.1 vwCl X H1 → va_S A0 H0 H1 locs1 → W p l e R s m args below meth c H1 locs1 cells slots Q (F0 m (pc + 3) ls (r0.toList ++ rest))) : W p l e R s m args below meth c H locs cells slots Q (F0 m pc ls st0) :=
  q_N S hM cw hK hP hD hS hA is hnd hC hn hsize hstack hW hdg hce hsl (fun r w1 H1 locs1 hQ hP1 _ hS1 => by
    obtain ⟨rfl, rfl⟩ := hQ
    rw [q_put_id hC] at hP1
    exact kk H1 locs1 hP1 hS1)
end QBlk
/-- of the cells that are put back only the second is another one -/
theorem q_put_1 {X cs : va_W} {i0 i1 : Nat} {is : List Nat} {c0 c1 d1 : Nat × va_E} (h : (i0 :: i1 :: is).map (fun i => X[i]?) = (c0 :: c1 :: cs).map some) (hn : i1 ∉ is) : q_put X (i0 :: i1 :: is) (c0 :: d1 :: cs) = X.set i1 d1 := by
  simp only [List.map_cons, List.cons.injEq] at h
  have hs : X.set i0 c0 = X := by
    obtain ⟨hi, hc⟩ := List.getElem?_eq_some_iff.mp h.1
    rw [← hc, List.set_getElem_self]
  rw [q_put, hs, q_put]
  apply q_put_id
  rw [← h.2.2]
  apply List.map_congr_left
  intro j hj
  rw [List.getElem?_set_ne (fun e => hn (by rw [e]; exact hj))]
