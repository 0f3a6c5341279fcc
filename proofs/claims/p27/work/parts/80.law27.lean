/-! THE CLAIM OUT OF ONE WALK OF THE LAW'S BODY. Your part is whole_start (and what it stands on); all else here is the same for every law, but numbers. -/
def R_law : String := "RestedArmsLaw"
def lw_P (b : Addr) (xs : List Int32) (args : Array Value) (s : State) : Prop := args = #[.ref b] ∧ s.IntsAt b xs ∧ xs.length ≤ 260 ∧ (Jvm.Cond.and given_1 narrow_1).before args s = true
/-- what a walk over the start with the record d0 says of its end, said of the start itself -/
theorem lw_closed {s t : State} {o : Outcome} {d0 : Drawn} {L : List Loc} {k n : Nat} (hd0 : s.drawn.sameBut d0 lw_cs) (hv : ∃ v, o = .returned v) (hW : (s.setDrawn d0).WarmedH t.vm) (hs : (s.setDrawn d0).sameButNew ({ t with vm := s.vm } : State) L k n) : State.butDraws s t lw_cs (fun t1 => Framed s o t1 L k n) := by
  have h2 : t.drawn = d0 := congrArg State.drawn hs.1
  refine ⟨⟨hv, hW, State.sameButNew.setDrawn hs s.drawn⟩, ?_, by decide⟩
  rw [h2]
  exact hd0
def lw_Q (_ : Array Value) (s : State) (o : Outcome) (t : State) : Prop := o = .returned (some (.int 1)) ∧ State.butDraws s t lw_cs (fun t1 => Framed s o t1 [] 600086 7301442)
def lw_Z (below : List Frame) (a : Array Value) (s : State) : State → Prop := fun t => ∃ o, t.status = .running ∧ Ended t below o ∧ lw_Q a s o t
/-- the law's own end, with 1 on the stack, nothing written that was there before, its room as the claim has it; d0: the record of draws at this point (at the entry s.drawn: begin with 'refine W.base ?_' and 'have hd0 := Drawn.sameBut.refl s.drawn lw_cs') -/
theorem lw_ret {p : Program} {l : Launch} {e : Env} {s : State} {m : MethodId} {below : List Frame} {meth : Method} {c : Code} {b : Nat} {d0 : Drawn} (hd0 : s.drawn.sameBut d0 lw_cs) (hx : p.tables.exec = Jvm.exec) (hb : c.code = code) (hr : meth.sig.returnType = ret) (hlocks : meth.locks = false) {pc : Nat} {H : Heap} {ls : Array Slot} (hdg : decode code pc = .ok (.ireturn, 1)) : W p l e room_1 (s.setDrawn d0) m #[Value.ref b] below meth c H [] 600086 7301442 (lw_Z below #[Value.ref b] s) (F0 m pc ls [.int 1]) := by
  intro T hT X
  obtain ⟨fs, hret, hrun, hended, hW, hframe⟩ := X.leave (v := some (.int 1)) (hlocks := hlocks) (fun h => by rw [hr] at h; cases h)
  have hmeth' : T.vm.method? m = some meth := X.method'
  refine ⟨T.setFrames fs, ?_, .returned (some (.int 1)), hrun, hended, rfl, lw_closed hd0 ⟨_, rfl⟩ hW hframe⟩
  jvm_step X.here [X.here.top, hx, hb, hdg, hmeth', hr, ret, narrow_b1]
  (try refine ⟨rfl, ?_⟩); (try refine ⟨rfl, ?_⟩)
  first | (intro acts; rw [hret _ acts rfl rfl rfl]) | rw [hret _ _ rfl rfl rfl]
  exact Steps.refl _
/-- what holds at the law's entry: the machine, the code, the tables' words (any of lw_tbl by 'hts w (by decide +kernel)'), the script of L ints xs at the cell b, what the Statement gives of the start (any of its parts by flat_of_before) -/
def lw_At (p : Program) (s : State) (m : MethodId) (meth : Method) (c : Code) (b L : Nat) (xs : Nat → Int32) : Prop :=
  p.tables.exec = Jvm.exec ∧ c.code = code ∧ meth.sig.returnType = ret ∧ c.maxLocals = 11 ∧ s.vm.findClass R_law = some m.cls ∧ (∀ w ∈ lw_tbl, w.before #[Value.ref b] s = true) ∧ va_X b L xs s s.heap ∧ b < s.heap.size ∧ meth.locks = false ∧ (Jvm.Cond.and given_1 narrow_1).before #[Value.ref b] s = true
/-! the law's loop -/
abbrev lwA (s : State) : Nat → Prop := fun q => s.heap.size ≤ q
def lwC (p : Program) (l : Launch) (s : State) (m : MethodId) (c : Code) (C : q_C) (sA L : Nat) (xs : Nat → Int32) (T : Nat) : Prop :=
  p.tables.exec = Jvm.exec ∧ c.code = cL_law ∧ c.maxLocals = 11 ∧ s.vm.findClass RL = some m.cls ∧ (∀ w ∈ wsL_law, w.before #[Value.ref sA] s = true) ∧ q_K C s ∧ q_Wo s ∧ q_E (fun q => s.heap.size ≤ q) s s.heap ∧ va_X sA L xs s s.heap ∧ sA < s.heap.size ∧ L ≤ 260 ∧ l.stackTraces = false ∧ T ≤ 30 ∧ 4 * T ≤ L
/-- from any state with boards that are in order, the law goes on from the head of its loop to its end -/
def lwAt (p : Program) (l : Launch) (e : Env) (s : State) (m : MethodId) (below : List Frame) (meth : Method) (c : Code) (Q : State → Prop) (C : q_C) (G : ad_G) (sA T j : Nat) : Prop :=
  ∀ (b : Bd) (ph : Nat → Bd) (r n : Nat) (X : va_W) (cells slots : Nat) (H : Heap) (locs : List Loc) (ls : Array Slot),
    okJ j b → okP (okJ j) ph r n → cells ≤ 100 + j → slots ≤ 2000 + 6 * j → LW C G b ph r n X → va_P C.1 vwCl X H → va_D (lwA s) X → va_S (lwA s) s.heap H locs →
    lv_has ls 11 [(4, .int (nI j)), (0, .ref sA), (1, .ref G.1), (2, .int (nI 1)), (3, .int (nI T))] → W p l e room_1 s m #[Value.ref sA] below meth c H locs cells slots Q (F0 m 32 ls [])
theorem lw_cmp (x : Int64) : lg_cmp x x = 0 := (lg_cmp_eq x x).mpr rfl
theorem lw_ce {cells k : Nat} (h : cells ≤ 100 + k) (hk : k ≤ 31) : cells ≤ room_1.cells := by show cells ≤ 600086; omega
theorem lw_sl {slots k : Nat} (h : slots ≤ 2000 + 6 * k) (hk : k ≤ 31) : slots ≤ room_1.slots := by show slots ≤ 7301442; omega
theorem lw_ce1 {cells k : Nat} (h : cells ≤ 100 + k) (hk : k ≤ 31) : cells + 1 ≤ room_1.cells := by show cells + 1 ≤ 600086; omega
theorem lw_sl1 {slots k : Nat} (h : slots ≤ 2000 + 6 * k) (hk : k ≤ 31) : slots + 6 ≤ room_1.slots := by show slots + 6 ≤ 7301442; omega
section LawLoop
variable {p : Program} {l : Launch} {e : Env} {s : State} {m : MethodId} {below : List Frame} {meth : Method} {c : Code} {Q : State → Prop} {C : q_C} {G : ad_G} {sA L T j : Nat} {xs : Nat → Int32}
variable {b : Bd} {ph : Nat → Bd} {r n : Nat} {X : va_W} {cells slots : Nat} {H : Heap} {locs : List Loc} {ls : Array Slot}
set_option maxHeartbeats 4000000 in
set_option maxRecDepth 100000 in
theorem lw_fin (hc : lwC p l s m c C sA L xs T) (hj : j < T) (K : lwAt p l e s m below meth c Q C G sA T (j + 1)) {v5 v6 v9 v10 : Int32} {v7 : Int64} (hJ : okJ (j + 1) b) (hH : okP (okJ (j + 1)) ph r n) (hce : cells ≤ 100 + (j + 1)) (hsl : slots ≤ 2000 + 6 * (j + 1)) (hX : LW C G b ph r n X) (hP : va_P C.1 vwCl X H) (hD : va_D (lwA s) X) (hS : va_S (lwA s) s.heap H locs) (hl : lv_has ls 11 [(10, .int v10), (9, .int v9), (7, .long v7), (6, .int v6), (5, .int v5), (4, .int (nI j)), (0, .ref sA), (1, .ref G.1), (2, .int (nI 1)), (3, .int (nI T))]) : W p l e room_1 s m #[Value.ref sA] below meth c H locs cells slots Q (F0 m 163 ls []) := by
  obtain ⟨hx, hb, hml, hown, hts, hK, hV, hE, hXs, hsb, hL, hl0, hT30, hT4⟩ := id hc
  have hY := hJ.1
  have hU : sumU b ≤ 9999 := by have := hJ.2; omega
  refine lv_aload_n hx hb dL_law_163 rfl (lv_at hl 7 rfl) ?_
  refine lk_S (rest := []) ⟨hx, hb, hml, hown, hts⟩ (k_L_arms l C G b ph r n hY hU) (va_cwS 1 hts gL_law_L_arms rfl rfl rfl (by decide +kernel) ⟨Nat.le_of_ble_eq_true rfl, Nat.le_of_ble_eq_true rfl⟩) hK hV hE hX hP hD hS (fun _ h => h) hl.1 (Nat.le_of_ble_eq_true rfl) dL_law_164 (lw_ce hce (by omega)) (lw_sl hsl (by omega)) (fun X H locs hX hP hD hS => ?_)
  refine W.eq (g2 := F0 m 167 ls [.int (nI 1)]) rfl ?_
  refine lv_if_eq (tgt := 181) hx hb dL_law_167 (by decide) (fun c => absurd c (by decide)) (fun _ => ?_)
  refine lv_aload_n hx hb dL_law_170 rfl (lv_at hl 7 rfl) ?_
  refine lk_S (rest := []) ⟨hx, hb, hml, hown, hts⟩ (k_L_sums l C G b ph r n hY hU) (va_cwS 1 hts gL_law_L_sums rfl rfl rfl (by decide +kernel) ⟨Nat.le_of_ble_eq_true rfl, Nat.le_of_ble_eq_true rfl⟩) hK hV hE hX hP hD hS (fun _ h => h) hl.1 (Nat.le_of_ble_eq_true rfl) dL_law_171 (lw_ce hce (by omega)) (lw_sl hsl (by omega)) (fun X H locs hX hP hD hS => ?_)
  refine W.eq (g2 := F0 m 174 ls [.int (nI 1)]) rfl ?_
  refine lv_if_eq (tgt := 181) hx hb dL_law_174 (by decide) (fun c => absurd c (by decide)) (fun _ => ?_)
  refine lv_iconst (v := nI 1) hx hb dL_law_177 (by decide) ?_
  refine lv_goto (tgt := 182) hx hb dL_law_178 (by decide) ?_
  refine lv_istore_n (lv' := [(2, .int (nI 1)), (10, .int v10), (9, .int v9), (7, .long v7), (6, .int v6), (5, .int v5), (4, .int (nI j)), (0, .ref sA), (1, .ref G.1), (3, .int (nI T))]) hx hb dL_law_182 rfl hl (by decide) rfl (fun ls hl => ?_)
  refine lv_iinc (v := nI (j + 1)) (lv' := [(4, .int (nI (j + 1))), (2, .int (nI 1)), (10, .int v10), (9, .int v9), (7, .long v7), (6, .int v6), (5, .int v5), (0, .ref sA), (1, .ref G.1), (3, .int (nI T))]) hx hb dL_law_183 hl (k := 6) rfl (nI_1 _) (by decide) rfl (fun ls hl => ?_)
  refine lv_goto (tgt := 32) hx hb dL_law_186 (by decide) ?_
  exact K b ph r n X cells slots H locs ls hJ hH hce hsl hX hP hD hS (lv_sub hl [0, 7, 8, 1, 9] rfl)
set_option maxHeartbeats 4000000 in
set_option maxRecDepth 100000 in
theorem lw_mid (hc : lwC p l s m c C sA L xs T) (hj : j < T) (K : lwAt p l e s m below meth c Q C G sA T (j + 1)) {v5 v10 : Int32} {q u0 : Nat} {v7 : Int64} (hq : q < 16) (hu : u0 ≤ 9999) (h4 : q < 10 → br b = v7) (h5 : 10 ≤ q → q ≤ 13 → u0 < sumU b) (hJ : okJ (j + 1) b) (hH : okP (okJ (j + 1)) ph r n) (hce : cells ≤ 100 + (j + 1)) (hsl : slots ≤ 2000 + 6 * (j + 1)) (hX : LW C G b ph r n X) (hP : va_P C.1 vwCl X H) (hD : va_D (lwA s) X) (hS : va_S (lwA s) s.heap H locs) (hl : lv_has ls 11 [(10, .int v10), (9, .int (nI q)), (7, .long v7), (6, .int (nI u0)), (5, .int v5), (4, .int (nI j)), (0, .ref sA), (1, .ref G.1), (2, .int (nI 1)), (3, .int (nI T))]) : W p l e room_1 s m #[Value.ref sA] below meth c H locs cells slots Q (F0 m 125 ls []) := by
  obtain ⟨hx, hb, hml, hown, hts, hK, hV, hE, hXs, hsb, hL, hl0, hT30, hT4⟩ := id hc
  have hU : sumU b ≤ 9999 := by have := hJ.2; omega
  refine lv_iload hx hb dL_law_125 (lv_at hl 1 rfl) ?_
  refine lv_bipush (v := nI 10) hx hb dL_law_127 (by decide) ?_
  refine lv_icmp_ge (tgt := 146) hx hb dL_law_129 (by decide) (fun c9 => ?_) (fun c9 => ?_)
  · have c9 : 10 ≤ q := q_nge (by omega) (by decide) c9
    refine lv_iload hx hb dL_law_146 (lv_at hl 1 rfl) ?_
    refine lv_bipush (v := nI 13) hx hb dL_law_148 (by decide) ?_
    refine lv_icmp_gt (tgt := 163) hx hb dL_law_150 (by decide) (fun c13 => ?_) (fun c13 => ?_)
    · exact lw_fin hc hj K hJ hH hce hsl hX hP hD hS hl
    · have c13 : q ≤ 13 := q_ngt' (by omega) (by decide) c13
      refine lv_aload_n hx hb dL_law_153 rfl (lv_at hl 7 rfl) ?_
      refine lv_iconst (v := nI 0) hx hb dL_law_154 (by decide) ?_
      refine lk_V (As := [.int (nI 0)]) (rest := []) ⟨hx, hb, hml, hown, hts⟩ (k_count l C G b ph r n 0 (by decide)) (cwV 1 hts gL_law_X4_count rfl rfl rfl (by decide +kernel) ⟨Nat.le_of_ble_eq_true rfl, Nat.le_of_ble_eq_true rfl⟩) hK hV hE hX hP hD hS (fun _ h => h) rfl hl.1 rfl (Nat.le_of_ble_eq_true rfl) dL_law_155 (lw_ce hce (by omega)) (lw_sl hsl (by omega)) (fun X H locs hX hP hD hS => ?_)
      refine W.eq (g2 := F0 m 158 ls [.int (nI (sumU b))]) rfl ?_
      refine lv_iload hx hb dL_law_158 (lv_at hl 3 rfl) ?_
      refine lv_icmp_le (tgt := 181) hx hb dL_law_160 (by decide) (fun c16 => ?_) (fun _ => ?_)
      · exact absurd (q_nle (by omega) (by omega) c16) (Nat.not_le.mpr (h5 c9 c13))
      · exact lw_fin hc hj K hJ hH hce hsl hX hP hD hS hl
  · have c9 : q < 10 := q_nge' (by omega) (by decide) c9
    refine lv_aload_n hx hb dL_law_132 rfl (lv_at hl 7 rfl) ?_
    refine lv_iconst (v := nI 0) hx hb dL_law_133 (by decide) ?_
    refine lk_V (As := [.int (nI 0)]) (rest := []) ⟨hx, hb, hml, hown, hts⟩ (k_sum l C G b ph r n 0 (by decide)) (cwV 1 hts gL_law_X4_sum rfl rfl rfl (by decide +kernel) ⟨Nat.le_of_ble_eq_true rfl, Nat.le_of_ble_eq_true rfl⟩) hK hV hE hX hP hD hS (fun _ h => h) rfl hl.1 rfl (Nat.le_of_ble_eq_true rfl) dL_law_134 (lw_ce hce (by omega)) (lw_sl hsl (by omega)) (fun X H locs hX hP hD hS => ?_)
    refine W.eq (g2 := F0 m 137 ls [.long (br b)]) rfl ?_
    refine lv_lload hx hb dL_law_137 (lv_at hl 2 rfl) ?_
    refine W.lcmp hx hb dL_law_139 ?_
    refine lv_if_ne (tgt := 181) hx hb dL_law_140 (by decide) (fun c14 => absurd (by rw [h4 c9]; exact lw_cmp _) c14) (fun _ => ?_)
    refine lv_goto (tgt := 163) hx hb dL_law_143 (by decide) ?_
    exact lw_fin hc hj K hJ hH hce hsl hX hP hD hS hl
set_option maxHeartbeats 4000000 in
set_option maxRecDepth 100000 in
theorem lw_step (hc : lwC p l s m c C sA L xs T) (hj : j < T) (K : lwAt p l e s m below meth c Q C G sA T (j + 1)) (hJ : okJ j b) (hH : okP (okJ j) ph r n) (hce : cells ≤ 100 + j) (hsl : slots ≤ 2000 + 6 * j) (hX : LW C G b ph r n X) (hP : va_P C.1 vwCl X H) (hD : va_D (lwA s) X) (hS : va_S (lwA s) s.heap H locs) (hl : lv_has ls 11 [(4, .int (nI j)), (0, .ref sA), (1, .ref G.1), (2, .int (nI 1)), (3, .int (nI T))]) : W p l e room_1 s m #[Value.ref sA] below meth c H locs cells slots Q (F0 m 38 ls []) := by
  obtain ⟨hx, hb, hml, hown, hts, hK, hV, hE, hXs, hsb, hL, hl0, hT30, hT4⟩ := id hc
  have hnA : ¬ lwA s sA := Nat.not_le.mpr hsb
  have hU := hJ.2
  refine lv_iload_n hx hb dL_law_38 rfl (lv_at hl 3 rfl) ?_
  refine lv_if_eq (tgt := 189) hx hb dL_law_39 (by decide) (fun c => absurd c (by decide)) (fun _ => ?_)
  refine lv_aload_n hx hb dL_law_42 rfl (lv_at hl 2 rfl) ?_
  refine lv_iconst (v := nI 3) hx hb dL_law_43 (by decide) ?_
  refine lk_V (As := [.int (nI 3)]) (rest := []) ⟨hx, hb, hml, hown, hts⟩ (k_count l C G b ph r n 3 (by decide)) (cwV 1 hts gL_law_X4_count rfl rfl rfl (by decide +kernel) ⟨Nat.le_of_ble_eq_true rfl, Nat.le_of_ble_eq_true rfl⟩) hK hV hE hX hP hD hS (fun _ h => h) rfl hl.1 rfl (Nat.le_of_ble_eq_true rfl) dL_law_44 (lw_ce hce (by omega)) (lw_sl hsl (by omega)) (fun X H locs hX hP hD hS => ?_)
  refine W.eq (g2 := F0 m 47 ls [.int (nI n)]) rfl ?_
  refine lv_istore (lv' := [(5, .int (nI n)), (4, .int (nI j)), (0, .ref sA), (1, .ref G.1), (2, .int (nI 1)), (3, .int (nI T))]) hx hb dL_law_47 hl (by decide) rfl (fun ls hl => ?_)
  refine lv_aload_n hx hb dL_law_49 rfl (lv_at hl 3 rfl) ?_
  refine lv_iconst (v := nI 0) hx hb dL_law_50 (by decide) ?_
  refine lk_V (As := [.int (nI 0)]) (rest := []) ⟨hx, hb, hml, hown, hts⟩ (k_count l C G b ph r n 0 (by decide)) (cwV 1 hts gL_law_X4_count rfl rfl rfl (by decide +kernel) ⟨Nat.le_of_ble_eq_true rfl, Nat.le_of_ble_eq_true rfl⟩) hK hV hE hX hP hD hS (fun _ h => h) rfl hl.1 rfl (Nat.le_of_ble_eq_true rfl) dL_law_51 (lw_ce hce (by omega)) (lw_sl hsl (by omega)) (fun X H locs hX hP hD hS => ?_)
  refine W.eq (g2 := F0 m 54 ls [.int (nI (sumU b))]) rfl ?_
  refine lv_istore (lv' := [(6, .int (nI (sumU b))), (5, .int (nI n)), (4, .int (nI j)), (0, .ref sA), (1, .ref G.1), (2, .int (nI 1)), (3, .int (nI T))]) hx hb dL_law_54 hl (by decide) rfl (fun ls hl => ?_)
  refine lv_aload_n hx hb dL_law_56 rfl (lv_at hl 4 rfl) ?_
  refine lv_iconst (v := nI 0) hx hb dL_law_57 (by decide) ?_
  refine lk_V (As := [.int (nI 0)]) (rest := []) ⟨hx, hb, hml, hown, hts⟩ (k_sum l C G b ph r n 0 (by decide)) (cwV 1 hts gL_law_X4_sum rfl rfl rfl (by decide +kernel) ⟨Nat.le_of_ble_eq_true rfl, Nat.le_of_ble_eq_true rfl⟩) hK hV hE hX hP hD hS (fun _ h => h) rfl hl.1 rfl (Nat.le_of_ble_eq_true rfl) dL_law_58 (lw_ce hce (by omega)) (lw_sl hsl (by omega)) (fun X H locs hX hP hD hS => ?_)
  refine W.eq (g2 := F0 m 61 ls [.long (br b)]) rfl ?_
  refine lv_lstore (lv' := [(7, .long (br b)), (6, .int (nI (sumU b))), (5, .int (nI n)), (4, .int (nI j)), (0, .ref sA), (1, .ref G.1), (2, .int (nI 1)), (3, .int (nI T))]) hx hb dL_law_61 hl (by decide) rfl (fun ls hl => ?_)
  refine lv_aload_n hx hb dL_law_63 rfl (lv_at hl 4 rfl) ?_
  refine lv_iconst (v := nI 4) hx hb dL_law_64 (by decide) ?_
  refine lv_iload hx hb dL_law_65 (lv_at hl 3 rfl) ?_
  refine lv_imul hx hb dL_law_67 ?_
  refine q_ti (y := nI (4 * j)) (pk_mul _ _) ?_
  refine lk_cell (k := 4 * j) (rest := []) ⟨hx, hb, hml, hown, hts⟩ (by omega) (by omega) (va_cwS 2 hts gL_law_L_cell rfl rfl rfl (by decide +kernel) ⟨Nat.le_of_ble_eq_true rfl, Nat.le_of_ble_eq_true rfl⟩) hK hXs hsb hnA hP hD hS (fun _ h => h) rfl hl.1 rfl (Nat.le_of_ble_eq_true rfl) dL_law_68 (lw_ce hce (by omega)) (lw_sl hsl (by omega)) (fun H locs hP hS => ?_)
  refine W.eq (g2 := F0 m 71 ls [.int (xs (4 * j))]) rfl ?_
  refine lv_bipush (v := nI 16) hx hb dL_law_71 (by decide) ?_
  refine q_S0 (As := [.int (xs (4 * j)), .int (nI 16)]) (rest := []) ⟨hx, hb, hml, hown, hts⟩ (c_L_low l C (xs (4 * j)) 16 (by decide) (by decide)) (va_cwS 2 hts gL_law_L_low rfl rfl rfl (by decide +kernel) ⟨Nat.le_of_ble_eq_true rfl, Nat.le_of_ble_eq_true rfl⟩) hK hP hD hS (fun _ h => h) [] (by decide) rfl rfl hl.1 rfl (Nat.le_of_ble_eq_true rfl) dL_law_73 (lw_ce hce (by omega)) (lw_sl hsl (by omega)) (fun H locs hP hS => ?_)
  refine W.eq (g2 := F0 m 76 ls [.int (nI (lowN (xs (4 * j)) 16))]) rfl ?_
  refine lv_istore (lv' := [(9, .int (nI (lowN (xs (4 * j)) 16))), (7, .long (br b)), (6, .int (nI (sumU b))), (5, .int (nI n)), (4, .int (nI j)), (0, .ref sA), (1, .ref G.1), (2, .int (nI 1)), (3, .int (nI T))]) hx hb dL_law_76 hl (by decide) rfl (fun ls hl => ?_)
  refine lv_aload_n hx hb dL_law_78 rfl (lv_at hl 6 rfl) ?_
  refine lv_aload_n hx hb dL_law_79 rfl (lv_at hl 5 rfl) ?_
  refine lv_iconst (v := nI 4) hx hb dL_law_80 (by decide) ?_
  refine lv_iload hx hb dL_law_81 (lv_at hl 4 rfl) ?_
  refine lv_imul hx hb dL_law_83 ?_
  refine q_ti (y := nI (4 * j)) (pk_mul _ _) ?_
  refine lk_act (rest := []) ⟨hx, hb, hml, hown, hts⟩ (k_L_act l hl0 C G b ph r n j sA L xs (4 * j) hJ hH (by omega) (by omega) hL) (va_cwS 3 hts gL_law_L_act rfl rfl rfl (by decide +kernel) ⟨Nat.le_of_ble_eq_true rfl, Nat.le_of_ble_eq_true rfl⟩) hK hV hE hXs hsb hnA hX hP hD hS (fun _ h => h) hl.1 (Nat.le_of_ble_eq_true rfl) dL_law_84 (lw_ce1 hce (by omega)) (lw_sl1 hsl (by omega)) (fun told b' ph' r' n' X H locs hq hX hP hD hS => ?_)
  refine W.eq (g2 := F0 m 87 ls [.int told]) rfl ?_
  refine lv_istore (lv' := [(10, .int told), (9, .int (nI (lowN (xs (4 * j)) 16))), (7, .long (br b)), (6, .int (nI (sumU b))), (5, .int (nI n)), (4, .int (nI j)), (0, .ref sA), (1, .ref G.1), (2, .int (nI 1)), (3, .int (nI T))]) hx hb dL_law_87 hl (by decide) rfl (fun ls hl => ?_)
  obtain ⟨hJ1, hH1, hq3, hq4, hq5⟩ := hq
  have hce : cells + 1 ≤ 100 + (j + 1) := by omega
  have hsl : slots + 6 ≤ 2000 + 6 * (j + 1) := by omega
  have hs16 := lowN_lt (xs (4 * j)) (n := 16) (by decide)
  refine lv_iload hx hb dL_law_89 (lv_at hl 0 rfl) ?_
  refine lv_if_ge (tgt := 125) hx hb dL_law_91 (by decide) (fun _ => ?_) (fun c91 => ?_)
  · exact lw_mid hc hj K hs16 (by omega) hq4 hq5 hJ1 hH1 hce hsl hX hP hD hS hl
  · obtain ⟨e1, e2⟩ := hq3 c91
    refine lv_aload_n hx hb dL_law_94 rfl (lv_at hl 7 rfl) ?_
    refine lv_iconst (v := nI 3) hx hb dL_law_95 (by decide) ?_
    refine lk_V (As := [.int (nI 3)]) (rest := []) ⟨hx, hb, hml, hown, hts⟩ (k_count l C G b' ph' r' n' 3 (by decide)) (cwV 1 hts gL_law_X4_count rfl rfl rfl (by decide +kernel) ⟨Nat.le_of_ble_eq_true rfl, Nat.le_of_ble_eq_true rfl⟩) hK hV hE hX hP hD hS (fun _ h => h) rfl hl.1 rfl (Nat.le_of_ble_eq_true rfl) dL_law_96 (lw_ce hce (by omega)) (lw_sl hsl (by omega)) (fun X H locs hX hP hD hS => ?_)
    refine W.eq (g2 := F0 m 99 ls [.int (nI n')]) rfl ?_
    refine lv_iload hx hb dL_law_99 (lv_at hl 4 rfl) ?_
    refine lv_icmp_ne (tgt := 181) hx hb dL_law_101 (by decide) (fun c => absurd (congrArg nI e1) c) (fun _ => ?_)
    refine lv_aload_n hx hb dL_law_104 rfl (lv_at hl 7 rfl) ?_
    refine lv_iconst (v := nI 0) hx hb dL_law_105 (by decide) ?_
    refine lk_V (As := [.int (nI 0)]) (rest := []) ⟨hx, hb, hml, hown, hts⟩ (k_count l C G b' ph' r' n' 0 (by decide)) (cwV 1 hts gL_law_X4_count rfl rfl rfl (by decide +kernel) ⟨Nat.le_of_ble_eq_true rfl, Nat.le_of_ble_eq_true rfl⟩) hK hV hE hX hP hD hS (fun _ h => h) rfl hl.1 rfl (Nat.le_of_ble_eq_true rfl) dL_law_106 (lw_ce hce (by omega)) (lw_sl hsl (by omega)) (fun X H locs hX hP hD hS => ?_)
    refine W.eq (g2 := F0 m 109 ls [.int (nI (sumU b'))]) rfl ?_
    refine lv_iload hx hb dL_law_109 (lv_at hl 3 rfl) ?_
    refine lv_icmp_ne (tgt := 181) hx hb dL_law_111 (by decide) (fun c => absurd (congrArg (fun z => nI (sumU z)) e2) c) (fun _ => ?_)
    refine lv_aload_n hx hb dL_law_114 rfl (lv_at hl 7 rfl) ?_
    refine lv_iconst (v := nI 0) hx hb dL_law_115 (by decide) ?_
    refine lk_V (As := [.int (nI 0)]) (rest := []) ⟨hx, hb, hml, hown, hts⟩ (k_sum l C G b' ph' r' n' 0 (by decide)) (cwV 1 hts gL_law_X4_sum rfl rfl rfl (by decide +kernel) ⟨Nat.le_of_ble_eq_true rfl, Nat.le_of_ble_eq_true rfl⟩) hK hV hE hX hP hD hS (fun _ h => h) rfl hl.1 rfl (Nat.le_of_ble_eq_true rfl) dL_law_116 (lw_ce hce (by omega)) (lw_sl hsl (by omega)) (fun X H locs hX hP hD hS => ?_)
    refine W.eq (g2 := F0 m 119 ls [.long (br b')]) rfl ?_
    refine lv_lload hx hb dL_law_119 (lv_at hl 2 rfl) ?_
    refine W.lcmp hx hb dL_law_121 ?_
    refine lv_if_ne (tgt := 181) hx hb dL_law_122 (by decide) (fun c => absurd (by rw [e2]; exact lw_cmp _) c) (fun _ => ?_)
    exact lw_mid hc hj K hs16 (by omega) hq4 hq5 hJ1 hH1 hce hsl hX hP hD hS hl
set_option maxHeartbeats 4000000 in
theorem lw_end (hc : lwC p l s m c C sA L xs T) (hr : meth.sig.returnType = ret) (hlocks : meth.locks = false) (hj : T ≤ j) (hjT : j ≤ T) (hce : cells ≤ 100 + j) (hsl : slots ≤ 2000 + 6 * j) (hS : va_S (lwA s) s.heap H locs) (hl : lv_has ls 11 [(4, .int (nI j)), (0, .ref sA), (1, .ref G.1), (2, .int (nI 1)), (3, .int (nI T))]) : W p l e room_1 s m #[Value.ref sA] below meth c H locs cells slots (lw_Z below #[Value.ref sA] s) (F0 m 32 ls []) := by
  obtain ⟨hx, hb, hml, hown, hts, hK, hV, hE, hXs, hsb, hL, hl0, hT30, hT4⟩ := id hc
  refine lv_iload hx hb dL_law_32 (lv_at hl 0 rfl) ?_
  refine lv_iload_n hx hb dL_law_34 rfl (lv_at hl 4 rfl) ?_
  refine lv_icmp_ge (tgt := 189) hx hb dL_law_35 (by decide) (fun _ => ?_) (fun q => absurd (q_nge' (by omega) (by omega) q) (Nat.not_lt.mpr hj))
  refine va_forget hS.2.2 ?_
  refine W.widen (k := 600086) (n := 7301442) (by omega) (by omega) ?_
  refine lv_iload_n hx hb dL_law_189 rfl (lv_at hl 3 rfl) ?_
  exact lw_ret (d0 := s.drawn) (Drawn.sameBut.refl s.drawn lw_cs) hx hb hr hlocks dL_law_190
set_option maxHeartbeats 4000000 in
theorem lw_loop (hc : lwC p l s m c C sA L xs T) (hr : meth.sig.returnType = ret) (hlocks : meth.locks = false) : ∀ k j : Nat, T ≤ j + k → j ≤ T → lwAt p l e s m below meth c (lw_Z below #[Value.ref sA] s) C G sA T j := by
  intro k
  induction k with
  | zero =>
    intro j h1 h2 b ph r n X cells slots H locs ls hJ hH hce hsl hX hP hD hS hl
    exact lw_end hc hr hlocks (by omega) h2 hce hsl hS hl
  | succ k ih =>
    intro j h1 h2 b ph r n X cells slots H locs ls hJ hH hce hsl hX hP hD hS hl
    rcases Nat.lt_or_ge j T with hj | hj
    · obtain ⟨hx, hb, hml, hown, hts, hK, hV, hE, hXs, hsb, hL, hl0, hT30, hT4⟩ := id hc
      refine lv_iload hx hb dL_law_32 (lv_at hl 0 rfl) ?_
      refine lv_iload_n hx hb dL_law_34 rfl (lv_at hl 4 rfl) ?_
      refine lv_icmp_ge (tgt := 189) hx hb dL_law_35 (by decide) (fun q => absurd (q_nge (by omega) (by omega) q) (Nat.not_le.mpr hj)) (fun _ => ?_)
      exact lw_step hc hj (ih (j + 1) (by omega) hj) hJ hH hce hsl hX hP hD hS hl
    · exact lw_end hc hr hlocks (by omega) h2 hce hsl hS hl
end LawLoop
