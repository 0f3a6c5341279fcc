/-! the saved boards: rows of references -/
theorem q_cellR {c : ClassId} {N : Nat} {f g : Nat → Option Nat} (h : ∀ k, k < N → f k = g k) : vp_cell c (N, .inr (.inr (.inr (.inr f)))) = vp_cell c (N, .inr (.inr (.inr (.inr g)))) := by
  show arrV c N (fun j => va_rf (f j)) = arrV c N (fun j => va_rf (g j))
  unfold arrV
  congr 2
  funext j
  exact congrArg va_rf (h j.1 j.2)
theorem q_swpR {D : va_G} {cl : List vw_C} {X : va_W} {H : Heap} {a N : Nat} {c : ClassId} {f g : Nat → Option Nat} (hP : va_P D cl X H) (q0 : Nat) (ha : X[q0]? = some (a, .inl (c, N, .inr (.inr (.inr (.inr f)))))) (h : ∀ k, k < N → f k = g k) : va_P D cl (X.set q0 (a, .inl (c, N, .inr (.inr (.inr (.inr g)))))) H := q_swp hP ha (q_cellR h)
theorem q_r6 {P : Nat → Prop} (h0 : P 0) (h1 : P 1) (h2 : P 2) (h3 : P 3) (h4 : P 4) (h5 : P 5) : ∀ k, k < 6 → P k := by
  intro k hk
  match k, hk with
  | 0, _ => exact h0
  | 1, _ => exact h1
  | 2, _ => exact h2
  | 3, _ => exact h3
  | 4, _ => exact h4
  | 5, _ => exact h5
section QRef
variable {p : Program} {l : Launch} {e : Env} {R : Room} {s : State} {m : MethodId} {args : Array Value} {below : List Frame} {meth : Method} {c : Code} {H : Heap} {locs : List Loc} {cells slots : Nat} {Q : State → Prop}
variable {cc : ByteArray} {pc : Nat} {ls : Array Slot} {rest : List Value} {C : q_C} {X : va_W} {A : Nat → Prop} {H0 : Heap} {a : Nat}
theorem q_aald {n N v : Nat} {f : Nat → Option Nat} (hx : p.tables.exec = Jvm.exec) (hb : c.code = cc) (hK : q_K C s) (hP : va_P C.1 vwCl X H) (q0 : Nat) (ha : X[q0]? = some (a, .inl (C.2.2.2.2, N, .inr (.inr (.inr (.inr f)))))) (hn : n < N) (hN : N < 2 ^ 31) (hv : f n = some v) (hdg : decode cc pc = .ok (.aaload, 1))
    (kk : W p l e R s m args below meth c H locs cells slots Q (F0 m (pc + 1) ls (.ref v :: rest))) : W p l e R s m args below meth c H locs cells slots Q (F0 m pc ls (.int (nI n) :: .ref a :: rest)) := by
  refine va_aldq hx hb hK.1 hP q0 3 ha rfl (vp_in_nI hn hN) hdg ?_
  rw [nI_clamp (by omega), hv]
  exact kk
theorem q_aast {n N v : Nat} {f : Nat → Option Nat} {vs : List Value} (hx : p.tables.exec = Jvm.exec) (hb : c.code = cc) (hK : q_K C s) (hP : va_P C.1 vwCl X H) (hD : va_D A X) (hS : va_S A H0 H locs) (q0 qk : Nat) (ha : X[q0]? = some (a, .inl (C.2.2.2.2, N, .inr (.inr (.inr (.inr f)))))) (hv : X[qk]? = some (v, .inr (0, vs))) (hn : n < N) (hN : N < 2 ^ 31) (hdg : decode cc pc = .ok (.aastore, 1))
    (kk : ∀ (H1 : Heap) (locs1 : List Loc), va_P C.1 vwCl (X.set q0 (a, .inl (C.2.2.2.2, N, .inr (.inr (.inr (.inr (va_up f n (some v)))))))) H1 → va_D A (X.set q0 (a, .inl (C.2.2.2.2, N, .inr (.inr (.inr (.inr (va_up f n (some v)))))))) → va_S A H0 H1 locs1 → W p l e R s m args below meth c H1 locs1 cells slots Q (F0 m (pc + 1) ls rest)) : W p l e R s m args below meth c H locs cells slots Q (F0 m pc ls (.ref v :: .int (nI n) :: .ref a :: rest)) := by
  refine va_astq hx hb hK.1 hP hD hS q0 3 qk 0 (r := (RX0, TX0, 12)) ha rfl hv rfl (vp_in_nI hn hN) hdg ?_
  rw [nI_clamp (by omega)]
  exact kk
end QRef
/-- the history's own two cells: count, and the row of the saved boards, turned by r -/
abbrev wHa (C : q_C) (hq : Nat → Nat) (ba : Nat → Nat → Nat) (r n : Nat) : va_W := [(hq 0, .inr (1, [.ref (hq 1), .int (nI n)])), (hq 1, .inl (C.2.2.2.2, 6, .inr (.inr (.inr (.inr (fun k => some (ba ((k + r) % 6) 0)))))))]
def upB (ph : Nat → Bd) (k : Nat) (x : Bd) : Nat → Bd := fun j => if j = k then x else ph j
theorem upB_s (ph : Nat → Bd) (k : Nat) (x : Bd) : upB ph k x k = x := by simp [upB]
theorem upB_n {ph : Nat → Bd} {k j : Nat} {x : Bd} (h : j ≠ k) : upB ph k x j = ph j := by simp [upB, h]
/-- the six boards -/
abbrev wBs (C : q_C) (ba : Nat → Nat → Nat) (ph : Nat → Bd) : va_W := wB C (ba 0) (ph 0) ++ wB C (ba 1) (ph 1) ++ wB C (ba 2) (ph 2) ++ wB C (ba 3) (ph 3) ++ wB C (ba 4) (ph 4) ++ wB C (ba 5) (ph 5)
def kR (n r : Nat) : Nat := if n < 6 then r else (r + 1) % 6
def kC (n : Nat) : Nat := if n < 6 then n + 1 else 6
def kJ (n r : Nat) : Nat := if n < 6 then (n + r) % 6 else r
