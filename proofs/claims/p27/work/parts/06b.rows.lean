/-! a row's contents matter in its range alone -/
theorem q_cellI {c : ClassId} {N : Nat} {f g : Nat → Int32} (h : ∀ k, k < N → f k = g k) : vp_cell c (N, .inl f) = vp_cell c (N, .inl g) := by
  show arrV c N (fun j => .int (f j)) = arrV c N (fun j => .int (g j))
  unfold arrV
  congr 2
  funext j
  exact congrArg Value.int (h j.1 j.2)
theorem q_cellL {c : ClassId} {N : Nat} {f g : Nat → Int64} (h : ∀ k, k < N → f k = g k) : vp_cell c (N, .inr (.inl f)) = vp_cell c (N, .inr (.inl g)) := by
  show arrV c N (fun j => .long (f j)) = arrV c N (fun j => .long (g j))
  unfold arrV
  congr 2
  funext j
  exact congrArg Value.long (h j.1 j.2)
theorem q_swp {D : va_G} {cl : List vw_C} {X : va_W} {H : Heap} {q0 a : Nat} {x y : ClassId × vp_A} (hP : va_P D cl X H) (ha : X[q0]? = some (a, .inl x)) (h : vp_cell x.1 x.2 = vp_cell y.1 y.2) : va_P D cl (X.set q0 (a, .inl y)) H := by
  intro k q hk
  by_cases hkp : k = q0
  · subst hkp
    rw [List.getElem?_set_self (List.getElem?_eq_some_iff.mp ha).1] at hk
    cases hk
    have := hP k _ ha
    show H[a]? = some (vp_cell y.1 y.2)
    rw [← h]
    exact this
  · rw [List.getElem?_set_ne (Ne.symm hkp)] at hk
    exact hP k q hk
theorem q_swpI {D : va_G} {cl : List vw_C} {X : va_W} {H : Heap} {a N : Nat} {c : ClassId} {f g : Nat → Int32} (hP : va_P D cl X H) (q0 : Nat) (ha : X[q0]? = some (a, .inl (c, N, .inl f))) (h : ∀ k, k < N → f k = g k) : va_P D cl (X.set q0 (a, .inl (c, N, .inl g))) H := q_swp hP ha (q_cellI h)
theorem q_swpL {D : va_G} {cl : List vw_C} {X : va_W} {H : Heap} {a N : Nat} {c : ClassId} {f g : Nat → Int64} (hP : va_P D cl X H) (q0 : Nat) (ha : X[q0]? = some (a, .inl (c, N, .inr (.inl f)))) (h : ∀ k, k < N → f k = g k) : va_P D cl (X.set q0 (a, .inl (c, N, .inr (.inl g)))) H := q_swp hP ha (q_cellL h)
section QCopy
variable {p : Program} {l : Launch} {e : Env} {R : Room} {s : State} {m : MethodId} {args : Array Value} {below : List Frame} {meth : Method} {c : Code} {H : Heap} {locs : List Loc} {cells slots : Nat} {Q : State → Prop}
variable {cc : ByteArray} {pc : Nat} {ls : Array Slot} {rest : List Value} {C : q_C} {X : va_W} {A : Nat → Prop} {H0 : Heap} {a a0 : Nat}
theorem q_copyi {N : Nat} {f g : Nat → Int32} {own : String} {index : Nat} (hx : p.tables.exec = Jvm.exec) (hb : c.code = cc) (hml : c.maxLocals = ls.size) (hown : s.vm.findClass own = some m.cls) (hlink : (Cond.methodLink own index arraycopyName).before args s = true) (hnat : (Cond.native arraycopyName).before args s = true) (hstat : (Cond.static arraycopyName).before args s = true) (hini : (Cond.initialized "java/lang/System").before args s = true)
    (hK : q_K C s) (hP : va_P C.1 vwCl X H) (hD : va_D A X) (hS : va_S A H0 H locs) (q0 q1 : Nat) (ha0 : X[q0]? = some (a0, .inl (C.2.1, N, .inl f))) (ha1 : X[q1]? = some (a, .inl (C.2.1, N, .inl g))) (hN : N < 2 ^ 31)
    (hframes : 1 ≤ R.frames) (hlocals : (rest.map fun v => v.category).sum + (nativeFrameWords "java/lang/System" "arraycopy" 5 + 11) ≤ R.locals) (hdg : decode cc pc = .ok (.invokestatic index, 3))
    (kk : ∀ (H1 : Heap) (locs1 : List Loc), va_P C.1 vwCl (X.set q1 (a, .inl (C.2.1, N, .inl f))) H1 → va_D A (X.set q1 (a, .inl (C.2.1, N, .inl f))) → va_S A H0 H1 locs1 → W p l e R s m args below meth c H1 locs1 cells slots Q (F0 m (pc + 3) ls rest)) : W p l e R s m args below meth c H locs cells slots Q (F0 m pc ls (.int (nI N) :: .int (nI 0) :: .ref a :: .int (nI 0) :: .ref a0 :: rest)) := by
  have e0 : (nI 0).toNatClampNeg = 0 := nI_clamp (by decide)
  have eN : (nI N).toNatClampNeg = N := nI_clamp hN
  refine va_copyi hx hb hml hown hlink hnat hstat hini hK.1 hP hD hS q0 q1 0 0 ha0 ha1 rfl rfl rfl (nI_pos (by decide)) (nI_pos (by decide)) (nI_pos hN) (by rw [e0, eN]; omega) (by rw [e0, eN]; omega) (fun i _ => rfl) hframes hlocals hdg (fun H1 locs1 hP1 hD1 hS1 => ?_)
  have hl1 := (List.getElem?_eq_some_iff.mp ha1).1
  have hP2 := q_swpI (g := f) hP1 q1 (List.getElem?_set_self hl1) (fun k hk => by rw [e0, eN, pk_cpy_in (Nat.zero_le k) (by omega)]; congr 1; omega)
  rw [List.set_set] at hP2
  refine kk H1 locs1 hP2 ?_ hS1
  have hD2 := hD1.set (e := .inl (C.2.1, N, .inl f)) (List.getElem?_set_self hl1)
  rw [List.set_set] at hD2
  exact hD2
end QCopy
