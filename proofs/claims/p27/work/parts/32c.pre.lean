/-! settings' ranges; a double as an answer -/
def leS (k : Nat) : Nat := if k = 1 then 1 else 0
def grS (k : Nat) : Nat := if k = 1 then 60 else if k = 3 then 1 else 99
section QEndD
variable {p : Program} {l : Launch} {e : Env} {R : Room} {s : State} {m : MethodId} {args : Array Value} {below : List Frame} {meth : Method} {c : Code} {H : Heap} {locs : List Loc} {C : q_C} {ws w1 : va_W} {Q : Option Value → va_W → Prop} {cc : ByteArray} {pc : Nat} {ls : Array Slot}
theorem q_dret {v : UInt64} (hx : p.tables.exec = Jvm.exec) (hb : c.code = cc) (hr : meth.sig.returnType = some .double) (hlocks : meth.locks = false) (hP : va_P C.1 vwCl w1 H) (hS : va_S (q_A ws s) s.heap H locs) (hN : w1.map Prod.fst = ws.map Prod.fst) (hdg : decode cc pc = .ok (.dreturn, 1)) (hQ : Q (some (.double v)) w1) : W p l e R s m args below meth c H locs 0 0 (q_G C below ws Q args s) (F0 m pc ls [.double v]) :=
  W.dret hx hb hr (q_endQ hQ hN hP hS) hS.2.2 hdg hlocks
end QEndD
