/-! the law's own frame -/
def aL (s : State) : Nat → Prop := fun q => s.heap.size ≤ q
theorem V_true {p : Program} {l : Launch} {e : Env} {s : State} {m : MethodId} {below : List Frame} {meth : Method} {c : Code} {nme : String} {Ts : List Cond} {D : va_G} {cy : Nat → ClassId} {b cells slots pc : Nat} {w : va_W} {L : List (Nat × Value)} (F : Fx p s m #[.ref b] meth c cL_law 13 RL nme Ts ret D cy (aL s)) (hc : cells ≤ 621474) (hs : slots ≤ 7237045) (d : decode cL_law pc = .ok (.ireturn, 1)) : V p l e room_1 s m #[.ref b] below meth c 13 D (aL s) cells slots (lw_Z below #[.ref b] s) w L [.int 1] pc := fun H locs ls hP hD hS hl =>
  W.widen hc hs (va_forget hS.2.2 (lw_ret (d0 := s.drawn) (Drawn.sameBut.refl s.drawn lw_cs) F.exec F.code F.fret F.locks d))
