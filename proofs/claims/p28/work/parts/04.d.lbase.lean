/-! the law's methods: arrays of their own, the script beside the world -/
abbrev SQ5 : Type := Nat → Int32
def wQ5 (cy : Nat → ClassId) (a : Nat → Nat) (v : SQ5) : va_W := [(a 0, .inl (cy 0, 5, .inl v))]
theorem fstQ5 {cy : Nat → ClassId} {a : Nat → Nat} {v v2 : SQ5} : (wQ5 cy a v).map (·.1) = (wQ5 cy a v2).map (·.1) := rfl
abbrev SQ18 : Type := Nat → Int32
def wQ18 (cy : Nat → ClassId) (a : Nat → Nat) (v : SQ18) : va_W := [(a 0, .inl (cy 0, 18, .inl v))]
theorem fstQ18 {cy : Nat → ClassId} {a : Nat → Nat} {v v2 : SQ18} : (wQ18 cy a v).map (·.1) = (wQ18 cy a v2).map (·.1) := rfl
abbrev SQ8 : Type := Nat → Int32
def wQ8 (cy : Nat → ClassId) (a : Nat → Nat) (v : SQ8) : va_W := [(a 0, .inl (cy 0, 8, .inl v))]
theorem fstQ8 {cy : Nat → ClassId} {a : Nat → Nat} {v v2 : SQ8} : (wQ8 cy a v).map (·.1) = (wQ8 cy a v2).map (·.1) := rfl
/-- what a method that may throw returns, when it returns -/
def rt {α β : Type} (x : Option (α ⊕ β)) : Option β := match x with
  | some (.inr q) => some q
  | _ => none
theorem rt_of {α β : Type} {x : Option (α ⊕ β)} {q : β} (h : rt x = some q) : x = some (.inr q) := by
  cases x with
  | none => cases h
  | some y =>
    cases y with
    | inl e => cases h
    | inr r => rw [show r = q from Option.some.inj h]
theorem rt_some {α β : Type} {q : β} : rt (some (.inr q) : Option (α ⊕ β)) = some q := rfl
def ok_PreS (D : va_G) (cy : Nat → ClassId) (b n : Nat) (xs : Nat → Int32) (as : List Value) (w : va_W) (sz : Nat) : Array Value → State → Prop :=
  va_Pc as (fun U => (U.heap.size = sz ∧ va_P D vwCl w U.heap ∧ va_K D vwCl (tyl cy) U ∧ va_D (fun _ => True) w ∧ nestG U) ∧ va_X b n xs U U.heap ∧ b < U.heap.size ∧ ¬ va_A w sz b)
theorem ok_blindS (D : va_G) (cy : Nat → ClassId) (b n : Nat) (xs : Nat → Int32) (as : List Value) (w : va_W) (sz : Nat) : FrameBlind (ok_PreS D cy b n xs as w sz) := by
  intro a U g mk q
  obtain ⟨q0, ⟨q1, qP, qK, qD, qN⟩, qX, qb, qA⟩ := q
  exact ⟨q0, ⟨q1, qP, va_K.moved (u := U) (U := U.calling g mk a) (Vm.Alike.refl U.vm) qK, qD, nestG.same (u := U) (U := U.calling g mk a) rfl qN⟩, va_X.moved (u := U) (U := U.calling g mk a) (Vm.Alike.refl U.vm) qX, qb, qA⟩
/-- like okM; the array b of n ints xs lies beside the world and stays as it is -/
def okS (l : Launch) (y : MethodName) (ws : List Cond) (rm : Room) (D : va_G) (cy : Nat → ClassId) (b n : Nat) (xs : Nat → Int32) (as : List Value) (w w' : va_W) (out : Option Value) : Prop :=
  ∀ sz : Nat, Met l y ws rm (ok_PreS D cy b n xs as w sz) (ok_Q D w' out (va_A w sz)) 0 0 (va_A w sz)
def FxS (s : State) (A : Nat → Prop) (b n : Nat) (xs : Nat → Int32) : Prop := va_X b n xs s s.heap ∧ b < s.heap.size ∧ ¬ A b
theorem okS_of {l : Launch} {y : MethodName} {ws ws' : List Cond} {rm : Room} {maxL : Nat} {own nme : String} {cc : ByteArray} {ret : Option FieldType} {D : va_G} {cy : Nat → ClassId} {b n : Nat} {xs : Nat → Int32} {as : List Value} {w w' : va_W} {out : Option Value} (hy : plainName y.cls = true) (hw : ws = Cond.code y cc maxL ret :: ws') (hcls : y.cls = own) (hnm : y.name = nme) (hlen : (lg_sl as).length ≤ maxL)
    (body : ∀ (p : Program) (e : Env) (s : State) (m : MethodId) (args : Array Value) (below : List Frame) (meth : Method) (c : Code) (A : Nat → Prop), Fx p s m args meth c cc maxL own nme ws ret D cy A → FxS s A b n xs → V p l e rm s m args below meth c maxL D A 0 0 (MQ below (ok_Q D w' out A) args s 0 0 A) w (lv_args 0 as) [] 0) : okS l y ws rm D cy b n xs as w w' out := by
  intro sz
  refine Met.ofW (cc := cc) (maxL := maxL) (ret := ret) hy hw ?_
  intro p e s m args below meth c s₁ B hml hv
  obtain ⟨rfl, ⟨hsz, hP, hK, hD0, hNe⟩, hX, hbl, hbA⟩ := hv
  have hown : s.vm.findClass y.cls = some m.cls := findClass_of_methodNamed B.named
  have hts := atoms_spec (ws := ws) B.pre
  have hnam := (name_of_methodNamed B.named B.method).1
  subst hsz
  rw [lg_entry_eq]
  exact body p e s m _ below meth c (va_A w s.heap.size) ⟨B.exec, B.bytes, hml, hcls ▸ hown, hts, B.returns, B.notSynchronized, hK, fun q h => Or.inr h, hnm ▸ hnam, hNe⟩ ⟨hX, hbl, hbA⟩ s.heap [] _ hP hD0.self va_S.rf (lv_entry as hlen)
section VL
variable {p : Program} {l : Launch} {e : Env} {R : Room} {s : State} {m : MethodId} {args : Array Value} {below : List Frame} {meth : Method} {c : Code} {nL : Nat} {own nme : String} {Ts : List Cond} {ret : Option FieldType} {D : va_G} {cy : Nat → ClassId} {A : Nat → Prop} {cells slots : Nat} {Q : State → Prop} {w : va_W} {L : List (Nat × Value)} {rest : List Value} {pc : Nat} {cc : ByteArray}
theorem V_idiv (F : Fx p s m args meth c cc nL own nme Ts ret D cy A) {x y : Int32} (d : decode cc pc = .ok (.idiv, 1)) (hne : ¬ y = 0) (k : V p l e R s m args below meth c nL D A cells slots Q w L (.int (x / y) :: rest) (pc + 1)) : V p l e R s m args below meth c nL D A cells slots Q w L (.int y :: .int x :: rest) pc := fun H locs ls hP hD hS hl => lv_idiv F.exec F.code d hne (k H locs ls hP hD hS hl)
theorem V_sld (F : Fx p s m args meth c cc nL own nme Ts ret D cy A) {b n : Nat} {xs : Nat → Int32} (G : FxS s A b n xs) {i : Int32} (hin : vp_in i n) (d : decode cc pc = .ok (.iaload, 1)) (k : V p l e R s m args below meth c nL D A cells slots Q w L (.int (xs i.toNatClampNeg) :: rest) (pc + 1)) : V p l e R s m args below meth c nL D A cells slots Q w L (.int i :: .ref b :: rest) pc := fun H locs ls hP hD hS hl => va_sld F.exec F.code G.1 G.2.1 G.2.2 hS hin d (k H locs ls hP hD hS hl)
theorem V_slen (F : Fx p s m args meth c cc nL own nme Ts ret D cy A) {b n : Nat} {xs : Nat → Int32} (G : FxS s A b n xs) (d : decode cc pc = .ok (.arraylength, 1)) (k : V p l e R s m args below meth c nL D A cells slots Q w L (.int (nI n) :: rest) (pc + 1)) : V p l e R s m args below meth c nL D A cells slots Q w L (.ref b :: rest) pc := fun H locs ls hP hD hS hl => va_slen F.exec F.code G.1 G.2.1 G.2.2 hS d (k H locs ls hP hD hS hl)
theorem ok_preS {b n : Nat} {xs : Nat → Int32} {as : List Value} {wc : va_W} {is : List Nat} {H : Heap} {locs : List Loc} (G : FxS s A b n xs) (hN : nestG s) (hK : va_K D vwCl (tyl cy) s) (hnew : ∀ q : Nat, s.heap.size ≤ q → A q) (hP : va_P D vwCl w H) (hD : va_D A w) (hS : va_S A s.heap H locs) (hC : is.map (fun i => w[i]?) = wc.map some) (hn : va_nd is = true) : ∀ U : State, U.heap = H → s.WarmedH U.vm → ok_PreS D cy b n xs as wc H.size as.toArray U :=
  fun U hU hW => by
    obtain ⟨a1, a2⟩ := ok_pre (as := as) hN hK hP hD hC hn U hU hW
    refine ⟨a1, a2, ?_, ?_, fun z => G.2.2 (va_free hD hS hnew is hC b z)⟩
    · rw [hU]
      exact (G.1.kept (hS.2.1 b G.2.1 G.2.2)).moved hW.alike
    · rw [hU]
      exact Nat.lt_of_lt_of_le G.2.1 hS.1
/-- a static method over a world -/
theorem V_SM (F : Fx p s m args meth c cc nL own nme Ts ret D cy A) {y : MethodName} {wy : List Cond} {rm : Room} {index n maxL : Nat} {bytes : ByteArray} {ry : Option FieldType} {As : List Value} {wc wc' w2 : va_W} {out : Option Value} {st st2 : List Value} {is : List Nat} {put : va_W → va_W}
    (hM : okM l y wy rm D cy As wc wc' out) (cw : CallB R s args own index y bytes maxL ry wy rm 0 0 n ∧ (Cond.static y).before args s = true) (hn : As.length = n) (d : decode cc pc = .ok (.invokestatic index, 3)) (hfit : Fit w is wc put) (hf : wc'.map (·.1) = wc.map (·.1)) (hcat : (rest.map fun v => v.category).sum ≤ 8) (hcl : cells ≤ R.cells) (hsl : slots ≤ R.slots) (hst : st = As.reverse ++ rest) (hst2 : out.toList ++ rest = st2) (hw : put wc' = w2) (k : V p l e R s m args below meth c nL D A cells slots Q w2 L st2 (pc + 3)) : V p l e R s m args below meth c nL D A cells slots Q w L st pc := fun H locs ls hP hD hS hl => by
  subst hst2
  subst hw
  rw [← hfit.2.2 wc' hf] at k
  exact V_run F.new (va_runS F.fix (hM H.size) cw ⟨ok_blind _ _ _ _ _, ok_pre F.nest F.K hP hD hfit.1 hfit.2.1⟩ rfl hn hl.1 hst (lv_room hcat) d ⟨hcl, hsl⟩) hP hD hS hl hfit.1 hfit.2.1 hf k
theorem V_SS (F : Fx p s m args meth c cc nL own nme Ts ret D cy A) {b nn : Nat} {xs : Nat → Int32} (G : FxS s A b nn xs) {y : MethodName} {wy : List Cond} {rm : Room} {index n maxL : Nat} {bytes : ByteArray} {ry : Option FieldType} {As : List Value} {wc wc' w2 : va_W} {out : Option Value} {st st2 : List Value} {is : List Nat} {put : va_W → va_W}
    (hM : okS l y wy rm D cy b nn xs As wc wc' out) (cw : CallB R s args own index y bytes maxL ry wy rm 0 0 n ∧ (Cond.static y).before args s = true) (hn : As.length = n) (d : decode cc pc = .ok (.invokestatic index, 3)) (hfit : Fit w is wc put) (hf : wc'.map (·.1) = wc.map (·.1)) (hcat : (rest.map fun v => v.category).sum ≤ 8) (hcl : cells ≤ R.cells) (hsl : slots ≤ R.slots) (hst : st = As.reverse ++ rest) (hst2 : out.toList ++ rest = st2) (hw : put wc' = w2) (k : V p l e R s m args below meth c nL D A cells slots Q w2 L st2 (pc + 3)) : V p l e R s m args below meth c nL D A cells slots Q w L st pc := fun H locs ls hP hD hS hl => by
  subst hst2
  subst hw
  rw [← hfit.2.2 wc' hf] at k
  exact V_run F.new (va_runS F.fix (hM H.size) cw ⟨ok_blindS _ _ _ _ _ _ _ _, ok_preS G F.nest F.K F.new hP hD hS hfit.1 hfit.2.1⟩ rfl hn hl.1 hst (lv_room hcat) d ⟨hcl, hsl⟩) hP hD hS hl hfit.1 hfit.2.1 hf k
end VL
