/-! methods that make cells: constructors -/
def rmN (F L k n : Nat) : Room := { frames := F, cells := k, slots := n, locals := L }
/-- the private constructors that a nest mate calls, and the array of machines -/
def nestC (U : State) : Prop := va_Nw (.methodLinkNest RX1 11 yX2_init RX7) U ∧ va_Nw (.methodLinkNest RX6 22 yX4_init RX7) U ∧ va_Nw (.methodLinkNest RX7 25 yX6_init RX7) U ∧ va_Nw (.methodLinkNest RX7 32 yX3_init RX7) U ∧ va_AO "GreenMachines$Machine" U
theorem nestC.warm {s U : State} (hW : s.WarmedH U.vm) (h : nestC s) : nestC U := ⟨va_Nw.warmM hW h.1, va_Nw.warmM hW h.2.1, va_Nw.warmM hW h.2.2.1, va_Nw.warmM hW h.2.2.2.1, va_AO.moved hW.alike h.2.2.2.2⟩
theorem nestC.same {u U : State} (hv : u.vm = U.vm) (h : nestC u) : nestC U := ⟨va_Nw.same rfl hv h.1, va_Nw.same rfl hv h.2.1, va_Nw.same rfl hv h.2.2.1, va_Nw.same rfl hv h.2.2.2.1, va_AO.moved (by rw [hv]; exact Vm.Alike.refl _) h.2.2.2.2⟩
def ok_PreN (D : va_G) (cy : Nat → ClassId) (as : List Value) (w : va_W) (sz : Nat) : Array Value → State → Prop :=
  va_Pc as (fun U => (U.heap.size = sz ∧ va_P D vwCl w U.heap ∧ va_K D vwCl (tyl cy) U ∧ va_D (fun _ => True) w ∧ nestG U) ∧ nestC U)
theorem ok_blindN (D : va_G) (cy : Nat → ClassId) (as : List Value) (w : va_W) (sz : Nat) : FrameBlind (ok_PreN D cy as w sz) := by
  intro a U g mk q
  obtain ⟨q0, ⟨q1, qP, qK, qD, qN⟩, qC⟩ := q
  exact ⟨q0, ⟨q1, qP, va_K.moved (u := U) (U := U.calling g mk a) (Vm.Alike.refl U.vm) qK, qD, nestG.same (u := U) (U := U.calling g mk a) rfl qN⟩, nestC.same (u := U) (U := U.calling g mk a) rfl qC⟩
def ok_QN (D : va_G) (W' : (Nat → Nat) → va_W) (a0 : Nat) (A : Nat → Prop) : Array Value → State → Outcome → State → Prop :=
  fun _ st oc t => (oc = .returned none ∧ ∃ a : Nat → Nat, a 0 = a0 ∧ va_P D vwCl (W' a) t.heap ∧ va_D A (W' a)) ∧ va_F A st t
/-- a constructor: from the object's own cell w it leaves the world W' at some addresses, the object's own first -/
def okN (l : Launch) (y : MethodName) (ws : List Cond) (rm : Room) (D : va_G) (cy : Nat → ClassId) (as : List Value) (w : va_W) (W' : (Nat → Nat) → va_W) (a0 mc ms : Nat) : Prop :=
  ∀ sz : Nat, Met l y ws rm (ok_PreN D cy as w sz) (ok_QN D W' a0 (va_A w sz)) mc ms (va_A w sz)
theorem okN_of {l : Launch} {y : MethodName} {ws ws' : List Cond} {rm : Room} {maxL : Nat} {own nme : String} {cc : ByteArray} {ret : Option FieldType} {D : va_G} {cy : Nat → ClassId} {as : List Value} {w : va_W} {W' : (Nat → Nat) → va_W} {a0 mc ms : Nat} (hy : plainName y.cls = true) (hw : ws = Cond.code y cc maxL ret :: ws') (hcls : y.cls = own) (hnm : y.name = nme) (hlen : (lg_sl as).length ≤ maxL)
    (body : ∀ (p : Program) (e : Env) (s : State) (m : MethodId) (args : Array Value) (below : List Frame) (meth : Method) (c : Code) (A : Nat → Prop), Fx p s m args meth c cc maxL own nme ws ret D cy A → nestC s → V p l e rm s m args below meth c maxL D A 0 0 (MQ below (ok_QN D W' a0 A) args s mc ms A) w (lv_args 0 as) [] 0) : okN l y ws rm D cy as w W' a0 mc ms := by
  intro sz
  refine Met.ofW (cc := cc) (maxL := maxL) (ret := ret) hy hw ?_
  intro p e s m args below meth c s₁ B hml hv
  obtain ⟨rfl, ⟨hsz, hP, hK, hD0, hNe⟩, hNc⟩ := hv
  have hown : s.vm.findClass y.cls = some m.cls := findClass_of_methodNamed B.named
  have hts := atoms_spec (ws := ws) B.pre
  have hnam := (name_of_methodNamed B.named B.method).1
  subst hsz
  rw [lg_entry_eq]
  exact body p e s m _ below meth c (va_A w s.heap.size) ⟨B.exec, B.bytes, hml, hcls ▸ hown, hts, B.returns, B.notSynchronized, hK, fun q h => Or.inr h, hnm ▸ hnam, hNe⟩ hNc s.heap [] _ hP hD0.self va_S.rf (lv_entry as hlen)
theorem at_left {w1 w2 : va_W} {k : Nat} {q : Nat × va_E} (h : w1[k]? = some q) : (w1 ++ w2)[k]? = some q := by
  rw [List.getElem?_append_left (List.getElem?_eq_some_iff.mp h).1]; exact h
theorem at_right {w1 w2 : va_W} {k : Nat} {q : Nat × va_E} (h : w2[k]? = some q) : (w1 ++ w2)[w1.length + k]? = some q := by
  rw [List.getElem?_append_right (by omega), show w1.length + k - w1.length = k by omega]; exact h
theorem last_map (wr : va_W) (x : Nat × va_E) : [wr.length].map (fun i => (wr ++ [x])[i]?) = [x].map some := by simp
theorem front_map (wr w2 : va_W) : (List.range wr.length).map (fun i => (wr ++ w2)[i]?) = wr.map some := by
  apply List.ext_getElem?
  intro k
  rw [List.getElem?_map, List.getElem?_map]
  by_cases hk : k < wr.length
  · rw [List.getElem?_range hk, List.getElem?_eq_getElem hk]
    simp [hk]
    rw [List.getElem?_append_left hk, List.getElem?_eq_getElem hk]
  · rw [List.getElem?_eq_none (by simp; omega), List.getElem?_eq_none (by omega)]
    rfl
theorem nd_range (n : Nat) : va_nd (List.range n) = true := by
  rw [nd_iff]; exact List.nodup_range
section VN
variable {p : Program} {l : Launch} {e : Env} {R : Room} {s : State} {m : MethodId} {args : Array Value} {below : List Frame} {meth : Method} {c : Code} {nL : Nat} {own nme : String} {Ts : List Cond} {ret : Option FieldType} {D : va_G} {cy : Nat → ClassId} {A : Nat → Prop} {cells slots : Nat} {Q : State → Prop} {w : va_W} {L : List (Nat × Value)} {rest : List Value} {pc : Nat} {cc : ByteArray}
theorem V_newo (F : Fx p s m args meth c cc nL own nme Ts ret D cy A) {C : String} {T : u_T} {N index ci : Nat} {fs : List Value} (hin : ∀ w ∈ u_ws C T N, w ∈ Ts) (ty : Nat → FieldType) (hty : ∀ k, k < N → parseFieldDescriptor (T k).2.2.1 = some (ty k)) (hc : vwCl[ci]? = some (C, T, N)) (hcl : Cond.classLink own index C ∈ Ts) (hinst : Cond.instantiable C N ∈ Ts) (hini : Cond.initialized C ∈ Ts) (hfs : ∀ j, j < N → defaultValue (ty j) = vp_V fs j) (hcells : cells + 1 ≤ R.cells) (hslots : slots + N ≤ R.slots) (d : decode cc pc = .ok (.new index, 3)) (k : ∀ q : Nat, V p l e R s m args below meth c nL D A (cells + 1) (slots + N) Q (w ++ [(q, .inr (ci, fs))]) L (.ref q :: rest) (pc + 3)) : V p l e R s m args below meth c nL D A cells slots Q w L rest pc := fun H locs ls hP hD hS hl =>
  va_new F.exec F.code F.ts hin ty hty F.fown (F.ts _ hcl) (F.ts _ hinst) (F.ts _ hini) F.K hP hD hS F.new hc hfs hcells hslots d (fun q H1 h1 h2 h3 => k q H1 locs ls h1 h2 h3 hl)
theorem V_newi (F : Fx p s m args meth c cc nL own nme Ts ret D cy A) {n : Int32} {N : Nat} (harr : Cond.arrayClass .int ∈ Ts) (hn : ¬ n < 0) (hN : n.toNatClampNeg = N) (hb : N * 4 ≤ 536870912) (hcells : cells + 1 ≤ R.cells) (hslots : slots + N ≤ R.slots) (d : decode cc pc = .ok (.newarray .int, 2)) (k : ∀ q : Nat, V p l e R s m args below meth c nL D A (cells + 1) (slots + N) Q (w ++ [(q, .inl (cy 0, N, .inl (fun _ => 0)))]) L (.ref q :: rest) (pc + 2)) : V p l e R s m args below meth c nL D A cells slots Q w L (.int n :: rest) pc := fun H locs ls hP hD hS hl =>
  va_newa (atype := .int) F.exec F.code (F.ts _ harr) (ty := .int) rfl F.K hP hD hS F.new (a0 := (N, .inl (fun _ => 0))) (fun cA => rfl) hn hN hb hcells hslots d (fun q cA H1 hK1 h1 h2 h3 => by
    have e1 : s.vm.findClass ("[" ++ FieldType.int.toString) = some cA := (hK1.2 2 (cA, .int) rfl).2
    have e2 : s.vm.findClass ("[" ++ FieldType.int.toString) = some (cy 0) := (F.K.2 0 (cy 0, .int) rfl).2
    have e3 : cA = cy 0 := Option.some.inj (e1.symm.trans e2)
    subst e3
    exact k q H1 locs ls h1 h2 h3 hl)
theorem V_newq (F : Fx p s m args meth c cc nL own nme Ts ret D cy A) (hNc : nestC s) {index : Nat} {n : Int32} {N : Nat} (hcl : Cond.classLink own index "GreenMachines$Machine" ∈ Ts) (hn : ¬ n < 0) (hN : n.toNatClampNeg = N) (hb : N * 4 ≤ 536870912) (hcells : cells + 1 ≤ R.cells) (hslots : slots + N ≤ R.slots) (d : decode cc pc = .ok (.anewarray index, 3)) (k : ∀ q : Nat, V p l e R s m args below meth c nL D A (cells + 1) (slots + N) Q (w ++ [(q, .inl (cy 2, N, .inr (.inr (.inr (.inr (fun _ => none))))))]) L (.ref q :: rest) (pc + 3)) : V p l e R s m args below meth c nL D A cells slots Q w L (.int n :: rest) pc := fun H locs ls hP hD hS hl =>
  va_newq F.exec F.code F.fown (F.ts _ hcl) hNc.2.2.2.2 F.K hP hD hS F.new hn hN hb hcells hslots d (fun q cA H1 hK1 h1 h2 h3 => by
    obtain ⟨-, -, -, -, -, e1⟩ := (hK1.2 2 (cA, .object "GreenMachines$Machine") rfl).2
    obtain ⟨-, -, -, -, -, e2⟩ := (F.K.2 1 (cy 2, .object "GreenMachines$Machine") rfl).2
    have e3 : cA = cy 2 := Option.some.inj (e1.symm.trans e2)
    subst e3
    exact k q H1 locs ls h1 h2 h3 hl)
theorem V_putF (F : Fx p s m args meth c cc nL own nme Ts ret D cy A) {C ref : String} {T : u_T} {N index : Nat} {a : Nat} {fs : List Value} {v : Value} {w2 : va_W} (q0 ci k : Nat) (hin : ∀ w ∈ u_ws C T N, w ∈ Ts) (ty0 : Nat → FieldType) (hty : ∀ k, k < N → parseFieldDescriptor (T k).2.2.1 = some (ty0 k)) (hnm : ∀ a, a < N → ∀ b, b < N → a ≠ b → (T a).2.1 ≠ (T b).2.1) (hc : vwCl[ci]? = some (C, T, N)) (hk : k < N) (hs : ref = (T k).1) (hlink : Cond.fieldLink own index ref (T k).2.1 (T k).2.2.1 ∈ Ts) (hfin : (T k).2.2.2 = true) (hi : nme = "<init>") (hdecl : (T k).1 = own) (d : decode cc pc = .ok (.putfield index, 3)) (he : w[q0]? = some (a, .inr (ci, fs))) (hn : narrow (ty0 k) v = v) (hfit : fits (ty0 k) v = true) (hl : k < fs.length) (hw : w.set q0 (a, .inr (ci, fs.set k v)) = w2) (kk : V p l e R s m args below meth c nL D A cells slots Q w2 L rest (pc + 3)) : V p l e R s m args below meth c nL D A cells slots Q w L (v :: .ref a :: rest) pc := fun H locs ls hP hD hS hls => by
  subst hs
  subst hw
  exact va_putF F.exec F.code F.ts hin ty0 hty hnm F.fown F.K hP hD hS q0 he hc k hk (F.ts _ hlink) (fun _ h9 => h9) hfin (F.nm.trans hi) hdecl (hty k hk) hn hfit hl d (fun H1 locs1 h1 h2 h3 => kk H1 locs1 ls h1 h2 h3 hls)
theorem V_obj (F : Fx p s m args meth c cc nL own nme Ts ret D cy A) {idx a : Nat} (h1 : Cond.methodLink own idx objectInit ∈ Ts) (h2 : Cond.instanceMethod objectInit ∈ Ts) (h3 : Cond.code objectInit ⟨#[0xb1]⟩ 1 none ∈ Ts) (d : decode cc pc = .ok (.invokespecial idx, 3)) (hf : 1 ≤ R.frames) (hlo : 20 ≤ R.locals) (k : V p l e R s m args below meth c nL D A cells slots Q w L [] (pc + 3)) : V p l e R s m args below meth c nL D A cells slots Q w L [.ref a] pc := fun H locs ls hP hD hS hl =>
  W.objInit F.exec F.code F.fown (F.ts _ h1) (F.ts _ h2) (F.ts _ h3) rfl (by rw [F.ml]; exact hl.1) rfl d hf (Nat.le_trans (Nat.add_le_add_right (lv_room (st := []) (Nat.zero_le 8)) 12) hlo) (k H locs ls hP hD hS hl)
theorem V_aastq (F : Fx p s m args meth c cc nL own nme Ts ret D cy A) {a n v : Nat} {vs : List Value} {f : Nat → Option Nat} {i : Int32} {w2 : va_W} (q0 qk : Nat) (ha : w[q0]? = some (a, .inl (cy 2, n, .inr (.inr (.inr (.inr f)))))) (hv : w[qk]? = some (v, .inr (1, vs))) (hin : vp_in i n) (d : decode cc pc = .ok (.aastore, 1)) (hw : w.set q0 (a, .inl (cy 2, n, .inr (.inr (.inr (.inr (va_up f i.toNatClampNeg (some v))))))) = w2) (k : V p l e R s m args below meth c nL D A cells slots Q w2 L rest (pc + 1)) : V p l e R s m args below meth c nL D A cells slots Q w L (.ref v :: .int i :: .ref a :: rest) pc := fun H locs ls hP hD hS hl => by
  subst hw
  exact va_astq F.exec F.code F.K hP hD hS q0 1 qk 1 (r := (RX1, TX1, 10)) ha rfl hv rfl hin d (fun H1 locs1 h1 h2 h3 => k H1 locs1 ls h1 h2 h3 hl)
/-- behind a constructor's call: the object's cell lay last -/
theorem V_runN {wr : va_W} {x : Nat × va_E} {W' : (Nat → Nat) → va_W} {a0 mc ms : Nat} {H : Heap} {locs : List Loc} {ls : Array Slot} {st0 : List Value} {a : Array Value} (hnew : ∀ q : Nat, s.heap.size ≤ q → A q)
    (hrun : va_Run p l e R s m args below meth c H locs cells slots mc ms (F0 m pc ls st0) rest (ok_QN D W' a0 (va_A [x] H.size) a) (va_A [x] H.size)) (hP : va_P D vwCl (wr ++ [x]) H) (hD : va_D A (wr ++ [x])) (hS : va_S A s.heap H locs) (hl : lv_has ls nL L)
    (k : ∀ a : Nat → Nat, a 0 = a0 → V p l e R s m args below meth c nL D A (cells + mc) (slots + ms) Q (wr ++ W' a) L rest (pc + 3)) : W p l e R s m args below meth c H locs cells slots Q (F0 m pc ls st0) := by
  intro T hT X
  obtain ⟨v, st₀, t, T', L', h0, X', hL, e1, e2, ⟨⟨hv, b, hb, hp, hd⟩, hz, hk⟩, st⟩ := hrun T hT X
  cases hv
  rw [h0] at hz hk
  have hF := va_free hD hS hnew [wr.length] (last_map wr x)
  obtain ⟨p1, p2⟩ := va_join (H1 := T'.heap) hP hD [wr.length] (List.range wr.length) (last_map wr x) (front_map wr [x]) (nd_range _) (fun i hi h => by rw [List.mem_singleton] at h; rw [List.mem_range] at hi; omega) (fun q h1 h2 => by rw [e1]; exact hk q h1 h2) hF (by rw [e1]; exact hp) hd
  obtain ⟨t2, a1, b1⟩ := k b hb T'.heap (locs ++ L') ls p1 p2 ⟨Nat.le_trans hS.1 (by rw [e1]; exact hz), fun q h1 h2 => by
      rw [e1, hk q (Nat.lt_of_lt_of_le h1 hS.1) (fun z => h2 (hF q z))]
      exact hS.2.1 q h1 h2, fun q hq => by
      rcases List.mem_append.mp hq with h | h
      · exact hS.2.2 q h
      · exact hF _ (hL q h)⟩ hl T' rfl X'
  exact ⟨t2, st t2 a1, b1⟩
theorem ok_preN {as : List Value} {wc : va_W} {is : List Nat} {H : Heap} (hN : nestG s) (hNc : nestC s) (hK : va_K D vwCl (tyl cy) s) (hP : va_P D vwCl w H) (hD : va_D A w) (hC : is.map (fun i => w[i]?) = wc.map some) (hn : va_nd is = true) : ∀ U : State, U.heap = H → s.WarmedH U.vm → ok_PreN D cy as wc H.size as.toArray U :=
  fun U hU hW => ⟨rfl, ⟨by rw [hU], by rw [hU]; exact hP.cut hC, va_K.moved hW.alike hK, (hD.sub is hn hC).weaken (fun _ _ _ _ => trivial), hN.warm hW⟩, hNc.warm hW⟩
theorem V_I (F : Fx p s m args meth c cc nL own nme Ts ret D cy A) (hNc : nestC s) {y : MethodName} {wy : List Cond} {rm : Room} {index n maxL b mc ms : Nat} {bytes : ByteArray} {As : List Value} {o : va_E} {W' : (Nat → Nat) → va_W} {wr : va_W} {st : List Value}
    (hM : okN l y wy rm D cy (.ref b :: As) [(b, o)] W' b mc ms) (cw : CallB R s args own index y bytes maxL none wy rm mc ms n ∧ y.name = "<init>" ∧ (Cond.instanceMethod y).before args s = true) (hn : As.length = n) (d : decode cc pc = .ok (.invokespecial index, 3)) (hcat : (rest.map fun v => v.category).sum ≤ 8) (hcl : cells + mc ≤ R.cells) (hsl : slots + ms ≤ R.slots) (hst : st = As.reverse ++ .ref b :: rest)
    (k : ∀ a : Nat → Nat, a 0 = b → V p l e R s m args below meth c nL D A (cells + mc) (slots + ms) Q (wr ++ W' a) L rest (pc + 3)) : V p l e R s m args below meth c nL D A cells slots Q (wr ++ [(b, o)]) L st pc := fun H locs ls hP hD hS hl =>
  V_runN F.new (va_runI F.fix (hM H.size) cw ⟨ok_blindN _ _ _ _ _, ok_preN F.nest hNc F.K hP hD (last_map wr (b, o)) rfl⟩ rfl hn hl.1 hst (lv_room hcat) d ⟨hcl, hsl⟩) hP hD hS hl k
theorem V_IN (F : Fx p s m args meth c cc nL own nme Ts ret D cy A) (hNc : nestC s) {y : MethodName} {host : String} {wy : List Cond} {rm : Room} {index n maxL b mc ms : Nat} {bytes : ByteArray} {As : List Value} {o : va_E} {W' : (Nat → Nat) → va_W} {wr : va_W} {st : List Value}
    (hM : okN l y wy rm D cy (.ref b :: As) [(b, o)] W' b mc ms) (cw : va_CN R s args own index y host bytes maxL none wy rm mc ms n ∧ y.name = "<init>" ∧ (Cond.instanceMethod y).before args s = true) (hn : As.length = n) (d : decode cc pc = .ok (.invokespecial index, 3)) (hcat : (rest.map fun v => v.category).sum ≤ 8) (hcl : cells + mc ≤ R.cells) (hsl : slots + ms ≤ R.slots) (hst : st = As.reverse ++ .ref b :: rest)
    (k : ∀ a : Nat → Nat, a 0 = b → V p l e R s m args below meth c nL D A (cells + mc) (slots + ms) Q (wr ++ W' a) L rest (pc + 3)) : V p l e R s m args below meth c nL D A cells slots Q (wr ++ [(b, o)]) L st pc := fun H locs ls hP hD hS hl =>
  V_runN F.new (va_runIN F.fix (hM H.size) cw ⟨ok_blindN _ _ _ _ _, ok_preN F.nest hNc F.K hP hD (last_map wr (b, o)) rfl⟩ rfl hn hl.1 hst (lv_room hcat) d ⟨hcl, hsl⟩) hP hD hS hl k
theorem V_vretN (F : Fx p s m args meth c cc nL own nme Ts ret D cy A) {W' : (Nat → Nat) → va_W} {a0 mc ms : Nat} (a : Nat → Nat) (ha : a 0 = a0) (hr : ret = none) (d : decode cc pc = .ok (.return_, 1)) (hw : ∀ H : Heap, va_P D vwCl w H → va_P D vwCl (W' a) H) (hd : ∀ B : Nat → Prop, va_D B w → va_D B (W' a)) (hc : cells ≤ mc) (hs : slots ≤ ms) : V p l e R s m args below meth c nL D A cells slots (MQ below (ok_QN D W' a0 A) args s mc ms A) w L [] pc := fun H locs ls hP hD hS hl => by
  refine W.widen hc hs ?_
  exact W.vret F.exec F.code (F.fret.trans hr) (fun t ht hW => ⟨⟨rfl, a, ha, by rw [ht]; exact hw H hP, hd A hD⟩, hS.F ht⟩) hS.2.2 d F.locks
end VN
/-! worlds in another order -/
theorem va_P_mem {D : va_G} {cl : List vw_C} {w : va_W} {H : Heap} : va_P D cl w H ↔ ∀ q ∈ w, va_at D cl q H := by
  constructor
  · intro h q hq
    obtain ⟨k, hk⟩ := List.getElem?_of_mem hq
    exact h k q hk
  · intro h k q hk
    exact h q (List.mem_of_getElem? hk)
theorem va_D_nd {A : Nat → Prop} {w : va_W} : va_D A w ↔ (w.map (·.1)).Nodup ∧ ∀ q ∈ w, A q.1 := by
  constructor
  · intro h
    refine ⟨?_, fun q hq => ?_⟩
    · rw [List.Nodup, List.pairwise_iff_getElem]
      intro i j hi hj hij e
      have hi' : i < w.length := by simpa using hi
      have hj' : j < w.length := by simpa using hj
      have := h.1 i j w[i] w[j] (List.getElem?_eq_getElem hi') (List.getElem?_eq_getElem hj') (by simpa using e)
      omega
    · obtain ⟨k, hk⟩ := List.getElem?_of_mem hq
      exact h.2 k q hk
  · rintro ⟨h1, h2⟩
    rw [List.Nodup, List.pairwise_iff_getElem] at h1
    refine ⟨fun i j x y hi hj e => ?_, fun k q hk => h2 q (List.mem_of_getElem? hk)⟩
    obtain ⟨hi1, hi2⟩ := List.getElem?_eq_some_iff.mp hi
    obtain ⟨hj1, hj2⟩ := List.getElem?_eq_some_iff.mp hj
    apply Decidable.byContradiction
    intro hne
    rcases Nat.lt_or_ge i j with hlt | hge
    · exact h1 i j (by simpa using hi1) (by simpa using hj1) hlt (by simpa [hi2, hj2] using e)
    · exact h1 j i (by simpa using hj1) (by simpa using hi1) (by omega) (by simpa [hi2, hj2] using e.symm)
theorem va_P.perm {D : va_G} {cl : List vw_C} {w w2 : va_W} {H : Heap} (hp : w.Perm w2) (h : va_P D cl w H) : va_P D cl w2 H := va_P_mem.mpr (fun q hq => va_P_mem.mp h q (hp.mem_iff.mpr hq))
theorem va_D.perm {A : Nat → Prop} {w w2 : va_W} (hp : w.Perm w2) (h : va_D A w) : va_D A w2 := by
  rw [va_D_nd] at h ⊢
  exact ⟨(hp.map _).nodup_iff.mp h.1, fun q hq => h.2 q (hp.mem_iff.mpr hq)⟩
theorem va_P.cellq {D : va_G} {w : va_W} {H : Heap} {q n : Nat} {c : ClassId} {f g : Nat → Option Nat} (h : va_P D vwCl w H) (k : Nat) (hk : w[k]? = some (q, .inl (c, n, .inr (.inr (.inr (.inr f)))))) (hfg : ∀ j, j < n → f j = g j) : va_P D vwCl (w.set k (q, .inl (c, n, .inr (.inr (.inr (.inr g)))))) H := by
  intro i x hi
  by_cases hik : i = k
  · subst hik
    rw [List.getElem?_set_self (List.getElem?_eq_some_iff.mp hk).1] at hi
    cases hi
    have h0 := h i _ hk
    have e : vp_cell c (n, .inr (.inr (.inr (.inr f)))) = vp_cell c (n, .inr (.inr (.inr (.inr g)))) := by
      rw [vp_cell_q, vp_cell_q]
      unfold arrV
      congr 2
      funext j
      exact congrArg va_rf (hfg j.val j.isLt)
    show H[q]? = some (vp_cell c (n, .inr (.inr (.inr (.inr g)))))
    rw [← e]
    exact h0
  · rw [List.getElem?_set_ne (Ne.symm hik)] at hi
    exact h i x hi
theorem va_D.fst {A : Nat → Prop} {w w2 : va_W} (h : va_D A w) (hf : w2.map (·.1) = w.map (·.1)) : va_D A w2 := by
  have key : ∀ (k : Nat) (q : Nat × va_E), w2[k]? = some q → ∃ q0, w[k]? = some q0 ∧ q0.1 = q.1 := by
    intro k q h
    have h5 : (w2.map (·.1))[k]? = some q.1 := by rw [List.getElem?_map, h]; rfl
    rw [hf, List.getElem?_map] at h5
    cases hq : w[k]? with
    | none => rw [hq] at h5; cases h5
    | some q0 => rw [hq] at h5; exact ⟨q0, rfl, Option.some.inj h5⟩
  refine ⟨fun i j x y hi hj hxy => ?_, fun k q hk => ?_⟩
  · obtain ⟨x0, h1, h2⟩ := key i x hi
    obtain ⟨y0, h3, h4⟩ := key j y hj
    exact h.1 i j x0 y0 h1 h3 (h2.trans (hxy.trans h4.symm))
  · obtain ⟨q0, h1, h2⟩ := key k q hk
    rw [← h2]
    exact h.2 k q0 h1
