/-! the law's static methods: they catch what the class throws -/
def lwg : List Cond := lw_tbl.filter goodWord
theorem lwg_in {ws : List Cond} (h : ∀ w ∈ ws, w ∈ lw_tbl) (g : ws.all goodWord = true) : ∀ w ∈ ws, w ∈ lwg := fun w hw => List.mem_filter.mpr ⟨h w hw, List.all_eq_true.mp g w hw⟩
theorem lwg_tbl : ∀ w ∈ lwg, w ∈ lw_tbl := fun w h => (List.mem_filter.mp h).1
theorem lwg_all : lwg.all goodWord = true := List.all_eq_true.mpr fun w h => (List.mem_filter.mp h).2
def wW (y : MethodName) (cc : ByteArray) (maxL : Nat) (hh : List (Nat × Nat × Nat × Nat)) : List Cond := Cond.codeWith y cc maxL (some .int) hh :: lwg
theorem wW_in {y : MethodName} {cc : ByteArray} {maxL : Nat} {hh : List (Nat × Nat × Nat × Nat)} {ws : List Cond} (h : ∀ w ∈ ws, w ∈ lw_tbl) (g : ws.all goodWord = true) : GoodIn (wW y cc maxL hh) ws := goodIn_sub (fun w hw => List.mem_cons_of_mem _ (lwg_in h g w hw)) g
def catW (U : State) : Prop := (va_Nw (.castable IAE IAE) U ∧ va_Nw (.castable ISE ISE) U ∧ va_Nw (.castable IOB IOB) U) ∧ va_Nc ISE IAE U ∧ va_Nc IAE IOB U ∧ va_Nc ISE IOB U
theorem catW.warm {s U : State} (hW : s.WarmedH U.vm) (h : catW s) : catW U := ⟨⟨va_Nw.warmC hW h.1.1, va_Nw.warmC hW h.1.2.1, va_Nw.warmC hW h.1.2.2⟩, va_Nc.moved hW.alike h.2.1, va_Nc.moved hW.alike h.2.2.1, va_Nc.moved hW.alike h.2.2.2⟩
theorem catW.same {u U : State} (hv : u.vm = U.vm) (h : catW u) : catW U := ⟨⟨va_Nw.same rfl hv h.1.1, va_Nw.same rfl hv h.1.2.1, va_Nw.same rfl hv h.1.2.2⟩, va_Nc.moved (by rw [hv]; exact Vm.Alike.refl _) h.2.1, va_Nc.moved (by rw [hv]; exact Vm.Alike.refl _) h.2.2.1, va_Nc.moved (by rw [hv]; exact Vm.Alike.refl _) h.2.2.2⟩
def ok_PreW (D : va_G) (cy : Nat → ClassId) (as : List Value) (w : va_W) (sz : Nat) : Array Value → State → Prop :=
  va_Pc as (fun U => (U.heap.size = sz ∧ va_P D vwCl w U.heap ∧ va_K D vwCl (tyl cy) U ∧ va_D (fun _ => True) w ∧ nestG U) ∧ (thrW U ∧ thrH (va_A w sz) U U.heap) ∧ catW U)
theorem ok_blindW (D : va_G) (cy : Nat → ClassId) (as : List Value) (w : va_W) (sz : Nat) : FrameBlind (ok_PreW D cy as w sz) := by
  intro a U g mk q
  obtain ⟨q0, ⟨q1, qP, qK, qD, qN⟩, ⟨qT, qH⟩, qC⟩ := q
  exact ⟨q0, ⟨q1, qP, va_K.moved (u := U) (U := U.calling g mk a) (Vm.Alike.refl U.vm) qK, qD, nestG.same (u := U) (U := U.calling g mk a) rfl qN⟩, ⟨thrW.same (u := U) (U := U.calling g mk a) rfl qT, thrH.moved (u := U) (U := U.calling g mk a) (Vm.Alike.refl U.vm) qH⟩, catW.same (u := U) (U := U.calling g mk a) rfl qC⟩
def okW (l : Launch) (y : MethodName) (ws : List Cond) (rm : Room) (D : va_G) (cy : Nat → ClassId) (as : List Value) (w w' : va_W) (out : Option Value) : Prop :=
  ∀ sz : Nat, Met l y ws rm (ok_PreW D cy as w sz) (ok_Q D w' out (va_A w sz)) 1 6 (va_A w sz)
def FxW (s : State) (c : Code) (A : Nat → Prop) (hh : List (Nat × Nat × Nat × Nat)) : Prop := thrW s ∧ thrH A s s.heap ∧ catW s ∧ c.exceptionTable.toList = tableOf hh
theorem met_ofWH {l : Launch} {y : MethodName} {ws ws' : List Cond} {rm : Room} {Pc : Array Value → State → Prop} {Qc : Array Value → State → Outcome → State → Prop} {mc ms : Nat} {free : Addr → Prop} {cc : ByteArray} {maxL : Nat} {ret : Option FieldType} {hh : List (Nat × Nat × Nat × Nat)}
    (hy : plainName y.cls = true) (hw : ws = Cond.codeWith y cc maxL ret hh :: ws')
    (body : ∀ p e s m args below meth c s₁, BodyLoose p l y (headSpec ws rm) cc maxL ret e s m args below meth c s₁ → c.maxLocals = maxL → Pc args s →
      W p l e (headSpec ws rm).room s m args below meth c s.heap [] 0 0 (MQ below Qc args s mc ms free) (entryFrame m args maxL)) : Met l y ws rm Pc Qc mc ms free := by
  refine MetFree.of_bodyS (code := cc) (maxLocals := maxL) (ret := ret) hy ?_ ?_
  · intro args s m h hn
    obtain ⟨m9, meth, c, hn9, h1, h2, h3, h4, -, h5, h6, -⟩ := Cond.codeWith_spec (atoms_spec (ws := ws) h _ (by rw [hw]; exact List.mem_cons_self))
    cases hn.symm.trans hn9
    exact ⟨meth, c, h1, h2, h3, h4, h5, h6⟩
  · intro p e s m args below meth c s₁ B hml hP _
    have hh0 : s₁.heap = s.heap := by rw [B.state]; rfl
    obtain ⟨t, a1, o, b1, b2, b3⟩ := body p e s m args below meth c s₁ B hml hP s₁ hh0 (Stand.of_body B)
    exact ⟨t, o, a1, b1, b2, b3⟩
theorem okW_of {l : Launch} {y : MethodName} {ws ws' : List Cond} {rm : Room} {maxL : Nat} {own nme : String} {cc : ByteArray} {ret : Option FieldType} {hh : List (Nat × Nat × Nat × Nat)} {D : va_G} {cy : Nat → ClassId} {as : List Value} {w w' : va_W} {out : Option Value} (hy : plainName y.cls = true) (hw : ws = Cond.codeWith y cc maxL ret hh :: ws') (hcls : y.cls = own) (hnm : y.name = nme) (hlen : (lg_sl as).length ≤ maxL)
    (body : ∀ (p : Program) (e : Env) (s : State) (m : MethodId) (args : Array Value) (below : List Frame) (meth : Method) (c : Code) (A : Nat → Prop), Fx p s m args meth c cc maxL own nme ws ret D cy A → FxW s c A hh → V p l e rm s m args below meth c maxL D A 0 0 (MQ below (ok_Q D w' out A) args s 1 6 A) w (lv_args 0 as) [] 0) : okW l y ws rm D cy as w w' out := by
  intro sz
  refine met_ofWH (cc := cc) (maxL := maxL) (ret := ret) (hh := hh) hy hw ?_
  intro p e s m args below meth c s₁ B hml hv
  obtain ⟨rfl, ⟨hsz, hP, hK, hD0, hNe⟩, ⟨hTW, hTH⟩, hCW⟩ := hv
  have hown : s.vm.findClass y.cls = some m.cls := findClass_of_methodNamed B.named
  have hts := atoms_spec (ws := ws) B.pre
  have hnam := (name_of_methodNamed B.named B.method).1
  have htb := vx_table (x := y) B (hts _ (by rw [hw]; exact List.mem_cons_self))
  subst hsz
  rw [lg_entry_eq]
  exact body p e s m _ below meth c (va_A w s.heap.size) ⟨B.exec, B.bytes, hml, hcls ▸ hown, hts, B.returns, B.notSynchronized, hK, fun q h => Or.inr h, hnm ▸ hnam, hNe⟩ ⟨hTW, hTH, hCW, htb⟩ s.heap [] _ hP hD0.self va_S.rf (lv_entry as hlen)
theorem wsV_in {own C : String} {idx : Nat} {y : MethodName} {ws : List Cond} (h1 : Cond.methodLink own idx y ∈ lw_tbl) (h2 : Cond.instanceMethod y ∈ lw_tbl) (h3 : Cond.selects C y y ∈ lw_tbl) (h4 : Cond.initialized C ∈ lw_tbl) (h : ∀ w ∈ ws, w ∈ lw_tbl) : ∀ w ∈ wsV own idx C y ws, w ∈ lw_tbl := by
  intro w hw
  unfold wsV at hw
  rcases List.mem_append.mp hw with hw | hw
  · rcases List.mem_cons.mp hw with rfl | hw
    · exact h1
    rcases List.mem_cons.mp hw with rfl | hw
    · exact h2
    rcases List.mem_cons.mp hw with rfl | hw
    · exact h3
    rcases List.mem_cons.mp hw with rfl | hw
    · exact h4
    cases hw
  · exact h w hw
section VW
variable {p : Program} {l : Launch} {e : Env} {R : Room} {s : State} {m : MethodId} {args : Array Value} {below : List Frame} {meth : Method} {c : Code} {nL : Nat} {own nme : String} {Ts : List Cond} {ret : Option FieldType} {D : va_G} {cy : Nat → ClassId} {A : Nat → Prop} {cells slots : Nat} {Q : State → Prop} {w : va_W} {L : List (Nat × Value)} {rest : List Value} {pc : Nat} {cc : ByteArray}
theorem V_widen {k n : Nat} {st : List Value} (h1 : cells ≤ k) (h2 : slots ≤ n) (kk : V p l e R s m args below meth c nL D A k n Q w L st pc) : V p l e R s m args below meth c nL D A cells slots Q w L st pc := fun H locs ls hP hD hS hl => W.widen h1 h2 (kk H locs ls hP hD hS hl)
theorem V_last (F : Fx p s m args meth c cc nL own nme Ts ret D cy A) {a : Nat} {n : Nat} {f f2 : Nat → Int64} {i : Int32} {x : Int64} {w2 : va_W} (q0 : Nat) (ha : w[q0]? = some (a, .inl (cy 1, n, .inr (.inl f)))) (hin : vp_in i n) (he : vp_updL f i.toNatClampNeg x = f2) (d : decode cc pc = .ok (.lastore, 1)) (hw : w.set q0 (a, .inl (cy 1, n, .inr (.inl f2))) = w2) (k : V p l e R s m args below meth c nL D A cells slots Q w2 L rest (pc + 1)) : V p l e R s m args below meth c nL D A cells slots Q w L (.long x :: .int i :: .ref a :: rest) pc := fun H locs ls hP hD hS hl => by
  subst he
  subst hw
  exact va_last F.exec F.code F.K hP hD hS q0 1 ha rfl hin d (fun H1 locs1 h1 h2 h3 => k H1 locs1 ls h1 h2 h3 hl)
theorem V_lald (F : Fx p s m args meth c cc nL own nme Ts ret D cy A) {a : Nat} {n : Nat} {f : Nat → Int64} {i : Int32} (q0 : Nat) (ha : w[q0]? = some (a, .inl (cy 1, n, .inr (.inl f)))) (hin : vp_in i n) (d : decode cc pc = .ok (.laload, 1)) (k : V p l e R s m args below meth c nL D A cells slots Q w L (.long (f i.toNatClampNeg) :: rest) (pc + 1)) : V p l e R s m args below meth c nL D A cells slots Q w L (.int i :: .ref a :: rest) pc := fun H locs ls hP hD hS hl => va_lald F.exec F.code F.K hP q0 1 ha rfl hin d (k H locs ls hP hD hS hl)
/-- a call that throws, caught here by the row x behind rows pre that name other classes -/
theorem V_caught (F : Fx p s m args meth c cc nL own nme Ts ret D cy A) {hh : List (Nat × Nat × Nat × Nat)} (G : FxW s c A hh) {C : String} {y : MethodName} {wy : List Cond} {rm : Room} {index n maxL : Nat} {bytes : ByteArray} {ry : Option FieldType} {b : Nat} {As : List Value} {wc wc' w2 : va_W} {E : String} {st : List Value} {T : u_T} {N : Nat} {fs : List Value} {is : List Nat} {put : va_W → va_W} (ci : Nat)
    (hM : okT l y wy rm D cy (.ref b :: As) wc wc' E) (cw : CallW R s args own C index y bytes maxL ry wy rm 1 6 n) (hn : As.length = n) (d : decode cc pc = .ok (.invokevirtual index, 3)) (hfit : Fit w is wc put) (hf : wc'.map (·.1) = wc.map (·.1)) (hc : vwCl[ci]? = some (C, T, N)) (hq : wc[0]? = some (b, .inr (ci, fs))) (hcat : (rest.map fun v => v.category).sum ≤ 8) (hcl : cells + 1 ≤ R.cells) (hsl : slots + 6 ≤ R.slots) (hst : st = As.reverse ++ .ref b :: rest) (hw : put wc' = w2)
    (pre : List ExceptionTableEntry) (x : ExceptionTableEntry) (suf : List ExceptionTableEntry) (hsplit : tableOf hh = pre ++ x :: suf) (hpass : ∀ z ∈ pre, covers z pc = false ∨ (z.catchType ≠ 0 ∧ ∃ nm : String, Cond.classLink own z.catchType nm ∈ Ts ∧ va_Nc E nm s)) (hx : covers x pc = true) (h0 : x.catchType ≠ 0) (hlink : Cond.classLink own x.catchType E ∈ Ts) (hcast : va_Nw (.castable E E) s)
    (k : ∀ q : Nat, V p l e R s m args below meth c nL D A (cells + 1) (slots + 6) Q w2 L [.ref q] x.handlerPc) : V p l e R s m args below meth c nL D A cells slots Q w L st pc := fun H locs ls hP hD hS hl => by
  intro T hT X
  have h0x := h0
  rcases (vx_runV F.fix (hM H.size) cw ⟨ok_blindX _ _ _ _ _, va_recv F.K (hP.cut hfit.1) hc hq, ok_preX G.1 G.2.1 F.nest F.K F.new hP hD hS hfit.1 hfit.2.1⟩ rfl hn hl.1 hst (lv_room hcat) d ⟨hcl, hsl⟩ : vx_Run p l e R s m args below meth c H locs cells slots 1 6 (F0 m pc ls st) rest _ _ _) T hT X with ⟨v, st₀, t, T', L', h0, X', hL, e1, e2, hq, st⟩ | ⟨q, st₀, t, T', L', E', ce, h0, X', hL, e1, e2, ⟨rfl, hp, hz, hk⟩, hce, hcv, hcl, st⟩
  · exact hq.elim
  · rw [h0] at hz hk
    have hF := va_free hD hS F.new is hfit.1
    obtain ⟨p1, p2⟩ := va_reps (H1 := T'.heap) hP hD hfit.1 hfit.2.1 (fun q h1 h2 => by rw [e1]; exact hk q h1 h2) hf (by rw [e1]; exact hp)
    rw [(hfit.2.2 wc' hf).trans hw] at p1 p2
    have hS2 : va_S A s.heap T'.heap (locs ++ L') := ⟨Nat.le_trans hS.1 (by rw [e1]; exact hz), fun q h1 h2 => by
      rw [e1, hk q (Nat.lt_of_lt_of_le h1 hS.1) (fun z => h2 (hF q z))]
      exact hS.2.1 q h1 h2, fun q hq => by
      rcases List.mem_append.mp hq with h | h
      · exact hS.2.2 q h
      · exact hF _ (hL q h)⟩
    have key : vx_W p l e R s m args below meth c T'.heap (locs ++ L') (cells + 1) (slots + 6) Q (F0 m pc ls rest) q :=
      vx_catch F.fown pre x suf (G.2.2.2.trans hsplit) (fun z hz => (hpass z hz).imp id (fun ⟨a1, nm, a2, a3⟩ => ⟨a1, nm, F.ts _ a2, a3⟩)) hx h0x (F.ts _ hlink) (va_Nw.use rfl hcast) (by rw [e1]; exact hce) hcv hcl (k q T'.heap (locs ++ L') ls p1 p2 hS2 hl)
    obtain ⟨t2, a1, b1⟩ := key T' rfl X'
    exact ⟨t2, st.trans a1, b1⟩
end VW
def oc (cy : Nat → ClassId) (o : Nat) (f : Nat → Int64) : Nat × va_E := (o, .inl (cy 1, 1, .inr (.inl f)))
theorem set_last (w1 : va_W) (x y : Nat × va_E) : (w1 ++ [x]).set (w1.length + 0) y = w1 ++ [y] := by
  rw [List.set_append_right _ _ (by omega)]
  simp
