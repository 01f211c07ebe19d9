/-! methods that throw: what holds besides, contracts, rows -/
def exNames : List String := ["java/lang/RuntimeException", "java/lang/Exception"]
def strL : List (Nat × String) := [(43, "a direction does not clash with itself"), (88, "there are 8 phases"), (98, "the goal is another phase"), (104, "the phase has 4 rules"), (113, "the phase has no rule"), (128, "the ticks of clearing are 0 to 5"), (137, "the ticks are 1 to 99"), (154, "a code is 33 to 126"), (159, "the buffer has 60 characters"), (173, "the buffer is not a complete machine as a text"), (182, "there is no saved state"), (196, "a property of a phase is 0 to 5"), (200, "there is no such rule"), (213, "a property of a rule is 0 to 2"), (227, "a property of a direction is 0 to 5"), (256, "a number is told for 0 to 11"), (340, "there is no such phase"), (342, "a direction is 0 to 5"), (344, "a mask of directions is 0 to 63"), (346, "a hold is 1 to 9")]
def isCD : Cond → Bool
  | .castable _ _ => true
  | .declares _ => true
  | _ => false
def ngw (X : String) (ic : Nat) : List Cond := (vx_atS RX7 ic X exNames).filter (fun w => !goodWord w)
theorem ngw_0 : (ngw "java/lang/IllegalArgumentException" 45).all isCD = true := by decide +kernel
theorem ngw_1 : (ngw "java/lang/IllegalStateException" 90).all isCD = true := by decide +kernel
theorem ngw_2 : (ngw "java/lang/IndexOutOfBoundsException" 202).all isCD = true := by decide +kernel
def ngL : List Cond := ngw "java/lang/IllegalArgumentException" 45 ++ ngw "java/lang/IllegalStateException" 90 ++ ngw "java/lang/IndexOutOfBoundsException" 202
theorem ngL_cd : ∀ w ∈ ngL, isCD w = true := by
  intro w h
  rcases List.mem_append.mp h with h | h
  · rcases List.mem_append.mp h with h | h
    · exact List.all_eq_true.mp ngw_0 w h
    · exact List.all_eq_true.mp ngw_1 w h
  · exact List.all_eq_true.mp ngw_2 w h
theorem cd_on {w : Cond} (h : isCD w = true) : w.onTables = true := by
  cases w <;> first | rfl | cases h
theorem cd_warm {w : Cond} (h : isCD w = true) {s U : State} (hW : s.WarmedH U.vm) (hz : va_Nw w s) : va_Nw w U := by
  cases w <;> first | exact va_Nw.warmC hW hz | exact va_Nw.warmD hW hz | cases h
def thrW (U : State) : Prop := (∀ w ∈ ngL, va_Nw w U) ∧ ∀ q ∈ strL, ∃ sa, vk_R RX7 q.1 q.2 sa U
theorem thrW.warm {s U : State} (hW : s.WarmedH U.vm) (h : thrW s) : thrW U := ⟨fun w hw => cd_warm (ngL_cd w hw) hW (h.1 w hw), fun q hq => by
  obtain ⟨sa, hs⟩ := h.2 q hq
  exact ⟨sa, vk_R.warm hW hs⟩⟩
theorem thrW.same {u U : State} (hv : u.vm = U.vm) (h : thrW u) : thrW U := ⟨fun w hw => va_Nw.same (cd_on (ngL_cd w hw)) hv (h.1 w hw), fun q hq => by
  obtain ⟨sa, hs⟩ := h.2 q hq
  exact ⟨sa, vk_R.same hv.symm hs⟩⟩
def thrH (A : Nat → Prop) (U : State) (H : Heap) : Prop := vx_Zq Bundle.tN "UNASSIGNED_STACK" Bundle.steD A U H ∧ vx_Zq Bundle.tN "SUPPRESSED_SENTINEL" Bundle.listD A U H
theorem thrH.moved {A : Nat → Prop} {u U : State} {H : Heap} (hvm : u.vm.Alike U.vm) (h : thrH A u H) : thrH A U H := ⟨vx_Zq.moved hvm h.1, vx_Zq.moved hvm h.2⟩
theorem thrH.kept {A : Nat → Prop} {U : State} {H H1 : Heap} (h : thrH A U H) (hq : ∀ a : Nat, a < H.size → ¬ A a → H1[a]? = H[a]?) : thrH A U H1 := ⟨vx_Zq.kept h.1 hq, vx_Zq.kept h.2 hq⟩
theorem thrH.narrow {A B : Nat → Prop} {U : State} {H : Heap} (h : thrH A U H) (hAB : ∀ q, B q → A q) : thrH B U H := ⟨vx_Zq.narrow h.1 hAB, vx_Zq.narrow h.2 hAB⟩
def ok_PreX (D : va_G) (cy : Nat → ClassId) (as : List Value) (w : va_W) (sz : Nat) : Array Value → State → Prop :=
  va_Pc as (fun U => (U.heap.size = sz ∧ va_P D vwCl w U.heap ∧ va_K D vwCl (tyl cy) U ∧ va_D (fun _ => True) w ∧ nestG U) ∧ thrW U ∧ thrH (va_A w sz) U U.heap)
theorem ok_blindX (D : va_G) (cy : Nat → ClassId) (as : List Value) (w : va_W) (sz : Nat) : FrameBlind (ok_PreX D cy as w sz) := by
  intro a U g mk q
  obtain ⟨q0, ⟨q1, qP, qK, qD, qN⟩, qT, qH⟩ := q
  exact ⟨q0, ⟨q1, qP, va_K.moved (u := U) (U := U.calling g mk a) (Vm.Alike.refl U.vm) qK, qD, nestG.same (u := U) (U := U.calling g mk a) rfl qN⟩, thrW.same (u := U) (U := U.calling g mk a) rfl qT, thrH.moved (u := U) (U := U.calling g mk a) (Vm.Alike.refl U.vm) qH⟩
def QF : Array Value → State → Outcome → State → Prop := fun _ _ _ _ => False
def xcT (D : va_G) (w : va_W) (E : String) (A : Nat → Prop) : String → State → State → Prop := fun E' st t => E' = E ∧ va_P D vwCl w t.heap ∧ va_F A st t
/-- from the world w, with the arguments as, the method throws E and leaves the world w' -/
def okT (l : Launch) (y : MethodName) (ws : List Cond) (rm : Room) (D : va_G) (cy : Nat → ClassId) (as : List Value) (w w' : va_W) (E : String) : Prop :=
  ∀ sz : Nat, vx_Met l y ws rm (ok_PreX D cy as w sz) QF (xcT D w' E (va_A w sz)) 1 6 (va_A w sz)
def FxT (l : Launch) (s : State) (c : Code) (A : Nat → Prop) : Prop := thrW s ∧ thrH A s s.heap ∧ (∀ x ∈ c.exceptionTable.toList, False) ∧ l.stackTraces = false
theorem okT_of {l : Launch} (hfl : l.stackTraces = false) {y : MethodName} {ws ws' : List Cond} {rm : Room} {maxL : Nat} {own nme : String} {cc : ByteArray} {ret : Option FieldType} {D : va_G} {cy : Nat → ClassId} {as : List Value} {w w' : va_W} {E : String} (hy : plainName y.cls = true) (hw : ws = Cond.code y cc maxL ret :: ws') (hcls : y.cls = own) (hnm : y.name = nme) (hlen : (lg_sl as).length ≤ maxL)
    (body : ∀ (p : Program) (e : Env) (s : State) (m : MethodId) (args : Array Value) (below : List Frame) (meth : Method) (c : Code) (A : Nat → Prop), Fx p s m args meth c cc maxL own nme ws ret D cy A → FxT l s c A → V p l e rm s m args below meth c maxL D A 0 0 (vx_MQ below QF (xcT D w' E A) args s 1 6 A) w (lv_args 0 as) [] 0) : okT l y ws rm D cy as w w' E := by
  intro sz
  refine vx_ofW (cc := cc) (maxL := maxL) (ret := ret) hy hw ?_
  intro p e s m args below meth c s₁ B hml hout hv
  obtain ⟨rfl, ⟨hsz, hP, hK, hD0, hNe⟩, hTW, hTH⟩ := hv
  have hown : s.vm.findClass y.cls = some m.cls := findClass_of_methodNamed B.named
  have hts := atoms_spec (ws := ws) B.pre
  have hnam := (name_of_methodNamed B.named B.method).1
  subst hsz
  rw [lg_entry_eq]
  exact body p e s m _ below meth c (va_A w s.heap.size) ⟨B.exec, B.bytes, hml, hcls ▸ hown, hts, B.returns, B.notSynchronized, hK, fun q h => Or.inr h, hnm ▸ hnam, hNe⟩ ⟨hTW, hTH, hout, hfl⟩ s.heap [] _ hP hD0.self va_S.rf (lv_entry as hlen)
section VT
variable {p : Program} {l : Launch} {e : Env} {R : Room} {s : State} {m : MethodId} {args : Array Value} {below : List Frame} {meth : Method} {c : Code} {nL : Nat} {nme : String} {Ts : List Cond} {ret : Option FieldType} {D : va_G} {cy : Nat → ClassId} {A : Nat → Prop} {w : va_W} {L : List (Nat × Value)} {rest : List Value} {pc : Nat} {cc : ByteArray}
theorem no_cover (h : ∀ x ∈ c.exceptionTable.toList, False) (q : Nat) : ∀ x ∈ c.exceptionTable.toList, covers x q = false := fun x hx => (h x hx).elim
theorem thr_x {E : String} {H : Heap} {locs : List Loc} (hP : va_P D vwCl w H) (hS : va_S A s.heap H locs) (t : State) (h2 : H.size ≤ t.heap.size) (h3 : ∀ q : Nat, q < H.size → t.heap[q]? = H[q]?) : xcT D w E A E s t :=
  ⟨rfl, hP.kept (fun k q hk => h3 q.1 (hP k q hk).lt), Nat.le_trans hS.1 h2, fun q h4 h5 => (h3 q (Nat.lt_of_lt_of_le h4 hS.1)).trans (hS.2.1 q h4 h5)⟩
theorem V_throwS (F : Fx p s m args meth c cc nL RX7 nme Ts ret D cy A) (FT : FxT l s c A) {E text : String} {w2 : va_W} {ik is ic : Nat} (hE : (E, ic) ∈ ([("java/lang/IllegalArgumentException", 45), ("java/lang/IllegalStateException", 90), ("java/lang/IndexOutOfBoundsException", 202)] : List (String × Nat))) (hstr : (is, text) ∈ strL) (hcls : Bundle.fit E = true) (hnames : ∀ n ∈ exNames, Bundle.fit n = true) (hk : Cond.classLink RX7 ik E ∈ Ts) (hini : Cond.initialized E ∈ Ts) (hgw : ∀ w ∈ (vx_atS RX7 ic E exNames).filter goodWord, w ∈ Ts) (hot : ∀ w ∈ Cond.classLink RX7 ik E :: Cond.initialized E :: vx_atS RX7 ic E exNames, vx_ot w = true)
    (d0 : decode cc pc = .ok (.new ik, 3)) (d3 : decode cc (pc + 3) = .ok (.dup, 1)) (d4 : decode cc (pc + 4) = .ok (.ldc is, 2)) (d6 : decode cc (pc + 6) = .ok (.invokespecial ic, 3)) (d9 : decode cc (pc + 9) = .ok (.athrow, 1)) (hRf : exNames.length + 3 < R.frames) (hRl : (rest.map fun v => v.category).sum + (13 * (exNames.length + 1) + 43) ≤ R.locals) (hRc : 0 + 1 ≤ R.cells) (hRs : 0 + 6 ≤ R.slots) (hw : w = w2) : V p l e R s m args below meth c nL D A 0 0 (vx_MQ below QF (xcT D w2 E A) args s 1 6 A) w L rest pc := fun H locs ls hP hD hS hl => by
  subst hw
  obtain ⟨sa, hsa⟩ := FT.1.2 (is, text) hstr
  refine vx_throwS (names := exNames) F.exec F.code FT.2.2.2 F.fown hcls hnames (F.ts _ hk) (F.ts _ hini) hsa (vx_hat (B := ngL) (fun w hw => F.ts w (hgw w hw)) (fun w hw => ?_) (fun w hw => va_Nw.use (cd_on (ngL_cd w hw)) (FT.1.1 w hw))) hot FT.2.1.1 FT.2.1.2 hS (hl.1.trans F.ml.symm) d0 d3 d4 d6 d9 (no_cover FT.2.2.1 _) hRf hRl hRc hRs F.locks (fun t _ h2 h3 => thr_x hP hS t h2 h3) hS.2.2 (Nat.le_refl _) (Nat.le_refl _)
  rcases List.mem_cons.mp hE with h | h
  · cases h
    exact List.mem_append_left _ (List.mem_append_left _ hw)
  rcases List.mem_cons.mp h with h | h
  · cases h
    exact List.mem_append_left _ (List.mem_append_right _ hw)
  rcases List.mem_cons.mp h with h | h
  · cases h
    exact List.mem_append_right _ hw
  · cases h
theorem V_throwSW (F : Fx p s m args meth c cc nL RX7 nme Ts ret D cy A) (FT : FxT l s c A) {E text : String} {w2 : va_W} {ik is ic : Nat} (hE : (E, ic) ∈ ([("java/lang/IllegalArgumentException", 45), ("java/lang/IllegalStateException", 90), ("java/lang/IndexOutOfBoundsException", 202)] : List (String × Nat))) (hstr : (is, text) ∈ strL) (hcls : Bundle.fit E = true) (hnames : ∀ n ∈ exNames, Bundle.fit n = true) (hk : Cond.classLink RX7 ik E ∈ Ts) (hini : Cond.initialized E ∈ Ts) (hgw : ∀ w ∈ (vx_atS RX7 ic E exNames).filter goodWord, w ∈ Ts) (hot : ∀ w ∈ Cond.classLink RX7 ik E :: Cond.initialized E :: vx_atS RX7 ic E exNames, vx_ot w = true)
    (d0 : decode cc pc = .ok (.new ik, 3)) (d3 : decode cc (pc + 3) = .ok (.dup, 1)) (d4 : decode cc (pc + 4) = .ok (.ldc_w is, 3)) (d6 : decode cc (pc + 7) = .ok (.invokespecial ic, 3)) (d9 : decode cc (pc + 10) = .ok (.athrow, 1)) (hRf : exNames.length + 3 < R.frames) (hRl : (rest.map fun v => v.category).sum + (13 * (exNames.length + 1) + 43) ≤ R.locals) (hRc : 0 + 1 ≤ R.cells) (hRs : 0 + 6 ≤ R.slots) (hw : w = w2) : V p l e R s m args below meth c nL D A 0 0 (vx_MQ below QF (xcT D w2 E A) args s 1 6 A) w L rest pc := fun H locs ls hP hD hS hl => by
  subst hw
  obtain ⟨sa, hsa⟩ := FT.1.2 (is, text) hstr
  refine vx_throwSW (names := exNames) F.exec F.code FT.2.2.2 F.fown hcls hnames (F.ts _ hk) (F.ts _ hini) hsa (vx_hat (B := ngL) (fun w hw => F.ts w (hgw w hw)) (fun w hw => ?_) (fun w hw => va_Nw.use (cd_on (ngL_cd w hw)) (FT.1.1 w hw))) hot FT.2.1.1 FT.2.1.2 hS (hl.1.trans F.ml.symm) d0 d3 d4 d6 d9 (no_cover FT.2.2.1 _) hRf hRl hRc hRs F.locks (fun t _ h2 h3 => thr_x hP hS t h2 h3) hS.2.2 (Nat.le_refl _) (Nat.le_refl _)
  rcases List.mem_cons.mp hE with h | h
  · cases h
    exact List.mem_append_left _ (List.mem_append_left _ hw)
  rcases List.mem_cons.mp h with h | h
  · cases h
    exact List.mem_append_left _ (List.mem_append_right _ hw)
  rcases List.mem_cons.mp h with h | h
  · cases h
    exact List.mem_append_right _ hw
  · cases h
theorem ok_preX {as : List Value} {wc : va_W} {is : List Nat} {H : Heap} {locs : List Loc} (hTW : thrW s) (hTH : thrH A s s.heap) (hN : nestG s) (hK : va_K D vwCl (tyl cy) s) (hnew : ∀ q : Nat, s.heap.size ≤ q → A q) (hP : va_P D vwCl w H) (hD : va_D A w) (hS : va_S A s.heap H locs) (hC : is.map (fun i => w[i]?) = wc.map some) (hn : va_nd is = true) : ∀ U : State, U.heap = H → s.WarmedH U.vm → ok_PreX D cy as wc H.size as.toArray U :=
  fun U hU hW => ⟨rfl, ⟨by rw [hU], by rw [hU]; exact hP.cut hC, va_K.moved hW.alike hK, (hD.sub is hn hC).weaken (fun _ _ _ _ => trivial), hN.warm hW⟩, hTW.warm hW, by
    rw [hU]
    exact ((hTH.kept hS.2.1).moved hW.alike).narrow (va_free hD hS hnew is hC)⟩
/-- behind a call that has thrown -/
theorem T_run {E : String} {wc wc' w2 : va_W} {is : List Nat} {H : Heap} {locs : List Loc} {ls : Array Slot} {st0 : List Value} {a : Array Value} {Ts : List Cond} {own nme : String} (F : Fx p s m args meth c cc nL own nme Ts ret D cy A) (FT : FxT l s c A)
    (hrun : vx_Run p l e R s m args below meth c H locs 0 0 1 6 (F0 m pc ls st0) rest (QF a) (xcT D wc' E (va_A wc H.size)) (va_A wc H.size)) (hP : va_P D vwCl w H) (hD : va_D A w) (hS : va_S A s.heap H locs)
    (hC : is.map (fun i => w[i]?) = wc.map some) (hn : va_nd is = true) (hf : wc'.map (·.1) = wc.map (·.1)) (hw : reps w is wc' = w2) : W p l e R s m args below meth c H locs 0 0 (vx_MQ below QF (xcT D w2 E A) args s 1 6 A) (F0 m pc ls st0) := by
  intro T hT X
  rcases hrun T hT X with ⟨v, st₀, t, T', L', h0, X', hL, e1, e2, hq, st⟩ | ⟨q, st₀, t, T', L', E', ce, h0, X', hL, e1, e2, ⟨rfl, hp, hz, hk⟩, hce, hcv, hcl, st⟩
  · exact hq.elim
  · rw [h0] at hz hk
    have hF := va_free hD hS F.new is hC
    obtain ⟨p1, p2⟩ := va_reps (H1 := T'.heap) hP hD hC hn (fun q h1 h2 => by rw [e1]; exact hk q h1 h2) hf (by rw [e1]; exact hp)
    rw [hw] at p1
    have hS2 : va_S A s.heap T'.heap (locs ++ L') := ⟨Nat.le_trans hS.1 (by rw [e1]; exact hz), fun q h1 h2 => by
      rw [e1, hk q (Nat.lt_of_lt_of_le h1 hS.1) (fun z => h2 (hF q z))]
      exact hS.2.1 q h1 h2, fun q hq => by
      rcases List.mem_append.mp hq with h | h
      · exact hS.2.2 q h
      · exact hF _ (hL q h)⟩
    have key : vx_W p l e R s m args below meth c T'.heap (locs ++ L') (0 + 1) (0 + 6) (vx_MQ below QF (xcT D w2 E' A) args s 1 6 A) (F0 m pc ls rest) q :=
      vx_out (no_cover FT.2.2.1 _) F.locks (by rw [e1]; exact hce) hcv hcl (fun t ht _ => ⟨rfl, by rw [ht]; exact p1, by rw [ht]; exact hS2.1, fun q h1 h2 => by rw [ht]; exact hS2.2.1 q h1 h2⟩) hS2.2.2 (Nat.le_refl _) (Nat.le_refl _)
    obtain ⟨t2, a1, b1⟩ := key T' rfl X'
    exact ⟨t2, st.trans a1, b1⟩
theorem T_V (F : Fx p s m args meth c cc nL RX7 nme Ts ret D cy A) (FT : FxT l s c A) {C : String} {y : MethodName} {wy : List Cond} {rm : Room} {index n maxL : Nat} {bytes : ByteArray} {ry : Option FieldType} {b : Nat} {As : List Value} {wc wc' w2 : va_W} {E : String} {st : List Value} {T : u_T} {N : Nat} {fs : List Value} {is : List Nat} {put : va_W → va_W} (ci : Nat)
    (hM : okT l y wy rm D cy (.ref b :: As) wc wc' E) (cw : CallW R s args RX7 C index y bytes maxL ry wy rm 1 6 n) (hn : As.length = n) (d : decode cc pc = .ok (.invokevirtual index, 3)) (hfit : Fit w is wc put) (hf : wc'.map (·.1) = wc.map (·.1)) (hc : vwCl[ci]? = some (C, T, N)) (hq : wc[0]? = some (b, .inr (ci, fs))) (hcat : (rest.map fun v => v.category).sum ≤ 8) (hcl : 0 + 1 ≤ R.cells) (hsl : 0 + 6 ≤ R.slots) (hst : st = As.reverse ++ .ref b :: rest) (hw : put wc' = w2) : V p l e R s m args below meth c nL D A 0 0 (vx_MQ below QF (xcT D w2 E A) args s 1 6 A) w L st pc := fun H locs ls hP hD hS hl =>
  T_run F FT (vx_runV F.fix (hM H.size) cw ⟨ok_blindX _ _ _ _ _, va_recv F.K (hP.cut hfit.1) hc hq, ok_preX FT.1 FT.2.1 F.nest F.K F.new hP hD hS hfit.1 hfit.2.1⟩ rfl hn hl.1 hst (lv_room hcat) d ⟨hcl, hsl⟩) hP hD hS hfit.1 hfit.2.1 hf ((hfit.2.2 wc' hf).trans hw)
theorem T_Sc (F : Fx p s m args meth c cc nL RX7 nme Ts ret D cy A) (FT : FxT l s c A) {y : MethodName} {wy : List Cond} {rm : Room} {index n maxL : Nat} {bytes : ByteArray} {ry : Option FieldType} {As : List Value} {E : String} {w2 : va_W} {st : List Value}
    (hM : okT l y wy rm D cy As [] [] E) (cw : CallB R s args RX7 index y bytes maxL ry wy rm 1 6 n ∧ (Cond.static y).before args s = true) (hn : As.length = n) (d : decode cc pc = .ok (.invokestatic index, 3)) (hcat : (rest.map fun v => v.category).sum ≤ 8) (hcl : 0 + 1 ≤ R.cells) (hsl : 0 + 6 ≤ R.slots) (hst : st = As.reverse ++ rest) (hw : w = w2) : V p l e R s m args below meth c nL D A 0 0 (vx_MQ below QF (xcT D w2 E A) args s 1 6 A) w L st pc := fun H locs ls hP hD hS hl =>
  T_run (is := []) F FT (vx_runS F.fix (hM H.size) cw ⟨ok_blindX _ _ _ _ _, ok_preX (is := []) FT.1 FT.2.1 F.nest F.K F.new hP hD hS rfl rfl⟩ rfl hn hl.1 hst (lv_room hcat) d ⟨hcl, hsl⟩) hP hD hS rfl rfl rfl hw
end VT
theorem fit_0 : Bundle.fit "java/lang/IllegalArgumentException" = true := by decide +kernel
theorem fit_1 : Bundle.fit "java/lang/IllegalStateException" = true := by decide +kernel
theorem fit_2 : Bundle.fit "java/lang/IndexOutOfBoundsException" = true := by decide +kernel
theorem fit_n : ∀ n ∈ exNames, Bundle.fit n = true := by decide +kernel
