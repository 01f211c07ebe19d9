/-! the law's own frame -/
def aL (s : State) : Nat → Prop := fun q => s.heap.size ≤ q
def FxL (s : State) (b L : Nat) (xs : Nat → Int32) : Prop := thrW s ∧ thrH (aL s) s s.heap ∧ catW s ∧ va_X b L xs s s.heap ∧ b < s.heap.size
theorem FxL.nb {s : State} {b L : Nat} {xs : Nat → Int32} (G : FxL s b L xs) : ¬ aL s b := Nat.not_le.mpr G.2.2.2.2
theorem lgc_self (x : Int64) : lg_cmp x x = 0 := by unfold lg_cmp; simp
theorem wsS_in {idx : Nat} {y : MethodName} {cc : ByteArray} {maxL : Nat} {hh : List (Nat × Nat × Nat × Nat)} (h1 : Cond.methodLink RL idx y ∈ lw_tbl) (h2 : Cond.static y ∈ lw_tbl) (h3 : Cond.initialized y.cls ∈ lw_tbl) (h4 : Cond.codeWith y cc maxL (some .int) hh ∈ lw_tbl) : GoodIn lw_tbl (va_wsS RL idx y (wW y cc maxL hh)) := by
  unfold va_wsS
  refine goodIn_app (goodIn_sub (List.forall_mem_cons.mpr ⟨h1, List.forall_mem_cons.mpr ⟨h2, List.forall_mem_cons.mpr ⟨h3, fun _ h => absurd h List.not_mem_nil⟩⟩⟩) rfl) (goodIn_sub (List.forall_mem_cons.mpr ⟨h4, lwg_tbl⟩) ?_)
  show (goodWord _ && lwg.all goodWord) = true
  rw [lwg_all]
  rfl
section VL
variable {p : Program} {l : Launch} {e : Env} {R : Room} {s : State} {m : MethodId} {args : Array Value} {below : List Frame} {meth : Method} {c : Code} {nL : Nat} {own nme : String} {Ts : List Cond} {rty : Option FieldType} {D : va_G} {cy : Nat → ClassId} {A : Nat → Prop} {cells slots : Nat} {Q : State → Prop} {w : va_W} {L : List (Nat × Value)} {rest : List Value} {pc : Nat} {cc : ByteArray}
theorem V_runK {wc wc' : va_W} {out : Option Value} {is : List Nat} {H : Heap} {locs : List Loc} {ls : Array Slot} {st0 : List Value} {a : Array Value} {mc ms : Nat} (hnew : ∀ q : Nat, s.heap.size ≤ q → A q)
    (hrun : va_Run p l e R s m args below meth c H locs cells slots mc ms (F0 m pc ls st0) rest (ok_Q D wc' out (va_A wc H.size) a) (va_A wc H.size)) (hP : va_P D vwCl w H) (hD : va_D A w) (hS : va_S A s.heap H locs) (hl : lv_has ls nL L)
    (hC : is.map (fun i => w[i]?) = wc.map some) (hn : va_nd is = true) (hf : wc'.map (·.1) = wc.map (·.1)) (k : V p l e R s m args below meth c nL D A (cells + mc) (slots + ms) Q (reps w is wc') L (out.toList ++ rest) (pc + 3)) : W p l e R s m args below meth c H locs cells slots Q (F0 m pc ls st0) := by
  intro T hT X
  obtain ⟨v, st₀, t, T', L', h0, X', hL, e1, e2, ⟨⟨hv, hp⟩, hz, hk⟩, st⟩ := hrun T hT X
  cases hv
  rw [h0] at hz hk
  have hF := va_free hD hS hnew is hC
  obtain ⟨p1, p2⟩ := va_reps (H1 := T'.heap) hP hD hC hn (fun q h1 h2 => by rw [e1]; exact hk q h1 h2) hf (by rw [e1]; exact hp)
  obtain ⟨t2, a1, b1⟩ := k T'.heap (locs ++ L') ls p1 p2 ⟨Nat.le_trans hS.1 (by rw [e1]; exact hz), fun q h1 h2 => by
      rw [e1, hk q (Nat.lt_of_lt_of_le h1 hS.1) (fun z => h2 (hF q z))]
      exact hS.2.1 q h1 h2, fun q hq => by
      rcases List.mem_append.mp hq with h | h
      · exact hS.2.2 q h
      · exact hF _ (hL q h)⟩ hl T' rfl X'
  exact ⟨t2, st t2 a1, b1⟩
theorem ok_preW {as : List Value} {wc : va_W} {is : List Nat} {H : Heap} {locs : List Loc} (hTW : thrW s) (hTH : thrH A s s.heap) (hCW : catW s) (hN : nestG s) (hK : va_K D vwCl (tyl cy) s) (hnew : ∀ q : Nat, s.heap.size ≤ q → A q) (hP : va_P D vwCl w H) (hD : va_D A w) (hS : va_S A s.heap H locs) (hC : is.map (fun i => w[i]?) = wc.map some) (hn : va_nd is = true) : ∀ U : State, U.heap = H → s.WarmedH U.vm → ok_PreW D cy as wc H.size as.toArray U :=
  fun U hU hW => by
    obtain ⟨a1, a2, a3, a4⟩ := ok_preX (as := as) hTW hTH hN hK hnew hP hD hS hC hn U hU hW
    exact ⟨a1, a2, ⟨a3, a4⟩, hCW.warm hW⟩
theorem V_SW (F : Fx p s m args meth c cc nL own nme Ts rty D cy A) (hTW : thrW s) (hTH : thrH A s s.heap) (hCW : catW s) {y : MethodName} {wy : List Cond} {rm : Room} {index n maxL : Nat} {bytes : ByteArray} {ry : Option FieldType} {hh : List (Nat × Nat × Nat × Nat)} {As : List Value} {c1 c2 d1 d2 w2 : va_W} {out : Option Value} {st st2 : List Value} {is : List Nat} {put : va_W → va_W → va_W}
    (hM : okW l y wy rm D cy As (c1 ++ c2) (d1 ++ d2) out) (cw : vx_CSW R s args own index y bytes maxL ry hh wy rm 1 6 n) (hn : As.length = n) (d : decode cc pc = .ok (.invokestatic index, 3)) (hfit : Fit2 w is c1 c2 put) (hf1 : d1.map (·.1) = c1.map (·.1)) (hf2 : d2.map (·.1) = c2.map (·.1)) (hcat : (rest.map fun v => v.category).sum ≤ 8) (hcl : cells + 1 ≤ R.cells) (hsl : slots + 6 ≤ R.slots) (hst : st = As.reverse ++ rest) (hst2 : out.toList ++ rest = st2) (hw : put d1 d2 = w2) (k : V p l e R s m args below meth c nL D A (cells + 1) (slots + 6) Q w2 L st2 (pc + 3)) : V p l e R s m args below meth c nL D A cells slots Q w L st pc := fun H locs ls hP hD hS hl => by
  subst hst2
  subst hw
  rw [← hfit.2.2 d1 d2 hf1 hf2] at k
  exact V_runK F.new (vx_runSW F.fix (hM H.size) cw ⟨ok_blindW _ _ _ _ _, ok_preW hTW hTH hCW F.nest F.K F.new hP hD hS hfit.1 hfit.2.1⟩ rfl hn hl.1 hst (lv_room hcat) d ⟨hcl, hsl⟩) hP hD hS hl hfit.1 hfit.2.1 (fst_app hf1 hf2) k
theorem V_sld (F : Fx p s m args meth c cc nL own nme Ts rty D cy A) {b n : Nat} {xs : Nat → Int32} (hX : va_X b n xs s s.heap) (hbl : b < s.heap.size) (hbA : ¬ A b) {i : Int32} (hin : vp_in i n) (d : decode cc pc = .ok (.iaload, 1)) (k : V p l e R s m args below meth c nL D A cells slots Q w L (.int (xs i.toNatClampNeg) :: rest) (pc + 1)) : V p l e R s m args below meth c nL D A cells slots Q w L (.int i :: .ref b :: rest) pc := fun H locs ls hP hD hS hl => va_sld F.exec F.code hX hbl hbA hS hin d (k H locs ls hP hD hS hl)
theorem V_slen (F : Fx p s m args meth c cc nL own nme Ts rty D cy A) {b n : Nat} {xs : Nat → Int32} (hX : va_X b n xs s s.heap) (hbl : b < s.heap.size) (hbA : ¬ A b) (d : decode cc pc = .ok (.arraylength, 1)) (k : V p l e R s m args below meth c nL D A cells slots Q w L (.int (Int32.ofNat n) :: rest) (pc + 1)) : V p l e R s m args below meth c nL D A cells slots Q w L (.ref b :: rest) pc := fun H locs ls hP hD hS hl => va_slen F.exec F.code hX hbl hbA hS d (k H locs ls hP hD hS hl)
end VL
theorem V_true {p : Program} {l : Launch} {e : Env} {s : State} {m : MethodId} {below : List Frame} {meth : Method} {c : Code} {nme : String} {D : va_G} {cy : Nat → ClassId} {b cells slots : Nat} {w : va_W} {L : List (Nat × Value)} (F : Fx p s m #[.ref b] meth c cL_law 9 RL nme lw_tbl ret D cy (aL s)) (hc : cells ≤ 601024) (hs : slots ≤ 7293034) : V p l e room_1 s m #[.ref b] below meth c 9 D (aL s) cells slots (lw_Z below #[.ref b] s) w L [.int 1] 1533 := fun H locs ls hP hD hS hl =>
  W.widen hc hs (va_forget hS.2.2 (lw_ret (d0 := s.drawn) (Drawn.sameBut.refl s.drawn lw_cs) F.exec F.code F.fret F.locks dL_law_1533))
