abbrev SX0 : Type := (Nat → SX1) × Int32 × Int32
def updM (f : Nat → SX1) (k : Nat) (x : SX1) : Nat → SX1 := fun j => if j = k then x else f j
def wX0 (cy : Nat → ClassId) (a : Nat → Nat) (v : SX0) : va_W := [(a 0, .inr (0, [.ref (a 1), .int v.2.1, .int v.2.2])), (a 1, .inl (cy 2, 6, .inr (.inr (.inr (.inr (fun j => some (a (22 * j + 2))))))))] ++ (wX1 cy (fun i => a (i + 2)) (v.1 0) ++ (wX1 cy (fun i => a (i + 24)) (v.1 1) ++ (wX1 cy (fun i => a (i + 46)) (v.1 2) ++ (wX1 cy (fun i => a (i + 68)) (v.1 3) ++ (wX1 cy (fun i => a (i + 90)) (v.1 4) ++ (wX1 cy (fun i => a (i + 112)) (v.1 5)))))))
theorem fstX0 {cy : Nat → ClassId} {a : Nat → Nat} {v v2 : SX0} : (wX0 cy a v).map (·.1) = (wX0 cy a v2).map (·.1) := fst_app (a := [_, _]) (c := [_, _]) rfl (fst_app fstX1 (fst_app fstX1 (fst_app fstX1 (fst_app fstX1 (fst_app fstX1 (fstX1))))))
section V0
variable {p : Program} {l : Launch} {e : Env} {R : Room} {s : State} {m : MethodId} {args : Array Value} {below : List Frame} {meth : Method} {c : Code} {nL : Nat} {own nme : String} {Ts : List Cond} {ret : Option FieldType} {D : va_G} {cy : Nat → ClassId} {A : Nat → Prop} {cells slots : Nat} {Q : State → Prop} {w : va_W} {L : List (Nat × Value)} {rest : List Value} {pc : Nat} {cc : ByteArray}
theorem V_alenq (F : Fx p s m args meth c cc nL own nme Ts ret D cy A) {a : Nat} {n : Nat} {f : Nat → Option Nat} {v : Int32} (q0 : Nat) (ha : w[q0]? = some (a, .inl (cy 2, n, .inr (.inr (.inr (.inr f)))))) (hv : Int32.ofNat n = v) (d : decode cc pc = .ok (.arraylength, 1)) (k : V p l e R s m args below meth c nL D A cells slots Q w L (.int v :: rest) (pc + 1)) : V p l e R s m args below meth c nL D A cells slots Q w L (.ref a :: rest) pc := fun H locs ls hP hD hS hl => va_alen F.exec F.code F.K hP q0 1 ha (ty := .object "GreenMachines$Machine") rfl hv d (k H locs ls hP hD hS hl)
theorem V_aald (F : Fx p s m args meth c cc nL own nme Ts ret D cy A) {a : Nat} {n : Nat} {f : Nat → Option Nat} {i : Int32} {x : Value} (q0 : Nat) (ha : w[q0]? = some (a, .inl (cy 2, n, .inr (.inr (.inr (.inr f)))))) (hin : vp_in i n) (hx : va_rf (f i.toNatClampNeg) = x) (d : decode cc pc = .ok (.aaload, 1)) (k : V p l e R s m args below meth c nL D A cells slots Q w L (x :: rest) (pc + 1)) : V p l e R s m args below meth c nL D A cells slots Q w L (.int i :: .ref a :: rest) pc := fun H locs ls hP hD hS hl => by
  subst hx
  exact va_aldq F.exec F.code F.K hP q0 1 ha (C := "GreenMachines$Machine") rfl hin d (k H locs ls hP hD hS hl)
theorem V_ifnonnull (F : Fx p s m args meth c cc nL own nme Ts ret D cy A) {x : Nat} {off : Int} {tgt : Nat} (d : decode cc pc = .ok (.ifnonnull off, 3)) (ht : (pc : Int) + off = (tgt : Int)) (k : V p l e R s m args below meth c nL D A cells slots Q w L rest tgt) : V p l e R s m args below meth c nL D A cells slots Q w L (.ref x :: rest) pc := fun H locs ls hP hD hS hl => lv_ifnonnull F.exec F.code d ht (k H locs ls hP hD hS hl)
theorem V_ifnull (F : Fx p s m args meth c cc nL own nme Ts ret D cy A) {x : Nat} {off : Int} (d : decode cc pc = .ok (.ifnull off, 3)) (k : V p l e R s m args below meth c nL D A cells slots Q w L rest (pc + 3)) : V p l e R s m args below meth c nL D A cells slots Q w L (.ref x :: rest) pc := fun H locs ls hP hD hS hl => lv_ifnull F.exec F.code d (k H locs ls hP hD hS hl)
theorem V_aret (F : Fx p s m args meth c cc nL own nme Ts ret D cy A) {x xo : Nat} {rt : FieldType} {w2 : va_W} (hr : ret = some rt) (hrt : (∃ n, rt = .object n) ∨ ∃ t, rt = .array t) (d : decode cc pc = .ok (.areturn, 1)) (hw : w = w2) (hv : x = xo) : V p l e R s m args below meth c nL D A cells slots (MQ below (ok_Q D w2 (some (.ref xo)) A) args s cells slots A) w L [.ref x] pc := fun H locs ls hP hD hS hl => by
  subst hw
  subst hv
  exact W.aret F.exec F.code (F.fret.trans hr) hrt (Or.inr ⟨_, rfl⟩) (fun t ht hW => ⟨⟨rfl, by rw [ht]; exact hP⟩, hS.F ht⟩) hS.2.2 d F.locks
end V0
theorem hd_X0_stateAt : yX0_stateAt.cls = RX0 ∧ yX0_stateAt.cls ≠ "java/lang/invoke/MethodHandle" ∧ yX0_stateAt.cls ≠ "java/lang/invoke/VarHandle" ∧ (parseMethodDescriptor yX0_stateAt.desc).map (fun d => d.parameters.length) = some 1 := by decide +kernel
theorem hd_X0_keep : yX0_keep.cls = RX0 ∧ yX0_keep.cls ≠ "java/lang/invoke/MethodHandle" ∧ yX0_keep.cls ≠ "java/lang/invoke/VarHandle" ∧ (parseMethodDescriptor yX0_keep.desc).map (fun d => d.parameters.length) = some 1 := by decide +kernel
theorem hd_X0_restore : yX0_restore.cls = RX0 ∧ yX0_restore.cls ≠ "java/lang/invoke/MethodHandle" ∧ yX0_restore.cls ≠ "java/lang/invoke/VarHandle" ∧ (parseMethodDescriptor yX0_restore.desc).map (fun d => d.parameters.length) = some 1 := by decide +kernel
set_option maxHeartbeats 8000000 in
set_option maxRecDepth 100000 in
theorem M_X0_stateAt (l : Launch) (D : va_G) (cy : Nat → ClassId) (a : Nat → Nat) (v : SX0) (x : Int32) (j : Nat) (hj : j < 6) (hx : x = nI j) : okM l yX0_stateAt wsX0_stateAt (rmz 0 0) D cy [.ref (a 0), .int x] (wX0 cy a v) (wX0 cy a v) (some (.ref (a (22 * j + 2)))) := by
  refine okM_of (own := RX0) (nme := "stateAt") (cc := cX0_stateAt) (maxL := 2) (ret := (some (.object "GreenMachines$Machine"))) (by decide) rfl rfl rfl (Nat.le_of_ble_eq_true rfl) ?_
  intro p e s m args below meth c A F
  have i_X0 : ∀ w ∈ u_ws RX0 TX0 3, w ∈ wsX0_stateAt := fun _ h => List.mem_cons_of_mem _ (List.mem_append_right _ h)
  refine V.eq rfl (show lv_args 0 [.ref (a 0), .int x] = [(0, .ref (a 0)), (1, .int x)] from rfl) rfl ?_
  refine V_iload_n (pc := 0) F dX0_stateAt_0 rfl 1 rfl ?_
  refine V_if_lt (pc := 1) (tgt := 22) F dX0_stateAt_1 (by decide) (fun h => absurd h (by rw [hx]; exact nI_pos (by omega))) (fun h1 => ?_)
  refine V_iload_n (pc := 4) F dX0_stateAt_4 rfl 1 rfl ?_
  refine V_aload_n (pc := 5) F dX0_stateAt_5 rfl 0 rfl ?_
  refine V_get (pc := 6) F 0 0 0 i_X0 rfl (by decide) rfl (mm 1 rfl) dX0_stateAt_6 rfl rfl ?_
  refine V_alenq (v := nI 6) (pc := 9) F 1 rfl rfl dX0_stateAt_9 ?_
  refine V_icmp_ge (pc := 10) (tgt := 22) F dX0_stateAt_10 (by decide) (fun h => absurd h (by rw [hx]; exact nI_ge hj (by decide))) (fun h2 => ?_)
  refine V_aload_n (pc := 13) F dX0_stateAt_13 rfl 0 rfl ?_
  refine V_get (pc := 14) F 0 0 0 i_X0 rfl (by decide) rfl (mm 1 rfl) dX0_stateAt_14 rfl rfl ?_
  refine V_iload_n (pc := 17) F dX0_stateAt_17 rfl 1 rfl ?_
  refine V_aald (x := .ref (a (22 * j + 2))) (pc := 18) F 1 rfl (by rw [hx]; exact vp_in_nI hj (by decide)) (by rw [hx, nI_clamp (by omega)]; rfl) dX0_stateAt_18 ?_
  refine V_goto (pc := 19) (tgt := 23) F dX0_stateAt_19 (by decide) ?_
  exact V_aret F rfl (Or.inl ⟨_, rfl⟩) dX0_stateAt_23 rfl rfl
theorem X2_copyFrom_eq (N : Nat) (v v1 : SX2) : fX2_copyFrom N v v1 = some v1 := rfl
theorem X1_copyFrom_eq (N : Nat) (v v1 : SX1) : fX1_copyFrom N v v1 = some v1 := rfl
/-- the slot of a saved machine -/
def slotI (o k : Int32) : Int32 := (o + k) - (o + k) / 6 * 6
def fX0_keep (_ : Nat) (v : SX0) (v1 : SX1) : Option SX0 :=
  chk (slotI v.2.1 v.2.2) 6 (if v.2.2 = 6 then some (updM v.1 (slotI v.2.1 v.2.2).toNatClampNeg v1, slotI v.2.1 1, v.2.2) else some (updM v.1 (slotI v.2.1 v.2.2).toNatClampNeg v1, v.2.1, v.2.2 + 1))
def fX0_restore (_ : Nat) (v : SX0) (v1 : SX1) : Option (SX0 × SX1) :=
  if v.2.2 = 0 then some (v, v1) else chk (slotI v.2.1 (v.2.2 - 1)) 6 (some ((v.1, v.2.1, v.2.2 - 1), v.1 (slotI v.2.1 (v.2.2 - 1)).toNatClampNeg))
theorem six {i : Int32} (h : vp_in i 6) : i = nI 0 ∨ i = nI 1 ∨ i = nI 2 ∨ i = nI 3 ∨ i = nI 4 ∨ i = nI 5 := by
  obtain ⟨j, hj, rfl⟩ := nI_of (fun q => h (Or.inl q))
  have h2 : j < 6 := Nat.lt_of_not_le (fun q => h (Or.inr (by rw [nI_clamp hj]; exact q)))
  have h3 : j = 0 ∨ j = 1 ∨ j = 2 ∨ j = 3 ∨ j = 4 ∨ j = 5 := by omega
  rcases h3 with rfl | rfl | rfl | rfl | rfl | rfl
  · exact Or.inl rfl
  · exact Or.inr (Or.inl rfl)
  · exact Or.inr (Or.inr (Or.inl rfl))
  · exact Or.inr (Or.inr (Or.inr (Or.inl rfl)))
  · exact Or.inr (Or.inr (Or.inr (Or.inr (Or.inl rfl))))
  · exact Or.inr (Or.inr (Or.inr (Or.inr (Or.inr rfl))))
theorem R1_copyFrom (l : Launch) (D : va_G) (cy : Nat → ClassId) (a a1 : Nat → Nat) (v v1 : SX1) : okM l yX1_copyFrom wsX1_copyFrom (rmz 3 64) D cy [.ref (a 0), .ref (a1 0)] (wX1 cy a v ++ wX1 cy a1 v1) (wX1 cy a v1 ++ wX1 cy a1 v1) none := M_X1_copyFrom l D cy 0 a a1 v v1 v1 (X1_copyFrom_eq 0 v v1)
set_option maxHeartbeats 16000000 in
set_option maxRecDepth 100000 in
theorem M_X0_keep (l : Launch) (D : va_G) (cy : Nat → ClassId) (N : Nat) (a a1 : Nat → Nat) (v : SX0) (v1 : SX1) (o : SX0) (hf : fX0_keep N v v1 = some o) : okM l yX0_keep wsX0_keep (rmz 4 85) D cy [.ref (a 0), .ref (a1 0)] (wX0 cy a v ++ wX1 cy a1 v1) (wX0 cy a o ++ wX1 cy a1 v1) none := by
  refine okM_of (own := RX0) (nme := "keep") (cc := cX0_keep) (maxL := 3) (ret := none) (by decide) rfl rfl rfl (Nat.le_of_ble_eq_true rfl) ?_
  intro p e s m args below meth c A F
  have i_X0 : ∀ w ∈ u_ws RX0 TX0 3, w ∈ wsX0_keep := fun _ h => List.mem_cons_of_mem _ (List.mem_append_left _ (List.mem_append_left _ (List.mem_append_left _ (List.mem_append_right _ h))))
  unfold fX0_keep at hf
  refine V.eq rfl (show lv_args 0 [.ref (a 0), .ref (a1 0)] = [(0, .ref (a 0)), (1, .ref (a1 0))] from rfl) rfl ?_
  obtain ⟨c1, hf⟩ := chk_some hf
  refine V_aload_n (pc := 0) F dX0_keep_0 rfl 0 rfl ?_
  refine V_aload_n (pc := 1) F dX0_keep_1 rfl 0 rfl ?_
  refine V_get (pc := 2) F 0 0 1 i_X0 rfl (by decide) rfl (mm 1 rfl) dX0_keep_2 rfl rfl ?_
  refine V_aload_n (pc := 5) F dX0_keep_5 rfl 0 rfl ?_
  refine V_get (pc := 6) F 0 0 2 i_X0 rfl (by decide) rfl (mm 2 rfl) dX0_keep_6 rfl rfl ?_
  refine V_iadd (pc := 9) F dX0_keep_9 ?_
  refine V_bipush (v := 6) (pc := 10) F dX0_keep_10 (by decide) ?_
  refine V_irem (pc := 12) F dX0_keep_12 (by decide) ?_
  rcases six c1 with hj | hj | hj | hj | hj | hj
  · rw [hj] at hf
    refine V_V (rest := []) (w2 := wX0 cy a v ++ wX1 cy a1 v1) (st2 := [.ref (a 2)]) (pc := 13) F 0 (M_X0_stateAt l D cy a v _ 0 (by decide) hj) (cwV 1 F.ts gX0_keep_X0_stateAt rfl rfl rfl hd_X0_stateAt ⟨Nat.le_of_ble_eq_true rfl, Nat.le_of_ble_eq_true rfl⟩) rfl dX0_keep_13 (Fit.left Fit.whole) rfl rfl rfl (Nat.le_of_ble_eq_true rfl) (Nat.zero_le _) (Nat.zero_le _) rfl rfl rfl ?_
    refine V_astore_n (L2 := [(2, .ref (a 2)), (0, .ref (a 0)), (1, .ref (a1 0))]) (pc := 16) F dX0_keep_16 rfl (by decide) rfl ?_
    refine V_aload_n (pc := 17) F dX0_keep_17 rfl 0 rfl ?_
    refine V_ifnonnull (pc := 18) (tgt := 22) F dX0_keep_18 (by decide) ?_
    refine V_aload_n (pc := 22) F dX0_keep_22 rfl 0 rfl ?_
    refine V_aload_n (pc := 23) F dX0_keep_23 rfl 2 rfl ?_
    refine V_V2 (w2 := wX0 cy a (updM v.1 0 v1, v.2) ++ wX1 cy a1 v1) (rest := []) (st2 := []) (pc := 24) F 1 (R1_copyFrom l D cy (fun i => a (i + 2)) a1 (v.1 0) v1) (cwV 1 F.ts gX0_keep_X1_copyFrom rfl rfl rfl hd_X1_copyFrom ⟨Nat.le_of_ble_eq_true rfl, Nat.le_of_ble_eq_true rfl⟩) rfl dX0_keep_24 (Fit2.both (Fit.right (Fit.left Fit.whole)) Fit.whole) fstX1 rfl rfl rfl (Nat.le_of_ble_eq_true rfl) (Nat.zero_le _) (Nat.zero_le _) rfl rfl rfl ?_
    refine V_aload_n (pc := 27) F dX0_keep_27 rfl 1 rfl ?_
    refine V_get (pc := 28) F 0 0 2 i_X0 rfl (by decide) rfl (mm 2 rfl) dX0_keep_28 rfl rfl ?_
    refine V_bipush (v := 6) (pc := 31) F dX0_keep_31 (by decide) ?_
    refine V_icmp_ne (pc := 33) (tgt := 52) F dX0_keep_33 (by decide) (fun h => ?_) (fun h => ?_)
    · replace hf := ite_neg hf h
      obtain rfl := some_of hf
      refine V_aload_n (pc := 52) F dX0_keep_52 rfl 1 rfl ?_
      refine V_dup (pc := 53) F dX0_keep_53 rfl ?_
      refine V_get (pc := 54) F 0 0 2 i_X0 rfl (by decide) rfl (mm 2 rfl) dX0_keep_54 rfl rfl ?_
      refine V_iconst (v := 1) (pc := 57) F dX0_keep_57 (by decide) ?_
      refine V_iadd (pc := 58) F dX0_keep_58 ?_
      refine V_put (w2 := wX0 cy a (updM v.1 0 v1, v.2.1, v.2.2 + 1) ++ wX1 cy a1 v1) (pc := 59) F 0 0 2 i_X0 tyX0 tyX0_ok nmX0 rfl (by decide) rfl (mm 2 rfl) rfl dX0_keep_59 rfl rfl rfl (Nat.le_of_ble_eq_true rfl) rfl ?_
      exact V_vret F rfl dX0_keep_62 rfl
    · replace hf := ite_pos hf h
      obtain rfl := some_of hf
      refine V_aload_n (pc := 36) F dX0_keep_36 rfl 1 rfl ?_
      refine V_aload_n (pc := 37) F dX0_keep_37 rfl 1 rfl ?_
      refine V_get (pc := 38) F 0 0 1 i_X0 rfl (by decide) rfl (mm 1 rfl) dX0_keep_38 rfl rfl ?_
      refine V_iconst (v := 1) (pc := 41) F dX0_keep_41 (by decide) ?_
      refine V_iadd (pc := 42) F dX0_keep_42 ?_
      refine V_bipush (v := 6) (pc := 43) F dX0_keep_43 (by decide) ?_
      refine V_irem (pc := 45) F dX0_keep_45 (by decide) ?_
      refine V_put (w2 := wX0 cy a (updM v.1 0 v1, slotI v.2.1 1, v.2.2) ++ wX1 cy a1 v1) (pc := 46) F 0 0 1 i_X0 tyX0 tyX0_ok nmX0 rfl (by decide) rfl (mm 1 rfl) rfl dX0_keep_46 rfl rfl rfl (Nat.le_of_ble_eq_true rfl) rfl ?_
      refine V_goto (pc := 49) (tgt := 62) F dX0_keep_49 (by decide) ?_
      exact V_vret F rfl dX0_keep_62 rfl
  · rw [hj] at hf
    refine V_V (rest := []) (w2 := wX0 cy a v ++ wX1 cy a1 v1) (st2 := [.ref (a 24)]) (pc := 13) F 0 (M_X0_stateAt l D cy a v _ 1 (by decide) hj) (cwV 1 F.ts gX0_keep_X0_stateAt rfl rfl rfl hd_X0_stateAt ⟨Nat.le_of_ble_eq_true rfl, Nat.le_of_ble_eq_true rfl⟩) rfl dX0_keep_13 (Fit.left Fit.whole) rfl rfl rfl (Nat.le_of_ble_eq_true rfl) (Nat.zero_le _) (Nat.zero_le _) rfl rfl rfl ?_
    refine V_astore_n (L2 := [(2, .ref (a 24)), (0, .ref (a 0)), (1, .ref (a1 0))]) (pc := 16) F dX0_keep_16 rfl (by decide) rfl ?_
    refine V_aload_n (pc := 17) F dX0_keep_17 rfl 0 rfl ?_
    refine V_ifnonnull (pc := 18) (tgt := 22) F dX0_keep_18 (by decide) ?_
    refine V_aload_n (pc := 22) F dX0_keep_22 rfl 0 rfl ?_
    refine V_aload_n (pc := 23) F dX0_keep_23 rfl 2 rfl ?_
    refine V_V2 (w2 := wX0 cy a (updM v.1 1 v1, v.2) ++ wX1 cy a1 v1) (rest := []) (st2 := []) (pc := 24) F 1 (R1_copyFrom l D cy (fun i => a (i + 24)) a1 (v.1 1) v1) (cwV 1 F.ts gX0_keep_X1_copyFrom rfl rfl rfl hd_X1_copyFrom ⟨Nat.le_of_ble_eq_true rfl, Nat.le_of_ble_eq_true rfl⟩) rfl dX0_keep_24 (Fit2.both (Fit.right (Fit.right (Fit.left Fit.whole))) Fit.whole) fstX1 rfl rfl rfl (Nat.le_of_ble_eq_true rfl) (Nat.zero_le _) (Nat.zero_le _) rfl rfl rfl ?_
    refine V_aload_n (pc := 27) F dX0_keep_27 rfl 1 rfl ?_
    refine V_get (pc := 28) F 0 0 2 i_X0 rfl (by decide) rfl (mm 2 rfl) dX0_keep_28 rfl rfl ?_
    refine V_bipush (v := 6) (pc := 31) F dX0_keep_31 (by decide) ?_
    refine V_icmp_ne (pc := 33) (tgt := 52) F dX0_keep_33 (by decide) (fun h => ?_) (fun h => ?_)
    · replace hf := ite_neg hf h
      obtain rfl := some_of hf
      refine V_aload_n (pc := 52) F dX0_keep_52 rfl 1 rfl ?_
      refine V_dup (pc := 53) F dX0_keep_53 rfl ?_
      refine V_get (pc := 54) F 0 0 2 i_X0 rfl (by decide) rfl (mm 2 rfl) dX0_keep_54 rfl rfl ?_
      refine V_iconst (v := 1) (pc := 57) F dX0_keep_57 (by decide) ?_
      refine V_iadd (pc := 58) F dX0_keep_58 ?_
      refine V_put (w2 := wX0 cy a (updM v.1 1 v1, v.2.1, v.2.2 + 1) ++ wX1 cy a1 v1) (pc := 59) F 0 0 2 i_X0 tyX0 tyX0_ok nmX0 rfl (by decide) rfl (mm 2 rfl) rfl dX0_keep_59 rfl rfl rfl (Nat.le_of_ble_eq_true rfl) rfl ?_
      exact V_vret F rfl dX0_keep_62 rfl
    · replace hf := ite_pos hf h
      obtain rfl := some_of hf
      refine V_aload_n (pc := 36) F dX0_keep_36 rfl 1 rfl ?_
      refine V_aload_n (pc := 37) F dX0_keep_37 rfl 1 rfl ?_
      refine V_get (pc := 38) F 0 0 1 i_X0 rfl (by decide) rfl (mm 1 rfl) dX0_keep_38 rfl rfl ?_
      refine V_iconst (v := 1) (pc := 41) F dX0_keep_41 (by decide) ?_
      refine V_iadd (pc := 42) F dX0_keep_42 ?_
      refine V_bipush (v := 6) (pc := 43) F dX0_keep_43 (by decide) ?_
      refine V_irem (pc := 45) F dX0_keep_45 (by decide) ?_
      refine V_put (w2 := wX0 cy a (updM v.1 1 v1, slotI v.2.1 1, v.2.2) ++ wX1 cy a1 v1) (pc := 46) F 0 0 1 i_X0 tyX0 tyX0_ok nmX0 rfl (by decide) rfl (mm 1 rfl) rfl dX0_keep_46 rfl rfl rfl (Nat.le_of_ble_eq_true rfl) rfl ?_
      refine V_goto (pc := 49) (tgt := 62) F dX0_keep_49 (by decide) ?_
      exact V_vret F rfl dX0_keep_62 rfl
  · rw [hj] at hf
    refine V_V (rest := []) (w2 := wX0 cy a v ++ wX1 cy a1 v1) (st2 := [.ref (a 46)]) (pc := 13) F 0 (M_X0_stateAt l D cy a v _ 2 (by decide) hj) (cwV 1 F.ts gX0_keep_X0_stateAt rfl rfl rfl hd_X0_stateAt ⟨Nat.le_of_ble_eq_true rfl, Nat.le_of_ble_eq_true rfl⟩) rfl dX0_keep_13 (Fit.left Fit.whole) rfl rfl rfl (Nat.le_of_ble_eq_true rfl) (Nat.zero_le _) (Nat.zero_le _) rfl rfl rfl ?_
    refine V_astore_n (L2 := [(2, .ref (a 46)), (0, .ref (a 0)), (1, .ref (a1 0))]) (pc := 16) F dX0_keep_16 rfl (by decide) rfl ?_
    refine V_aload_n (pc := 17) F dX0_keep_17 rfl 0 rfl ?_
    refine V_ifnonnull (pc := 18) (tgt := 22) F dX0_keep_18 (by decide) ?_
    refine V_aload_n (pc := 22) F dX0_keep_22 rfl 0 rfl ?_
    refine V_aload_n (pc := 23) F dX0_keep_23 rfl 2 rfl ?_
    refine V_V2 (w2 := wX0 cy a (updM v.1 2 v1, v.2) ++ wX1 cy a1 v1) (rest := []) (st2 := []) (pc := 24) F 1 (R1_copyFrom l D cy (fun i => a (i + 46)) a1 (v.1 2) v1) (cwV 1 F.ts gX0_keep_X1_copyFrom rfl rfl rfl hd_X1_copyFrom ⟨Nat.le_of_ble_eq_true rfl, Nat.le_of_ble_eq_true rfl⟩) rfl dX0_keep_24 (Fit2.both (Fit.right (Fit.right (Fit.right (Fit.left Fit.whole)))) Fit.whole) fstX1 rfl rfl rfl (Nat.le_of_ble_eq_true rfl) (Nat.zero_le _) (Nat.zero_le _) rfl rfl rfl ?_
    refine V_aload_n (pc := 27) F dX0_keep_27 rfl 1 rfl ?_
    refine V_get (pc := 28) F 0 0 2 i_X0 rfl (by decide) rfl (mm 2 rfl) dX0_keep_28 rfl rfl ?_
    refine V_bipush (v := 6) (pc := 31) F dX0_keep_31 (by decide) ?_
    refine V_icmp_ne (pc := 33) (tgt := 52) F dX0_keep_33 (by decide) (fun h => ?_) (fun h => ?_)
    · replace hf := ite_neg hf h
      obtain rfl := some_of hf
      refine V_aload_n (pc := 52) F dX0_keep_52 rfl 1 rfl ?_
      refine V_dup (pc := 53) F dX0_keep_53 rfl ?_
      refine V_get (pc := 54) F 0 0 2 i_X0 rfl (by decide) rfl (mm 2 rfl) dX0_keep_54 rfl rfl ?_
      refine V_iconst (v := 1) (pc := 57) F dX0_keep_57 (by decide) ?_
      refine V_iadd (pc := 58) F dX0_keep_58 ?_
      refine V_put (w2 := wX0 cy a (updM v.1 2 v1, v.2.1, v.2.2 + 1) ++ wX1 cy a1 v1) (pc := 59) F 0 0 2 i_X0 tyX0 tyX0_ok nmX0 rfl (by decide) rfl (mm 2 rfl) rfl dX0_keep_59 rfl rfl rfl (Nat.le_of_ble_eq_true rfl) rfl ?_
      exact V_vret F rfl dX0_keep_62 rfl
    · replace hf := ite_pos hf h
      obtain rfl := some_of hf
      refine V_aload_n (pc := 36) F dX0_keep_36 rfl 1 rfl ?_
      refine V_aload_n (pc := 37) F dX0_keep_37 rfl 1 rfl ?_
      refine V_get (pc := 38) F 0 0 1 i_X0 rfl (by decide) rfl (mm 1 rfl) dX0_keep_38 rfl rfl ?_
      refine V_iconst (v := 1) (pc := 41) F dX0_keep_41 (by decide) ?_
      refine V_iadd (pc := 42) F dX0_keep_42 ?_
      refine V_bipush (v := 6) (pc := 43) F dX0_keep_43 (by decide) ?_
      refine V_irem (pc := 45) F dX0_keep_45 (by decide) ?_
      refine V_put (w2 := wX0 cy a (updM v.1 2 v1, slotI v.2.1 1, v.2.2) ++ wX1 cy a1 v1) (pc := 46) F 0 0 1 i_X0 tyX0 tyX0_ok nmX0 rfl (by decide) rfl (mm 1 rfl) rfl dX0_keep_46 rfl rfl rfl (Nat.le_of_ble_eq_true rfl) rfl ?_
      refine V_goto (pc := 49) (tgt := 62) F dX0_keep_49 (by decide) ?_
      exact V_vret F rfl dX0_keep_62 rfl
  · rw [hj] at hf
    refine V_V (rest := []) (w2 := wX0 cy a v ++ wX1 cy a1 v1) (st2 := [.ref (a 68)]) (pc := 13) F 0 (M_X0_stateAt l D cy a v _ 3 (by decide) hj) (cwV 1 F.ts gX0_keep_X0_stateAt rfl rfl rfl hd_X0_stateAt ⟨Nat.le_of_ble_eq_true rfl, Nat.le_of_ble_eq_true rfl⟩) rfl dX0_keep_13 (Fit.left Fit.whole) rfl rfl rfl (Nat.le_of_ble_eq_true rfl) (Nat.zero_le _) (Nat.zero_le _) rfl rfl rfl ?_
    refine V_astore_n (L2 := [(2, .ref (a 68)), (0, .ref (a 0)), (1, .ref (a1 0))]) (pc := 16) F dX0_keep_16 rfl (by decide) rfl ?_
    refine V_aload_n (pc := 17) F dX0_keep_17 rfl 0 rfl ?_
    refine V_ifnonnull (pc := 18) (tgt := 22) F dX0_keep_18 (by decide) ?_
    refine V_aload_n (pc := 22) F dX0_keep_22 rfl 0 rfl ?_
    refine V_aload_n (pc := 23) F dX0_keep_23 rfl 2 rfl ?_
    refine V_V2 (w2 := wX0 cy a (updM v.1 3 v1, v.2) ++ wX1 cy a1 v1) (rest := []) (st2 := []) (pc := 24) F 1 (R1_copyFrom l D cy (fun i => a (i + 68)) a1 (v.1 3) v1) (cwV 1 F.ts gX0_keep_X1_copyFrom rfl rfl rfl hd_X1_copyFrom ⟨Nat.le_of_ble_eq_true rfl, Nat.le_of_ble_eq_true rfl⟩) rfl dX0_keep_24 (Fit2.both (Fit.right (Fit.right (Fit.right (Fit.right (Fit.left Fit.whole))))) Fit.whole) fstX1 rfl rfl rfl (Nat.le_of_ble_eq_true rfl) (Nat.zero_le _) (Nat.zero_le _) rfl rfl rfl ?_
    refine V_aload_n (pc := 27) F dX0_keep_27 rfl 1 rfl ?_
    refine V_get (pc := 28) F 0 0 2 i_X0 rfl (by decide) rfl (mm 2 rfl) dX0_keep_28 rfl rfl ?_
    refine V_bipush (v := 6) (pc := 31) F dX0_keep_31 (by decide) ?_
    refine V_icmp_ne (pc := 33) (tgt := 52) F dX0_keep_33 (by decide) (fun h => ?_) (fun h => ?_)
    · replace hf := ite_neg hf h
      obtain rfl := some_of hf
      refine V_aload_n (pc := 52) F dX0_keep_52 rfl 1 rfl ?_
      refine V_dup (pc := 53) F dX0_keep_53 rfl ?_
      refine V_get (pc := 54) F 0 0 2 i_X0 rfl (by decide) rfl (mm 2 rfl) dX0_keep_54 rfl rfl ?_
      refine V_iconst (v := 1) (pc := 57) F dX0_keep_57 (by decide) ?_
      refine V_iadd (pc := 58) F dX0_keep_58 ?_
      refine V_put (w2 := wX0 cy a (updM v.1 3 v1, v.2.1, v.2.2 + 1) ++ wX1 cy a1 v1) (pc := 59) F 0 0 2 i_X0 tyX0 tyX0_ok nmX0 rfl (by decide) rfl (mm 2 rfl) rfl dX0_keep_59 rfl rfl rfl (Nat.le_of_ble_eq_true rfl) rfl ?_
      exact V_vret F rfl dX0_keep_62 rfl
    · replace hf := ite_pos hf h
      obtain rfl := some_of hf
      refine V_aload_n (pc := 36) F dX0_keep_36 rfl 1 rfl ?_
      refine V_aload_n (pc := 37) F dX0_keep_37 rfl 1 rfl ?_
      refine V_get (pc := 38) F 0 0 1 i_X0 rfl (by decide) rfl (mm 1 rfl) dX0_keep_38 rfl rfl ?_
      refine V_iconst (v := 1) (pc := 41) F dX0_keep_41 (by decide) ?_
      refine V_iadd (pc := 42) F dX0_keep_42 ?_
      refine V_bipush (v := 6) (pc := 43) F dX0_keep_43 (by decide) ?_
      refine V_irem (pc := 45) F dX0_keep_45 (by decide) ?_
      refine V_put (w2 := wX0 cy a (updM v.1 3 v1, slotI v.2.1 1, v.2.2) ++ wX1 cy a1 v1) (pc := 46) F 0 0 1 i_X0 tyX0 tyX0_ok nmX0 rfl (by decide) rfl (mm 1 rfl) rfl dX0_keep_46 rfl rfl rfl (Nat.le_of_ble_eq_true rfl) rfl ?_
      refine V_goto (pc := 49) (tgt := 62) F dX0_keep_49 (by decide) ?_
      exact V_vret F rfl dX0_keep_62 rfl
  · rw [hj] at hf
    refine V_V (rest := []) (w2 := wX0 cy a v ++ wX1 cy a1 v1) (st2 := [.ref (a 90)]) (pc := 13) F 0 (M_X0_stateAt l D cy a v _ 4 (by decide) hj) (cwV 1 F.ts gX0_keep_X0_stateAt rfl rfl rfl hd_X0_stateAt ⟨Nat.le_of_ble_eq_true rfl, Nat.le_of_ble_eq_true rfl⟩) rfl dX0_keep_13 (Fit.left Fit.whole) rfl rfl rfl (Nat.le_of_ble_eq_true rfl) (Nat.zero_le _) (Nat.zero_le _) rfl rfl rfl ?_
    refine V_astore_n (L2 := [(2, .ref (a 90)), (0, .ref (a 0)), (1, .ref (a1 0))]) (pc := 16) F dX0_keep_16 rfl (by decide) rfl ?_
    refine V_aload_n (pc := 17) F dX0_keep_17 rfl 0 rfl ?_
    refine V_ifnonnull (pc := 18) (tgt := 22) F dX0_keep_18 (by decide) ?_
    refine V_aload_n (pc := 22) F dX0_keep_22 rfl 0 rfl ?_
    refine V_aload_n (pc := 23) F dX0_keep_23 rfl 2 rfl ?_
    refine V_V2 (w2 := wX0 cy a (updM v.1 4 v1, v.2) ++ wX1 cy a1 v1) (rest := []) (st2 := []) (pc := 24) F 1 (R1_copyFrom l D cy (fun i => a (i + 90)) a1 (v.1 4) v1) (cwV 1 F.ts gX0_keep_X1_copyFrom rfl rfl rfl hd_X1_copyFrom ⟨Nat.le_of_ble_eq_true rfl, Nat.le_of_ble_eq_true rfl⟩) rfl dX0_keep_24 (Fit2.both (Fit.right (Fit.right (Fit.right (Fit.right (Fit.right (Fit.left Fit.whole)))))) Fit.whole) fstX1 rfl rfl rfl (Nat.le_of_ble_eq_true rfl) (Nat.zero_le _) (Nat.zero_le _) rfl rfl rfl ?_
    refine V_aload_n (pc := 27) F dX0_keep_27 rfl 1 rfl ?_
    refine V_get (pc := 28) F 0 0 2 i_X0 rfl (by decide) rfl (mm 2 rfl) dX0_keep_28 rfl rfl ?_
    refine V_bipush (v := 6) (pc := 31) F dX0_keep_31 (by decide) ?_
    refine V_icmp_ne (pc := 33) (tgt := 52) F dX0_keep_33 (by decide) (fun h => ?_) (fun h => ?_)
    · replace hf := ite_neg hf h
      obtain rfl := some_of hf
      refine V_aload_n (pc := 52) F dX0_keep_52 rfl 1 rfl ?_
      refine V_dup (pc := 53) F dX0_keep_53 rfl ?_
      refine V_get (pc := 54) F 0 0 2 i_X0 rfl (by decide) rfl (mm 2 rfl) dX0_keep_54 rfl rfl ?_
      refine V_iconst (v := 1) (pc := 57) F dX0_keep_57 (by decide) ?_
      refine V_iadd (pc := 58) F dX0_keep_58 ?_
      refine V_put (w2 := wX0 cy a (updM v.1 4 v1, v.2.1, v.2.2 + 1) ++ wX1 cy a1 v1) (pc := 59) F 0 0 2 i_X0 tyX0 tyX0_ok nmX0 rfl (by decide) rfl (mm 2 rfl) rfl dX0_keep_59 rfl rfl rfl (Nat.le_of_ble_eq_true rfl) rfl ?_
      exact V_vret F rfl dX0_keep_62 rfl
    · replace hf := ite_pos hf h
      obtain rfl := some_of hf
      refine V_aload_n (pc := 36) F dX0_keep_36 rfl 1 rfl ?_
      refine V_aload_n (pc := 37) F dX0_keep_37 rfl 1 rfl ?_
      refine V_get (pc := 38) F 0 0 1 i_X0 rfl (by decide) rfl (mm 1 rfl) dX0_keep_38 rfl rfl ?_
      refine V_iconst (v := 1) (pc := 41) F dX0_keep_41 (by decide) ?_
      refine V_iadd (pc := 42) F dX0_keep_42 ?_
      refine V_bipush (v := 6) (pc := 43) F dX0_keep_43 (by decide) ?_
      refine V_irem (pc := 45) F dX0_keep_45 (by decide) ?_
      refine V_put (w2 := wX0 cy a (updM v.1 4 v1, slotI v.2.1 1, v.2.2) ++ wX1 cy a1 v1) (pc := 46) F 0 0 1 i_X0 tyX0 tyX0_ok nmX0 rfl (by decide) rfl (mm 1 rfl) rfl dX0_keep_46 rfl rfl rfl (Nat.le_of_ble_eq_true rfl) rfl ?_
      refine V_goto (pc := 49) (tgt := 62) F dX0_keep_49 (by decide) ?_
      exact V_vret F rfl dX0_keep_62 rfl
  · rw [hj] at hf
    refine V_V (rest := []) (w2 := wX0 cy a v ++ wX1 cy a1 v1) (st2 := [.ref (a 112)]) (pc := 13) F 0 (M_X0_stateAt l D cy a v _ 5 (by decide) hj) (cwV 1 F.ts gX0_keep_X0_stateAt rfl rfl rfl hd_X0_stateAt ⟨Nat.le_of_ble_eq_true rfl, Nat.le_of_ble_eq_true rfl⟩) rfl dX0_keep_13 (Fit.left Fit.whole) rfl rfl rfl (Nat.le_of_ble_eq_true rfl) (Nat.zero_le _) (Nat.zero_le _) rfl rfl rfl ?_
    refine V_astore_n (L2 := [(2, .ref (a 112)), (0, .ref (a 0)), (1, .ref (a1 0))]) (pc := 16) F dX0_keep_16 rfl (by decide) rfl ?_
    refine V_aload_n (pc := 17) F dX0_keep_17 rfl 0 rfl ?_
    refine V_ifnonnull (pc := 18) (tgt := 22) F dX0_keep_18 (by decide) ?_
    refine V_aload_n (pc := 22) F dX0_keep_22 rfl 0 rfl ?_
    refine V_aload_n (pc := 23) F dX0_keep_23 rfl 2 rfl ?_
    refine V_V2 (w2 := wX0 cy a (updM v.1 5 v1, v.2) ++ wX1 cy a1 v1) (rest := []) (st2 := []) (pc := 24) F 1 (R1_copyFrom l D cy (fun i => a (i + 112)) a1 (v.1 5) v1) (cwV 1 F.ts gX0_keep_X1_copyFrom rfl rfl rfl hd_X1_copyFrom ⟨Nat.le_of_ble_eq_true rfl, Nat.le_of_ble_eq_true rfl⟩) rfl dX0_keep_24 (Fit2.both (Fit.right (Fit.right (Fit.right (Fit.right (Fit.right (Fit.right Fit.whole)))))) Fit.whole) fstX1 rfl rfl rfl (Nat.le_of_ble_eq_true rfl) (Nat.zero_le _) (Nat.zero_le _) rfl rfl rfl ?_
    refine V_aload_n (pc := 27) F dX0_keep_27 rfl 1 rfl ?_
    refine V_get (pc := 28) F 0 0 2 i_X0 rfl (by decide) rfl (mm 2 rfl) dX0_keep_28 rfl rfl ?_
    refine V_bipush (v := 6) (pc := 31) F dX0_keep_31 (by decide) ?_
    refine V_icmp_ne (pc := 33) (tgt := 52) F dX0_keep_33 (by decide) (fun h => ?_) (fun h => ?_)
    · replace hf := ite_neg hf h
      obtain rfl := some_of hf
      refine V_aload_n (pc := 52) F dX0_keep_52 rfl 1 rfl ?_
      refine V_dup (pc := 53) F dX0_keep_53 rfl ?_
      refine V_get (pc := 54) F 0 0 2 i_X0 rfl (by decide) rfl (mm 2 rfl) dX0_keep_54 rfl rfl ?_
      refine V_iconst (v := 1) (pc := 57) F dX0_keep_57 (by decide) ?_
      refine V_iadd (pc := 58) F dX0_keep_58 ?_
      refine V_put (w2 := wX0 cy a (updM v.1 5 v1, v.2.1, v.2.2 + 1) ++ wX1 cy a1 v1) (pc := 59) F 0 0 2 i_X0 tyX0 tyX0_ok nmX0 rfl (by decide) rfl (mm 2 rfl) rfl dX0_keep_59 rfl rfl rfl (Nat.le_of_ble_eq_true rfl) rfl ?_
      exact V_vret F rfl dX0_keep_62 rfl
    · replace hf := ite_pos hf h
      obtain rfl := some_of hf
      refine V_aload_n (pc := 36) F dX0_keep_36 rfl 1 rfl ?_
      refine V_aload_n (pc := 37) F dX0_keep_37 rfl 1 rfl ?_
      refine V_get (pc := 38) F 0 0 1 i_X0 rfl (by decide) rfl (mm 1 rfl) dX0_keep_38 rfl rfl ?_
      refine V_iconst (v := 1) (pc := 41) F dX0_keep_41 (by decide) ?_
      refine V_iadd (pc := 42) F dX0_keep_42 ?_
      refine V_bipush (v := 6) (pc := 43) F dX0_keep_43 (by decide) ?_
      refine V_irem (pc := 45) F dX0_keep_45 (by decide) ?_
      refine V_put (w2 := wX0 cy a (updM v.1 5 v1, slotI v.2.1 1, v.2.2) ++ wX1 cy a1 v1) (pc := 46) F 0 0 1 i_X0 tyX0 tyX0_ok nmX0 rfl (by decide) rfl (mm 1 rfl) rfl dX0_keep_46 rfl rfl rfl (Nat.le_of_ble_eq_true rfl) rfl ?_
      refine V_goto (pc := 49) (tgt := 62) F dX0_keep_49 (by decide) ?_
      exact V_vret F rfl dX0_keep_62 rfl
set_option maxHeartbeats 16000000 in
set_option maxRecDepth 100000 in
theorem M_X0_restore (l : Launch) (D : va_G) (cy : Nat → ClassId) (N : Nat) (a a1 : Nat → Nat) (v : SX0) (v1 : SX1) (o : SX0 × SX1) (hf : fX0_restore N v v1 = some o) : okM l yX0_restore wsX0_restore (rmz 4 85) D cy [.ref (a 0), .ref (a1 0)] (wX0 cy a v ++ wX1 cy a1 v1) (wX0 cy a o.1 ++ wX1 cy a1 o.2) none := by
  refine okM_of (own := RX0) (nme := "restore") (cc := cX0_restore) (maxL := 3) (ret := none) (by decide) rfl rfl rfl (Nat.le_of_ble_eq_true rfl) ?_
  intro p e s m args below meth c A F
  have i_X0 : ∀ w ∈ u_ws RX0 TX0 3, w ∈ wsX0_restore := fun _ h => List.mem_cons_of_mem _ (List.mem_append_left _ (List.mem_append_left _ (List.mem_append_left _ (List.mem_append_right _ h))))
  unfold fX0_restore at hf
  refine V.eq rfl (show lv_args 0 [.ref (a 0), .ref (a1 0)] = [(0, .ref (a 0)), (1, .ref (a1 0))] from rfl) rfl ?_
  refine V_aload_n (pc := 0) F dX0_restore_0 rfl 0 rfl ?_
  refine V_get (pc := 1) F 0 0 2 i_X0 rfl (by decide) rfl (mm 1 rfl) dX0_restore_1 rfl rfl ?_
  refine V_if_ne (pc := 4) (tgt := 8) F dX0_restore_4 (by decide) (fun h => ?_) (fun h => ?_)
  rotate_left
  · replace hf := ite_pos hf h
    obtain rfl := some_of hf
    exact V_vret F rfl dX0_restore_7 rfl
  replace hf := ite_neg hf h
  obtain ⟨c1, hf⟩ := chk_some hf
  obtain rfl := some_of hf
  refine V_aload_n (pc := 8) F dX0_restore_8 rfl 0 rfl ?_
  refine V_dup (pc := 9) F dX0_restore_9 rfl ?_
  refine V_get (pc := 10) F 0 0 2 i_X0 rfl (by decide) rfl (mm 1 rfl) dX0_restore_10 rfl rfl ?_
  refine V_iconst (v := 1) (pc := 13) F dX0_restore_13 (by decide) ?_
  refine V_isub (pc := 14) F dX0_restore_14 ?_
  refine V_put (w2 := wX0 cy a (v.1, v.2.1, v.2.2 - 1) ++ wX1 cy a1 v1) (pc := 15) F 0 0 2 i_X0 tyX0 tyX0_ok nmX0 rfl (by decide) rfl (mm 1 rfl) rfl dX0_restore_15 rfl rfl rfl (Nat.le_of_ble_eq_true rfl) rfl ?_
  refine V_aload_n (pc := 18) F dX0_restore_18 rfl 0 rfl ?_
  refine V_aload_n (pc := 19) F dX0_restore_19 rfl 0 rfl ?_
  refine V_get (pc := 20) F 0 0 1 i_X0 rfl (by decide) rfl (mm 2 rfl) dX0_restore_20 rfl rfl ?_
  refine V_aload_n (pc := 23) F dX0_restore_23 rfl 0 rfl ?_
  refine V_get (pc := 24) F 0 0 2 i_X0 rfl (by decide) rfl (mm 1 rfl) dX0_restore_24 rfl rfl ?_
  refine V_iadd (pc := 27) F dX0_restore_27 ?_
  refine V_bipush (v := 6) (pc := 28) F dX0_restore_28 (by decide) ?_
  refine V_irem (pc := 30) F dX0_restore_30 (by decide) ?_
  rcases six c1 with hj | hj | hj | hj | hj | hj
  · rw [hj]
    refine V_V (rest := []) (w2 := wX0 cy a (v.1, v.2.1, v.2.2 - 1) ++ wX1 cy a1 v1) (st2 := [.ref (a 2)]) (pc := 31) F 0 (M_X0_stateAt l D cy a (v.1, v.2.1, v.2.2 - 1) _ 0 (by decide) hj) (cwV 1 F.ts gX0_restore_X0_stateAt rfl rfl rfl hd_X0_stateAt ⟨Nat.le_of_ble_eq_true rfl, Nat.le_of_ble_eq_true rfl⟩) rfl dX0_restore_31 (Fit.left Fit.whole) rfl rfl rfl (Nat.le_of_ble_eq_true rfl) (Nat.zero_le _) (Nat.zero_le _) rfl rfl rfl ?_
    refine V_astore_n (L2 := [(2, .ref (a 2)), (0, .ref (a 0)), (1, .ref (a1 0))]) (pc := 34) F dX0_restore_34 rfl (by decide) rfl ?_
    refine V_aload_n (pc := 35) F dX0_restore_35 rfl 0 rfl ?_
    refine V_ifnull (pc := 36) F dX0_restore_36 ?_
    refine V_aload_n (pc := 39) F dX0_restore_39 rfl 2 rfl ?_
    refine V_aload_n (pc := 40) F dX0_restore_40 rfl 0 rfl ?_
    refine V_V2 (w2 := wX0 cy a (v.1, v.2.1, v.2.2 - 1) ++ wX1 cy a1 (v.1 0)) (rest := []) (st2 := []) (pc := 41) F 1 (R1_copyFrom l D cy a1 (fun i => a (i + 2)) v1 (v.1 0)) (cwV 1 F.ts gX0_restore_X1_copyFrom rfl rfl rfl hd_X1_copyFrom ⟨Nat.le_of_ble_eq_true rfl, Nat.le_of_ble_eq_true rfl⟩) rfl dX0_restore_41 (Fit2.swap Fit.whole (Fit.right (Fit.left Fit.whole))) fstX1 rfl rfl rfl (Nat.le_of_ble_eq_true rfl) (Nat.zero_le _) (Nat.zero_le _) rfl rfl rfl ?_
    exact V_vret F rfl dX0_restore_44 rfl
  · rw [hj]
    refine V_V (rest := []) (w2 := wX0 cy a (v.1, v.2.1, v.2.2 - 1) ++ wX1 cy a1 v1) (st2 := [.ref (a 24)]) (pc := 31) F 0 (M_X0_stateAt l D cy a (v.1, v.2.1, v.2.2 - 1) _ 1 (by decide) hj) (cwV 1 F.ts gX0_restore_X0_stateAt rfl rfl rfl hd_X0_stateAt ⟨Nat.le_of_ble_eq_true rfl, Nat.le_of_ble_eq_true rfl⟩) rfl dX0_restore_31 (Fit.left Fit.whole) rfl rfl rfl (Nat.le_of_ble_eq_true rfl) (Nat.zero_le _) (Nat.zero_le _) rfl rfl rfl ?_
    refine V_astore_n (L2 := [(2, .ref (a 24)), (0, .ref (a 0)), (1, .ref (a1 0))]) (pc := 34) F dX0_restore_34 rfl (by decide) rfl ?_
    refine V_aload_n (pc := 35) F dX0_restore_35 rfl 0 rfl ?_
    refine V_ifnull (pc := 36) F dX0_restore_36 ?_
    refine V_aload_n (pc := 39) F dX0_restore_39 rfl 2 rfl ?_
    refine V_aload_n (pc := 40) F dX0_restore_40 rfl 0 rfl ?_
    refine V_V2 (w2 := wX0 cy a (v.1, v.2.1, v.2.2 - 1) ++ wX1 cy a1 (v.1 1)) (rest := []) (st2 := []) (pc := 41) F 1 (R1_copyFrom l D cy a1 (fun i => a (i + 24)) v1 (v.1 1)) (cwV 1 F.ts gX0_restore_X1_copyFrom rfl rfl rfl hd_X1_copyFrom ⟨Nat.le_of_ble_eq_true rfl, Nat.le_of_ble_eq_true rfl⟩) rfl dX0_restore_41 (Fit2.swap Fit.whole (Fit.right (Fit.right (Fit.left Fit.whole)))) fstX1 rfl rfl rfl (Nat.le_of_ble_eq_true rfl) (Nat.zero_le _) (Nat.zero_le _) rfl rfl rfl ?_
    exact V_vret F rfl dX0_restore_44 rfl
  · rw [hj]
    refine V_V (rest := []) (w2 := wX0 cy a (v.1, v.2.1, v.2.2 - 1) ++ wX1 cy a1 v1) (st2 := [.ref (a 46)]) (pc := 31) F 0 (M_X0_stateAt l D cy a (v.1, v.2.1, v.2.2 - 1) _ 2 (by decide) hj) (cwV 1 F.ts gX0_restore_X0_stateAt rfl rfl rfl hd_X0_stateAt ⟨Nat.le_of_ble_eq_true rfl, Nat.le_of_ble_eq_true rfl⟩) rfl dX0_restore_31 (Fit.left Fit.whole) rfl rfl rfl (Nat.le_of_ble_eq_true rfl) (Nat.zero_le _) (Nat.zero_le _) rfl rfl rfl ?_
    refine V_astore_n (L2 := [(2, .ref (a 46)), (0, .ref (a 0)), (1, .ref (a1 0))]) (pc := 34) F dX0_restore_34 rfl (by decide) rfl ?_
    refine V_aload_n (pc := 35) F dX0_restore_35 rfl 0 rfl ?_
    refine V_ifnull (pc := 36) F dX0_restore_36 ?_
    refine V_aload_n (pc := 39) F dX0_restore_39 rfl 2 rfl ?_
    refine V_aload_n (pc := 40) F dX0_restore_40 rfl 0 rfl ?_
    refine V_V2 (w2 := wX0 cy a (v.1, v.2.1, v.2.2 - 1) ++ wX1 cy a1 (v.1 2)) (rest := []) (st2 := []) (pc := 41) F 1 (R1_copyFrom l D cy a1 (fun i => a (i + 46)) v1 (v.1 2)) (cwV 1 F.ts gX0_restore_X1_copyFrom rfl rfl rfl hd_X1_copyFrom ⟨Nat.le_of_ble_eq_true rfl, Nat.le_of_ble_eq_true rfl⟩) rfl dX0_restore_41 (Fit2.swap Fit.whole (Fit.right (Fit.right (Fit.right (Fit.left Fit.whole))))) fstX1 rfl rfl rfl (Nat.le_of_ble_eq_true rfl) (Nat.zero_le _) (Nat.zero_le _) rfl rfl rfl ?_
    exact V_vret F rfl dX0_restore_44 rfl
  · rw [hj]
    refine V_V (rest := []) (w2 := wX0 cy a (v.1, v.2.1, v.2.2 - 1) ++ wX1 cy a1 v1) (st2 := [.ref (a 68)]) (pc := 31) F 0 (M_X0_stateAt l D cy a (v.1, v.2.1, v.2.2 - 1) _ 3 (by decide) hj) (cwV 1 F.ts gX0_restore_X0_stateAt rfl rfl rfl hd_X0_stateAt ⟨Nat.le_of_ble_eq_true rfl, Nat.le_of_ble_eq_true rfl⟩) rfl dX0_restore_31 (Fit.left Fit.whole) rfl rfl rfl (Nat.le_of_ble_eq_true rfl) (Nat.zero_le _) (Nat.zero_le _) rfl rfl rfl ?_
    refine V_astore_n (L2 := [(2, .ref (a 68)), (0, .ref (a 0)), (1, .ref (a1 0))]) (pc := 34) F dX0_restore_34 rfl (by decide) rfl ?_
    refine V_aload_n (pc := 35) F dX0_restore_35 rfl 0 rfl ?_
    refine V_ifnull (pc := 36) F dX0_restore_36 ?_
    refine V_aload_n (pc := 39) F dX0_restore_39 rfl 2 rfl ?_
    refine V_aload_n (pc := 40) F dX0_restore_40 rfl 0 rfl ?_
    refine V_V2 (w2 := wX0 cy a (v.1, v.2.1, v.2.2 - 1) ++ wX1 cy a1 (v.1 3)) (rest := []) (st2 := []) (pc := 41) F 1 (R1_copyFrom l D cy a1 (fun i => a (i + 68)) v1 (v.1 3)) (cwV 1 F.ts gX0_restore_X1_copyFrom rfl rfl rfl hd_X1_copyFrom ⟨Nat.le_of_ble_eq_true rfl, Nat.le_of_ble_eq_true rfl⟩) rfl dX0_restore_41 (Fit2.swap Fit.whole (Fit.right (Fit.right (Fit.right (Fit.right (Fit.left Fit.whole)))))) fstX1 rfl rfl rfl (Nat.le_of_ble_eq_true rfl) (Nat.zero_le _) (Nat.zero_le _) rfl rfl rfl ?_
    exact V_vret F rfl dX0_restore_44 rfl
  · rw [hj]
    refine V_V (rest := []) (w2 := wX0 cy a (v.1, v.2.1, v.2.2 - 1) ++ wX1 cy a1 v1) (st2 := [.ref (a 90)]) (pc := 31) F 0 (M_X0_stateAt l D cy a (v.1, v.2.1, v.2.2 - 1) _ 4 (by decide) hj) (cwV 1 F.ts gX0_restore_X0_stateAt rfl rfl rfl hd_X0_stateAt ⟨Nat.le_of_ble_eq_true rfl, Nat.le_of_ble_eq_true rfl⟩) rfl dX0_restore_31 (Fit.left Fit.whole) rfl rfl rfl (Nat.le_of_ble_eq_true rfl) (Nat.zero_le _) (Nat.zero_le _) rfl rfl rfl ?_
    refine V_astore_n (L2 := [(2, .ref (a 90)), (0, .ref (a 0)), (1, .ref (a1 0))]) (pc := 34) F dX0_restore_34 rfl (by decide) rfl ?_
    refine V_aload_n (pc := 35) F dX0_restore_35 rfl 0 rfl ?_
    refine V_ifnull (pc := 36) F dX0_restore_36 ?_
    refine V_aload_n (pc := 39) F dX0_restore_39 rfl 2 rfl ?_
    refine V_aload_n (pc := 40) F dX0_restore_40 rfl 0 rfl ?_
    refine V_V2 (w2 := wX0 cy a (v.1, v.2.1, v.2.2 - 1) ++ wX1 cy a1 (v.1 4)) (rest := []) (st2 := []) (pc := 41) F 1 (R1_copyFrom l D cy a1 (fun i => a (i + 90)) v1 (v.1 4)) (cwV 1 F.ts gX0_restore_X1_copyFrom rfl rfl rfl hd_X1_copyFrom ⟨Nat.le_of_ble_eq_true rfl, Nat.le_of_ble_eq_true rfl⟩) rfl dX0_restore_41 (Fit2.swap Fit.whole (Fit.right (Fit.right (Fit.right (Fit.right (Fit.right (Fit.left Fit.whole))))))) fstX1 rfl rfl rfl (Nat.le_of_ble_eq_true rfl) (Nat.zero_le _) (Nat.zero_le _) rfl rfl rfl ?_
    exact V_vret F rfl dX0_restore_44 rfl
  · rw [hj]
    refine V_V (rest := []) (w2 := wX0 cy a (v.1, v.2.1, v.2.2 - 1) ++ wX1 cy a1 v1) (st2 := [.ref (a 112)]) (pc := 31) F 0 (M_X0_stateAt l D cy a (v.1, v.2.1, v.2.2 - 1) _ 5 (by decide) hj) (cwV 1 F.ts gX0_restore_X0_stateAt rfl rfl rfl hd_X0_stateAt ⟨Nat.le_of_ble_eq_true rfl, Nat.le_of_ble_eq_true rfl⟩) rfl dX0_restore_31 (Fit.left Fit.whole) rfl rfl rfl (Nat.le_of_ble_eq_true rfl) (Nat.zero_le _) (Nat.zero_le _) rfl rfl rfl ?_
    refine V_astore_n (L2 := [(2, .ref (a 112)), (0, .ref (a 0)), (1, .ref (a1 0))]) (pc := 34) F dX0_restore_34 rfl (by decide) rfl ?_
    refine V_aload_n (pc := 35) F dX0_restore_35 rfl 0 rfl ?_
    refine V_ifnull (pc := 36) F dX0_restore_36 ?_
    refine V_aload_n (pc := 39) F dX0_restore_39 rfl 2 rfl ?_
    refine V_aload_n (pc := 40) F dX0_restore_40 rfl 0 rfl ?_
    refine V_V2 (w2 := wX0 cy a (v.1, v.2.1, v.2.2 - 1) ++ wX1 cy a1 (v.1 5)) (rest := []) (st2 := []) (pc := 41) F 1 (R1_copyFrom l D cy a1 (fun i => a (i + 112)) v1 (v.1 5)) (cwV 1 F.ts gX0_restore_X1_copyFrom rfl rfl rfl hd_X1_copyFrom ⟨Nat.le_of_ble_eq_true rfl, Nat.le_of_ble_eq_true rfl⟩) rfl dX0_restore_41 (Fit2.swap Fit.whole (Fit.right (Fit.right (Fit.right (Fit.right (Fit.right (Fit.right Fit.whole))))))) fstX1 rfl rfl rfl (Nat.le_of_ble_eq_true rfl) (Nat.zero_le _) (Nat.zero_le _) rfl rfl rfl ?_
    exact V_vret F rfl dX0_restore_44 rfl
