theorem hd_X8_wants : yX8_wants.cls = RX8 ∧ yX8_wants.cls ≠ "java/lang/invoke/MethodHandle" ∧ yX8_wants.cls ≠ "java/lang/invoke/VarHandle" ∧ (parseMethodDescriptor yX8_wants.desc).map (fun d => d.parameters.length) = some 1 := by decide +kernel
def fX8_wants (N : Nat) (v : SX8) (x1 : Int32) : Option (SX8) :=
  if v.2.2.2.2.2.2.2.2.2.1 = (-1) then
    if x1 = 0 then
      some (v.1, v.2.1, v.2.2.1, v.2.2.2.1, v.2.2.2.2.1, v.2.2.2.2.2.1, v.2.2.2.2.2.2.1, v.2.2.2.2.2.2.2.1, (v.2.2.2.2.2.2.2.2.1 + 1), v.2.2.2.2.2.2.2.2.1, v.2.2.2.2.2.2.2.2.2.2)
    else
      some (v.1, v.2.1, v.2.2.1, v.2.2.2.1, v.2.2.2.2.1, v.2.2.2.2.2.1, v.2.2.2.2.2.2.1, v.2.2.2.2.2.2.2.1, (v.2.2.2.2.2.2.2.2.1 + 1), (-1), v.2.2.2.2.2.2.2.2.2.2)
  else
    some v
set_option maxHeartbeats 8000000 in
set_option maxRecDepth 100000 in
theorem M_X8_wants (l : Launch) (D : va_G) (cy : Nat → ClassId) (N : Nat) (a : Nat → Nat) (v : SX8) (x1 : Int32) (o : SX8) (hf : fX8_wants N v x1 = some o) : okM l yX8_wants wsX8_wants (rmz 0 0) D cy [.ref (a 0), .int x1] (wX8 cy a v) (wX8 cy a o) none := by
  refine okM_of (own := RX8) (nme := "wants") (cc := cX8_wants) (maxL := 2) (ret := none) (by decide) rfl rfl rfl (Nat.le_of_ble_eq_true rfl) ?_
  intro p e s m args below meth c A F
  have i_X8 : ∀ w ∈ u_ws RX8 TX8 13, w ∈ wsX8_wants := fun _ h => List.mem_cons_of_mem _ (List.mem_append_right _ h)
  unfold fX8_wants at hf
  refine V.eq rfl (show lv_args 0 [.ref (a 0), .int x1] = [(0, .ref (a 0)), (1, .int x1)] from rfl) rfl ?_
  refine V_aload_n (pc := 0) F dX8_wants_0 rfl 0 rfl ?_
  refine V_get (pc := 1) F 0 8 9 i_X8 rfl (by decide) rfl (mm 1 rfl) dX8_wants_1 rfl rfl ?_
  refine V_iconst (v := (-1)) (pc := 4) F dX8_wants_4 (by decide) ?_
  refine V_icmp_ne (pc := 5) (tgt := 34) F dX8_wants_5 (by decide) (fun h1 => ?_) (fun h1 => ?_)
  · replace hf := ite_neg hf h1
    obtain rfl := some_of hf
    exact V_vret F rfl dX8_wants_34 rfl
  · replace hf := ite_pos hf h1
    refine V_aload_n (pc := 8) F dX8_wants_8 rfl 0 rfl ?_
    refine V_iload_n (pc := 9) F dX8_wants_9 rfl 1 rfl ?_
    refine V_if_eq (pc := 10) (tgt := 17) F dX8_wants_10 (by decide) (fun h2 => ?_) (fun h2 => ?_)
    · replace hf := ite_pos hf h2
      refine V_aload_n (pc := 17) F dX8_wants_17 rfl 0 rfl ?_
      refine V_get (pc := 18) F 0 8 8 i_X8 rfl (by decide) rfl (mm 2 rfl) dX8_wants_18 rfl rfl ?_
      refine V_put (w2 := wX8 cy a (v.1, v.2.1, v.2.2.1, v.2.2.2.1, v.2.2.2.2.1, v.2.2.2.2.2.1, v.2.2.2.2.2.2.1, v.2.2.2.2.2.2.2.1, v.2.2.2.2.2.2.2.2.1, v.2.2.2.2.2.2.2.2.1, v.2.2.2.2.2.2.2.2.2.2)) (pc := 21) F 0 8 9 i_X8 tyX8 tyX8_ok nmX8 rfl (by decide) rfl (mm 1 rfl) rfl dX8_wants_21 rfl rfl rfl (Nat.le_of_ble_eq_true rfl) rfl ?_
      refine V_aload_n (pc := 24) F dX8_wants_24 rfl 0 rfl ?_
      refine V_dup (pc := 25) F dX8_wants_25 rfl ?_
      refine V_get (pc := 26) F 0 8 8 i_X8 rfl (by decide) rfl (mm 2 rfl) dX8_wants_26 rfl rfl ?_
      refine V_iconst (v := 1) (pc := 29) F dX8_wants_29 (by decide) ?_
      refine V_iadd (pc := 30) F dX8_wants_30 ?_
      refine V_put (w2 := wX8 cy a (v.1, v.2.1, v.2.2.1, v.2.2.2.1, v.2.2.2.2.1, v.2.2.2.2.2.1, v.2.2.2.2.2.2.1, v.2.2.2.2.2.2.2.1, (v.2.2.2.2.2.2.2.2.1 + 1), v.2.2.2.2.2.2.2.2.1, v.2.2.2.2.2.2.2.2.2.2)) (pc := 31) F 0 8 8 i_X8 tyX8 tyX8_ok nmX8 rfl (by decide) rfl (mm 2 rfl) rfl dX8_wants_31 rfl rfl rfl (Nat.le_of_ble_eq_true rfl) rfl ?_
      obtain rfl := some_of hf
      exact V_vret F rfl dX8_wants_34 rfl
    · replace hf := ite_neg hf h2
      refine V_iconst (v := (-1)) (pc := 13) F dX8_wants_13 (by decide) ?_
      refine V_goto (pc := 14) (tgt := 21) F dX8_wants_14 (by decide) ?_
      refine V_put (w2 := wX8 cy a (v.1, v.2.1, v.2.2.1, v.2.2.2.1, v.2.2.2.2.1, v.2.2.2.2.2.1, v.2.2.2.2.2.2.1, v.2.2.2.2.2.2.2.1, v.2.2.2.2.2.2.2.2.1, (-1), v.2.2.2.2.2.2.2.2.2.2)) (pc := 21) F 0 8 9 i_X8 tyX8 tyX8_ok nmX8 rfl (by decide) rfl (mm 1 rfl) rfl dX8_wants_21 rfl rfl rfl (Nat.le_of_ble_eq_true rfl) rfl ?_
      refine V_aload_n (pc := 24) F dX8_wants_24 rfl 0 rfl ?_
      refine V_dup (pc := 25) F dX8_wants_25 rfl ?_
      refine V_get (pc := 26) F 0 8 8 i_X8 rfl (by decide) rfl (mm 2 rfl) dX8_wants_26 rfl rfl ?_
      refine V_iconst (v := 1) (pc := 29) F dX8_wants_29 (by decide) ?_
      refine V_iadd (pc := 30) F dX8_wants_30 ?_
      refine V_put (w2 := wX8 cy a (v.1, v.2.1, v.2.2.1, v.2.2.2.1, v.2.2.2.2.1, v.2.2.2.2.2.1, v.2.2.2.2.2.2.1, v.2.2.2.2.2.2.2.1, (v.2.2.2.2.2.2.2.2.1 + 1), (-1), v.2.2.2.2.2.2.2.2.2.2)) (pc := 31) F 0 8 8 i_X8 tyX8 tyX8_ok nmX8 rfl (by decide) rfl (mm 2 rfl) rfl dX8_wants_31 rfl rfl rfl (Nat.le_of_ble_eq_true rfl) rfl ?_
      obtain rfl := some_of hf
      exact V_vret F rfl dX8_wants_34 rfl
