theorem hd_X8_in : yX8_in.cls ≠ "java/lang/invoke/MethodHandle" ∧ yX8_in.cls ≠ "java/lang/invoke/VarHandle" ∧ (parseMethodDescriptor yX8_in.desc).map (fun d => d.parameters.length) = some 3 := by decide +kernel
def fX8_in (N : Nat) (x0 : Int32) (x1 : Int32) (x2 : Int32) : Option (Int32) :=
  if x0 < x1 then
    some 0
  else
    if x2 < x0 then
      some 0
    else
      some 1
set_option maxHeartbeats 8000000 in
set_option maxRecDepth 100000 in
theorem M_X8_in (l : Launch) (D : va_G) (cy : Nat → ClassId) (N : Nat) (x0 : Int32) (x1 : Int32) (x2 : Int32) (o : Int32) (hf : fX8_in N x0 x1 x2 = some o) : okM l yX8_in wsX8_in (rmz 0 0) D cy [.int x0, .int x1, .int x2] ([] : va_W) ([] : va_W) (some (.int o)) := by
  refine okM_of (own := RX8) (nme := "in") (cc := cX8_in) (maxL := 3) (ret := (some .boolean)) (by decide) rfl rfl rfl (Nat.le_of_ble_eq_true rfl) ?_
  intro p e s m args below meth c A F
  unfold fX8_in at hf
  refine V.eq rfl (show lv_args 0 [.int x0, .int x1, .int x2] = [(0, .int x0), (1, .int x1), (2, .int x2)] from rfl) rfl ?_
  refine V_iload_n (pc := 0) F dX8_in_0 rfl 0 rfl ?_
  refine V_iload_n (pc := 1) F dX8_in_1 rfl 1 rfl ?_
  refine V_icmp_lt (pc := 2) (tgt := 14) F dX8_in_2 (by decide) (fun h1 => ?_) (fun h1 => ?_)
  · replace hf := ite_pos hf h1
    refine V_iconst (v := 0) (pc := 14) F dX8_in_14 (by decide) ?_
    obtain rfl := some_of hf
    exact V_ret F rfl rfl dX8_in_15 rfl rfl
  · replace hf := ite_neg hf h1
    refine V_iload_n (pc := 5) F dX8_in_5 rfl 0 rfl ?_
    refine V_iload_n (pc := 6) F dX8_in_6 rfl 2 rfl ?_
    refine V_icmp_gt (pc := 7) (tgt := 14) F dX8_in_7 (by decide) (fun h2 => ?_) (fun h2 => ?_)
    · replace hf := ite_pos hf h2
      refine V_iconst (v := 0) (pc := 14) F dX8_in_14 (by decide) ?_
      obtain rfl := some_of hf
      exact V_ret F rfl rfl dX8_in_15 rfl rfl
    · replace hf := ite_neg hf h2
      refine V_iconst (v := 1) (pc := 10) F dX8_in_10 (by decide) ?_
      refine V_goto (pc := 11) (tgt := 15) F dX8_in_11 (by decide) ?_
      obtain rfl := some_of hf
      exact V_ret F rfl rfl dX8_in_15 rfl rfl
