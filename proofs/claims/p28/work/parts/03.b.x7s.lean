theorem hd_X7_has : yX7_has.cls ≠ "java/lang/invoke/MethodHandle" ∧ yX7_has.cls ≠ "java/lang/invoke/VarHandle" ∧ (parseMethodDescriptor yX7_has.desc).map (fun d => d.parameters.length) = some 2 := by decide +kernel
def fX7_has (N : Nat) (x0 : Int32) (x1 : Int32) : Option (Int32) :=
  if ((x0 >>> (x1 &&& 31)) &&& 1) = 1 then
    some 1
  else
    some 0
set_option maxHeartbeats 8000000 in
set_option maxRecDepth 100000 in
theorem M_X7_has (l : Launch) (D : va_G) (cy : Nat → ClassId) (N : Nat) (x0 : Int32) (x1 : Int32) (o : Int32) (hf : fX7_has N x0 x1 = some o) : okM l yX7_has wsX7_has (rmz 0 0) D cy [.int x0, .int x1] ([] : va_W) ([] : va_W) (some (.int o)) := by
  refine okM_of (own := RX7) (nme := "has") (cc := cX7_has) (maxL := 2) (ret := (some .boolean)) (by decide) rfl rfl rfl (Nat.le_of_ble_eq_true rfl) ?_
  intro p e s m args below meth c A F
  unfold fX7_has at hf
  refine V.eq rfl (show lv_args 0 [.int x0, .int x1] = [(0, .int x0), (1, .int x1)] from rfl) rfl ?_
  refine V_iload_n (pc := 0) F dX7_has_0 rfl 0 rfl ?_
  refine V_iload_n (pc := 1) F dX7_has_1 rfl 1 rfl ?_
  refine V_ishr (pc := 2) F dX7_has_2 ?_
  refine V_iconst (v := 1) (pc := 3) F dX7_has_3 (by decide) ?_
  refine V_iand (pc := 4) F dX7_has_4 ?_
  refine V_iconst (v := 1) (pc := 5) F dX7_has_5 (by decide) ?_
  refine V_icmp_ne (pc := 6) (tgt := 13) F dX7_has_6 (by decide) (fun h1 => ?_) (fun h1 => ?_)
  · replace hf := ite_neg hf h1
    refine V_iconst (v := 0) (pc := 13) F dX7_has_13 (by decide) ?_
    obtain rfl := some_of hf
    exact V_ret F rfl rfl dX7_has_14 rfl rfl
  · replace hf := ite_pos hf h1
    refine V_iconst (v := 1) (pc := 9) F dX7_has_9 (by decide) ?_
    refine V_goto (pc := 10) (tgt := 14) F dX7_has_10 (by decide) ?_
    obtain rfl := some_of hf
    exact V_ret F rfl rfl dX7_has_14 rfl rfl
