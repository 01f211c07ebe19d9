theorem hd_X8_isDirection : yX8_isDirection.cls ≠ "java/lang/invoke/MethodHandle" ∧ yX8_isDirection.cls ≠ "java/lang/invoke/VarHandle" ∧ (parseMethodDescriptor yX8_isDirection.desc).map (fun d => d.parameters.length) = some 1 := by decide +kernel
def fX8_isDirection (N : Nat) (x0 : Int32) : Option (Int32) :=
  (fX8_in N x0 0 5).bind fun r1 =>
    must (decide (r1 = 0 ∨ r1 = 1)) (
      some r1
    )
set_option maxHeartbeats 8000000 in
set_option maxRecDepth 100000 in
theorem M_X8_isDirection (l : Launch) (D : va_G) (cy : Nat → ClassId) (N : Nat) (x0 : Int32) (o : Int32) (hf : fX8_isDirection N x0 = some o) : okM l yX8_isDirection wsX8_isDirection (rmz 1 22) D cy [.int x0] ([] : va_W) ([] : va_W) (some (.int o)) := by
  refine okM_of (own := RX8) (nme := "isDirection") (cc := cX8_isDirection) (maxL := 1) (ret := (some .boolean)) (by decide) rfl rfl rfl (Nat.le_of_ble_eq_true rfl) ?_
  intro p e s m args below meth c A F
  unfold fX8_isDirection at hf
  refine V.eq rfl (show lv_args 0 [.int x0] = [(0, .int x0)] from rfl) rfl ?_
  refine V_iload_n (pc := 0) F dX8_isDirection_0 rfl 0 rfl ?_
  refine V_iconst (v := 0) (pc := 1) F dX8_isDirection_1 (by decide) ?_
  refine V_iconst (v := 5) (pc := 2) F dX8_isDirection_2 (by decide) ?_
  obtain ⟨r1, g2, hf⟩ := bind_of hf
  refine V_Sc (rest := []) (st2 := [.int r1]) (pc := 3) F (M_X8_in l D cy N x0 0 5 r1 g2) (va_cwS 3 F.ts gX8_isDirection_X8_in rfl rfl rfl hd_X8_in ⟨Nat.le_of_ble_eq_true rfl, Nat.le_of_ble_eq_true rfl⟩) rfl dX8_isDirection_3 (Nat.le_of_ble_eq_true rfl) (Nat.zero_le _) (Nat.zero_le _) rfl rfl ?_
  obtain ⟨c3, hf⟩ := must_some hf
  obtain rfl := some_of hf
  exact V_ret F rfl (nar_bool (of_decide_eq_true c3)) dX8_isDirection_6 rfl rfl
