theorem hd_X8_askers : yX8_askers.cls = RX8 ∧ yX8_askers.cls ≠ "java/lang/invoke/MethodHandle" ∧ yX8_askers.cls ≠ "java/lang/invoke/VarHandle" ∧ (parseMethodDescriptor yX8_askers.desc).map (fun d => d.parameters.length) = some 2 := by decide +kernel
def fX8_askers (N : Nat) (v : SX8) (x1 : Int32) (x2 : Int32) : Option (Int32) :=
  (fX8_of N v x1 (((4 : Int32) + ((2 : Int32) * x2)) + 1)).bind fun r1 =>
    some r1
set_option maxHeartbeats 8000000 in
set_option maxRecDepth 100000 in
theorem M_X8_askers (l : Launch) (D : va_G) (cy : Nat → ClassId) (N : Nat) (a : Nat → Nat) (v : SX8) (x1 : Int32) (x2 : Int32) (o : Int32) (hf : fX8_askers N v x1 x2 = some o) : okM l yX8_askers wsX8_askers (rmz 1 22) D cy [.ref (a 0), .int x1, .int x2] (wX8 cy a v) (wX8 cy a v) (some (.int o)) := by
  refine okM_of (own := RX8) (nme := "askers") (cc := cX8_askers) (maxL := 3) (ret := (some .int)) (by decide) rfl rfl rfl (Nat.le_of_ble_eq_true rfl) ?_
  intro p e s m args below meth c A F
  unfold fX8_askers at hf
  refine V.eq rfl (show lv_args 0 [.ref (a 0), .int x1, .int x2] = [(0, .ref (a 0)), (1, .int x1), (2, .int x2)] from rfl) rfl ?_
  refine V_aload_n (pc := 0) F dX8_askers_0 rfl 0 rfl ?_
  refine V_iload_n (pc := 1) F dX8_askers_1 rfl 1 rfl ?_
  refine V_iconst (v := 4) (pc := 2) F dX8_askers_2 (by decide) ?_
  refine V_iconst (v := 2) (pc := 3) F dX8_askers_3 (by decide) ?_
  refine V_iload_n (pc := 4) F dX8_askers_4 rfl 2 rfl ?_
  refine V_imul (pc := 5) F dX8_askers_5 ?_
  refine V_iadd (pc := 6) F dX8_askers_6 ?_
  refine V_iconst (v := 1) (pc := 7) F dX8_askers_7 (by decide) ?_
  refine V_iadd (pc := 8) F dX8_askers_8 ?_
  obtain ⟨r1, g2, hf⟩ := bind_of hf
  refine V_V (w2 := wX8 cy a v) (rest := []) (st2 := [.int r1]) (pc := 9) F 8 (M_X8_of l D cy N a v x1 (((4 : Int32) + ((2 : Int32) * x2)) + 1) r1 g2) (cwV 2 F.ts gX8_askers_X8_of rfl rfl rfl hd_X8_of ⟨Nat.le_of_ble_eq_true rfl, Nat.le_of_ble_eq_true rfl⟩) rfl dX8_askers_9 Fit.whole rfl rfl rfl (Nat.le_of_ble_eq_true rfl) (Nat.zero_le _) (Nat.zero_le _) rfl rfl rfl ?_
  obtain rfl := some_of hf
  exact V_ret F rfl rfl dX8_askers_12 rfl rfl
