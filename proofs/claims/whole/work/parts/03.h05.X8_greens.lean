theorem hd_X8_greens : yX8_greens.cls = RX8 ∧ yX8_greens.cls ≠ "java/lang/invoke/MethodHandle" ∧ yX8_greens.cls ≠ "java/lang/invoke/VarHandle" ∧ (parseMethodDescriptor yX8_greens.desc).map (fun d => d.parameters.length) = some 1 := by decide +kernel
def fX8_greens (N : Nat) (v : SX8) (x1 : Int32) : Option (Int32) :=
  (fX8_of N v x1 0).bind fun r1 =>
    some r1
set_option maxHeartbeats 8000000 in
set_option maxRecDepth 100000 in
theorem M_X8_greens (l : Launch) (D : va_G) (cy : Nat → ClassId) (N : Nat) (a : Nat → Nat) (v : SX8) (x1 : Int32) (o : Int32) (hf : fX8_greens N v x1 = some o) : okM l yX8_greens wsX8_greens (rmz 1 22) D cy [.ref (a 0), .int x1] (wX8 cy a v) (wX8 cy a v) (some (.int o)) := by
  refine okM_of (own := RX8) (nme := "greens") (cc := cX8_greens) (maxL := 2) (ret := (some .int)) (by decide) rfl rfl rfl (Nat.le_of_ble_eq_true rfl) ?_
  intro p e s m args below meth c A F
  unfold fX8_greens at hf
  refine V.eq rfl (show lv_args 0 [.ref (a 0), .int x1] = [(0, .ref (a 0)), (1, .int x1)] from rfl) rfl ?_
  refine V_aload_n (pc := 0) F dX8_greens_0 rfl 0 rfl ?_
  refine V_iload_n (pc := 1) F dX8_greens_1 rfl 1 rfl ?_
  refine V_iconst (v := 0) (pc := 2) F dX8_greens_2 (by decide) ?_
  obtain ⟨r1, g2, hf⟩ := bind_of hf
  refine V_V (w2 := wX8 cy a v) (rest := []) (st2 := [.int r1]) (pc := 3) F 8 (M_X8_of l D cy N a v x1 0 r1 g2) (cwV 2 F.ts gX8_greens_X8_of rfl rfl rfl hd_X8_of ⟨Nat.le_of_ble_eq_true rfl, Nat.le_of_ble_eq_true rfl⟩) rfl dX8_greens_3 Fit.whole rfl rfl rfl (Nat.le_of_ble_eq_true rfl) (Nat.zero_le _) (Nat.zero_le _) rfl rfl rfl ?_
  obtain rfl := some_of hf
  exact V_ret F rfl rfl dX8_greens_6 rfl rfl
