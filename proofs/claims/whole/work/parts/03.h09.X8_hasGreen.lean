theorem hd_X8_hasGreen : yX8_hasGreen.cls = RX8 ∧ yX8_hasGreen.cls ≠ "java/lang/invoke/MethodHandle" ∧ yX8_hasGreen.cls ≠ "java/lang/invoke/VarHandle" ∧ (parseMethodDescriptor yX8_hasGreen.desc).map (fun d => d.parameters.length) = some 2 := by decide +kernel
def fX8_hasGreen (N : Nat) (v : SX8) (x1 : Int32) (x2 : Int32) : Option (Int32) :=
  (fX8_greens N v x1).bind fun r1 =>
    if ((r1 >>> (x2 &&& 31)) &&& 1) = 1 then
      some 1
    else
      some 0
set_option maxHeartbeats 8000000 in
set_option maxRecDepth 100000 in
theorem M_X8_hasGreen (l : Launch) (D : va_G) (cy : Nat → ClassId) (N : Nat) (a : Nat → Nat) (v : SX8) (x1 : Int32) (x2 : Int32) (o : Int32) (hf : fX8_hasGreen N v x1 x2 = some o) : okM l yX8_hasGreen wsX8_hasGreen (rmz 2 43) D cy [.ref (a 0), .int x1, .int x2] (wX8 cy a v) (wX8 cy a v) (some (.int o)) := by
  refine okM_of (own := RX8) (nme := "hasGreen") (cc := cX8_hasGreen) (maxL := 3) (ret := (some .boolean)) (by decide) rfl rfl rfl (Nat.le_of_ble_eq_true rfl) ?_
  intro p e s m args below meth c A F
  unfold fX8_hasGreen at hf
  refine V.eq rfl (show lv_args 0 [.ref (a 0), .int x1, .int x2] = [(0, .ref (a 0)), (1, .int x1), (2, .int x2)] from rfl) rfl ?_
  refine V_aload_n (pc := 0) F dX8_hasGreen_0 rfl 0 rfl ?_
  refine V_iload_n (pc := 1) F dX8_hasGreen_1 rfl 1 rfl ?_
  obtain ⟨r1, g2, hf⟩ := bind_of hf
  refine V_V (w2 := wX8 cy a v) (rest := []) (st2 := [.int r1]) (pc := 2) F 8 (M_X8_greens l D cy N a v x1 r1 g2) (cwV 1 F.ts gX8_hasGreen_X8_greens rfl rfl rfl hd_X8_greens ⟨Nat.le_of_ble_eq_true rfl, Nat.le_of_ble_eq_true rfl⟩) rfl dX8_hasGreen_2 Fit.whole rfl rfl rfl (Nat.le_of_ble_eq_true rfl) (Nat.zero_le _) (Nat.zero_le _) rfl rfl rfl ?_
  refine V_iload_n (pc := 5) F dX8_hasGreen_5 rfl 2 rfl ?_
  refine V_ishr (pc := 6) F dX8_hasGreen_6 ?_
  refine V_iconst (v := 1) (pc := 7) F dX8_hasGreen_7 (by decide) ?_
  refine V_iand (pc := 8) F dX8_hasGreen_8 ?_
  refine V_iconst (v := 1) (pc := 9) F dX8_hasGreen_9 (by decide) ?_
  refine V_icmp_ne (pc := 10) (tgt := 17) F dX8_hasGreen_10 (by decide) (fun h3 => ?_) (fun h3 => ?_)
  · replace hf := ite_neg hf h3
    refine V_iconst (v := 0) (pc := 17) F dX8_hasGreen_17 (by decide) ?_
    obtain rfl := some_of hf
    exact V_ret F rfl rfl dX8_hasGreen_18 rfl rfl
  · replace hf := ite_pos hf h3
    refine V_iconst (v := 1) (pc := 13) F dX8_hasGreen_13 (by decide) ?_
    refine V_goto (pc := 14) (tgt := 18) F dX8_hasGreen_14 (by decide) ?_
    obtain rfl := some_of hf
    exact V_ret F rfl rfl dX8_hasGreen_18 rfl rfl
