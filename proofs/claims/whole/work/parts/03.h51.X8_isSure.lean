theorem hd_X8_isSure : yX8_isSure.cls = RX8 ∧ yX8_isSure.cls ≠ "java/lang/invoke/MethodHandle" ∧ yX8_isSure.cls ≠ "java/lang/invoke/VarHandle" ∧ (parseMethodDescriptor yX8_isSure.desc).map (fun d => d.parameters.length) = some 3 := by decide +kernel
def fX8_isSure (N : Nat) (v : SX8) (x1 : Int32) (x2 : Int32) (x3 : Int32) : Option (Int32) :=
  (fX8_askers N v x1 x2).bind fun r1 =>
    if r1 = 0 then
      some 1
    else
      (fX8_askers N v x1 x2).bind fun r4 =>
        if ((r4 >>> (x3 &&& 31)) &&& 1) = 1 then
          some 1
        else
          some 0
set_option maxHeartbeats 8000000 in
set_option maxRecDepth 100000 in
theorem M_X8_isSure (l : Launch) (D : va_G) (cy : Nat → ClassId) (N : Nat) (a : Nat → Nat) (v : SX8) (x1 : Int32) (x2 : Int32) (x3 : Int32) (o : Int32) (hf : fX8_isSure N v x1 x2 x3 = some o) : okM l yX8_isSure wsX8_isSure (rmz 2 44) D cy [.ref (a 0), .int x1, .int x2, .int x3] (wX8 cy a v) (wX8 cy a v) (some (.int o)) := by
  refine okM_of (own := RX8) (nme := "isSure") (cc := cX8_isSure) (maxL := 4) (ret := (some .boolean)) (by decide) rfl rfl rfl (Nat.le_of_ble_eq_true rfl) ?_
  intro p e s m args below meth c A F
  unfold fX8_isSure at hf
  refine V.eq rfl (show lv_args 0 [.ref (a 0), .int x1, .int x2, .int x3] = [(0, .ref (a 0)), (1, .int x1), (2, .int x2), (3, .int x3)] from rfl) rfl ?_
  refine V_aload_n (pc := 0) F dX8_isSure_0 rfl 0 rfl ?_
  refine V_iload_n (pc := 1) F dX8_isSure_1 rfl 1 rfl ?_
  refine V_iload_n (pc := 2) F dX8_isSure_2 rfl 2 rfl ?_
  obtain ⟨r1, g2, hf⟩ := bind_of hf
  refine V_V (w2 := wX8 cy a v) (rest := []) (st2 := [.int r1]) (pc := 3) F 8 (M_X8_askers l D cy N a v x1 x2 r1 g2) (cwV 2 F.ts gX8_isSure_X8_askers rfl rfl rfl hd_X8_askers ⟨Nat.le_of_ble_eq_true rfl, Nat.le_of_ble_eq_true rfl⟩) rfl dX8_isSure_3 Fit.whole rfl rfl rfl (Nat.le_of_ble_eq_true rfl) (Nat.zero_le _) (Nat.zero_le _) rfl rfl rfl ?_
  refine V_if_eq (pc := 6) (tgt := 23) F dX8_isSure_6 (by decide) (fun h3 => ?_) (fun h3 => ?_)
  · replace hf := ite_pos hf h3
    refine V_iconst (v := 1) (pc := 23) F dX8_isSure_23 (by decide) ?_
    refine V_goto (pc := 24) (tgt := 28) F dX8_isSure_24 (by decide) ?_
    obtain rfl := some_of hf
    exact V_ret F rfl rfl dX8_isSure_28 rfl rfl
  · replace hf := ite_neg hf h3
    refine V_aload_n (pc := 9) F dX8_isSure_9 rfl 0 rfl ?_
    refine V_iload_n (pc := 10) F dX8_isSure_10 rfl 1 rfl ?_
    refine V_iload_n (pc := 11) F dX8_isSure_11 rfl 2 rfl ?_
    obtain ⟨r4, g5, hf⟩ := bind_of hf
    refine V_V (w2 := wX8 cy a v) (rest := []) (st2 := [.int r4]) (pc := 12) F 8 (M_X8_askers l D cy N a v x1 x2 r4 g5) (cwV 2 F.ts gX8_isSure_X8_askers rfl rfl rfl hd_X8_askers ⟨Nat.le_of_ble_eq_true rfl, Nat.le_of_ble_eq_true rfl⟩) rfl dX8_isSure_12 Fit.whole rfl rfl rfl (Nat.le_of_ble_eq_true rfl) (Nat.zero_le _) (Nat.zero_le _) rfl rfl rfl ?_
    refine V_iload_n (pc := 15) F dX8_isSure_15 rfl 3 rfl ?_
    refine V_ishr (pc := 16) F dX8_isSure_16 ?_
    refine V_iconst (v := 1) (pc := 17) F dX8_isSure_17 (by decide) ?_
    refine V_iand (pc := 18) F dX8_isSure_18 ?_
    refine V_iconst (v := 1) (pc := 19) F dX8_isSure_19 (by decide) ?_
    refine V_icmp_ne (pc := 20) (tgt := 27) F dX8_isSure_20 (by decide) (fun h6 => ?_) (fun h6 => ?_)
    · replace hf := ite_neg hf h6
      refine V_iconst (v := 0) (pc := 27) F dX8_isSure_27 (by decide) ?_
      obtain rfl := some_of hf
      exact V_ret F rfl rfl dX8_isSure_28 rfl rfl
    · replace hf := ite_pos hf h6
      refine V_iconst (v := 1) (pc := 23) F dX8_isSure_23 (by decide) ?_
      refine V_goto (pc := 24) (tgt := 28) F dX8_isSure_24 (by decide) ?_
      obtain rfl := some_of hf
      exact V_ret F rfl rfl dX8_isSure_28 rfl rfl
