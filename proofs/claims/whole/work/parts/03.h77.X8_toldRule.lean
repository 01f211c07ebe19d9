theorem hd_X8_toldRule : yX8_toldRule.cls = RX8 ∧ yX8_toldRule.cls ≠ "java/lang/invoke/MethodHandle" ∧ yX8_toldRule.cls ≠ "java/lang/invoke/VarHandle" ∧ (parseMethodDescriptor yX8_toldRule.desc).map (fun d => d.parameters.length) = some 3 := by decide +kernel
def fX8_toldRule (N : Nat) (v : SX8) (x1 : Int32) (x2 : Int32) (x3 : Int32) : Option (Int32) :=
  if x3 = 0 then
    (fX8_goal N v x1 x2).bind fun r8 =>
      some r8
  else
    if x3 = 1 then
      (fX8_askers N v x1 x2).bind fun r6 =>
        some r6
    else
      (fX8_holds N v x1 x2).bind fun r3 =>
        if r3 = 0 then
          some 0
        else
          some 1
set_option maxHeartbeats 8000000 in
set_option maxRecDepth 100000 in
theorem M_X8_toldRule (l : Launch) (D : va_G) (cy : Nat → ClassId) (N : Nat) (a : Nat → Nat) (v : SX8) (x1 : Int32) (x2 : Int32) (x3 : Int32) (o : Int32) (hf : fX8_toldRule N v x1 x2 x3 = some o) : okM l yX8_toldRule wsX8_toldRule (rmz 3 66) D cy [.ref (a 0), .int x1, .int x2, .int x3] (wX8 cy a v) (wX8 cy a v) (some (.int o)) := by
  refine okM_of (own := RX8) (nme := "toldRule") (cc := cX8_toldRule) (maxL := 4) (ret := (some .int)) (by decide) rfl rfl rfl (Nat.le_of_ble_eq_true rfl) ?_
  intro p e s m args below meth c A F
  unfold fX8_toldRule at hf
  refine V.eq rfl (show lv_args 0 [.ref (a 0), .int x1, .int x2, .int x3] = [(0, .ref (a 0)), (1, .int x1), (2, .int x2), (3, .int x3)] from rfl) rfl ?_
  refine V_iload_n (pc := 0) F dX8_toldRule_0 rfl 3 rfl ?_
  refine V_if_ne (pc := 1) (tgt := 13) F dX8_toldRule_1 (by decide) (fun h1 => ?_) (fun h1 => ?_)
  · replace hf := ite_neg hf h1
    refine V_iload_n (pc := 13) F dX8_toldRule_13 rfl 3 rfl ?_
    refine V_iconst (v := 1) (pc := 14) F dX8_toldRule_14 (by decide) ?_
    refine V_icmp_ne (pc := 15) (tgt := 27) F dX8_toldRule_15 (by decide) (fun h2 => ?_) (fun h2 => ?_)
    · replace hf := ite_neg hf h2
      refine V_aload_n (pc := 27) F dX8_toldRule_27 rfl 0 rfl ?_
      refine V_iload_n (pc := 28) F dX8_toldRule_28 rfl 1 rfl ?_
      refine V_iload_n (pc := 29) F dX8_toldRule_29 rfl 2 rfl ?_
      obtain ⟨r3, g4, hf⟩ := bind_of hf
      refine V_V (w2 := wX8 cy a v) (rest := []) (st2 := [.int r3]) (pc := 30) F 8 (M_X8_holds l D cy N a v x1 x2 r3 g4) (cwV 2 F.ts gX8_toldRule_X8_holds rfl rfl rfl hd_X8_holds ⟨Nat.le_of_ble_eq_true rfl, Nat.le_of_ble_eq_true rfl⟩) rfl dX8_toldRule_30 Fit.whole rfl rfl rfl (Nat.le_of_ble_eq_true rfl) (Nat.zero_le _) (Nat.zero_le _) rfl rfl rfl ?_
      refine V_if_eq (pc := 33) (tgt := 40) F dX8_toldRule_33 (by decide) (fun h5 => ?_) (fun h5 => ?_)
      · replace hf := ite_pos hf h5
        refine V_iconst (v := 0) (pc := 40) F dX8_toldRule_40 (by decide) ?_
        obtain rfl := some_of hf
        exact V_ret F rfl rfl dX8_toldRule_41 rfl rfl
      · replace hf := ite_neg hf h5
        refine V_iconst (v := 1) (pc := 36) F dX8_toldRule_36 (by decide) ?_
        refine V_goto (pc := 37) (tgt := 41) F dX8_toldRule_37 (by decide) ?_
        obtain rfl := some_of hf
        exact V_ret F rfl rfl dX8_toldRule_41 rfl rfl
    · replace hf := ite_pos hf h2
      refine V_aload_n (pc := 18) F dX8_toldRule_18 rfl 0 rfl ?_
      refine V_iload_n (pc := 19) F dX8_toldRule_19 rfl 1 rfl ?_
      refine V_iload_n (pc := 20) F dX8_toldRule_20 rfl 2 rfl ?_
      obtain ⟨r6, g7, hf⟩ := bind_of hf
      refine V_V (w2 := wX8 cy a v) (rest := []) (st2 := [.int r6]) (pc := 21) F 8 (M_X8_askers l D cy N a v x1 x2 r6 g7) (cwV 2 F.ts gX8_toldRule_X8_askers rfl rfl rfl hd_X8_askers ⟨Nat.le_of_ble_eq_true rfl, Nat.le_of_ble_eq_true rfl⟩) rfl dX8_toldRule_21 Fit.whole rfl rfl rfl (Nat.le_of_ble_eq_true rfl) (Nat.zero_le _) (Nat.zero_le _) rfl rfl rfl ?_
      refine V_goto (pc := 24) (tgt := 41) F dX8_toldRule_24 (by decide) ?_
      obtain rfl := some_of hf
      exact V_ret F rfl rfl dX8_toldRule_41 rfl rfl
  · replace hf := ite_pos hf h1
    refine V_aload_n (pc := 4) F dX8_toldRule_4 rfl 0 rfl ?_
    refine V_iload_n (pc := 5) F dX8_toldRule_5 rfl 1 rfl ?_
    refine V_iload_n (pc := 6) F dX8_toldRule_6 rfl 2 rfl ?_
    obtain ⟨r8, g9, hf⟩ := bind_of hf
    refine V_V (w2 := wX8 cy a v) (rest := []) (st2 := [.int r8]) (pc := 7) F 8 (M_X8_goal l D cy N a v x1 x2 r8 g9) (cwV 2 F.ts gX8_toldRule_X8_goal rfl rfl rfl hd_X8_goal ⟨Nat.le_of_ble_eq_true rfl, Nat.le_of_ble_eq_true rfl⟩) rfl dX8_toldRule_7 Fit.whole rfl rfl rfl (Nat.le_of_ble_eq_true rfl) (Nat.zero_le _) (Nat.zero_le _) rfl rfl rfl ?_
    refine V_goto (pc := 10) (tgt := 41) F dX8_toldRule_10 (by decide) ?_
    obtain rfl := some_of hf
    exact V_ret F rfl rfl dX8_toldRule_41 rfl rfl
