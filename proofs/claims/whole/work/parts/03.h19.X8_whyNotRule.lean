theorem hd_X8_whyNotRule : yX8_whyNotRule.cls = RX8 ∧ yX8_whyNotRule.cls ≠ "java/lang/invoke/MethodHandle" ∧ yX8_whyNotRule.cls ≠ "java/lang/invoke/VarHandle" ∧ (parseMethodDescriptor yX8_whyNotRule.desc).map (fun d => d.parameters.length) = some 3 := by decide +kernel
def fX8_whyNotRule (N : Nat) (v : SX8) (x1 : Int32) (x2 : Int32) (x3 : Int32) : Option (Int32) :=
  (fX8_isPhase N v x1).bind fun r1 =>
    if r1 = 0 then
      some 1
    else
      (fX8_isPhase N v x2).bind fun r4 =>
        if r4 = 0 then
          some 1
        else
          if x1 = x2 then
            some 2
          else
            (fX8_in N x3 0 63).bind fun r8 =>
              if r8 = 0 then
                some 2
              else
                (fX8_rules N v x1).bind fun r11 =>
                  if r11 = 4 then
                    some 3
                  else
                    some 0
set_option maxHeartbeats 8000000 in
set_option maxRecDepth 100000 in
theorem M_X8_whyNotRule (l : Launch) (D : va_G) (cy : Nat → ClassId) (N : Nat) (a : Nat → Nat) (v : SX8) (x1 : Int32) (x2 : Int32) (x3 : Int32) (o : Int32) (hf : fX8_whyNotRule N v x1 x2 x3 = some o) : okM l yX8_whyNotRule wsX8_whyNotRule (rmz 2 43) D cy [.ref (a 0), .int x1, .int x2, .int x3] (wX8 cy a v) (wX8 cy a v) (some (.int o)) := by
  refine okM_of (own := RX8) (nme := "whyNotRule") (cc := cX8_whyNotRule) (maxL := 4) (ret := (some .int)) (by decide) rfl rfl rfl (Nat.le_of_ble_eq_true rfl) ?_
  intro p e s m args below meth c A F
  unfold fX8_whyNotRule at hf
  refine V.eq rfl (show lv_args 0 [.ref (a 0), .int x1, .int x2, .int x3] = [(0, .ref (a 0)), (1, .int x1), (2, .int x2), (3, .int x3)] from rfl) rfl ?_
  refine V_aload_n (pc := 0) F dX8_whyNotRule_0 rfl 0 rfl ?_
  refine V_iload_n (pc := 1) F dX8_whyNotRule_1 rfl 1 rfl ?_
  obtain ⟨r1, g2, hf⟩ := bind_of hf
  refine V_V (w2 := wX8 cy a v) (rest := []) (st2 := [.int r1]) (pc := 2) F 8 (M_X8_isPhase l D cy N a v x1 r1 g2) (cwV 1 F.ts gX8_whyNotRule_X8_isPhase rfl rfl rfl hd_X8_isPhase ⟨Nat.le_of_ble_eq_true rfl, Nat.le_of_ble_eq_true rfl⟩) rfl dX8_whyNotRule_2 Fit.whole rfl rfl rfl (Nat.le_of_ble_eq_true rfl) (Nat.zero_le _) (Nat.zero_le _) rfl rfl rfl ?_
  refine V_if_eq (pc := 5) (tgt := 16) F dX8_whyNotRule_5 (by decide) (fun h3 => ?_) (fun h3 => ?_)
  · replace hf := ite_pos hf h3
    refine V_iconst (v := 1) (pc := 16) F dX8_whyNotRule_16 (by decide) ?_
    obtain rfl := some_of hf
    exact V_ret F rfl rfl dX8_whyNotRule_17 rfl rfl
  · replace hf := ite_neg hf h3
    refine V_aload_n (pc := 8) F dX8_whyNotRule_8 rfl 0 rfl ?_
    refine V_iload_n (pc := 9) F dX8_whyNotRule_9 rfl 2 rfl ?_
    obtain ⟨r4, g5, hf⟩ := bind_of hf
    refine V_V (w2 := wX8 cy a v) (rest := []) (st2 := [.int r4]) (pc := 10) F 8 (M_X8_isPhase l D cy N a v x2 r4 g5) (cwV 1 F.ts gX8_whyNotRule_X8_isPhase rfl rfl rfl hd_X8_isPhase ⟨Nat.le_of_ble_eq_true rfl, Nat.le_of_ble_eq_true rfl⟩) rfl dX8_whyNotRule_10 Fit.whole rfl rfl rfl (Nat.le_of_ble_eq_true rfl) (Nat.zero_le _) (Nat.zero_le _) rfl rfl rfl ?_
    refine V_if_ne (pc := 13) (tgt := 18) F dX8_whyNotRule_13 (by decide) (fun h6 => ?_) (fun h6 => ?_)
    · replace hf := ite_neg hf h6
      refine V_iload_n (pc := 18) F dX8_whyNotRule_18 rfl 1 rfl ?_
      refine V_iload_n (pc := 19) F dX8_whyNotRule_19 rfl 2 rfl ?_
      refine V_icmp_eq (pc := 20) (tgt := 33) F dX8_whyNotRule_20 (by decide) (fun h7 => ?_) (fun h7 => ?_)
      · replace hf := ite_pos hf h7
        refine V_iconst (v := 2) (pc := 33) F dX8_whyNotRule_33 (by decide) ?_
        obtain rfl := some_of hf
        exact V_ret F rfl rfl dX8_whyNotRule_34 rfl rfl
      · replace hf := ite_neg hf h7
        refine V_iload_n (pc := 23) F dX8_whyNotRule_23 rfl 3 rfl ?_
        refine V_iconst (v := 0) (pc := 24) F dX8_whyNotRule_24 (by decide) ?_
        refine V_bipush (v := 63) (pc := 25) F dX8_whyNotRule_25 (by decide) ?_
        obtain ⟨r8, g9, hf⟩ := bind_of hf
        refine V_Sc (rest := []) (st2 := [.int r8]) (pc := 27) F (M_X8_in l D cy N x3 0 63 r8 g9) (va_cwS 3 F.ts gX8_whyNotRule_X8_in rfl rfl rfl hd_X8_in ⟨Nat.le_of_ble_eq_true rfl, Nat.le_of_ble_eq_true rfl⟩) rfl dX8_whyNotRule_27 (Nat.le_of_ble_eq_true rfl) (Nat.zero_le _) (Nat.zero_le _) rfl rfl ?_
        refine V_if_ne (pc := 30) (tgt := 35) F dX8_whyNotRule_30 (by decide) (fun h10 => ?_) (fun h10 => ?_)
        · replace hf := ite_neg hf h10
          refine V_aload_n (pc := 35) F dX8_whyNotRule_35 rfl 0 rfl ?_
          refine V_iload_n (pc := 36) F dX8_whyNotRule_36 rfl 1 rfl ?_
          obtain ⟨r11, g12, hf⟩ := bind_of hf
          refine V_V (w2 := wX8 cy a v) (rest := []) (st2 := [.int r11]) (pc := 37) F 8 (M_X8_rules l D cy N a v x1 r11 g12) (cwV 1 F.ts gX8_whyNotRule_X8_rules rfl rfl rfl hd_X8_rules ⟨Nat.le_of_ble_eq_true rfl, Nat.le_of_ble_eq_true rfl⟩) rfl dX8_whyNotRule_37 Fit.whole rfl rfl rfl (Nat.le_of_ble_eq_true rfl) (Nat.zero_le _) (Nat.zero_le _) rfl rfl rfl ?_
          refine V_iconst (v := 4) (pc := 40) F dX8_whyNotRule_40 (by decide) ?_
          refine V_icmp_ne (pc := 41) (tgt := 48) F dX8_whyNotRule_41 (by decide) (fun h13 => ?_) (fun h13 => ?_)
          · replace hf := ite_neg hf h13
            refine V_iconst (v := 0) (pc := 48) F dX8_whyNotRule_48 (by decide) ?_
            obtain rfl := some_of hf
            exact V_ret F rfl rfl dX8_whyNotRule_49 rfl rfl
          · replace hf := ite_pos hf h13
            refine V_iconst (v := 3) (pc := 44) F dX8_whyNotRule_44 (by decide) ?_
            refine V_goto (pc := 45) (tgt := 49) F dX8_whyNotRule_45 (by decide) ?_
            obtain rfl := some_of hf
            exact V_ret F rfl rfl dX8_whyNotRule_49 rfl rfl
        · replace hf := ite_pos hf h10
          refine V_iconst (v := 2) (pc := 33) F dX8_whyNotRule_33 (by decide) ?_
          obtain rfl := some_of hf
          exact V_ret F rfl rfl dX8_whyNotRule_34 rfl rfl
    · replace hf := ite_pos hf h6
      refine V_iconst (v := 1) (pc := 16) F dX8_whyNotRule_16 (by decide) ?_
      obtain rfl := some_of hf
      exact V_ret F rfl rfl dX8_whyNotRule_17 rfl rfl
