theorem hd_X8_rule : yX8_rule.cls = RX8 ∧ yX8_rule.cls ≠ "java/lang/invoke/MethodHandle" ∧ yX8_rule.cls ≠ "java/lang/invoke/VarHandle" ∧ (parseMethodDescriptor yX8_rule.desc).map (fun d => d.parameters.length) = some 3 := by decide +kernel
def fX8_rule (N : Nat) (v : SX8) (x1 : Int32) (x2 : Int32) (x3 : Int32) : Option (Int32 × SX8) :=
  (fX8_isPhase N v x1).bind fun r1 =>
    if r1 = 0 then
      some (0, (1, v.2))
    else
      (fX8_rules N v x1).bind fun r5 =>
        (fX8_in N x2 0 (r5 - 1)).bind fun r7 =>
          if r7 = 0 then
            some (0, (1, v.2))
          else
            (fX8_in N x3 0 2).bind fun r10 =>
              if r10 = 0 then
                some (0, (2, v.2))
              else
                (fX8_toldRule N (0, v.2) x1 x2 x3).bind fun r15 =>
                  some (r15, (0, v.2))
set_option maxHeartbeats 8000000 in
set_option maxRecDepth 100000 in
theorem M_X8_rule (l : Launch) (D : va_G) (cy : Nat → ClassId) (N : Nat) (a : Nat → Nat) (v : SX8) (x1 : Int32) (x2 : Int32) (x3 : Int32) (o : Int32 × SX8) (hf : fX8_rule N v x1 x2 x3 = some o) : okM l yX8_rule wsX8_rule (rmz 4 89) D cy [.ref (a 0), .int x1, .int x2, .int x3] (wX8 cy a v) (wX8 cy a o.2) (some (.int o.1)) := by
  refine okM_of (own := RX8) (nme := "rule") (cc := cX8_rule) (maxL := 4) (ret := (some .int)) (by decide) rfl rfl rfl (Nat.le_of_ble_eq_true rfl) ?_
  intro p e s m args below meth c A F
  have i_X8 : ∀ w ∈ u_ws RX8 TX8 13, w ∈ wsX8_rule := fun _ h => List.mem_cons_of_mem _ (List.mem_append_right _ h)
  unfold fX8_rule at hf
  refine V.eq rfl (show lv_args 0 [.ref (a 0), .int x1, .int x2, .int x3] = [(0, .ref (a 0)), (1, .int x1), (2, .int x2), (3, .int x3)] from rfl) rfl ?_
  refine V_aload_n (pc := 0) F dX8_rule_0 rfl 0 rfl ?_
  refine V_aload_n (pc := 1) F dX8_rule_1 rfl 0 rfl ?_
  refine V_iload_n (pc := 2) F dX8_rule_2 rfl 1 rfl ?_
  obtain ⟨r1, g2, hf⟩ := bind_of hf
  refine V_V (w2 := wX8 cy a v) (rest := [.ref (a 0)]) (st2 := [.int r1, .ref (a 0)]) (pc := 3) F 8 (M_X8_isPhase l D cy N a v x1 r1 g2) (cwV 1 F.ts gX8_rule_X8_isPhase rfl rfl rfl hd_X8_isPhase ⟨Nat.le_of_ble_eq_true rfl, Nat.le_of_ble_eq_true rfl⟩) rfl dX8_rule_3 Fit.whole rfl rfl rfl (Nat.le_of_ble_eq_true rfl) (Nat.zero_le _) (Nat.zero_le _) rfl rfl rfl ?_
  refine V_if_eq (pc := 6) (tgt := 24) F dX8_rule_6 (by decide) (fun h3 => ?_) (fun h3 => ?_)
  · replace hf := ite_pos hf h3
    refine V_iconst (v := 1) (pc := 24) F dX8_rule_24 (by decide) ?_
    refine V_goto (pc := 25) (tgt := 42) F dX8_rule_25 (by decide) ?_
    refine V_put (w2 := wX8 cy a (1, v.2)) (pc := 42) F 0 8 0 i_X8 tyX8 tyX8_ok nmX8 rfl (by decide) rfl (mm 1 rfl) rfl dX8_rule_42 rfl rfl rfl (Nat.le_of_ble_eq_true rfl) rfl ?_
    refine V_aload_n (pc := 45) F dX8_rule_45 rfl 0 rfl ?_
    refine V_get (pc := 46) F 0 8 0 i_X8 rfl (by decide) rfl (mm 1 rfl) dX8_rule_46 rfl rfl ?_
    refine V_if_le (pc := 49) (tgt := 56) F dX8_rule_49 (by decide) (fun h4 => ?_) (fun h4 => ?_)
    · exact absurd h4 (show ¬ ((1 : Int32) ≤ (0 : Int32)) by decide)
    · refine V_iconst (v := 0) (pc := 52) F dX8_rule_52 (by decide) ?_
      refine V_goto (pc := 53) (tgt := 63) F dX8_rule_53 (by decide) ?_
      obtain rfl := some_of hf
      exact V_ret F rfl rfl dX8_rule_63 rfl rfl
  · replace hf := ite_neg hf h3
    refine V_iload_n (pc := 9) F dX8_rule_9 rfl 2 rfl ?_
    refine V_iconst (v := 0) (pc := 10) F dX8_rule_10 (by decide) ?_
    refine V_aload_n (pc := 11) F dX8_rule_11 rfl 0 rfl ?_
    refine V_iload_n (pc := 12) F dX8_rule_12 rfl 1 rfl ?_
    obtain ⟨r5, g6, hf⟩ := bind_of hf
    refine V_V (w2 := wX8 cy a v) (rest := [.int 0, .int x2, .ref (a 0)]) (st2 := [.int r5, .int 0, .int x2, .ref (a 0)]) (pc := 13) F 8 (M_X8_rules l D cy N a v x1 r5 g6) (cwV 1 F.ts gX8_rule_X8_rules rfl rfl rfl hd_X8_rules ⟨Nat.le_of_ble_eq_true rfl, Nat.le_of_ble_eq_true rfl⟩) rfl dX8_rule_13 Fit.whole rfl rfl rfl (Nat.le_of_ble_eq_true rfl) (Nat.zero_le _) (Nat.zero_le _) rfl rfl rfl ?_
    refine V_iconst (v := 1) (pc := 16) F dX8_rule_16 (by decide) ?_
    refine V_isub (pc := 17) F dX8_rule_17 ?_
    obtain ⟨r7, g8, hf⟩ := bind_of hf
    refine V_Sc (rest := [.ref (a 0)]) (st2 := [.int r7, .ref (a 0)]) (pc := 18) F (M_X8_in l D cy N x2 0 (r5 - 1) r7 g8) (va_cwS 3 F.ts gX8_rule_X8_in rfl rfl rfl hd_X8_in ⟨Nat.le_of_ble_eq_true rfl, Nat.le_of_ble_eq_true rfl⟩) rfl dX8_rule_18 (Nat.le_of_ble_eq_true rfl) (Nat.zero_le _) (Nat.zero_le _) rfl rfl ?_
    refine V_if_ne (pc := 21) (tgt := 28) F dX8_rule_21 (by decide) (fun h9 => ?_) (fun h9 => ?_)
    · replace hf := ite_neg hf h9
      refine V_iload_n (pc := 28) F dX8_rule_28 rfl 3 rfl ?_
      refine V_iconst (v := 0) (pc := 29) F dX8_rule_29 (by decide) ?_
      refine V_iconst (v := 2) (pc := 30) F dX8_rule_30 (by decide) ?_
      obtain ⟨r10, g11, hf⟩ := bind_of hf
      refine V_Sc (rest := [.ref (a 0)]) (st2 := [.int r10, .ref (a 0)]) (pc := 31) F (M_X8_in l D cy N x3 0 2 r10 g11) (va_cwS 3 F.ts gX8_rule_X8_in rfl rfl rfl hd_X8_in ⟨Nat.le_of_ble_eq_true rfl, Nat.le_of_ble_eq_true rfl⟩) rfl dX8_rule_31 (Nat.le_of_ble_eq_true rfl) (Nat.zero_le _) (Nat.zero_le _) rfl rfl ?_
      refine V_if_eq (pc := 34) (tgt := 41) F dX8_rule_34 (by decide) (fun h12 => ?_) (fun h12 => ?_)
      · replace hf := ite_pos hf h12
        refine V_iconst (v := 2) (pc := 41) F dX8_rule_41 (by decide) ?_
        refine V_put (w2 := wX8 cy a (2, v.2)) (pc := 42) F 0 8 0 i_X8 tyX8 tyX8_ok nmX8 rfl (by decide) rfl (mm 1 rfl) rfl dX8_rule_42 rfl rfl rfl (Nat.le_of_ble_eq_true rfl) rfl ?_
        refine V_aload_n (pc := 45) F dX8_rule_45 rfl 0 rfl ?_
        refine V_get (pc := 46) F 0 8 0 i_X8 rfl (by decide) rfl (mm 1 rfl) dX8_rule_46 rfl rfl ?_
        refine V_if_le (pc := 49) (tgt := 56) F dX8_rule_49 (by decide) (fun h13 => ?_) (fun h13 => ?_)
        · exact absurd h13 (show ¬ ((2 : Int32) ≤ (0 : Int32)) by decide)
        · refine V_iconst (v := 0) (pc := 52) F dX8_rule_52 (by decide) ?_
          refine V_goto (pc := 53) (tgt := 63) F dX8_rule_53 (by decide) ?_
          obtain rfl := some_of hf
          exact V_ret F rfl rfl dX8_rule_63 rfl rfl
      · replace hf := ite_neg hf h12
        refine V_iconst (v := 0) (pc := 37) F dX8_rule_37 (by decide) ?_
        refine V_goto (pc := 38) (tgt := 42) F dX8_rule_38 (by decide) ?_
        refine V_put (w2 := wX8 cy a (0, v.2)) (pc := 42) F 0 8 0 i_X8 tyX8 tyX8_ok nmX8 rfl (by decide) rfl (mm 1 rfl) rfl dX8_rule_42 rfl rfl rfl (Nat.le_of_ble_eq_true rfl) rfl ?_
        refine V_aload_n (pc := 45) F dX8_rule_45 rfl 0 rfl ?_
        refine V_get (pc := 46) F 0 8 0 i_X8 rfl (by decide) rfl (mm 1 rfl) dX8_rule_46 rfl rfl ?_
        refine V_if_le (pc := 49) (tgt := 56) F dX8_rule_49 (by decide) (fun h14 => ?_) (fun h14 => ?_)
        · refine V_aload_n (pc := 56) F dX8_rule_56 rfl 0 rfl ?_
          refine V_iload_n (pc := 57) F dX8_rule_57 rfl 1 rfl ?_
          refine V_iload_n (pc := 58) F dX8_rule_58 rfl 2 rfl ?_
          refine V_iload_n (pc := 59) F dX8_rule_59 rfl 3 rfl ?_
          obtain ⟨r15, g16, hf⟩ := bind_of hf
          refine V_V (w2 := wX8 cy a (0, v.2)) (rest := []) (st2 := [.int r15]) (pc := 60) F 8 (M_X8_toldRule l D cy N a (0, v.2) x1 x2 x3 r15 g16) (cwV 3 F.ts gX8_rule_X8_toldRule rfl rfl rfl hd_X8_toldRule ⟨Nat.le_of_ble_eq_true rfl, Nat.le_of_ble_eq_true rfl⟩) rfl dX8_rule_60 Fit.whole rfl rfl rfl (Nat.le_of_ble_eq_true rfl) (Nat.zero_le _) (Nat.zero_le _) rfl rfl rfl ?_
          obtain rfl := some_of hf
          exact V_ret F rfl rfl dX8_rule_63 rfl rfl
        · exact absurd h14 (show ¬ (¬ ((0 : Int32) ≤ (0 : Int32))) by decide)
    · replace hf := ite_pos hf h9
      refine V_iconst (v := 1) (pc := 24) F dX8_rule_24 (by decide) ?_
      refine V_goto (pc := 25) (tgt := 42) F dX8_rule_25 (by decide) ?_
      refine V_put (w2 := wX8 cy a (1, v.2)) (pc := 42) F 0 8 0 i_X8 tyX8 tyX8_ok nmX8 rfl (by decide) rfl (mm 1 rfl) rfl dX8_rule_42 rfl rfl rfl (Nat.le_of_ble_eq_true rfl) rfl ?_
      refine V_aload_n (pc := 45) F dX8_rule_45 rfl 0 rfl ?_
      refine V_get (pc := 46) F 0 8 0 i_X8 rfl (by decide) rfl (mm 1 rfl) dX8_rule_46 rfl rfl ?_
      refine V_if_le (pc := 49) (tgt := 56) F dX8_rule_49 (by decide) (fun h17 => ?_) (fun h17 => ?_)
      · exact absurd h17 (show ¬ ((1 : Int32) ≤ (0 : Int32)) by decide)
      · refine V_iconst (v := 0) (pc := 52) F dX8_rule_52 (by decide) ?_
        refine V_goto (pc := 53) (tgt := 63) F dX8_rule_53 (by decide) ?_
        obtain rfl := some_of hf
        exact V_ret F rfl rfl dX8_rule_63 rfl rfl
