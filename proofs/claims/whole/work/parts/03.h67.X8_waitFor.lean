theorem hd_X8_waitFor : yX8_waitFor.cls = RX8 ∧ yX8_waitFor.cls ≠ "java/lang/invoke/MethodHandle" ∧ yX8_waitFor.cls ≠ "java/lang/invoke/VarHandle" ∧ (parseMethodDescriptor yX8_waitFor.desc).map (fun d => d.parameters.length) = some 3 := by decide +kernel
def fX8_waitFor (N : Nat) (v : SX8) (x1 : Int32) (x2 : Int32) (x3 : Int32) : Option (Int32 × SX8) :=
  (fX8_isPhase N v x2).bind fun r1 =>
    if r1 = 0 then
      some (0, (1, v.2))
    else
      (fX8_isDirection N x1).bind fun r4 =>
        if r4 = 0 then
          some (0, (2, v.2))
        else
          if x3 = 0 then
            (fX8_shortest N (0, v.2) x1 x2).bind fun r10 =>
              some (r10.1, r10.2)
          else
            (fX8_longest N (0, v.2) x1 x2).bind fun r12 =>
              some (r12.1, r12.2)
set_option maxHeartbeats 8000000 in
set_option maxRecDepth 100000 in
theorem M_X8_waitFor (l : Launch) (D : va_G) (cy : Nat → ClassId) (N : Nat) (a : Nat → Nat) (v : SX8) (x1 : Int32) (x2 : Int32) (x3 : Int32) (o : Int32 × SX8) (hf : fX8_waitFor N v x1 x2 x3 = some o) : okM l yX8_waitFor wsX8_waitFor (rmz 9 215) D cy [.ref (a 0), .int x1, .int x2, .int x3] (wX8 cy a v) (wX8 cy a o.2) (some (.int o.1)) := by
  refine okM_of (own := RX8) (nme := "waitFor") (cc := cX8_waitFor) (maxL := 4) (ret := (some .int)) (by decide) rfl rfl rfl (Nat.le_of_ble_eq_true rfl) ?_
  intro p e s m args below meth c A F
  have i_X8 : ∀ w ∈ u_ws RX8 TX8 13, w ∈ wsX8_waitFor := fun _ h => List.mem_cons_of_mem _ (List.mem_append_right _ h)
  unfold fX8_waitFor at hf
  refine V.eq rfl (show lv_args 0 [.ref (a 0), .int x1, .int x2, .int x3] = [(0, .ref (a 0)), (1, .int x1), (2, .int x2), (3, .int x3)] from rfl) rfl ?_
  refine V_aload_n (pc := 0) F dX8_waitFor_0 rfl 0 rfl ?_
  refine V_aload_n (pc := 1) F dX8_waitFor_1 rfl 0 rfl ?_
  refine V_iload_n (pc := 2) F dX8_waitFor_2 rfl 2 rfl ?_
  obtain ⟨r1, g2, hf⟩ := bind_of hf
  refine V_V (w2 := wX8 cy a v) (rest := [.ref (a 0)]) (st2 := [.int r1, .ref (a 0)]) (pc := 3) F 8 (M_X8_isPhase l D cy N a v x2 r1 g2) (cwV 1 F.ts gX8_waitFor_X8_isPhase rfl rfl rfl hd_X8_isPhase ⟨Nat.le_of_ble_eq_true rfl, Nat.le_of_ble_eq_true rfl⟩) rfl dX8_waitFor_3 Fit.whole rfl rfl rfl (Nat.le_of_ble_eq_true rfl) (Nat.zero_le _) (Nat.zero_le _) rfl rfl rfl ?_
  refine V_if_ne (pc := 6) (tgt := 13) F dX8_waitFor_6 (by decide) (fun h3 => ?_) (fun h3 => ?_)
  · replace hf := ite_neg hf h3
    refine V_iload_n (pc := 13) F dX8_waitFor_13 rfl 1 rfl ?_
    obtain ⟨r4, g5, hf⟩ := bind_of hf
    refine V_Sc (rest := [.ref (a 0)]) (st2 := [.int r4, .ref (a 0)]) (pc := 14) F (M_X8_isDirection l D cy N x1 r4 g5) (va_cwS 1 F.ts gX8_waitFor_X8_isDirection rfl rfl rfl hd_X8_isDirection ⟨Nat.le_of_ble_eq_true rfl, Nat.le_of_ble_eq_true rfl⟩) rfl dX8_waitFor_14 (Nat.le_of_ble_eq_true rfl) (Nat.zero_le _) (Nat.zero_le _) rfl rfl ?_
    refine V_if_eq (pc := 17) (tgt := 24) F dX8_waitFor_17 (by decide) (fun h6 => ?_) (fun h6 => ?_)
    · replace hf := ite_pos hf h6
      refine V_iconst (v := 2) (pc := 24) F dX8_waitFor_24 (by decide) ?_
      refine V_put (w2 := wX8 cy a (2, v.2)) (pc := 25) F 0 8 0 i_X8 tyX8 tyX8_ok nmX8 rfl (by decide) rfl (mm 1 rfl) rfl dX8_waitFor_25 rfl rfl rfl (Nat.le_of_ble_eq_true rfl) rfl ?_
      refine V_aload_n (pc := 28) F dX8_waitFor_28 rfl 0 rfl ?_
      refine V_get (pc := 29) F 0 8 0 i_X8 rfl (by decide) rfl (mm 1 rfl) dX8_waitFor_29 rfl rfl ?_
      refine V_if_le (pc := 32) (tgt := 39) F dX8_waitFor_32 (by decide) (fun h7 => ?_) (fun h7 => ?_)
      · exact absurd h7 (show ¬ ((2 : Int32) ≤ (0 : Int32)) by decide)
      · refine V_iconst (v := 0) (pc := 35) F dX8_waitFor_35 (by decide) ?_
        refine V_goto (pc := 36) (tgt := 58) F dX8_waitFor_36 (by decide) ?_
        obtain rfl := some_of hf
        exact V_ret F rfl rfl dX8_waitFor_58 rfl rfl
    · replace hf := ite_neg hf h6
      refine V_iconst (v := 0) (pc := 20) F dX8_waitFor_20 (by decide) ?_
      refine V_goto (pc := 21) (tgt := 25) F dX8_waitFor_21 (by decide) ?_
      refine V_put (w2 := wX8 cy a (0, v.2)) (pc := 25) F 0 8 0 i_X8 tyX8 tyX8_ok nmX8 rfl (by decide) rfl (mm 1 rfl) rfl dX8_waitFor_25 rfl rfl rfl (Nat.le_of_ble_eq_true rfl) rfl ?_
      refine V_aload_n (pc := 28) F dX8_waitFor_28 rfl 0 rfl ?_
      refine V_get (pc := 29) F 0 8 0 i_X8 rfl (by decide) rfl (mm 1 rfl) dX8_waitFor_29 rfl rfl ?_
      refine V_if_le (pc := 32) (tgt := 39) F dX8_waitFor_32 (by decide) (fun h8 => ?_) (fun h8 => ?_)
      · refine V_iload_n (pc := 39) F dX8_waitFor_39 rfl 3 rfl ?_
        refine V_if_eq (pc := 40) (tgt := 52) F dX8_waitFor_40 (by decide) (fun h9 => ?_) (fun h9 => ?_)
        · replace hf := ite_pos hf h9
          refine V_aload_n (pc := 52) F dX8_waitFor_52 rfl 0 rfl ?_
          refine V_iload_n (pc := 53) F dX8_waitFor_53 rfl 1 rfl ?_
          refine V_iload_n (pc := 54) F dX8_waitFor_54 rfl 2 rfl ?_
          obtain ⟨r10, g11, hf⟩ := bind_of hf
          refine V_V (w2 := wX8 cy a r10.2) (rest := []) (st2 := [.int r10.1]) (pc := 55) F 8 (M_X8_shortest l D cy N a (0, v.2) x1 x2 r10 g11) (cwV 2 F.ts gX8_waitFor_X8_shortest rfl rfl rfl hd_X8_shortest ⟨Nat.le_of_ble_eq_true rfl, Nat.le_of_ble_eq_true rfl⟩) rfl dX8_waitFor_55 Fit.whole fstX8 rfl rfl (Nat.le_of_ble_eq_true rfl) (Nat.zero_le _) (Nat.zero_le _) rfl rfl rfl ?_
          obtain rfl := some_of hf
          exact V_ret F rfl rfl dX8_waitFor_58 rfl rfl
        · replace hf := ite_neg hf h9
          refine V_aload_n (pc := 43) F dX8_waitFor_43 rfl 0 rfl ?_
          refine V_iload_n (pc := 44) F dX8_waitFor_44 rfl 1 rfl ?_
          refine V_iload_n (pc := 45) F dX8_waitFor_45 rfl 2 rfl ?_
          obtain ⟨r12, g13, hf⟩ := bind_of hf
          refine V_V (w2 := wX8 cy a r12.2) (rest := []) (st2 := [.int r12.1]) (pc := 46) F 8 (M_X8_longest l D cy N a (0, v.2) x1 x2 r12 g13) (cwV 2 F.ts gX8_waitFor_X8_longest rfl rfl rfl hd_X8_longest ⟨Nat.le_of_ble_eq_true rfl, Nat.le_of_ble_eq_true rfl⟩) rfl dX8_waitFor_46 Fit.whole fstX8 rfl rfl (Nat.le_of_ble_eq_true rfl) (Nat.zero_le _) (Nat.zero_le _) rfl rfl rfl ?_
          refine V_goto (pc := 49) (tgt := 58) F dX8_waitFor_49 (by decide) ?_
          obtain rfl := some_of hf
          exact V_ret F rfl rfl dX8_waitFor_58 rfl rfl
      · exact absurd h8 (show ¬ (¬ ((0 : Int32) ≤ (0 : Int32))) by decide)
  · replace hf := ite_pos hf h3
    refine V_iconst (v := 1) (pc := 9) F dX8_waitFor_9 (by decide) ?_
    refine V_goto (pc := 10) (tgt := 25) F dX8_waitFor_10 (by decide) ?_
    refine V_put (w2 := wX8 cy a (1, v.2)) (pc := 25) F 0 8 0 i_X8 tyX8 tyX8_ok nmX8 rfl (by decide) rfl (mm 1 rfl) rfl dX8_waitFor_25 rfl rfl rfl (Nat.le_of_ble_eq_true rfl) rfl ?_
    refine V_aload_n (pc := 28) F dX8_waitFor_28 rfl 0 rfl ?_
    refine V_get (pc := 29) F 0 8 0 i_X8 rfl (by decide) rfl (mm 1 rfl) dX8_waitFor_29 rfl rfl ?_
    refine V_if_le (pc := 32) (tgt := 39) F dX8_waitFor_32 (by decide) (fun h14 => ?_) (fun h14 => ?_)
    · exact absurd h14 (show ¬ ((1 : Int32) ≤ (0 : Int32)) by decide)
    · refine V_iconst (v := 0) (pc := 35) F dX8_waitFor_35 (by decide) ?_
      refine V_goto (pc := 36) (tgt := 58) F dX8_waitFor_36 (by decide) ?_
      obtain rfl := some_of hf
      exact V_ret F rfl rfl dX8_waitFor_58 rfl rfl
