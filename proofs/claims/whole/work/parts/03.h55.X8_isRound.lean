theorem hd_X8_isRound : yX8_isRound.cls = RX8 ∧ yX8_isRound.cls ≠ "java/lang/invoke/MethodHandle" ∧ yX8_isRound.cls ≠ "java/lang/invoke/VarHandle" ∧ (parseMethodDescriptor yX8_isRound.desc).map (fun d => d.parameters.length) = some 2 := by decide +kernel
def fX8_isRound (N : Nat) (v : SX8) (x1 : Int32) (x2 : Int32) : Option (Int32) :=
  (fX8_hasGreen N v x1 x2).bind fun r1 =>
    if r1 = 0 then
      (fX8_canStay N v x1 x2).bind fun r4 =>
        if r4 = 0 then
          (fX8_reached N v x1 x2).bind fun r7 =>
            if ((r7 >>> (x1 &&& 31)) &&& 1) = 1 then
              some 1
            else
              some 0
        else
          some 1
    else
      some 0
set_option maxHeartbeats 8000000 in
set_option maxRecDepth 100000 in
theorem M_X8_isRound (l : Launch) (D : va_G) (cy : Nat → ClassId) (N : Nat) (a : Nat → Nat) (v : SX8) (x1 : Int32) (x2 : Int32) (o : Int32) (hf : fX8_isRound N v x1 x2 = some o) : okM l yX8_isRound wsX8_isRound (rmz 5 120) D cy [.ref (a 0), .int x1, .int x2] (wX8 cy a v) (wX8 cy a v) (some (.int o)) := by
  refine okM_of (own := RX8) (nme := "isRound") (cc := cX8_isRound) (maxL := 3) (ret := (some .boolean)) (by decide) rfl rfl rfl (Nat.le_of_ble_eq_true rfl) ?_
  intro p e s m args below meth c A F
  unfold fX8_isRound at hf
  refine V.eq rfl (show lv_args 0 [.ref (a 0), .int x1, .int x2] = [(0, .ref (a 0)), (1, .int x1), (2, .int x2)] from rfl) rfl ?_
  refine V_aload_n (pc := 0) F dX8_isRound_0 rfl 0 rfl ?_
  refine V_iload_n (pc := 1) F dX8_isRound_1 rfl 1 rfl ?_
  refine V_iload_n (pc := 2) F dX8_isRound_2 rfl 2 rfl ?_
  obtain ⟨r1, g2, hf⟩ := bind_of hf
  refine V_V (w2 := wX8 cy a v) (rest := []) (st2 := [.int r1]) (pc := 3) F 8 (M_X8_hasGreen l D cy N a v x1 x2 r1 g2) (cwV 2 F.ts gX8_isRound_X8_hasGreen rfl rfl rfl hd_X8_hasGreen ⟨Nat.le_of_ble_eq_true rfl, Nat.le_of_ble_eq_true rfl⟩) rfl dX8_isRound_3 Fit.whole rfl rfl rfl (Nat.le_of_ble_eq_true rfl) (Nat.zero_le _) (Nat.zero_le _) rfl rfl rfl ?_
  refine V_if_ne (pc := 6) (tgt := 36) F dX8_isRound_6 (by decide) (fun h3 => ?_) (fun h3 => ?_)
  · replace hf := ite_neg hf h3
    refine V_iconst (v := 0) (pc := 36) F dX8_isRound_36 (by decide) ?_
    obtain rfl := some_of hf
    exact V_ret F rfl rfl dX8_isRound_37 rfl rfl
  · replace hf := ite_pos hf h3
    refine V_aload_n (pc := 9) F dX8_isRound_9 rfl 0 rfl ?_
    refine V_iload_n (pc := 10) F dX8_isRound_10 rfl 1 rfl ?_
    refine V_iload_n (pc := 11) F dX8_isRound_11 rfl 2 rfl ?_
    obtain ⟨r4, g5, hf⟩ := bind_of hf
    refine V_V (w2 := wX8 cy a v) (rest := []) (st2 := [.int r4]) (pc := 12) F 8 (M_X8_canStay l D cy N a v x1 x2 r4 g5) (cwV 2 F.ts gX8_isRound_X8_canStay rfl rfl rfl hd_X8_canStay ⟨Nat.le_of_ble_eq_true rfl, Nat.le_of_ble_eq_true rfl⟩) rfl dX8_isRound_12 Fit.whole rfl rfl rfl (Nat.le_of_ble_eq_true rfl) (Nat.zero_le _) (Nat.zero_le _) rfl rfl rfl ?_
    refine V_if_ne (pc := 15) (tgt := 32) F dX8_isRound_15 (by decide) (fun h6 => ?_) (fun h6 => ?_)
    · replace hf := ite_neg hf h6
      refine V_iconst (v := 1) (pc := 32) F dX8_isRound_32 (by decide) ?_
      refine V_goto (pc := 33) (tgt := 37) F dX8_isRound_33 (by decide) ?_
      obtain rfl := some_of hf
      exact V_ret F rfl rfl dX8_isRound_37 rfl rfl
    · replace hf := ite_pos hf h6
      refine V_aload_n (pc := 18) F dX8_isRound_18 rfl 0 rfl ?_
      refine V_iload_n (pc := 19) F dX8_isRound_19 rfl 1 rfl ?_
      refine V_iload_n (pc := 20) F dX8_isRound_20 rfl 2 rfl ?_
      obtain ⟨r7, g8, hf⟩ := bind_of hf
      refine V_V (w2 := wX8 cy a v) (rest := []) (st2 := [.int r7]) (pc := 21) F 8 (M_X8_reached l D cy N a v x1 x2 r7 g8) (cwV 2 F.ts gX8_isRound_X8_reached rfl rfl rfl hd_X8_reached ⟨Nat.le_of_ble_eq_true rfl, Nat.le_of_ble_eq_true rfl⟩) rfl dX8_isRound_21 Fit.whole rfl rfl rfl (Nat.le_of_ble_eq_true rfl) (Nat.zero_le _) (Nat.zero_le _) rfl rfl rfl ?_
      refine V_iload_n (pc := 24) F dX8_isRound_24 rfl 1 rfl ?_
      refine V_ishr (pc := 25) F dX8_isRound_25 ?_
      refine V_iconst (v := 1) (pc := 26) F dX8_isRound_26 (by decide) ?_
      refine V_iand (pc := 27) F dX8_isRound_27 ?_
      refine V_iconst (v := 1) (pc := 28) F dX8_isRound_28 (by decide) ?_
      refine V_icmp_ne (pc := 29) (tgt := 36) F dX8_isRound_29 (by decide) (fun h9 => ?_) (fun h9 => ?_)
      · replace hf := ite_neg hf h9
        refine V_iconst (v := 0) (pc := 36) F dX8_isRound_36 (by decide) ?_
        obtain rfl := some_of hf
        exact V_ret F rfl rfl dX8_isRound_37 rfl rfl
      · replace hf := ite_pos hf h9
        refine V_iconst (v := 1) (pc := 32) F dX8_isRound_32 (by decide) ?_
        refine V_goto (pc := 33) (tgt := 37) F dX8_isRound_33 (by decide) ?_
        obtain rfl := some_of hf
        exact V_ret F rfl rfl dX8_isRound_37 rfl rfl
