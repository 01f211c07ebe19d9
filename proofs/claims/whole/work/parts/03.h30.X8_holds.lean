theorem hd_X8_holds : yX8_holds.cls = RX8 ∧ yX8_holds.cls ≠ "java/lang/invoke/MethodHandle" ∧ yX8_holds.cls ≠ "java/lang/invoke/VarHandle" ∧ (parseMethodDescriptor yX8_holds.desc).map (fun d => d.parameters.length) = some 2 := by decide +kernel
def fX8_holds (N : Nat) (v : SX8) (x1 : Int32) (x2 : Int32) : Option (Int32) :=
  (fX8_askers N v x1 x2).bind fun r1 =>
    if r1 = 0 then
      some 1
    else
      (fX8_askers N v x1 x2).bind fun r4 =>
        (fX8_waiting N v).bind fun r6 =>
          if (r4 &&& r6) = 0 then
            some 0
          else
            some 1
set_option maxHeartbeats 8000000 in
set_option maxRecDepth 100000 in
theorem M_X8_holds (l : Launch) (D : va_G) (cy : Nat → ClassId) (N : Nat) (a : Nat → Nat) (v : SX8) (x1 : Int32) (x2 : Int32) (o : Int32) (hf : fX8_holds N v x1 x2 = some o) : okM l yX8_holds wsX8_holds (rmz 2 44) D cy [.ref (a 0), .int x1, .int x2] (wX8 cy a v) (wX8 cy a v) (some (.int o)) := by
  refine okM_of (own := RX8) (nme := "holds") (cc := cX8_holds) (maxL := 3) (ret := (some .boolean)) (by decide) rfl rfl rfl (Nat.le_of_ble_eq_true rfl) ?_
  intro p e s m args below meth c A F
  unfold fX8_holds at hf
  refine V.eq rfl (show lv_args 0 [.ref (a 0), .int x1, .int x2] = [(0, .ref (a 0)), (1, .int x1), (2, .int x2)] from rfl) rfl ?_
  refine V_aload_n (pc := 0) F dX8_holds_0 rfl 0 rfl ?_
  refine V_iload_n (pc := 1) F dX8_holds_1 rfl 1 rfl ?_
  refine V_iload_n (pc := 2) F dX8_holds_2 rfl 2 rfl ?_
  obtain ⟨r1, g2, hf⟩ := bind_of hf
  refine V_V (w2 := wX8 cy a v) (rest := []) (st2 := [.int r1]) (pc := 3) F 8 (M_X8_askers l D cy N a v x1 x2 r1 g2) (cwV 2 F.ts gX8_holds_X8_askers rfl rfl rfl hd_X8_askers ⟨Nat.le_of_ble_eq_true rfl, Nat.le_of_ble_eq_true rfl⟩) rfl dX8_holds_3 Fit.whole rfl rfl rfl (Nat.le_of_ble_eq_true rfl) (Nat.zero_le _) (Nat.zero_le _) rfl rfl rfl ?_
  refine V_if_eq (pc := 6) (tgt := 23) F dX8_holds_6 (by decide) (fun h3 => ?_) (fun h3 => ?_)
  · replace hf := ite_pos hf h3
    refine V_iconst (v := 1) (pc := 23) F dX8_holds_23 (by decide) ?_
    refine V_goto (pc := 24) (tgt := 28) F dX8_holds_24 (by decide) ?_
    obtain rfl := some_of hf
    exact V_ret F rfl rfl dX8_holds_28 rfl rfl
  · replace hf := ite_neg hf h3
    refine V_aload_n (pc := 9) F dX8_holds_9 rfl 0 rfl ?_
    refine V_iload_n (pc := 10) F dX8_holds_10 rfl 1 rfl ?_
    refine V_iload_n (pc := 11) F dX8_holds_11 rfl 2 rfl ?_
    obtain ⟨r4, g5, hf⟩ := bind_of hf
    refine V_V (w2 := wX8 cy a v) (rest := []) (st2 := [.int r4]) (pc := 12) F 8 (M_X8_askers l D cy N a v x1 x2 r4 g5) (cwV 2 F.ts gX8_holds_X8_askers rfl rfl rfl hd_X8_askers ⟨Nat.le_of_ble_eq_true rfl, Nat.le_of_ble_eq_true rfl⟩) rfl dX8_holds_12 Fit.whole rfl rfl rfl (Nat.le_of_ble_eq_true rfl) (Nat.zero_le _) (Nat.zero_le _) rfl rfl rfl ?_
    refine V_aload_n (pc := 15) F dX8_holds_15 rfl 0 rfl ?_
    obtain ⟨r6, g7, hf⟩ := bind_of hf
    refine V_V (w2 := wX8 cy a v) (rest := [.int r4]) (st2 := [.int r6, .int r4]) (pc := 16) F 8 (M_X8_waiting l D cy N a v r6 g7) (cwV 0 F.ts gX8_holds_X8_waiting rfl rfl rfl hd_X8_waiting ⟨Nat.le_of_ble_eq_true rfl, Nat.le_of_ble_eq_true rfl⟩) rfl dX8_holds_16 Fit.whole rfl rfl rfl (Nat.le_of_ble_eq_true rfl) (Nat.zero_le _) (Nat.zero_le _) rfl rfl rfl ?_
    refine V_iand (pc := 19) F dX8_holds_19 ?_
    refine V_if_eq (pc := 20) (tgt := 27) F dX8_holds_20 (by decide) (fun h8 => ?_) (fun h8 => ?_)
    · replace hf := ite_pos hf h8
      refine V_iconst (v := 0) (pc := 27) F dX8_holds_27 (by decide) ?_
      obtain rfl := some_of hf
      exact V_ret F rfl rfl dX8_holds_28 rfl rfl
    · replace hf := ite_neg hf h8
      refine V_iconst (v := 1) (pc := 23) F dX8_holds_23 (by decide) ?_
      refine V_goto (pc := 24) (tgt := 28) F dX8_holds_24 (by decide) ?_
      obtain rfl := some_of hf
      exact V_ret F rfl rfl dX8_holds_28 rfl rfl
