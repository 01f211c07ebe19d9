theorem hd_X8_readRule : yX8_readRule.cls = RX8 ∧ yX8_readRule.cls ≠ "java/lang/invoke/MethodHandle" ∧ yX8_readRule.cls ≠ "java/lang/invoke/VarHandle" ∧ (parseMethodDescriptor yX8_readRule.desc).map (fun d => d.parameters.length) = some 1 := by decide +kernel
def fX8_readRule (N : Nat) (v : SX8) (x1 : Int32) : Option (SX8) :=
  (fX8_digit N v 0 7).bind fun r1 =>
    chk (x1 + 1) 68 (
      nmd (upd r1.2.2.2.2.2.2.2.1 (x1 + 1).toNatClampNeg r1.1) fun f4 =>
      (fX8_letter N (r1.2.1, r1.2.2.1, r1.2.2.2.1, r1.2.2.2.2.1, r1.2.2.2.2.2.1, r1.2.2.2.2.2.2.1, f4, r1.2.2.2.2.2.2.2.2.1, r1.2.2.2.2.2.2.2.2.2.1, r1.2.2.2.2.2.2.2.2.2.2.1, r1.2.2.2.2.2.2.2.2.2.2.2.1, r1.2.2.2.2.2.2.2.2.2.2.2.2.1, r1.2.2.2.2.2.2.2.2.2.2.2.2.2)).bind fun r6 =>
        if r6 = 62 then
          (fX8_wants N (r1.2.1, r1.2.2.1, r1.2.2.2.1, r1.2.2.2.2.1, r1.2.2.2.2.2.1, r1.2.2.2.2.2.2.1, f4, r1.2.2.2.2.2.2.2.2.1, r1.2.2.2.2.2.2.2.2.2.1, r1.2.2.2.2.2.2.2.2.2.2.1, r1.2.2.2.2.2.2.2.2.2.2.2.1, r1.2.2.2.2.2.2.2.2.2.2.2.2.1, r1.2.2.2.2.2.2.2.2.2.2.2.2.2) 1).bind fun r32 =>
            (fX8_digit N r32 0 7).bind fun r34 =>
              chk (x1 + 2) 68 (
                nmd (upd r34.2.2.2.2.2.2.2.1 (x1 + 2).toNatClampNeg r34.1) fun f37 =>
                chk (x1 + 3) 68 (
                  nmd (upd f37 (x1 + 3).toNatClampNeg (0 : Int32)) fun f40 =>
                  if r34.2.2.2.2.2.2.2.2.2.2.1 = (-1) then
                    (fX8_letter N (r34.2.1, r34.2.2.1, r34.2.2.2.1, r34.2.2.2.2.1, r34.2.2.2.2.2.1, r34.2.2.2.2.2.2.1, f40, r34.2.2.2.2.2.2.2.2.1, r34.2.2.2.2.2.2.2.2.2.1, r34.2.2.2.2.2.2.2.2.2.2.1, r34.2.2.2.2.2.2.2.2.2.2.2.1, r34.2.2.2.2.2.2.2.2.2.2.2.2.1, r34.2.2.2.2.2.2.2.2.2.2.2.2.2)).bind fun r43 =>
                      if r43 = 63 then
                        (fX8_directions N (r34.2.1, r34.2.2.1, r34.2.2.2.1, r34.2.2.2.2.1, r34.2.2.2.2.2.1, r34.2.2.2.2.2.2.1, f40, r34.2.2.2.2.2.2.2.2.1, (r34.2.2.2.2.2.2.2.2.2.1 + 1), r34.2.2.2.2.2.2.2.2.2.2.1, r34.2.2.2.2.2.2.2.2.2.2.2.1, r34.2.2.2.2.2.2.2.2.2.2.2.2.1, r34.2.2.2.2.2.2.2.2.2.2.2.2.2)).bind fun r46 =>
                          chk (x1 + 3) 68 (
                            nmd (upd r46.2.2.2.2.2.2.2.1 (x1 + 3).toNatClampNeg r46.1) fun f49 =>
                            chk (x1 + 3) 68 (
                              if (f49 (x1 + 3).toNatClampNeg) = 0 then
                                (fX8_wants N (r46.2.1, r46.2.2.1, r46.2.2.2.1, r46.2.2.2.2.1, r46.2.2.2.2.2.1, r46.2.2.2.2.2.2.1, f49, r46.2.2.2.2.2.2.2.2.1, r46.2.2.2.2.2.2.2.2.2.1, r46.2.2.2.2.2.2.2.2.2.2.1, r46.2.2.2.2.2.2.2.2.2.2.2.1, r46.2.2.2.2.2.2.2.2.2.2.2.2.1, r46.2.2.2.2.2.2.2.2.2.2.2.2.2) 0).bind fun r53 =>
                                  some r53
                              else
                                some (r46.2.1, r46.2.2.1, r46.2.2.2.1, r46.2.2.2.2.1, r46.2.2.2.2.2.1, r46.2.2.2.2.2.2.1, f49, r46.2.2.2.2.2.2.2.2.1, r46.2.2.2.2.2.2.2.2.2.1, r46.2.2.2.2.2.2.2.2.2.2.1, r46.2.2.2.2.2.2.2.2.2.2.2.1, r46.2.2.2.2.2.2.2.2.2.2.2.2.1, r46.2.2.2.2.2.2.2.2.2.2.2.2.2)
                            )
                          )
                      else
                        some (r34.2.1, r34.2.2.1, r34.2.2.2.1, r34.2.2.2.2.1, r34.2.2.2.2.2.1, r34.2.2.2.2.2.2.1, f40, r34.2.2.2.2.2.2.2.2.1, r34.2.2.2.2.2.2.2.2.2.1, r34.2.2.2.2.2.2.2.2.2.2.1, r34.2.2.2.2.2.2.2.2.2.2.2.1, r34.2.2.2.2.2.2.2.2.2.2.2.2.1, r34.2.2.2.2.2.2.2.2.2.2.2.2.2)
                  else
                    some (r34.2.1, r34.2.2.1, r34.2.2.2.1, r34.2.2.2.2.1, r34.2.2.2.2.2.1, r34.2.2.2.2.2.2.1, f40, r34.2.2.2.2.2.2.2.2.1, r34.2.2.2.2.2.2.2.2.2.1, r34.2.2.2.2.2.2.2.2.2.2.1, r34.2.2.2.2.2.2.2.2.2.2.2.1, r34.2.2.2.2.2.2.2.2.2.2.2.2.1, r34.2.2.2.2.2.2.2.2.2.2.2.2.2)
                )
              )
        else
          (fX8_wants N (r1.2.1, r1.2.2.1, r1.2.2.2.1, r1.2.2.2.2.1, r1.2.2.2.2.2.1, r1.2.2.2.2.2.2.1, f4, r1.2.2.2.2.2.2.2.2.1, r1.2.2.2.2.2.2.2.2.2.1, r1.2.2.2.2.2.2.2.2.2.2.1, r1.2.2.2.2.2.2.2.2.2.2.2.1, r1.2.2.2.2.2.2.2.2.2.2.2.2.1, r1.2.2.2.2.2.2.2.2.2.2.2.2.2) 0).bind fun r9 =>
            (fX8_digit N r9 0 7).bind fun r11 =>
              chk (x1 + 2) 68 (
                nmd (upd r11.2.2.2.2.2.2.2.1 (x1 + 2).toNatClampNeg r11.1) fun f14 =>
                chk (x1 + 3) 68 (
                  nmd (upd f14 (x1 + 3).toNatClampNeg (0 : Int32)) fun f17 =>
                  if r11.2.2.2.2.2.2.2.2.2.2.1 = (-1) then
                    (fX8_letter N (r11.2.1, r11.2.2.1, r11.2.2.2.1, r11.2.2.2.2.1, r11.2.2.2.2.2.1, r11.2.2.2.2.2.2.1, f17, r11.2.2.2.2.2.2.2.2.1, r11.2.2.2.2.2.2.2.2.2.1, r11.2.2.2.2.2.2.2.2.2.2.1, r11.2.2.2.2.2.2.2.2.2.2.2.1, r11.2.2.2.2.2.2.2.2.2.2.2.2.1, r11.2.2.2.2.2.2.2.2.2.2.2.2.2)).bind fun r20 =>
                      if r20 = 63 then
                        (fX8_directions N (r11.2.1, r11.2.2.1, r11.2.2.2.1, r11.2.2.2.2.1, r11.2.2.2.2.2.1, r11.2.2.2.2.2.2.1, f17, r11.2.2.2.2.2.2.2.2.1, (r11.2.2.2.2.2.2.2.2.2.1 + 1), r11.2.2.2.2.2.2.2.2.2.2.1, r11.2.2.2.2.2.2.2.2.2.2.2.1, r11.2.2.2.2.2.2.2.2.2.2.2.2.1, r11.2.2.2.2.2.2.2.2.2.2.2.2.2)).bind fun r23 =>
                          chk (x1 + 3) 68 (
                            nmd (upd r23.2.2.2.2.2.2.2.1 (x1 + 3).toNatClampNeg r23.1) fun f26 =>
                            chk (x1 + 3) 68 (
                              if (f26 (x1 + 3).toNatClampNeg) = 0 then
                                (fX8_wants N (r23.2.1, r23.2.2.1, r23.2.2.2.1, r23.2.2.2.2.1, r23.2.2.2.2.2.1, r23.2.2.2.2.2.2.1, f26, r23.2.2.2.2.2.2.2.2.1, r23.2.2.2.2.2.2.2.2.2.1, r23.2.2.2.2.2.2.2.2.2.2.1, r23.2.2.2.2.2.2.2.2.2.2.2.1, r23.2.2.2.2.2.2.2.2.2.2.2.2.1, r23.2.2.2.2.2.2.2.2.2.2.2.2.2) 0).bind fun r30 =>
                                  some r30
                              else
                                some (r23.2.1, r23.2.2.1, r23.2.2.2.1, r23.2.2.2.2.1, r23.2.2.2.2.2.1, r23.2.2.2.2.2.2.1, f26, r23.2.2.2.2.2.2.2.2.1, r23.2.2.2.2.2.2.2.2.2.1, r23.2.2.2.2.2.2.2.2.2.2.1, r23.2.2.2.2.2.2.2.2.2.2.2.1, r23.2.2.2.2.2.2.2.2.2.2.2.2.1, r23.2.2.2.2.2.2.2.2.2.2.2.2.2)
                            )
                          )
                      else
                        some (r11.2.1, r11.2.2.1, r11.2.2.2.1, r11.2.2.2.2.1, r11.2.2.2.2.2.1, r11.2.2.2.2.2.2.1, f17, r11.2.2.2.2.2.2.2.2.1, r11.2.2.2.2.2.2.2.2.2.1, r11.2.2.2.2.2.2.2.2.2.2.1, r11.2.2.2.2.2.2.2.2.2.2.2.1, r11.2.2.2.2.2.2.2.2.2.2.2.2.1, r11.2.2.2.2.2.2.2.2.2.2.2.2.2)
                  else
                    some (r11.2.1, r11.2.2.1, r11.2.2.2.1, r11.2.2.2.2.1, r11.2.2.2.2.2.1, r11.2.2.2.2.2.2.1, f17, r11.2.2.2.2.2.2.2.2.1, r11.2.2.2.2.2.2.2.2.2.1, r11.2.2.2.2.2.2.2.2.2.2.1, r11.2.2.2.2.2.2.2.2.2.2.2.1, r11.2.2.2.2.2.2.2.2.2.2.2.2.1, r11.2.2.2.2.2.2.2.2.2.2.2.2.2)
                )
              )
    )
set_option maxHeartbeats 8000000 in
set_option maxRecDepth 100000 in
theorem M_X8_readRule (l : Launch) (D : va_G) (cy : Nat → ClassId) (N : Nat) (a : Nat → Nat) (v : SX8) (x1 : Int32) (o : SX8) (hf : fX8_readRule N v x1 = some o) : okM l yX8_readRule wsX8_readRule (rmz 2 45) D cy [.ref (a 0), .int x1] (wX8 cy a v) (wX8 cy a o) none := by
  refine okM_of (own := RX8) (nme := "readRule") (cc := cX8_readRule) (maxL := 2) (ret := none) (by decide) rfl rfl rfl (Nat.le_of_ble_eq_true rfl) ?_
  intro p e s m args below meth c A F
  have i_X8 : ∀ w ∈ u_ws RX8 TX8 13, w ∈ wsX8_readRule := fun _ h => List.mem_cons_of_mem _ (List.mem_append_right _ h)
  unfold fX8_readRule at hf
  refine V.eq rfl (show lv_args 0 [.ref (a 0), .int x1] = [(0, .ref (a 0)), (1, .int x1)] from rfl) rfl ?_
  refine V_aload_n (pc := 0) F dX8_readRule_0 rfl 0 rfl ?_
  refine V_get (pc := 1) F 0 8 6 i_X8 rfl (by decide) rfl (mm 1 rfl) dX8_readRule_1 rfl rfl ?_
  refine V_iload_n (pc := 4) F dX8_readRule_4 rfl 1 rfl ?_
  refine V_iconst (v := 1) (pc := 5) F dX8_readRule_5 (by decide) ?_
  refine V_iadd (pc := 6) F dX8_readRule_6 ?_
  refine V_aload_n (pc := 7) F dX8_readRule_7 rfl 0 rfl ?_
  refine V_iconst (v := 0) (pc := 8) F dX8_readRule_8 (by decide) ?_
  refine V_bipush (v := 7) (pc := 9) F dX8_readRule_9 (by decide) ?_
  obtain ⟨r1, g2, hf⟩ := bind_of hf
  refine V_V (w2 := wX8 cy a r1.2) (rest := [.int (x1 + 1), .ref (a 4)]) (st2 := [.int r1.1, .int (x1 + 1), .ref (a 4)]) (pc := 11) F 8 (M_X8_digit l D cy N a v 0 7 r1 g2) (cwV 2 F.ts gX8_readRule_X8_digit rfl rfl rfl hd_X8_digit ⟨Nat.le_of_ble_eq_true rfl, Nat.le_of_ble_eq_true rfl⟩) rfl dX8_readRule_11 Fit.whole fstX8 rfl rfl (Nat.le_of_ble_eq_true rfl) (Nat.zero_le _) (Nat.zero_le _) rfl rfl rfl ?_
  obtain ⟨c3, hf⟩ := chk_some hf
  obtain ⟨f4, e5, hf⟩ := nmd_of hf
  refine V_iast (w2 := wX8 cy a (r1.2.1, r1.2.2.1, r1.2.2.2.1, r1.2.2.2.2.1, r1.2.2.2.2.2.1, r1.2.2.2.2.2.2.1, f4, r1.2.2.2.2.2.2.2.2.1, r1.2.2.2.2.2.2.2.2.2.1, r1.2.2.2.2.2.2.2.2.2.2.1, r1.2.2.2.2.2.2.2.2.2.2.2.1, r1.2.2.2.2.2.2.2.2.2.2.2.2.1, r1.2.2.2.2.2.2.2.2.2.2.2.2.2)) (pc := 14) F 4 rfl c3 e5 dX8_readRule_14 rfl ?_
  refine V_aload_n (pc := 15) F dX8_readRule_15 rfl 0 rfl ?_
  refine V_aload_n (pc := 16) F dX8_readRule_16 rfl 0 rfl ?_
  obtain ⟨r6, g7, hf⟩ := bind_of hf
  refine V_V (w2 := wX8 cy a (r1.2.1, r1.2.2.1, r1.2.2.2.1, r1.2.2.2.2.1, r1.2.2.2.2.2.1, r1.2.2.2.2.2.2.1, f4, r1.2.2.2.2.2.2.2.2.1, r1.2.2.2.2.2.2.2.2.2.1, r1.2.2.2.2.2.2.2.2.2.2.1, r1.2.2.2.2.2.2.2.2.2.2.2.1, r1.2.2.2.2.2.2.2.2.2.2.2.2.1, r1.2.2.2.2.2.2.2.2.2.2.2.2.2)) (rest := [.ref (a 0)]) (st2 := [.int r6, .ref (a 0)]) (pc := 17) F 8 (M_X8_letter l D cy N a (r1.2.1, r1.2.2.1, r1.2.2.2.1, r1.2.2.2.2.1, r1.2.2.2.2.2.1, r1.2.2.2.2.2.2.1, f4, r1.2.2.2.2.2.2.2.2.1, r1.2.2.2.2.2.2.2.2.2.1, r1.2.2.2.2.2.2.2.2.2.2.1, r1.2.2.2.2.2.2.2.2.2.2.2.1, r1.2.2.2.2.2.2.2.2.2.2.2.2.1, r1.2.2.2.2.2.2.2.2.2.2.2.2.2) r6 g7) (cwV 0 F.ts gX8_readRule_X8_letter rfl rfl rfl hd_X8_letter ⟨Nat.le_of_ble_eq_true rfl, Nat.le_of_ble_eq_true rfl⟩) rfl dX8_readRule_17 Fit.whole rfl rfl rfl (Nat.le_of_ble_eq_true rfl) (Nat.zero_le _) (Nat.zero_le _) rfl rfl rfl ?_
  refine V_bipush (v := 62) (pc := 20) F dX8_readRule_20 (by decide) ?_
  refine V_icmp_ne (pc := 22) (tgt := 29) F dX8_readRule_22 (by decide) (fun h8 => ?_) (fun h8 => ?_)
  · replace hf := ite_neg hf h8
    refine V_iconst (v := 0) (pc := 29) F dX8_readRule_29 (by decide) ?_
    obtain ⟨r9, g10, hf⟩ := bind_of hf
    refine V_V (w2 := wX8 cy a r9) (rest := []) (st2 := []) (pc := 30) F 8 (M_X8_wants l D cy N a (r1.2.1, r1.2.2.1, r1.2.2.2.1, r1.2.2.2.2.1, r1.2.2.2.2.2.1, r1.2.2.2.2.2.2.1, f4, r1.2.2.2.2.2.2.2.2.1, r1.2.2.2.2.2.2.2.2.2.1, r1.2.2.2.2.2.2.2.2.2.2.1, r1.2.2.2.2.2.2.2.2.2.2.2.1, r1.2.2.2.2.2.2.2.2.2.2.2.2.1, r1.2.2.2.2.2.2.2.2.2.2.2.2.2) 0 r9 g10) (cwV 1 F.ts gX8_readRule_X8_wants rfl rfl rfl hd_X8_wants ⟨Nat.le_of_ble_eq_true rfl, Nat.le_of_ble_eq_true rfl⟩) rfl dX8_readRule_30 Fit.whole fstX8 rfl rfl (Nat.le_of_ble_eq_true rfl) (Nat.zero_le _) (Nat.zero_le _) rfl rfl rfl ?_
    refine V_aload_n (pc := 33) F dX8_readRule_33 rfl 0 rfl ?_
    refine V_get (pc := 34) F 0 8 6 i_X8 rfl (by decide) rfl (mm 1 rfl) dX8_readRule_34 rfl rfl ?_
    refine V_iload_n (pc := 37) F dX8_readRule_37 rfl 1 rfl ?_
    refine V_iconst (v := 2) (pc := 38) F dX8_readRule_38 (by decide) ?_
    refine V_iadd (pc := 39) F dX8_readRule_39 ?_
    refine V_aload_n (pc := 40) F dX8_readRule_40 rfl 0 rfl ?_
    refine V_iconst (v := 0) (pc := 41) F dX8_readRule_41 (by decide) ?_
    refine V_bipush (v := 7) (pc := 42) F dX8_readRule_42 (by decide) ?_
    obtain ⟨r11, g12, hf⟩ := bind_of hf
    refine V_V (w2 := wX8 cy a r11.2) (rest := [.int (x1 + 2), .ref (a 4)]) (st2 := [.int r11.1, .int (x1 + 2), .ref (a 4)]) (pc := 44) F 8 (M_X8_digit l D cy N a r9 0 7 r11 g12) (cwV 2 F.ts gX8_readRule_X8_digit rfl rfl rfl hd_X8_digit ⟨Nat.le_of_ble_eq_true rfl, Nat.le_of_ble_eq_true rfl⟩) rfl dX8_readRule_44 Fit.whole fstX8 rfl rfl (Nat.le_of_ble_eq_true rfl) (Nat.zero_le _) (Nat.zero_le _) rfl rfl rfl ?_
    obtain ⟨c13, hf⟩ := chk_some hf
    obtain ⟨f14, e15, hf⟩ := nmd_of hf
    refine V_iast (w2 := wX8 cy a (r11.2.1, r11.2.2.1, r11.2.2.2.1, r11.2.2.2.2.1, r11.2.2.2.2.2.1, r11.2.2.2.2.2.2.1, f14, r11.2.2.2.2.2.2.2.2.1, r11.2.2.2.2.2.2.2.2.2.1, r11.2.2.2.2.2.2.2.2.2.2.1, r11.2.2.2.2.2.2.2.2.2.2.2.1, r11.2.2.2.2.2.2.2.2.2.2.2.2.1, r11.2.2.2.2.2.2.2.2.2.2.2.2.2)) (pc := 47) F 4 rfl c13 e15 dX8_readRule_47 rfl ?_
    refine V_aload_n (pc := 48) F dX8_readRule_48 rfl 0 rfl ?_
    refine V_get (pc := 49) F 0 8 6 i_X8 rfl (by decide) rfl (mm 1 rfl) dX8_readRule_49 rfl rfl ?_
    refine V_iload_n (pc := 52) F dX8_readRule_52 rfl 1 rfl ?_
    refine V_iconst (v := 3) (pc := 53) F dX8_readRule_53 (by decide) ?_
    refine V_iadd (pc := 54) F dX8_readRule_54 ?_
    refine V_iconst (v := 0) (pc := 55) F dX8_readRule_55 (by decide) ?_
    obtain ⟨c16, hf⟩ := chk_some hf
    obtain ⟨f17, e18, hf⟩ := nmd_of hf
    refine V_iast (w2 := wX8 cy a (r11.2.1, r11.2.2.1, r11.2.2.2.1, r11.2.2.2.2.1, r11.2.2.2.2.2.1, r11.2.2.2.2.2.2.1, f17, r11.2.2.2.2.2.2.2.2.1, r11.2.2.2.2.2.2.2.2.2.1, r11.2.2.2.2.2.2.2.2.2.2.1, r11.2.2.2.2.2.2.2.2.2.2.2.1, r11.2.2.2.2.2.2.2.2.2.2.2.2.1, r11.2.2.2.2.2.2.2.2.2.2.2.2.2)) (pc := 56) F 4 rfl c16 e18 dX8_readRule_56 rfl ?_
    refine V_aload_n (pc := 57) F dX8_readRule_57 rfl 0 rfl ?_
    refine V_get (pc := 58) F 0 8 9 i_X8 rfl (by decide) rfl (mm 2 rfl) dX8_readRule_58 rfl rfl ?_
    refine V_iconst (v := (-1)) (pc := 61) F dX8_readRule_61 (by decide) ?_
    refine V_icmp_ne (pc := 62) (tgt := 112) F dX8_readRule_62 (by decide) (fun h19 => ?_) (fun h19 => ?_)
    · replace hf := ite_neg hf h19
      obtain rfl := some_of hf
      exact V_vret F rfl dX8_readRule_112 rfl
    · replace hf := ite_pos hf h19
      refine V_aload_n (pc := 65) F dX8_readRule_65 rfl 0 rfl ?_
      obtain ⟨r20, g21, hf⟩ := bind_of hf
      refine V_V (w2 := wX8 cy a (r11.2.1, r11.2.2.1, r11.2.2.2.1, r11.2.2.2.2.1, r11.2.2.2.2.2.1, r11.2.2.2.2.2.2.1, f17, r11.2.2.2.2.2.2.2.2.1, r11.2.2.2.2.2.2.2.2.2.1, r11.2.2.2.2.2.2.2.2.2.2.1, r11.2.2.2.2.2.2.2.2.2.2.2.1, r11.2.2.2.2.2.2.2.2.2.2.2.2.1, r11.2.2.2.2.2.2.2.2.2.2.2.2.2)) (rest := []) (st2 := [.int r20]) (pc := 66) F 8 (M_X8_letter l D cy N a (r11.2.1, r11.2.2.1, r11.2.2.2.1, r11.2.2.2.2.1, r11.2.2.2.2.2.1, r11.2.2.2.2.2.2.1, f17, r11.2.2.2.2.2.2.2.2.1, r11.2.2.2.2.2.2.2.2.2.1, r11.2.2.2.2.2.2.2.2.2.2.1, r11.2.2.2.2.2.2.2.2.2.2.2.1, r11.2.2.2.2.2.2.2.2.2.2.2.2.1, r11.2.2.2.2.2.2.2.2.2.2.2.2.2) r20 g21) (cwV 0 F.ts gX8_readRule_X8_letter rfl rfl rfl hd_X8_letter ⟨Nat.le_of_ble_eq_true rfl, Nat.le_of_ble_eq_true rfl⟩) rfl dX8_readRule_66 Fit.whole rfl rfl rfl (Nat.le_of_ble_eq_true rfl) (Nat.zero_le _) (Nat.zero_le _) rfl rfl rfl ?_
      refine V_bipush (v := 63) (pc := 69) F dX8_readRule_69 (by decide) ?_
      refine V_icmp_ne (pc := 71) (tgt := 112) F dX8_readRule_71 (by decide) (fun h22 => ?_) (fun h22 => ?_)
      · replace hf := ite_neg hf h22
        obtain rfl := some_of hf
        exact V_vret F rfl dX8_readRule_112 rfl
      · replace hf := ite_pos hf h22
        refine V_aload_n (pc := 74) F dX8_readRule_74 rfl 0 rfl ?_
        refine V_dup (pc := 75) F dX8_readRule_75 rfl ?_
        refine V_get (pc := 76) F 0 8 8 i_X8 rfl (by decide) rfl (mm 3 rfl) dX8_readRule_76 rfl rfl ?_
        refine V_iconst (v := 1) (pc := 79) F dX8_readRule_79 (by decide) ?_
        refine V_iadd (pc := 80) F dX8_readRule_80 ?_
        refine V_put (w2 := wX8 cy a (r11.2.1, r11.2.2.1, r11.2.2.2.1, r11.2.2.2.2.1, r11.2.2.2.2.2.1, r11.2.2.2.2.2.2.1, f17, r11.2.2.2.2.2.2.2.2.1, (r11.2.2.2.2.2.2.2.2.2.1 + 1), r11.2.2.2.2.2.2.2.2.2.2.1, r11.2.2.2.2.2.2.2.2.2.2.2.1, r11.2.2.2.2.2.2.2.2.2.2.2.2.1, r11.2.2.2.2.2.2.2.2.2.2.2.2.2)) (pc := 81) F 0 8 8 i_X8 tyX8 tyX8_ok nmX8 rfl (by decide) rfl (mm 3 rfl) rfl dX8_readRule_81 rfl rfl rfl (Nat.le_of_ble_eq_true rfl) rfl ?_
        refine V_aload_n (pc := 84) F dX8_readRule_84 rfl 0 rfl ?_
        refine V_get (pc := 85) F 0 8 6 i_X8 rfl (by decide) rfl (mm 1 rfl) dX8_readRule_85 rfl rfl ?_
        refine V_iload_n (pc := 88) F dX8_readRule_88 rfl 1 rfl ?_
        refine V_iconst (v := 3) (pc := 89) F dX8_readRule_89 (by decide) ?_
        refine V_iadd (pc := 90) F dX8_readRule_90 ?_
        refine V_aload_n (pc := 91) F dX8_readRule_91 rfl 0 rfl ?_
        obtain ⟨r23, g24, hf⟩ := bind_of hf
        refine V_V (w2 := wX8 cy a r23.2) (rest := [.int (x1 + 3), .ref (a 4)]) (st2 := [.int r23.1, .int (x1 + 3), .ref (a 4)]) (pc := 92) F 8 (M_X8_directions l D cy N a (r11.2.1, r11.2.2.1, r11.2.2.2.1, r11.2.2.2.2.1, r11.2.2.2.2.2.1, r11.2.2.2.2.2.2.1, f17, r11.2.2.2.2.2.2.2.2.1, (r11.2.2.2.2.2.2.2.2.2.1 + 1), r11.2.2.2.2.2.2.2.2.2.2.1, r11.2.2.2.2.2.2.2.2.2.2.2.1, r11.2.2.2.2.2.2.2.2.2.2.2.2.1, r11.2.2.2.2.2.2.2.2.2.2.2.2.2) r23 g24) (cwV 0 F.ts gX8_readRule_X8_directions rfl rfl rfl hd_X8_directions ⟨Nat.le_of_ble_eq_true rfl, Nat.le_of_ble_eq_true rfl⟩) rfl dX8_readRule_92 Fit.whole fstX8 rfl rfl (Nat.le_of_ble_eq_true rfl) (Nat.zero_le _) (Nat.zero_le _) rfl rfl rfl ?_
        obtain ⟨c25, hf⟩ := chk_some hf
        obtain ⟨f26, e27, hf⟩ := nmd_of hf
        refine V_iast (w2 := wX8 cy a (r23.2.1, r23.2.2.1, r23.2.2.2.1, r23.2.2.2.2.1, r23.2.2.2.2.2.1, r23.2.2.2.2.2.2.1, f26, r23.2.2.2.2.2.2.2.2.1, r23.2.2.2.2.2.2.2.2.2.1, r23.2.2.2.2.2.2.2.2.2.2.1, r23.2.2.2.2.2.2.2.2.2.2.2.1, r23.2.2.2.2.2.2.2.2.2.2.2.2.1, r23.2.2.2.2.2.2.2.2.2.2.2.2.2)) (pc := 95) F 4 rfl c25 e27 dX8_readRule_95 rfl ?_
        refine V_aload_n (pc := 96) F dX8_readRule_96 rfl 0 rfl ?_
        refine V_get (pc := 97) F 0 8 6 i_X8 rfl (by decide) rfl (mm 1 rfl) dX8_readRule_97 rfl rfl ?_
        refine V_iload_n (pc := 100) F dX8_readRule_100 rfl 1 rfl ?_
        refine V_iconst (v := 3) (pc := 101) F dX8_readRule_101 (by decide) ?_
        refine V_iadd (pc := 102) F dX8_readRule_102 ?_
        obtain ⟨c28, hf⟩ := chk_some hf
        refine V_iald (pc := 103) F 4 rfl c28 dX8_readRule_103 ?_
        refine V_if_ne (pc := 104) (tgt := 112) F dX8_readRule_104 (by decide) (fun h29 => ?_) (fun h29 => ?_)
        · replace hf := ite_neg hf h29
          obtain rfl := some_of hf
          exact V_vret F rfl dX8_readRule_112 rfl
        · replace hf := ite_pos hf h29
          refine V_aload_n (pc := 107) F dX8_readRule_107 rfl 0 rfl ?_
          refine V_iconst (v := 0) (pc := 108) F dX8_readRule_108 (by decide) ?_
          obtain ⟨r30, g31, hf⟩ := bind_of hf
          refine V_V (w2 := wX8 cy a r30) (rest := []) (st2 := []) (pc := 109) F 8 (M_X8_wants l D cy N a (r23.2.1, r23.2.2.1, r23.2.2.2.1, r23.2.2.2.2.1, r23.2.2.2.2.2.1, r23.2.2.2.2.2.2.1, f26, r23.2.2.2.2.2.2.2.2.1, r23.2.2.2.2.2.2.2.2.2.1, r23.2.2.2.2.2.2.2.2.2.2.1, r23.2.2.2.2.2.2.2.2.2.2.2.1, r23.2.2.2.2.2.2.2.2.2.2.2.2.1, r23.2.2.2.2.2.2.2.2.2.2.2.2.2) 0 r30 g31) (cwV 1 F.ts gX8_readRule_X8_wants rfl rfl rfl hd_X8_wants ⟨Nat.le_of_ble_eq_true rfl, Nat.le_of_ble_eq_true rfl⟩) rfl dX8_readRule_109 Fit.whole fstX8 rfl rfl (Nat.le_of_ble_eq_true rfl) (Nat.zero_le _) (Nat.zero_le _) rfl rfl rfl ?_
          obtain rfl := some_of hf
          exact V_vret F rfl dX8_readRule_112 rfl
  · replace hf := ite_pos hf h8
    refine V_iconst (v := 1) (pc := 25) F dX8_readRule_25 (by decide) ?_
    refine V_goto (pc := 26) (tgt := 30) F dX8_readRule_26 (by decide) ?_
    obtain ⟨r32, g33, hf⟩ := bind_of hf
    refine V_V (w2 := wX8 cy a r32) (rest := []) (st2 := []) (pc := 30) F 8 (M_X8_wants l D cy N a (r1.2.1, r1.2.2.1, r1.2.2.2.1, r1.2.2.2.2.1, r1.2.2.2.2.2.1, r1.2.2.2.2.2.2.1, f4, r1.2.2.2.2.2.2.2.2.1, r1.2.2.2.2.2.2.2.2.2.1, r1.2.2.2.2.2.2.2.2.2.2.1, r1.2.2.2.2.2.2.2.2.2.2.2.1, r1.2.2.2.2.2.2.2.2.2.2.2.2.1, r1.2.2.2.2.2.2.2.2.2.2.2.2.2) 1 r32 g33) (cwV 1 F.ts gX8_readRule_X8_wants rfl rfl rfl hd_X8_wants ⟨Nat.le_of_ble_eq_true rfl, Nat.le_of_ble_eq_true rfl⟩) rfl dX8_readRule_30 Fit.whole fstX8 rfl rfl (Nat.le_of_ble_eq_true rfl) (Nat.zero_le _) (Nat.zero_le _) rfl rfl rfl ?_
    refine V_aload_n (pc := 33) F dX8_readRule_33 rfl 0 rfl ?_
    refine V_get (pc := 34) F 0 8 6 i_X8 rfl (by decide) rfl (mm 1 rfl) dX8_readRule_34 rfl rfl ?_
    refine V_iload_n (pc := 37) F dX8_readRule_37 rfl 1 rfl ?_
    refine V_iconst (v := 2) (pc := 38) F dX8_readRule_38 (by decide) ?_
    refine V_iadd (pc := 39) F dX8_readRule_39 ?_
    refine V_aload_n (pc := 40) F dX8_readRule_40 rfl 0 rfl ?_
    refine V_iconst (v := 0) (pc := 41) F dX8_readRule_41 (by decide) ?_
    refine V_bipush (v := 7) (pc := 42) F dX8_readRule_42 (by decide) ?_
    obtain ⟨r34, g35, hf⟩ := bind_of hf
    refine V_V (w2 := wX8 cy a r34.2) (rest := [.int (x1 + 2), .ref (a 4)]) (st2 := [.int r34.1, .int (x1 + 2), .ref (a 4)]) (pc := 44) F 8 (M_X8_digit l D cy N a r32 0 7 r34 g35) (cwV 2 F.ts gX8_readRule_X8_digit rfl rfl rfl hd_X8_digit ⟨Nat.le_of_ble_eq_true rfl, Nat.le_of_ble_eq_true rfl⟩) rfl dX8_readRule_44 Fit.whole fstX8 rfl rfl (Nat.le_of_ble_eq_true rfl) (Nat.zero_le _) (Nat.zero_le _) rfl rfl rfl ?_
    obtain ⟨c36, hf⟩ := chk_some hf
    obtain ⟨f37, e38, hf⟩ := nmd_of hf
    refine V_iast (w2 := wX8 cy a (r34.2.1, r34.2.2.1, r34.2.2.2.1, r34.2.2.2.2.1, r34.2.2.2.2.2.1, r34.2.2.2.2.2.2.1, f37, r34.2.2.2.2.2.2.2.2.1, r34.2.2.2.2.2.2.2.2.2.1, r34.2.2.2.2.2.2.2.2.2.2.1, r34.2.2.2.2.2.2.2.2.2.2.2.1, r34.2.2.2.2.2.2.2.2.2.2.2.2.1, r34.2.2.2.2.2.2.2.2.2.2.2.2.2)) (pc := 47) F 4 rfl c36 e38 dX8_readRule_47 rfl ?_
    refine V_aload_n (pc := 48) F dX8_readRule_48 rfl 0 rfl ?_
    refine V_get (pc := 49) F 0 8 6 i_X8 rfl (by decide) rfl (mm 1 rfl) dX8_readRule_49 rfl rfl ?_
    refine V_iload_n (pc := 52) F dX8_readRule_52 rfl 1 rfl ?_
    refine V_iconst (v := 3) (pc := 53) F dX8_readRule_53 (by decide) ?_
    refine V_iadd (pc := 54) F dX8_readRule_54 ?_
    refine V_iconst (v := 0) (pc := 55) F dX8_readRule_55 (by decide) ?_
    obtain ⟨c39, hf⟩ := chk_some hf
    obtain ⟨f40, e41, hf⟩ := nmd_of hf
    refine V_iast (w2 := wX8 cy a (r34.2.1, r34.2.2.1, r34.2.2.2.1, r34.2.2.2.2.1, r34.2.2.2.2.2.1, r34.2.2.2.2.2.2.1, f40, r34.2.2.2.2.2.2.2.2.1, r34.2.2.2.2.2.2.2.2.2.1, r34.2.2.2.2.2.2.2.2.2.2.1, r34.2.2.2.2.2.2.2.2.2.2.2.1, r34.2.2.2.2.2.2.2.2.2.2.2.2.1, r34.2.2.2.2.2.2.2.2.2.2.2.2.2)) (pc := 56) F 4 rfl c39 e41 dX8_readRule_56 rfl ?_
    refine V_aload_n (pc := 57) F dX8_readRule_57 rfl 0 rfl ?_
    refine V_get (pc := 58) F 0 8 9 i_X8 rfl (by decide) rfl (mm 2 rfl) dX8_readRule_58 rfl rfl ?_
    refine V_iconst (v := (-1)) (pc := 61) F dX8_readRule_61 (by decide) ?_
    refine V_icmp_ne (pc := 62) (tgt := 112) F dX8_readRule_62 (by decide) (fun h42 => ?_) (fun h42 => ?_)
    · replace hf := ite_neg hf h42
      obtain rfl := some_of hf
      exact V_vret F rfl dX8_readRule_112 rfl
    · replace hf := ite_pos hf h42
      refine V_aload_n (pc := 65) F dX8_readRule_65 rfl 0 rfl ?_
      obtain ⟨r43, g44, hf⟩ := bind_of hf
      refine V_V (w2 := wX8 cy a (r34.2.1, r34.2.2.1, r34.2.2.2.1, r34.2.2.2.2.1, r34.2.2.2.2.2.1, r34.2.2.2.2.2.2.1, f40, r34.2.2.2.2.2.2.2.2.1, r34.2.2.2.2.2.2.2.2.2.1, r34.2.2.2.2.2.2.2.2.2.2.1, r34.2.2.2.2.2.2.2.2.2.2.2.1, r34.2.2.2.2.2.2.2.2.2.2.2.2.1, r34.2.2.2.2.2.2.2.2.2.2.2.2.2)) (rest := []) (st2 := [.int r43]) (pc := 66) F 8 (M_X8_letter l D cy N a (r34.2.1, r34.2.2.1, r34.2.2.2.1, r34.2.2.2.2.1, r34.2.2.2.2.2.1, r34.2.2.2.2.2.2.1, f40, r34.2.2.2.2.2.2.2.2.1, r34.2.2.2.2.2.2.2.2.2.1, r34.2.2.2.2.2.2.2.2.2.2.1, r34.2.2.2.2.2.2.2.2.2.2.2.1, r34.2.2.2.2.2.2.2.2.2.2.2.2.1, r34.2.2.2.2.2.2.2.2.2.2.2.2.2) r43 g44) (cwV 0 F.ts gX8_readRule_X8_letter rfl rfl rfl hd_X8_letter ⟨Nat.le_of_ble_eq_true rfl, Nat.le_of_ble_eq_true rfl⟩) rfl dX8_readRule_66 Fit.whole rfl rfl rfl (Nat.le_of_ble_eq_true rfl) (Nat.zero_le _) (Nat.zero_le _) rfl rfl rfl ?_
      refine V_bipush (v := 63) (pc := 69) F dX8_readRule_69 (by decide) ?_
      refine V_icmp_ne (pc := 71) (tgt := 112) F dX8_readRule_71 (by decide) (fun h45 => ?_) (fun h45 => ?_)
      · replace hf := ite_neg hf h45
        obtain rfl := some_of hf
        exact V_vret F rfl dX8_readRule_112 rfl
      · replace hf := ite_pos hf h45
        refine V_aload_n (pc := 74) F dX8_readRule_74 rfl 0 rfl ?_
        refine V_dup (pc := 75) F dX8_readRule_75 rfl ?_
        refine V_get (pc := 76) F 0 8 8 i_X8 rfl (by decide) rfl (mm 3 rfl) dX8_readRule_76 rfl rfl ?_
        refine V_iconst (v := 1) (pc := 79) F dX8_readRule_79 (by decide) ?_
        refine V_iadd (pc := 80) F dX8_readRule_80 ?_
        refine V_put (w2 := wX8 cy a (r34.2.1, r34.2.2.1, r34.2.2.2.1, r34.2.2.2.2.1, r34.2.2.2.2.2.1, r34.2.2.2.2.2.2.1, f40, r34.2.2.2.2.2.2.2.2.1, (r34.2.2.2.2.2.2.2.2.2.1 + 1), r34.2.2.2.2.2.2.2.2.2.2.1, r34.2.2.2.2.2.2.2.2.2.2.2.1, r34.2.2.2.2.2.2.2.2.2.2.2.2.1, r34.2.2.2.2.2.2.2.2.2.2.2.2.2)) (pc := 81) F 0 8 8 i_X8 tyX8 tyX8_ok nmX8 rfl (by decide) rfl (mm 3 rfl) rfl dX8_readRule_81 rfl rfl rfl (Nat.le_of_ble_eq_true rfl) rfl ?_
        refine V_aload_n (pc := 84) F dX8_readRule_84 rfl 0 rfl ?_
        refine V_get (pc := 85) F 0 8 6 i_X8 rfl (by decide) rfl (mm 1 rfl) dX8_readRule_85 rfl rfl ?_
        refine V_iload_n (pc := 88) F dX8_readRule_88 rfl 1 rfl ?_
        refine V_iconst (v := 3) (pc := 89) F dX8_readRule_89 (by decide) ?_
        refine V_iadd (pc := 90) F dX8_readRule_90 ?_
        refine V_aload_n (pc := 91) F dX8_readRule_91 rfl 0 rfl ?_
        obtain ⟨r46, g47, hf⟩ := bind_of hf
        refine V_V (w2 := wX8 cy a r46.2) (rest := [.int (x1 + 3), .ref (a 4)]) (st2 := [.int r46.1, .int (x1 + 3), .ref (a 4)]) (pc := 92) F 8 (M_X8_directions l D cy N a (r34.2.1, r34.2.2.1, r34.2.2.2.1, r34.2.2.2.2.1, r34.2.2.2.2.2.1, r34.2.2.2.2.2.2.1, f40, r34.2.2.2.2.2.2.2.2.1, (r34.2.2.2.2.2.2.2.2.2.1 + 1), r34.2.2.2.2.2.2.2.2.2.2.1, r34.2.2.2.2.2.2.2.2.2.2.2.1, r34.2.2.2.2.2.2.2.2.2.2.2.2.1, r34.2.2.2.2.2.2.2.2.2.2.2.2.2) r46 g47) (cwV 0 F.ts gX8_readRule_X8_directions rfl rfl rfl hd_X8_directions ⟨Nat.le_of_ble_eq_true rfl, Nat.le_of_ble_eq_true rfl⟩) rfl dX8_readRule_92 Fit.whole fstX8 rfl rfl (Nat.le_of_ble_eq_true rfl) (Nat.zero_le _) (Nat.zero_le _) rfl rfl rfl ?_
        obtain ⟨c48, hf⟩ := chk_some hf
        obtain ⟨f49, e50, hf⟩ := nmd_of hf
        refine V_iast (w2 := wX8 cy a (r46.2.1, r46.2.2.1, r46.2.2.2.1, r46.2.2.2.2.1, r46.2.2.2.2.2.1, r46.2.2.2.2.2.2.1, f49, r46.2.2.2.2.2.2.2.2.1, r46.2.2.2.2.2.2.2.2.2.1, r46.2.2.2.2.2.2.2.2.2.2.1, r46.2.2.2.2.2.2.2.2.2.2.2.1, r46.2.2.2.2.2.2.2.2.2.2.2.2.1, r46.2.2.2.2.2.2.2.2.2.2.2.2.2)) (pc := 95) F 4 rfl c48 e50 dX8_readRule_95 rfl ?_
        refine V_aload_n (pc := 96) F dX8_readRule_96 rfl 0 rfl ?_
        refine V_get (pc := 97) F 0 8 6 i_X8 rfl (by decide) rfl (mm 1 rfl) dX8_readRule_97 rfl rfl ?_
        refine V_iload_n (pc := 100) F dX8_readRule_100 rfl 1 rfl ?_
        refine V_iconst (v := 3) (pc := 101) F dX8_readRule_101 (by decide) ?_
        refine V_iadd (pc := 102) F dX8_readRule_102 ?_
        obtain ⟨c51, hf⟩ := chk_some hf
        refine V_iald (pc := 103) F 4 rfl c51 dX8_readRule_103 ?_
        refine V_if_ne (pc := 104) (tgt := 112) F dX8_readRule_104 (by decide) (fun h52 => ?_) (fun h52 => ?_)
        · replace hf := ite_neg hf h52
          obtain rfl := some_of hf
          exact V_vret F rfl dX8_readRule_112 rfl
        · replace hf := ite_pos hf h52
          refine V_aload_n (pc := 107) F dX8_readRule_107 rfl 0 rfl ?_
          refine V_iconst (v := 0) (pc := 108) F dX8_readRule_108 (by decide) ?_
          obtain ⟨r53, g54, hf⟩ := bind_of hf
          refine V_V (w2 := wX8 cy a r53) (rest := []) (st2 := []) (pc := 109) F 8 (M_X8_wants l D cy N a (r46.2.1, r46.2.2.1, r46.2.2.2.1, r46.2.2.2.2.1, r46.2.2.2.2.2.1, r46.2.2.2.2.2.2.1, f49, r46.2.2.2.2.2.2.2.2.1, r46.2.2.2.2.2.2.2.2.2.1, r46.2.2.2.2.2.2.2.2.2.2.1, r46.2.2.2.2.2.2.2.2.2.2.2.1, r46.2.2.2.2.2.2.2.2.2.2.2.2.1, r46.2.2.2.2.2.2.2.2.2.2.2.2.2) 0 r53 g54) (cwV 1 F.ts gX8_readRule_X8_wants rfl rfl rfl hd_X8_wants ⟨Nat.le_of_ble_eq_true rfl, Nat.le_of_ble_eq_true rfl⟩) rfl dX8_readRule_109 Fit.whole fstX8 rfl rfl (Nat.le_of_ble_eq_true rfl) (Nat.zero_le _) (Nat.zero_le _) rfl rfl rfl ?_
          obtain rfl := some_of hf
          exact V_vret F rfl dX8_readRule_112 rfl
