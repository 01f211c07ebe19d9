theorem hd_X8_does : yX8_does.cls = RX8 ∧ yX8_does.cls ≠ "java/lang/invoke/MethodHandle" ∧ yX8_does.cls ≠ "java/lang/invoke/VarHandle" ∧ (parseMethodDescriptor yX8_does.desc).map (fun d => d.parameters.length) = some 1 := by decide +kernel
def fX8_does (N : Nat) (v : SX8) (x1 : Int32) : Option (Int32 × SX8) :=
  chk (((4 : Int32) * x1) + 1) 68 (
    chk (((4 : Int32) * x1) + 2) 68 (
      chk (((4 : Int32) * x1) + 3) 68 (
        chk ((4 : Int32) * x1) 68 (
          if (v.2.2.2.2.2.2.1 ((4 : Int32) * x1).toNatClampNeg) = 120 then
            (fX8_setClash N v (v.2.2.2.2.2.2.1 (((4 : Int32) * x1) + 1).toNatClampNeg) (v.2.2.2.2.2.2.1 (((4 : Int32) * x1) + 2).toNatClampNeg) 1).bind fun r22 =>
              some (1, r22)
          else
            chk ((4 : Int32) * x1) 68 (
              if (v.2.2.2.2.2.2.1 ((4 : Int32) * x1).toNatClampNeg) = 112 then
                (fX8_whyNotPhase N v (v.2.2.2.2.2.2.1 (((4 : Int32) * x1) + 1).toNatClampNeg) (v.2.2.2.2.2.2.1 (((4 : Int32) * x1) + 2).toNatClampNeg)).bind fun r15 =>
                  if r15 = 0 then
                    (fX8_phaseAdded N v (v.2.2.2.2.2.2.1 (((4 : Int32) * x1) + 1).toNatClampNeg) (v.2.2.2.2.2.2.1 (((4 : Int32) * x1) + 2).toNatClampNeg)).bind fun r20 =>
                      some (1, r20.2)
                  else
                    some (0, v)
              else
                (fX8_whyNotRule N v (v.2.2.2.2.2.2.1 (((4 : Int32) * x1) + 1).toNatClampNeg) (v.2.2.2.2.2.2.1 (((4 : Int32) * x1) + 2).toNatClampNeg) (v.2.2.2.2.2.2.1 (((4 : Int32) * x1) + 3).toNatClampNeg)).bind fun r8 =>
                  if r8 = 0 then
                    (fX8_ruleAdded N v (v.2.2.2.2.2.2.1 (((4 : Int32) * x1) + 1).toNatClampNeg) (v.2.2.2.2.2.2.1 (((4 : Int32) * x1) + 2).toNatClampNeg) (v.2.2.2.2.2.2.1 (((4 : Int32) * x1) + 3).toNatClampNeg)).bind fun r13 =>
                      some (1, r13.2)
                  else
                    some (0, v)
            )
        )
      )
    )
  )
set_option maxHeartbeats 8000000 in
set_option maxRecDepth 100000 in
theorem M_X8_does (l : Launch) (D : va_G) (cy : Nat → ClassId) (N : Nat) (a : Nat → Nat) (v : SX8) (x1 : Int32) (o : Int32 × SX8) (hf : fX8_does N v x1 = some o) : okM l yX8_does wsX8_does (rmz 3 67) D cy [.ref (a 0), .int x1] (wX8 cy a v) (wX8 cy a o.2) (some (.int o.1)) := by
  refine okM_of (own := RX8) (nme := "does") (cc := cX8_does) (maxL := 6) (ret := (some .boolean)) (by decide) rfl rfl rfl (Nat.le_of_ble_eq_true rfl) ?_
  intro p e s m args below meth c A F
  have i_X8 : ∀ w ∈ u_ws RX8 TX8 13, w ∈ wsX8_does := fun _ h => List.mem_cons_of_mem _ (List.mem_append_right _ h)
  unfold fX8_does at hf
  refine V.eq rfl (show lv_args 0 [.ref (a 0), .int x1] = [(0, .ref (a 0)), (1, .int x1)] from rfl) rfl ?_
  refine V_aload_n (pc := 0) F dX8_does_0 rfl 0 rfl ?_
  refine V_get (pc := 1) F 0 8 6 i_X8 rfl (by decide) rfl (mm 1 rfl) dX8_does_1 rfl rfl ?_
  refine V_iconst (v := 4) (pc := 4) F dX8_does_4 (by decide) ?_
  refine V_iload_n (pc := 5) F dX8_does_5 rfl 1 rfl ?_
  refine V_imul (pc := 6) F dX8_does_6 ?_
  refine V_iconst (v := 1) (pc := 7) F dX8_does_7 (by decide) ?_
  refine V_iadd (pc := 8) F dX8_does_8 ?_
  obtain ⟨c1, hf⟩ := chk_some hf
  refine V_iald (pc := 9) F 4 rfl c1 dX8_does_9 ?_
  refine V_istore_n (L2 := [(2, .int (v.2.2.2.2.2.2.1 (((4 : Int32) * x1) + 1).toNatClampNeg)), (0, .ref (a 0)), (1, .int x1)]) (pc := 10) F dX8_does_10 rfl (by decide) rfl ?_
  refine V_aload_n (pc := 11) F dX8_does_11 rfl 1 rfl ?_
  refine V_get (pc := 12) F 0 8 6 i_X8 rfl (by decide) rfl (mm 1 rfl) dX8_does_12 rfl rfl ?_
  refine V_iconst (v := 4) (pc := 15) F dX8_does_15 (by decide) ?_
  refine V_iload_n (pc := 16) F dX8_does_16 rfl 2 rfl ?_
  refine V_imul (pc := 17) F dX8_does_17 ?_
  refine V_iconst (v := 2) (pc := 18) F dX8_does_18 (by decide) ?_
  refine V_iadd (pc := 19) F dX8_does_19 ?_
  obtain ⟨c2, hf⟩ := chk_some hf
  refine V_iald (pc := 20) F 4 rfl c2 dX8_does_20 ?_
  refine V_istore_n (L2 := [(3, .int (v.2.2.2.2.2.2.1 (((4 : Int32) * x1) + 2).toNatClampNeg)), (2, .int (v.2.2.2.2.2.2.1 (((4 : Int32) * x1) + 1).toNatClampNeg)), (0, .ref (a 0)), (1, .int x1)]) (pc := 21) F dX8_does_21 rfl (by decide) rfl ?_
  refine V_aload_n (pc := 22) F dX8_does_22 rfl 2 rfl ?_
  refine V_get (pc := 23) F 0 8 6 i_X8 rfl (by decide) rfl (mm 1 rfl) dX8_does_23 rfl rfl ?_
  refine V_iconst (v := 4) (pc := 26) F dX8_does_26 (by decide) ?_
  refine V_iload_n (pc := 27) F dX8_does_27 rfl 3 rfl ?_
  refine V_imul (pc := 28) F dX8_does_28 ?_
  refine V_iconst (v := 3) (pc := 29) F dX8_does_29 (by decide) ?_
  refine V_iadd (pc := 30) F dX8_does_30 ?_
  obtain ⟨c3, hf⟩ := chk_some hf
  refine V_iald (pc := 31) F 4 rfl c3 dX8_does_31 ?_
  refine V_istore (L2 := [(4, .int (v.2.2.2.2.2.2.1 (((4 : Int32) * x1) + 3).toNatClampNeg)), (3, .int (v.2.2.2.2.2.2.1 (((4 : Int32) * x1) + 2).toNatClampNeg)), (2, .int (v.2.2.2.2.2.2.1 (((4 : Int32) * x1) + 1).toNatClampNeg)), (0, .ref (a 0)), (1, .int x1)]) (pc := 32) F dX8_does_32 (by decide) rfl ?_
  refine V_iconst (v := 1) (pc := 34) F dX8_does_34 (by decide) ?_
  refine V_istore (L2 := [(5, .int 1), (4, .int (v.2.2.2.2.2.2.1 (((4 : Int32) * x1) + 3).toNatClampNeg)), (3, .int (v.2.2.2.2.2.2.1 (((4 : Int32) * x1) + 2).toNatClampNeg)), (2, .int (v.2.2.2.2.2.2.1 (((4 : Int32) * x1) + 1).toNatClampNeg)), (0, .ref (a 0)), (1, .int x1)]) (pc := 35) F dX8_does_35 (by decide) rfl ?_
  refine V_aload_n (pc := 37) F dX8_does_37 rfl 4 rfl ?_
  refine V_get (pc := 38) F 0 8 6 i_X8 rfl (by decide) rfl (mm 1 rfl) dX8_does_38 rfl rfl ?_
  refine V_iconst (v := 4) (pc := 41) F dX8_does_41 (by decide) ?_
  refine V_iload_n (pc := 42) F dX8_does_42 rfl 5 rfl ?_
  refine V_imul (pc := 43) F dX8_does_43 ?_
  obtain ⟨c4, hf⟩ := chk_some hf
  refine V_iald (pc := 44) F 4 rfl c4 dX8_does_44 ?_
  refine V_bipush (v := 120) (pc := 45) F dX8_does_45 (by decide) ?_
  refine V_icmp_ne (pc := 47) (tgt := 60) F dX8_does_47 (by decide) (fun h5 => ?_) (fun h5 => ?_)
  · replace hf := ite_neg hf h5
    refine V_aload_n (pc := 60) F dX8_does_60 rfl 4 rfl ?_
    refine V_get (pc := 61) F 0 8 6 i_X8 rfl (by decide) rfl (mm 1 rfl) dX8_does_61 rfl rfl ?_
    refine V_iconst (v := 4) (pc := 64) F dX8_does_64 (by decide) ?_
    refine V_iload_n (pc := 65) F dX8_does_65 rfl 5 rfl ?_
    refine V_imul (pc := 66) F dX8_does_66 ?_
    obtain ⟨c6, hf⟩ := chk_some hf
    refine V_iald (pc := 67) F 4 rfl c6 dX8_does_67 ?_
    refine V_bipush (v := 112) (pc := 68) F dX8_does_68 (by decide) ?_
    refine V_icmp_ne (pc := 70) (tgt := 104) F dX8_does_70 (by decide) (fun h7 => ?_) (fun h7 => ?_)
    · replace hf := ite_neg hf h7
      refine V_aload_n (pc := 104) F dX8_does_104 rfl 4 rfl ?_
      refine V_iload_n (pc := 105) F dX8_does_105 rfl 3 rfl ?_
      refine V_iload_n (pc := 106) F dX8_does_106 rfl 2 rfl ?_
      refine V_iload (pc := 107) F dX8_does_107 1 rfl ?_
      obtain ⟨r8, g9, hf⟩ := bind_of hf
      refine V_V (w2 := wX8 cy a v) (rest := []) (st2 := [.int r8]) (pc := 109) F 8 (M_X8_whyNotRule l D cy N a v (v.2.2.2.2.2.2.1 (((4 : Int32) * x1) + 1).toNatClampNeg) (v.2.2.2.2.2.2.1 (((4 : Int32) * x1) + 2).toNatClampNeg) (v.2.2.2.2.2.2.1 (((4 : Int32) * x1) + 3).toNatClampNeg) r8 g9) (cwV 3 F.ts gX8_does_X8_whyNotRule rfl rfl rfl hd_X8_whyNotRule ⟨Nat.le_of_ble_eq_true rfl, Nat.le_of_ble_eq_true rfl⟩) rfl dX8_does_109 Fit.whole rfl rfl rfl (Nat.le_of_ble_eq_true rfl) (Nat.zero_le _) (Nat.zero_le _) rfl rfl rfl ?_
      refine V_if_ne (pc := 112) (tgt := 119) F dX8_does_112 (by decide) (fun h10 => ?_) (fun h10 => ?_)
      · replace hf := ite_neg hf h10
        refine V_iconst (v := 0) (pc := 119) F dX8_does_119 (by decide) ?_
        refine V_istore (L2 := [(5, .int 0), (4, .int (v.2.2.2.2.2.2.1 (((4 : Int32) * x1) + 3).toNatClampNeg)), (3, .int (v.2.2.2.2.2.2.1 (((4 : Int32) * x1) + 2).toNatClampNeg)), (2, .int (v.2.2.2.2.2.2.1 (((4 : Int32) * x1) + 1).toNatClampNeg)), (0, .ref (a 0)), (1, .int x1)]) (pc := 120) F dX8_does_120 (by decide) rfl ?_
        refine V_iload (pc := 122) F dX8_does_122 0 rfl ?_
        refine V_if_eq (pc := 124) (tgt := 136) F dX8_does_124 (by decide) (fun h11 => ?_) (fun h11 => ?_)
        · refine V_iload (pc := 136) F dX8_does_136 0 rfl ?_
          obtain rfl := some_of hf
          exact V_ret F rfl rfl dX8_does_138 rfl rfl
        · exact absurd h11 (show ¬ (¬ ((0 : Int32) = (0 : Int32))) by decide)
      · replace hf := ite_pos hf h10
        refine V_iconst (v := 1) (pc := 115) F dX8_does_115 (by decide) ?_
        refine V_goto (pc := 116) (tgt := 120) F dX8_does_116 (by decide) ?_
        refine V_istore (L2 := [(5, .int 1), (4, .int (v.2.2.2.2.2.2.1 (((4 : Int32) * x1) + 3).toNatClampNeg)), (3, .int (v.2.2.2.2.2.2.1 (((4 : Int32) * x1) + 2).toNatClampNeg)), (2, .int (v.2.2.2.2.2.2.1 (((4 : Int32) * x1) + 1).toNatClampNeg)), (0, .ref (a 0)), (1, .int x1)]) (pc := 120) F dX8_does_120 (by decide) rfl ?_
        refine V_iload (pc := 122) F dX8_does_122 0 rfl ?_
        refine V_if_eq (pc := 124) (tgt := 136) F dX8_does_124 (by decide) (fun h12 => ?_) (fun h12 => ?_)
        · exact absurd h12 (show ¬ ((1 : Int32) = (0 : Int32)) by decide)
        · refine V_aload_n (pc := 127) F dX8_does_127 rfl 4 rfl ?_
          refine V_iload_n (pc := 128) F dX8_does_128 rfl 3 rfl ?_
          refine V_iload_n (pc := 129) F dX8_does_129 rfl 2 rfl ?_
          refine V_iload (pc := 130) F dX8_does_130 1 rfl ?_
          obtain ⟨r13, g14, hf⟩ := bind_of hf
          refine V_V (w2 := wX8 cy a r13.2) (rest := []) (st2 := [.int r13.1]) (pc := 132) F 8 (M_X8_ruleAdded l D cy N a v (v.2.2.2.2.2.2.1 (((4 : Int32) * x1) + 1).toNatClampNeg) (v.2.2.2.2.2.2.1 (((4 : Int32) * x1) + 2).toNatClampNeg) (v.2.2.2.2.2.2.1 (((4 : Int32) * x1) + 3).toNatClampNeg) r13 g14) (cwV 3 F.ts gX8_does_X8_ruleAdded rfl rfl rfl hd_X8_ruleAdded ⟨Nat.le_of_ble_eq_true rfl, Nat.le_of_ble_eq_true rfl⟩) rfl dX8_does_132 Fit.whole fstX8 rfl rfl (Nat.le_of_ble_eq_true rfl) (Nat.zero_le _) (Nat.zero_le _) rfl rfl rfl ?_
          refine V_pop (pc := 135) F dX8_does_135 rfl ?_
          refine V_iload (pc := 136) F dX8_does_136 0 rfl ?_
          obtain rfl := some_of hf
          exact V_ret F rfl rfl dX8_does_138 rfl rfl
    · replace hf := ite_pos hf h7
      refine V_aload_n (pc := 73) F dX8_does_73 rfl 4 rfl ?_
      refine V_iload_n (pc := 74) F dX8_does_74 rfl 3 rfl ?_
      refine V_iload_n (pc := 75) F dX8_does_75 rfl 2 rfl ?_
      obtain ⟨r15, g16, hf⟩ := bind_of hf
      refine V_V (w2 := wX8 cy a v) (rest := []) (st2 := [.int r15]) (pc := 76) F 8 (M_X8_whyNotPhase l D cy N a v (v.2.2.2.2.2.2.1 (((4 : Int32) * x1) + 1).toNatClampNeg) (v.2.2.2.2.2.2.1 (((4 : Int32) * x1) + 2).toNatClampNeg) r15 g16) (cwV 2 F.ts gX8_does_X8_whyNotPhase rfl rfl rfl hd_X8_whyNotPhase ⟨Nat.le_of_ble_eq_true rfl, Nat.le_of_ble_eq_true rfl⟩) rfl dX8_does_76 Fit.whole rfl rfl rfl (Nat.le_of_ble_eq_true rfl) (Nat.zero_le _) (Nat.zero_le _) rfl rfl rfl ?_
      refine V_if_ne (pc := 79) (tgt := 86) F dX8_does_79 (by decide) (fun h17 => ?_) (fun h17 => ?_)
      · replace hf := ite_neg hf h17
        refine V_iconst (v := 0) (pc := 86) F dX8_does_86 (by decide) ?_
        refine V_istore (L2 := [(5, .int 0), (4, .int (v.2.2.2.2.2.2.1 (((4 : Int32) * x1) + 3).toNatClampNeg)), (3, .int (v.2.2.2.2.2.2.1 (((4 : Int32) * x1) + 2).toNatClampNeg)), (2, .int (v.2.2.2.2.2.2.1 (((4 : Int32) * x1) + 1).toNatClampNeg)), (0, .ref (a 0)), (1, .int x1)]) (pc := 87) F dX8_does_87 (by decide) rfl ?_
        refine V_iload (pc := 89) F dX8_does_89 0 rfl ?_
        refine V_if_eq (pc := 91) (tgt := 136) F dX8_does_91 (by decide) (fun h18 => ?_) (fun h18 => ?_)
        · refine V_iload (pc := 136) F dX8_does_136 0 rfl ?_
          obtain rfl := some_of hf
          exact V_ret F rfl rfl dX8_does_138 rfl rfl
        · exact absurd h18 (show ¬ (¬ ((0 : Int32) = (0 : Int32))) by decide)
      · replace hf := ite_pos hf h17
        refine V_iconst (v := 1) (pc := 82) F dX8_does_82 (by decide) ?_
        refine V_goto (pc := 83) (tgt := 87) F dX8_does_83 (by decide) ?_
        refine V_istore (L2 := [(5, .int 1), (4, .int (v.2.2.2.2.2.2.1 (((4 : Int32) * x1) + 3).toNatClampNeg)), (3, .int (v.2.2.2.2.2.2.1 (((4 : Int32) * x1) + 2).toNatClampNeg)), (2, .int (v.2.2.2.2.2.2.1 (((4 : Int32) * x1) + 1).toNatClampNeg)), (0, .ref (a 0)), (1, .int x1)]) (pc := 87) F dX8_does_87 (by decide) rfl ?_
        refine V_iload (pc := 89) F dX8_does_89 0 rfl ?_
        refine V_if_eq (pc := 91) (tgt := 136) F dX8_does_91 (by decide) (fun h19 => ?_) (fun h19 => ?_)
        · exact absurd h19 (show ¬ ((1 : Int32) = (0 : Int32)) by decide)
        · refine V_aload_n (pc := 94) F dX8_does_94 rfl 4 rfl ?_
          refine V_iload_n (pc := 95) F dX8_does_95 rfl 3 rfl ?_
          refine V_iload_n (pc := 96) F dX8_does_96 rfl 2 rfl ?_
          obtain ⟨r20, g21, hf⟩ := bind_of hf
          refine V_V (w2 := wX8 cy a r20.2) (rest := []) (st2 := [.int r20.1]) (pc := 97) F 8 (M_X8_phaseAdded l D cy N a v (v.2.2.2.2.2.2.1 (((4 : Int32) * x1) + 1).toNatClampNeg) (v.2.2.2.2.2.2.1 (((4 : Int32) * x1) + 2).toNatClampNeg) r20 g21) (cwV 2 F.ts gX8_does_X8_phaseAdded rfl rfl rfl hd_X8_phaseAdded ⟨Nat.le_of_ble_eq_true rfl, Nat.le_of_ble_eq_true rfl⟩) rfl dX8_does_97 Fit.whole fstX8 rfl rfl (Nat.le_of_ble_eq_true rfl) (Nat.zero_le _) (Nat.zero_le _) rfl rfl rfl ?_
          refine V_pop (pc := 100) F dX8_does_100 rfl ?_
          refine V_goto (pc := 101) (tgt := 136) F dX8_does_101 (by decide) ?_
          refine V_iload (pc := 136) F dX8_does_136 0 rfl ?_
          obtain rfl := some_of hf
          exact V_ret F rfl rfl dX8_does_138 rfl rfl
  · replace hf := ite_pos hf h5
    refine V_aload_n (pc := 50) F dX8_does_50 rfl 4 rfl ?_
    refine V_iload_n (pc := 51) F dX8_does_51 rfl 3 rfl ?_
    refine V_iload_n (pc := 52) F dX8_does_52 rfl 2 rfl ?_
    refine V_iconst (v := 1) (pc := 53) F dX8_does_53 (by decide) ?_
    obtain ⟨r22, g23, hf⟩ := bind_of hf
    refine V_V (w2 := wX8 cy a r22) (rest := []) (st2 := []) (pc := 54) F 8 (M_X8_setClash l D cy N a v (v.2.2.2.2.2.2.1 (((4 : Int32) * x1) + 1).toNatClampNeg) (v.2.2.2.2.2.2.1 (((4 : Int32) * x1) + 2).toNatClampNeg) 1 r22 g23) (cwV 3 F.ts gX8_does_X8_setClash rfl rfl rfl hd_X8_setClash ⟨Nat.le_of_ble_eq_true rfl, Nat.le_of_ble_eq_true rfl⟩) rfl dX8_does_54 Fit.whole fstX8 rfl rfl (Nat.le_of_ble_eq_true rfl) (Nat.zero_le _) (Nat.zero_le _) rfl rfl rfl ?_
    refine V_goto (pc := 57) (tgt := 136) F dX8_does_57 (by decide) ?_
    refine V_iload (pc := 136) F dX8_does_136 0 rfl ?_
    obtain rfl := some_of hf
    exact V_ret F rfl rfl dX8_does_138 rfl rfl
