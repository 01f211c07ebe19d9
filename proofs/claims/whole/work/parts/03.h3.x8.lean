theorem hd_X8_does : yX8_does.cls = RX8 ∧ yX8_does.cls ≠ "java/lang/invoke/MethodHandle" ∧ yX8_does.cls ≠ "java/lang/invoke/VarHandle" ∧ (parseMethodDescriptor yX8_does.desc).map (fun d => d.parameters.length) = some 1 := by decide +kernel
def fX8_does (N : Nat) (v : SX8) (x1 : Int32) : Option (Int32 × SX8) :=
  chk (((4 : Int32) * x1) + 1) 68 (
    chk (((4 : Int32) * x1) + 2) 68 (
      chk (((4 : Int32) * x1) + 3) 68 (
        chk ((4 : Int32) * x1) 68 (
          if (v.2.2.2.2.2.2.1 ((4 : Int32) * x1).toNatClampNeg) = 120 then
            (fX8_setClash N v (v.2.2.2.2.2.2.1 (((4 : Int32) * x1) + 1).toNatClampNeg) (v.2.2.2.2.2.2.1 (((4 : Int32) * x1) + 2).toNatClampNeg) 1).bind fun r22 =>
              some (1, r22)
          else
            chk ((4 : Int32) * x1) 68 (
              if (v.2.2.2.2.2.2.1 ((4 : Int32) * x1).toNatClampNeg) = 112 then
                (fX8_whyNotPhase N v (v.2.2.2.2.2.2.1 (((4 : Int32) * x1) + 1).toNatClampNeg) (v.2.2.2.2.2.2.1 (((4 : Int32) * x1) + 2).toNatClampNeg)).bind fun r15 =>
                  if r15 = 0 then
                    (fX8_phaseAdded N v (v.2.2.2.2.2.2.1 (((4 : Int32) * x1) + 1).toNatClampNeg) (v.2.2.2.2.2.2.1 (((4 : Int32) * x1) + 2).toNatClampNeg)).bind fun r20 =>
                      some (1, r20.2)
                  else
                    some (0, v)
              else
                (fX8_whyNotRule N v (v.2.2.2.2.2.2.1 (((4 : Int32) * x1) + 1).toNatClampNeg) (v.2.2.2.2.2.2.1 (((4 : Int32) * x1) + 2).toNatClampNeg) (v.2.2.2.2.2.2.1 (((4 : Int32) * x1) + 3).toNatClampNeg)).bind fun r8 =>
                  if r8 = 0 then
                    (fX8_ruleAdded N v (v.2.2.2.2.2.2.1 (((4 : Int32) * x1) + 1).toNatClampNeg) (v.2.2.2.2.2.2.1 (((4 : Int32) * x1) + 2).toNatClampNeg) (v.2.2.2.2.2.2.1 (((4 : Int32) * x1) + 3).toNatClampNeg)).bind fun r13 =>
                      some (1, r13.2)
                  else
                    some (0, v)
            )
        )
      )
    )
  )
set_option maxHeartbeats 8000000 in
set_option maxRecDepth 100000 in
theorem M_X8_does (l : Launch) (D : va_G) (cy : Nat → ClassId) (N : Nat) (a : Nat → Nat) (v : SX8) (x1 : Int32) (o : Int32 × SX8) (hf : fX8_does N v x1 = some o) : okM l yX8_does wsX8_does (rmz 3 67) D cy [.ref (a 0), .int x1] (wX8 cy a v) (wX8 cy a o.2) (some (.int o.1)) := by
  refine okM_of (own := RX8) (nme := "does") (cc := cX8_does) (maxL := 6) (ret := (some .boolean)) (by decide) rfl rfl rfl (Nat.le_of_ble_eq_true rfl) ?_
  intro p e s m args below meth c A F
  have i_X8 : ∀ w ∈ u_ws RX8 TX8 13, w ∈ wsX8_does := fun _ h => List.mem_cons_of_mem _ (List.mem_append_right _ h)
  unfold fX8_does at hf
  refine V.eq rfl (show lv_args 0 [.ref (a 0), .int x1] = [(0, .ref (a 0)), (1, .int x1)] from rfl) rfl ?_
  refine V_aload_n (pc := 0) F dX8_does_0 rfl 0 rfl ?_
  refine V_get (pc := 1) F 0 8 6 i_X8 rfl (by decide) rfl (mm 1 rfl) dX8_does_1 rfl rfl ?_
  refine V_iconst (v := 4) (pc := 4) F dX8_does_4 (by decide) ?_
  refine V_iload_n (pc := 5) F dX8_does_5 rfl 1 rfl ?_
  refine V_imul (pc := 6) F dX8_does_6 ?_
  refine V_iconst (v := 1) (pc := 7) F dX8_does_7 (by decide) ?_
  refine V_iadd (pc := 8) F dX8_does_8 ?_
  obtain ⟨c1, hf⟩ := chk_some hf
  refine V_iald (pc := 9) F 4 rfl c1 dX8_does_9 ?_
  refine V_istore_n (L2 := [(2, .int (v.2.2.2.2.2.2.1 (((4 : Int32) * x1) + 1).toNatClampNeg)), (0, .ref (a 0)), (1, .int x1)]) (pc := 10) F dX8_does_10 rfl (by decide) rfl ?_
  refine V_aload_n (pc := 11) F dX8_does_11 rfl 1 rfl ?_
  refine V_get (pc := 12) F 0 8 6 i_X8 rfl (by decide) rfl (mm 1 rfl) dX8_does_12 rfl rfl ?_
  refine V_iconst (v := 4) (pc := 15) F dX8_does_15 (by decide) ?_
  refine V_iload_n (pc := 16) F dX8_does_16 rfl 2 rfl ?_
  refine V_imul (pc := 17) F dX8_does_17 ?_
  refine V_iconst (v := 2) (pc := 18) F dX8_does_18 (by decide) ?_
  refine V_iadd (pc := 19) F dX8_does_19 ?_
  obtain ⟨c2, hf⟩ := chk_some hf
  refine V_iald (pc := 20) F 4 rfl c2 dX8_does_20 ?_
  refine V_istore_n (L2 := [(3, .int (v.2.2.2.2.2.2.1 (((4 : Int32) * x1) + 2).toNatClampNeg)), (2, .int (v.2.2.2.2.2.2.1 (((4 : Int32) * x1) + 1).toNatClampNeg)), (0, .ref (a 0)), (1, .int x1)]) (pc := 21) F dX8_does_21 rfl (by decide) rfl ?_
  refine V_aload_n (pc := 22) F dX8_does_22 rfl 2 rfl ?_
  refine V_get (pc := 23) F 0 8 6 i_X8 rfl (by decide) rfl (mm 1 rfl) dX8_does_23 rfl rfl ?_
  refine V_iconst (v := 4) (pc := 26) F dX8_does_26 (by decide) ?_
  refine V_iload_n (pc := 27) F dX8_does_27 rfl 3 rfl ?_
  refine V_imul (pc := 28) F dX8_does_28 ?_
  refine V_iconst (v := 3) (pc := 29) F dX8_does_29 (by decide) ?_
  refine V_iadd (pc := 30) F dX8_does_30 ?_
  obtain ⟨c3, hf⟩ := chk_some hf
  refine V_iald (pc := 31) F 4 rfl c3 dX8_does_31 ?_
  refine V_istore (L2 := [(4, .int (v.2.2.2.2.2.2.1 (((4 : Int32) * x1) + 3).toNatClampNeg)), (3, .int (v.2.2.2.2.2.2.1 (((4 : Int32) * x1) + 2).toNatClampNeg)), (2, .int (v.2.2.2.2.2.2.1 (((4 : Int32) * x1) + 1).toNatClampNeg)), (0, .ref (a 0)), (1, .int x1)]) (pc := 32) F dX8_does_32 (by decide) rfl ?_
  refine V_iconst (v := 1) (pc := 34) F dX8_does_34 (by decide) ?_
  refine V_istore (L2 := [(5, .int 1), (4, .int (v.2.2.2.2.2.2.1 (((4 : Int32) * x1) + 3).toNatClampNeg)), (3, .int (v.2.2.2.2.2.2.1 (((4 : Int32) * x1) + 2).toNatClampNeg)), (2, .int (v.2.2.2.2.2.2.1 (((4 : Int32) * x1) + 1).toNatClampNeg)), (0, .ref (a 0)), (1, .int x1)]) (pc := 35) F dX8_does_35 (by decide) rfl ?_
  refine V_aload_n (pc := 37) F dX8_does_37 rfl 4 rfl ?_
  refine V_get (pc := 38) F 0 8 6 i_X8 rfl (by decide) rfl (mm 1 rfl) dX8_does_38 rfl rfl ?_
  refine V_iconst (v := 4) (pc := 41) F dX8_does_41 (by decide) ?_
  refine V_iload_n (pc := 42) F dX8_does_42 rfl 5 rfl ?_
  refine V_imul (pc := 43) F dX8_does_43 ?_
  obtain ⟨c4, hf⟩ := chk_some hf
  refine V_iald (pc := 44) F 4 rfl c4 dX8_does_44 ?_
  refine V_bipush (v := 120) (pc := 45) F dX8_does_45 (by decide) ?_
  refine V_icmp_ne (pc := 47) (tgt := 60) F dX8_does_47 (by decide) (fun h5 => ?_) (fun h5 => ?_)
  · replace hf := ite_neg hf h5
    refine V_aload_n (pc := 60) F dX8_does_60 rfl 4 rfl ?_
    refine V_get (pc := 61) F 0 8 6 i_X8 rfl (by decide) rfl (mm 1 rfl) dX8_does_61 rfl rfl ?_
    refine V_iconst (v := 4) (pc := 64) F dX8_does_64 (by decide) ?_
    refine V_iload_n (pc := 65) F dX8_does_65 rfl 5 rfl ?_
    refine V_imul (pc := 66) F dX8_does_66 ?_
    obtain ⟨c6, hf⟩ := chk_some hf
    refine V_iald (pc := 67) F 4 rfl c6 dX8_does_67 ?_
    refine V_bipush (v := 112) (pc := 68) F dX8_does_68 (by decide) ?_
    refine V_icmp_ne (pc := 70) (tgt := 104) F dX8_does_70 (by decide) (fun h7 => ?_) (fun h7 => ?_)
    · replace hf := ite_neg hf h7
      refine V_aload_n (pc := 104) F dX8_does_104 rfl 4 rfl ?_
      refine V_iload_n (pc := 105) F dX8_does_105 rfl 3 rfl ?_
      refine V_iload_n (pc := 106) F dX8_does_106 rfl 2 rfl ?_
      refine V_iload (pc := 107) F dX8_does_107 1 rfl ?_
      obtain ⟨r8, g9, hf⟩ := bind_of hf
      refine V_V (w2 := wX8 cy a v) (rest := []) (st2 := [.int r8]) (pc := 109) F 8 (M_X8_whyNotRule l D cy N a v (v.2.2.2.2.2.2.1 (((4 : Int32) * x1) + 1).toNatClampNeg) (v.2.2.2.2.2.2.1 (((4 : Int32) * x1) + 2).toNatClampNeg) (v.2.2.2.2.2.2.1 (((4 : Int32) * x1) + 3).toNatClampNeg) r8 g9) (cwV 3 F.ts gX8_does_X8_whyNotRule rfl rfl rfl hd_X8_whyNotRule ⟨Nat.le_of_ble_eq_true rfl, Nat.le_of_ble_eq_true rfl⟩) rfl dX8_does_109 Fit.whole rfl rfl rfl (Nat.le_of_ble_eq_true rfl) (Nat.zero_le _) (Nat.zero_le _) rfl rfl rfl ?_
      refine V_if_ne (pc := 112) (tgt := 119) F dX8_does_112 (by decide) (fun h10 => ?_) (fun h10 => ?_)
      · replace hf := ite_neg hf h10
        refine V_iconst (v := 0) (pc := 119) F dX8_does_119 (by decide) ?_
        refine V_istore (L2 := [(5, .int 0), (4, .int (v.2.2.2.2.2.2.1 (((4 : Int32) * x1) + 3).toNatClampNeg)), (3, .int (v.2.2.2.2.2.2.1 (((4 : Int32) * x1) + 2).toNatClampNeg)), (2, .int (v.2.2.2.2.2.2.1 (((4 : Int32) * x1) + 1).toNatClampNeg)), (0, .ref (a 0)), (1, .int x1)]) (pc := 120) F dX8_does_120 (by decide) rfl ?_
        refine V_iload (pc := 122) F dX8_does_122 0 rfl ?_
        refine V_if_eq (pc := 124) (tgt := 136) F dX8_does_124 (by decide) (fun h11 => ?_) (fun h11 => ?_)
        · refine V_iload (pc := 136) F dX8_does_136 0 rfl ?_
          obtain rfl := some_of hf
          exact V_ret F rfl rfl dX8_does_138 rfl rfl
        · exact absurd h11 (show ¬ (¬ ((0 : Int32) = (0 : Int32))) by decide)
      · replace hf := ite_pos hf h10
        refine V_iconst (v := 1) (pc := 115) F dX8_does_115 (by decide) ?_
        refine V_goto (pc := 116) (tgt := 120) F dX8_does_116 (by decide) ?_
        refine V_istore (L2 := [(5, .int 1), (4, .int (v.2.2.2.2.2.2.1 (((4 : Int32) * x1) + 3).toNatClampNeg)), (3, .int (v.2.2.2.2.2.2.1 (((4 : Int32) * x1) + 2).toNatClampNeg)), (2, .int (v.2.2.2.2.2.2.1 (((4 : Int32) * x1) + 1).toNatClampNeg)), (0, .ref (a 0)), (1, .int x1)]) (pc := 120) F dX8_does_120 (by decide) rfl ?_
        refine V_iload (pc := 122) F dX8_does_122 0 rfl ?_
        refine V_if_eq (pc := 124) (tgt := 136) F dX8_does_124 (by decide) (fun h12 => ?_) (fun h12 => ?_)
        · exact absurd h12 (show ¬ ((1 : Int32) = (0 : Int32)) by decide)
        · refine V_aload_n (pc := 127) F dX8_does_127 rfl 4 rfl ?_
          refine V_iload_n (pc := 128) F dX8_does_128 rfl 3 rfl ?_
          refine V_iload_n (pc := 129) F dX8_does_129 rfl 2 rfl ?_
          refine V_iload (pc := 130) F dX8_does_130 1 rfl ?_
          obtain ⟨r13, g14, hf⟩ := bind_of hf
          refine V_V (w2 := wX8 cy a r13.2) (rest := []) (st2 := [.int r13.1]) (pc := 132) F 8 (M_X8_ruleAdded l D cy N a v (v.2.2.2.2.2.2.1 (((4 : Int32) * x1) + 1).toNatClampNeg) (v.2.2.2.2.2.2.1 (((4 : Int32) * x1) + 2).toNatClampNeg) (v.2.2.2.2.2.2.1 (((4 : Int32) * x1) + 3).toNatClampNeg) r13 g14) (cwV 3 F.ts gX8_does_X8_ruleAdded rfl rfl rfl hd_X8_ruleAdded ⟨Nat.le_of_ble_eq_true rfl, Nat.le_of_ble_eq_true rfl⟩) rfl dX8_does_132 Fit.whole fstX8 rfl rfl (Nat.le_of_ble_eq_true rfl) (Nat.zero_le _) (Nat.zero_le _) rfl rfl rfl ?_
          refine V_pop (pc := 135) F dX8_does_135 rfl ?_
          refine V_iload (pc := 136) F dX8_does_136 0 rfl ?_
          obtain rfl := some_of hf
          exact V_ret F rfl rfl dX8_does_138 rfl rfl
    · replace hf := ite_pos hf h7
      refine V_aload_n (pc := 73) F dX8_does_73 rfl 4 rfl ?_
      refine V_iload_n (pc := 74) F dX8_does_74 rfl 3 rfl ?_
      refine V_iload_n (pc := 75) F dX8_does_75 rfl 2 rfl ?_
      obtain ⟨r15, g16, hf⟩ := bind_of hf
      refine V_V (w2 := wX8 cy a v) (rest := []) (st2 := [.int r15]) (pc := 76) F 8 (M_X8_whyNotPhase l D cy N a v (v.2.2.2.2.2.2.1 (((4 : Int32) * x1) + 1).toNatClampNeg) (v.2.2.2.2.2.2.1 (((4 : Int32) * x1) + 2).toNatClampNeg) r15 g16) (cwV 2 F.ts gX8_does_X8_whyNotPhase rfl rfl rfl hd_X8_whyNotPhase ⟨Nat.le_of_ble_eq_true rfl, Nat.le_of_ble_eq_true rfl⟩) rfl dX8_does_76 Fit.whole rfl rfl rfl (Nat.le_of_ble_eq_true rfl) (Nat.zero_le _) (Nat.zero_le _) rfl rfl rfl ?_
      refine V_if_ne (pc := 79) (tgt := 86) F dX8_does_79 (by decide) (fun h17 => ?_) (fun h17 => ?_)
      · replace hf := ite_neg hf h17
        refine V_iconst (v := 0) (pc := 86) F dX8_does_86 (by decide) ?_
        refine V_istore (L2 := [(5, .int 0), (4, .int (v.2.2.2.2.2.2.1 (((4 : Int32) * x1) + 3).toNatClampNeg)), (3, .int (v.2.2.2.2.2.2.1 (((4 : Int32) * x1) + 2).toNatClampNeg)), (2, .int (v.2.2.2.2.2.2.1 (((4 : Int32) * x1) + 1).toNatClampNeg)), (0, .ref (a 0)), (1, .int x1)]) (pc := 87) F dX8_does_87 (by decide) rfl ?_
        refine V_iload (pc := 89) F dX8_does_89 0 rfl ?_
        refine V_if_eq (pc := 91) (tgt := 136) F dX8_does_91 (by decide) (fun h18 => ?_) (fun h18 => ?_)
        · refine V_iload (pc := 136) F dX8_does_136 0 rfl ?_
          obtain rfl := some_of hf
          exact V_ret F rfl rfl dX8_does_138 rfl rfl
        · exact absurd h18 (show ¬ (¬ ((0 : Int32) = (0 : Int32))) by decide)
      · replace hf := ite_pos hf h17
        refine V_iconst (v := 1) (pc := 82) F dX8_does_82 (by decide) ?_
        refine V_goto (pc := 83) (tgt := 87) F dX8_does_83 (by decide) ?_
        refine V_istore (L2 := [(5, .int 1), (4, .int (v.2.2.2.2.2.2.1 (((4 : Int32) * x1) + 3).toNatClampNeg)), (3, .int (v.2.2.2.2.2.2.1 (((4 : Int32) * x1) + 2).toNatClampNeg)), (2, .int (v.2.2.2.2.2.2.1 (((4 : Int32) * x1) + 1).toNatClampNeg)), (0, .ref (a 0)), (1, .int x1)]) (pc := 87) F dX8_does_87 (by decide) rfl ?_
        refine V_iload (pc := 89) F dX8_does_89 0 rfl ?_
        refine V_if_eq (pc := 91) (tgt := 136) F dX8_does_91 (by decide) (fun h19 => ?_) (fun h19 => ?_)
        · exact absurd h19 (show ¬ ((1 : Int32) = (0 : Int32)) by decide)
        · refine V_aload_n (pc := 94) F dX8_does_94 rfl 4 rfl ?_
          refine V_iload_n (pc := 95) F dX8_does_95 rfl 3 rfl ?_
          refine V_iload_n (pc := 96) F dX8_does_96 rfl 2 rfl ?_
          obtain ⟨r20, g21, hf⟩ := bind_of hf
          refine V_V (w2 := wX8 cy a r20.2) (rest := []) (st2 := [.int r20.1]) (pc := 97) F 8 (M_X8_phaseAdded l D cy N a v (v.2.2.2.2.2.2.1 (((4 : Int32) * x1) + 1).toNatClampNeg) (v.2.2.2.2.2.2.1 (((4 : Int32) * x1) + 2).toNatClampNeg) r20 g21) (cwV 2 F.ts gX8_does_X8_phaseAdded rfl rfl rfl hd_X8_phaseAdded ⟨Nat.le_of_ble_eq_true rfl, Nat.le_of_ble_eq_true rfl⟩) rfl dX8_does_97 Fit.whole fstX8 rfl rfl (Nat.le_of_ble_eq_true rfl) (Nat.zero_le _) (Nat.zero_le _) rfl rfl rfl ?_
          refine V_pop (pc := 100) F dX8_does_100 rfl ?_
          refine V_goto (pc := 101) (tgt := 136) F dX8_does_101 (by decide) ?_
          refine V_iload (pc := 136) F dX8_does_136 0 rfl ?_
          obtain rfl := some_of hf
          exact V_ret F rfl rfl dX8_does_138 rfl rfl
  · replace hf := ite_pos hf h5
    refine V_aload_n (pc := 50) F dX8_does_50 rfl 4 rfl ?_
    refine V_iload_n (pc := 51) F dX8_does_51 rfl 3 rfl ?_
    refine V_iload_n (pc := 52) F dX8_does_52 rfl 2 rfl ?_
    refine V_iconst (v := 1) (pc := 53) F dX8_does_53 (by decide) ?_
    obtain ⟨r22, g23, hf⟩ := bind_of hf
    refine V_V (w2 := wX8 cy a r22) (rest := []) (st2 := []) (pc := 54) F 8 (M_X8_setClash l D cy N a v (v.2.2.2.2.2.2.1 (((4 : Int32) * x1) + 1).toNatClampNeg) (v.2.2.2.2.2.2.1 (((4 : Int32) * x1) + 2).toNatClampNeg) 1 r22 g23) (cwV 3 F.ts gX8_does_X8_setClash rfl rfl rfl hd_X8_setClash ⟨Nat.le_of_ble_eq_true rfl, Nat.le_of_ble_eq_true rfl⟩) rfl dX8_does_54 Fit.whole fstX8 rfl rfl (Nat.le_of_ble_eq_true rfl) (Nat.zero_le _) (Nat.zero_le _) rfl rfl rfl ?_
    refine V_goto (pc := 57) (tgt := 136) F dX8_does_57 (by decide) ?_
    refine V_iload (pc := 136) F dX8_does_136 0 rfl ?_
    obtain rfl := some_of hf
    exact V_ret F rfl rfl dX8_does_138 rfl rfl
theorem hd_X8_build : yX8_build.cls = RX8 ∧ yX8_build.cls ≠ "java/lang/invoke/MethodHandle" ∧ yX8_build.cls ≠ "java/lang/invoke/VarHandle" ∧ (parseMethodDescriptor yX8_build.desc).map (fun d => d.parameters.length) = some 0 := by decide +kernel
def fX8_build_L32 (N : Nat)  : Nat → SX8 → Int32 → Option (SX8 × Int32)
  | 0, _, _ => none
  | n + 1, v, z1 =>
    if v.2.2.2.2.2.2.2.1 ≤ z1 then
      some (v, z1)
    else
      (fX8_does N v z1).bind fun r9 =>
        if r9.1 = 0 then
          some (r9.2, z1)
        else
          fX8_build_L32 N n r9.2 (z1 + 1)
def fX8_build (N : Nat) (v : SX8) : Option (Int32 × SX8) :=
  (fX8_readBuffer N v).bind fun r1 =>
    if r1.1 = (-1) then
      (fX8_save N (0, r1.2.2.1, r1.2.2.2.1, r1.2.2.2.2.1, r1.2.2.2.2.2.1, r1.2.2.2.2.2.2.1, r1.2.2.2.2.2.2.2.1, r1.2.2.2.2.2.2.2.2.1, r1.2.2.2.2.2.2.2.2.2.1, r1.2.2.2.2.2.2.2.2.2.2.1, r1.2.2.2.2.2.2.2.2.2.2.2.1, r1.2.2.2.2.2.2.2.2.2.2.2.2.1, r1.2.2.2.2.2.2.2.2.2.2.2.2.2)).bind fun r6 =>
        (fX8_build_L32 N N r6 0).bind fun u12 =>
          some (u12.2, (u12.1.1, u12.1.2.1, u12.1.2.2.1, u12.1.2.2.2.1, u12.1.2.2.2.2.1, 0, u12.1.2.2.2.2.2.2))
    else
      some (0, (1, r1.2.2.1, r1.2.2.2.1, r1.2.2.2.2.1, r1.2.2.2.2.2.1, r1.2.2.2.2.2.2.1, r1.2.2.2.2.2.2.2.1, r1.2.2.2.2.2.2.2.2.1, r1.2.2.2.2.2.2.2.2.2.1, r1.2.2.2.2.2.2.2.2.2.2.1, r1.2.2.2.2.2.2.2.2.2.2.2.1, r1.2.2.2.2.2.2.2.2.2.2.2.2.1, r1.2.2.2.2.2.2.2.2.2.2.2.2.2))
set_option maxHeartbeats 8000000 in
set_option maxRecDepth 100000 in
theorem M_X8_build (l : Launch) (D : va_G) (cy : Nat → ClassId) (N : Nat) (a : Nat → Nat) (v : SX8) (o : Int32 × SX8) (hf : fX8_build N v = some o) : okM l yX8_build wsX8_build (rmz 5 109) D cy [.ref (a 0)] (wX8 cy a v) (wX8 cy a o.2) (some (.int o.1)) := by
  refine okM_of (own := RX8) (nme := "build") (cc := cX8_build) (maxL := 2) (ret := (some .int)) (by decide) rfl rfl rfl (Nat.le_of_ble_eq_true rfl) ?_
  intro p e s m args below meth c A F
  have i_X8 : ∀ w ∈ u_ws RX8 TX8 13, w ∈ wsX8_build := fun _ h => List.mem_cons_of_mem _ (List.mem_append_right _ h)
  have K32 : ∀ (n : Nat) (v : SX8) (z1 : Int32) (u : SX8 × Int32), fX8_build_L32 N n v z1 = some u → V p l e (rmz 5 109) s m args below meth c 2 D A 0 0 (MQ below (ok_Q D (wX8 cy a o.2) (some (.int o.1)) A) args s 0 0 A) (wX8 cy a u.1) [(0, .ref (a 0)), (1, .int u.2)] [] 54 → V p l e (rmz 5 109) s m args below meth c 2 D A 0 0 (MQ below (ok_Q D (wX8 cy a o.2) (some (.int o.1)) A) args s 0 0 A) (wX8 cy a v) [(0, .ref (a 0)), (1, .int z1)] [] 32 := by
    intro n
    induction n with
    | zero =>
      intro v z1 u hf hk
      exact nomatch (show (none : Option (SX8 × Int32)) = some u from hf)
    | succ n ih =>
      intro v z1 u hf hk
      rw [fX8_build_L32] at hf
      refine V_iload_n (pc := 32) F dX8_build_32 rfl 1 rfl ?_
      refine V_aload_n (pc := 33) F dX8_build_33 rfl 0 rfl ?_
      refine V_get (pc := 34) F 0 8 7 i_X8 rfl (by decide) rfl (mm 2 rfl) dX8_build_34 rfl rfl ?_
      refine V_icmp_ge (pc := 37) (tgt := 54) F dX8_build_37 (by decide) (fun h8 => ?_) (fun h8 => ?_)
      · replace hf := ite_pos hf h8
        obtain rfl := some_of hf
        exact V.sub [0, 1] rfl hk
      · replace hf := ite_neg hf h8
        refine V_aload_n (pc := 40) F dX8_build_40 rfl 0 rfl ?_
        refine V_iload_n (pc := 41) F dX8_build_41 rfl 1 rfl ?_
        obtain ⟨r9, g10, hf⟩ := bind_of hf
        refine V_V (w2 := wX8 cy a r9.2) (rest := []) (st2 := [.int r9.1]) (pc := 42) F 8 (M_X8_does l D cy N a v z1 r9 g10) (cwV 1 F.ts gX8_build_X8_does rfl rfl rfl hd_X8_does ⟨Nat.le_of_ble_eq_true rfl, Nat.le_of_ble_eq_true rfl⟩) rfl dX8_build_42 Fit.whole fstX8 rfl rfl (Nat.le_of_ble_eq_true rfl) (Nat.zero_le _) (Nat.zero_le _) rfl rfl rfl ?_
        refine V_if_eq (pc := 45) (tgt := 54) F dX8_build_45 (by decide) (fun h11 => ?_) (fun h11 => ?_)
        · replace hf := ite_pos hf h11
          obtain rfl := some_of hf
          exact V.sub [0, 1] rfl hk
        · replace hf := ite_neg hf h11
          refine V_iinc (v := (z1 + 1)) (L2 := [(1, .int (z1 + 1)), (0, .ref (a 0))]) (pc := 48) F dX8_build_48 1 rfl rfl (by decide) rfl ?_
          refine V_goto (pc := 51) (tgt := 32) F dX8_build_51 (by decide) ?_
          refine V.sub [1, 0] rfl ?_
          exact ih r9.2 (z1 + 1) _ hf hk
  unfold fX8_build at hf
  refine V.eq rfl (show lv_args 0 [.ref (a 0)] = [(0, .ref (a 0))] from rfl) rfl ?_
  refine V_aload_n (pc := 0) F dX8_build_0 rfl 0 rfl ?_
  refine V_aload_n (pc := 1) F dX8_build_1 rfl 0 rfl ?_
  obtain ⟨r1, g2, hf⟩ := bind_of hf
  refine V_V (w2 := wX8 cy a r1.2) (rest := [.ref (a 0)]) (st2 := [.int r1.1, .ref (a 0)]) (pc := 2) F 8 (M_X8_readBuffer l D cy N a v r1 g2) (cwV 0 F.ts gX8_build_X8_readBuffer rfl rfl rfl hd_X8_readBuffer ⟨Nat.le_of_ble_eq_true rfl, Nat.le_of_ble_eq_true rfl⟩) rfl dX8_build_2 Fit.whole fstX8 rfl rfl (Nat.le_of_ble_eq_true rfl) (Nat.zero_le _) (Nat.zero_le _) rfl rfl rfl ?_
  refine V_iconst (v := (-1)) (pc := 5) F dX8_build_5 (by decide) ?_
  refine V_icmp_ne (pc := 6) (tgt := 13) F dX8_build_6 (by decide) (fun h3 => ?_) (fun h3 => ?_)
  · replace hf := ite_neg hf h3
    refine V_iconst (v := 1) (pc := 13) F dX8_build_13 (by decide) ?_
    refine V_put (w2 := wX8 cy a (1, r1.2.2.1, r1.2.2.2.1, r1.2.2.2.2.1, r1.2.2.2.2.2.1, r1.2.2.2.2.2.2.1, r1.2.2.2.2.2.2.2.1, r1.2.2.2.2.2.2.2.2.1, r1.2.2.2.2.2.2.2.2.2.1, r1.2.2.2.2.2.2.2.2.2.2.1, r1.2.2.2.2.2.2.2.2.2.2.2.1, r1.2.2.2.2.2.2.2.2.2.2.2.2.1, r1.2.2.2.2.2.2.2.2.2.2.2.2.2)) (pc := 14) F 0 8 0 i_X8 tyX8 tyX8_ok nmX8 rfl (by decide) rfl (mm 1 rfl) rfl dX8_build_14 rfl rfl rfl (Nat.le_of_ble_eq_true rfl) rfl ?_
    refine V_aload_n (pc := 17) F dX8_build_17 rfl 0 rfl ?_
    refine V_get (pc := 18) F 0 8 0 i_X8 rfl (by decide) rfl (mm 1 rfl) dX8_build_18 rfl rfl ?_
    refine V_if_le (pc := 21) (tgt := 26) F dX8_build_21 (by decide) (fun h4 => ?_) (fun h4 => ?_)
    · exact absurd h4 (show ¬ ((1 : Int32) ≤ (0 : Int32)) by decide)
    · refine V_iconst (v := 0) (pc := 24) F dX8_build_24 (by decide) ?_
      obtain rfl := some_of hf
      exact V_ret F rfl rfl dX8_build_25 rfl rfl
  · replace hf := ite_pos hf h3
    refine V_iconst (v := 0) (pc := 9) F dX8_build_9 (by decide) ?_
    refine V_goto (pc := 10) (tgt := 14) F dX8_build_10 (by decide) ?_
    refine V_put (w2 := wX8 cy a (0, r1.2.2.1, r1.2.2.2.1, r1.2.2.2.2.1, r1.2.2.2.2.2.1, r1.2.2.2.2.2.2.1, r1.2.2.2.2.2.2.2.1, r1.2.2.2.2.2.2.2.2.1, r1.2.2.2.2.2.2.2.2.2.1, r1.2.2.2.2.2.2.2.2.2.2.1, r1.2.2.2.2.2.2.2.2.2.2.2.1, r1.2.2.2.2.2.2.2.2.2.2.2.2.1, r1.2.2.2.2.2.2.2.2.2.2.2.2.2)) (pc := 14) F 0 8 0 i_X8 tyX8 tyX8_ok nmX8 rfl (by decide) rfl (mm 1 rfl) rfl dX8_build_14 rfl rfl rfl (Nat.le_of_ble_eq_true rfl) rfl ?_
    refine V_aload_n (pc := 17) F dX8_build_17 rfl 0 rfl ?_
    refine V_get (pc := 18) F 0 8 0 i_X8 rfl (by decide) rfl (mm 1 rfl) dX8_build_18 rfl rfl ?_
    refine V_if_le (pc := 21) (tgt := 26) F dX8_build_21 (by decide) (fun h5 => ?_) (fun h5 => ?_)
    · refine V_aload_n (pc := 26) F dX8_build_26 rfl 0 rfl ?_
      obtain ⟨r6, g7, hf⟩ := bind_of hf
      refine V_V (w2 := wX8 cy a r6) (rest := []) (st2 := []) (pc := 27) F 8 (M_X8_save l D cy N a (0, r1.2.2.1, r1.2.2.2.1, r1.2.2.2.2.1, r1.2.2.2.2.2.1, r1.2.2.2.2.2.2.1, r1.2.2.2.2.2.2.2.1, r1.2.2.2.2.2.2.2.2.1, r1.2.2.2.2.2.2.2.2.2.1, r1.2.2.2.2.2.2.2.2.2.2.1, r1.2.2.2.2.2.2.2.2.2.2.2.1, r1.2.2.2.2.2.2.2.2.2.2.2.2.1, r1.2.2.2.2.2.2.2.2.2.2.2.2.2) r6 g7) (cwV 0 F.ts gX8_build_X8_save rfl rfl rfl hd_X8_save ⟨Nat.le_of_ble_eq_true rfl, Nat.le_of_ble_eq_true rfl⟩) rfl dX8_build_27 Fit.whole fstX8 rfl rfl (Nat.le_of_ble_eq_true rfl) (Nat.zero_le _) (Nat.zero_le _) rfl rfl rfl ?_
      refine V_iconst (v := 0) (pc := 30) F dX8_build_30 (by decide) ?_
      refine V_istore_n (L2 := [(1, .int 0), (0, .ref (a 0))]) (pc := 31) F dX8_build_31 rfl (by decide) rfl ?_
      refine V.sub [1, 0] rfl ?_
      obtain ⟨u12, g13, hf⟩ := bind_of hf
      refine K32 N r6 0 u12 g13 ?_
      refine V_aload_n (pc := 54) F dX8_build_54 rfl 0 rfl ?_
      refine V_iconst (v := 0) (pc := 55) F dX8_build_55 (by decide) ?_
      refine V_put (w2 := wX8 cy a (u12.1.1, u12.1.2.1, u12.1.2.2.1, u12.1.2.2.2.1, u12.1.2.2.2.2.1, 0, u12.1.2.2.2.2.2.2)) (pc := 56) F 0 8 5 i_X8 tyX8 tyX8_ok nmX8 rfl (by decide) rfl (mm 3 rfl) rfl dX8_build_56 rfl rfl rfl (Nat.le_of_ble_eq_true rfl) rfl ?_
      refine V_iload_n (pc := 59) F dX8_build_59 rfl 1 rfl ?_
      obtain rfl := some_of hf
      exact V_ret F rfl rfl dX8_build_60 rfl rfl
    · exact absurd h5 (show ¬ (¬ ((0 : Int32) ≤ (0 : Int32))) by decide)
theorem hd_X8_comers : yX8_comers.cls = RX8 ∧ yX8_comers.cls ≠ "java/lang/invoke/MethodHandle" ∧ yX8_comers.cls ≠ "java/lang/invoke/VarHandle" ∧ (parseMethodDescriptor yX8_comers.desc).map (fun d => d.parameters.length) = some 0 := by decide +kernel
def fX8_comers_L46 (N : Nat) (v : SX8) (z2 : Int32) (z3 : Int32) : Nat → Int32 → Int32 → Option (Int32)
  | 0, _, _ => none
  | n + 1, z1, z4 =>
    (fX8_rules N v z3).bind fun r7 =>
      if r7 ≤ z4 then
        some z1
      else
        if ((z1 >>> (z3 &&& 31)) &&& 1) = 1 then
          (fX8_goal N v z3 z4).bind fun r11 =>
            fX8_comers_L46 N v z2 z3 n (z1 ||| ((1 : Int32) <<< (r11 &&& 31))) (z4 + 1)
        else
          some z1
def fX8_comers_L33 (N : Nat) (v : SX8) (z2 : Int32) : Nat → Int32 → Int32 → Option (Int32)
  | 0, _, _ => none
  | n + 1, z1, z3 =>
    chk 0 143 (
      if (v.2.1 (0 : Int32).toNatClampNeg) ≤ z3 then
        some z1
      else
        (fX8_comers_L46 N v z2 z3 N z1 0).bind fun u13 =>
          fX8_comers_L33 N v z2 n u13 (z3 + 1)
    )
def fX8_comers_L25 (N : Nat) (v : SX8) : Nat → Int32 → Int32 → Option (Int32)
  | 0, _, _ => none
  | n + 1, z1, z2 =>
    if 8 ≤ z2 then
      some z1
    else
      (fX8_comers_L33 N v z2 N z1 0).bind fun u15 =>
        fX8_comers_L25 N v n u15 (z2 + 1)
def fX8_comers (N : Nat) (v : SX8) : Option (Int32) :=
  chk 2 143 (
    if (v.2.1 (2 : Int32).toNatClampNeg) = (-1) then
      (fX8_comers_L25 N v N 0 0).bind fun u19 =>
        some u19
    else
      chk 2 143 (
        (fX8_comers_L25 N v N ((1 : Int32) <<< ((v.2.1 (2 : Int32).toNatClampNeg) &&& 31)) 0).bind fun u17 =>
          some u17
      )
  )
set_option maxHeartbeats 8000000 in
set_option maxRecDepth 100000 in
theorem M_X8_comers (l : Launch) (D : va_G) (cy : Nat → ClassId) (N : Nat) (a : Nat → Nat) (v : SX8) (o : Int32) (hf : fX8_comers N v = some o) : okM l yX8_comers wsX8_comers (rmz 2 44) D cy [.ref (a 0)] (wX8 cy a v) (wX8 cy a v) (some (.int o)) := by
  refine okM_of (own := RX8) (nme := "comers") (cc := cX8_comers) (maxL := 5) (ret := (some .int)) (by decide) rfl rfl rfl (Nat.le_of_ble_eq_true rfl) ?_
  intro p e s m args below meth c A F
  have i_X8 : ∀ w ∈ u_ws RX8 TX8 13, w ∈ wsX8_comers := fun _ h => List.mem_cons_of_mem _ (List.mem_append_right _ h)
  have K46 : ∀ (n : Nat) (v : SX8) (z2 : Int32) (z3 : Int32) (z1 : Int32) (z4 : Int32) (u : Int32), fX8_comers_L46 N v z2 z3 n z1 z4 = some u → V p l e (rmz 2 44) s m args below meth c 5 D A 0 0 (MQ below (ok_Q D (wX8 cy a v) (some (.int o)) A) args s 0 0 A) (wX8 cy a v) [(0, .ref (a 0)), (1, .int u), (2, .int z2), (3, .int z3)] [] 83 → V p l e (rmz 2 44) s m args below meth c 5 D A 0 0 (MQ below (ok_Q D (wX8 cy a v) (some (.int o)) A) args s 0 0 A) (wX8 cy a v) [(0, .ref (a 0)), (1, .int z1), (2, .int z2), (3, .int z3), (4, .int z4)] [] 46 := by
    intro n
    induction n with
    | zero =>
      intro v z2 z3 z1 z4 u hf hk
      exact nomatch (show (none : Option (Int32)) = some u from hf)
    | succ n ih =>
      intro v z2 z3 z1 z4 u hf hk
      rw [fX8_comers_L46] at hf
      refine V_iload (pc := 46) F dX8_comers_46 4 rfl ?_
      refine V_aload_n (pc := 48) F dX8_comers_48 rfl 0 rfl ?_
      refine V_iload_n (pc := 49) F dX8_comers_49 rfl 3 rfl ?_
      obtain ⟨r7, g8, hf⟩ := bind_of hf
      refine V_V (w2 := wX8 cy a v) (rest := [.int z4]) (st2 := [.int r7, .int z4]) (pc := 50) F 8 (M_X8_rules l D cy N a v z3 r7 g8) (cwV 1 F.ts gX8_comers_X8_rules rfl rfl rfl hd_X8_rules ⟨Nat.le_of_ble_eq_true rfl, Nat.le_of_ble_eq_true rfl⟩) rfl dX8_comers_50 Fit.whole rfl rfl rfl (Nat.le_of_ble_eq_true rfl) (Nat.zero_le _) (Nat.zero_le _) rfl rfl rfl ?_
      refine V_icmp_ge (pc := 53) (tgt := 83) F dX8_comers_53 (by decide) (fun h9 => ?_) (fun h9 => ?_)
      · replace hf := ite_pos hf h9
        obtain rfl := some_of hf
        exact V.sub [0, 1, 2, 3] rfl hk
      · replace hf := ite_neg hf h9
        refine V_iload_n (pc := 56) F dX8_comers_56 rfl 1 rfl ?_
        refine V_iload_n (pc := 57) F dX8_comers_57 rfl 3 rfl ?_
        refine V_ishr (pc := 58) F dX8_comers_58 ?_
        refine V_iconst (v := 1) (pc := 59) F dX8_comers_59 (by decide) ?_
        refine V_iand (pc := 60) F dX8_comers_60 ?_
        refine V_iconst (v := 1) (pc := 61) F dX8_comers_61 (by decide) ?_
        refine V_icmp_ne (pc := 62) (tgt := 83) F dX8_comers_62 (by decide) (fun h10 => ?_) (fun h10 => ?_)
        · replace hf := ite_neg hf h10
          obtain rfl := some_of hf
          exact V.sub [0, 1, 2, 3] rfl hk
        · replace hf := ite_pos hf h10
          refine V_iload_n (pc := 65) F dX8_comers_65 rfl 1 rfl ?_
          refine V_iconst (v := 1) (pc := 66) F dX8_comers_66 (by decide) ?_
          refine V_aload_n (pc := 67) F dX8_comers_67 rfl 0 rfl ?_
          refine V_iload_n (pc := 68) F dX8_comers_68 rfl 3 rfl ?_
          refine V_iload (pc := 69) F dX8_comers_69 4 rfl ?_
          obtain ⟨r11, g12, hf⟩ := bind_of hf
          refine V_V (w2 := wX8 cy a v) (rest := [.int 1, .int z1]) (st2 := [.int r11, .int 1, .int z1]) (pc := 71) F 8 (M_X8_goal l D cy N a v z3 z4 r11 g12) (cwV 2 F.ts gX8_comers_X8_goal rfl rfl rfl hd_X8_goal ⟨Nat.le_of_ble_eq_true rfl, Nat.le_of_ble_eq_true rfl⟩) rfl dX8_comers_71 Fit.whole rfl rfl rfl (Nat.le_of_ble_eq_true rfl) (Nat.zero_le _) (Nat.zero_le _) rfl rfl rfl ?_
          refine V_ishl (pc := 74) F dX8_comers_74 ?_
          refine V_ior (pc := 75) F dX8_comers_75 ?_
          refine V_istore_n (L2 := [(1, .int (z1 ||| ((1 : Int32) <<< (r11 &&& 31)))), (0, .ref (a 0)), (2, .int z2), (3, .int z3), (4, .int z4)]) (pc := 76) F dX8_comers_76 rfl (by decide) rfl ?_
          refine V_iinc (v := (z4 + 1)) (L2 := [(4, .int (z4 + 1)), (1, .int (z1 ||| ((1 : Int32) <<< (r11 &&& 31)))), (0, .ref (a 0)), (2, .int z2), (3, .int z3)]) (pc := 77) F dX8_comers_77 4 rfl rfl (by decide) rfl ?_
          refine V_goto (pc := 80) (tgt := 46) F dX8_comers_80 (by decide) ?_
          refine V.sub [2, 1, 3, 4, 0] rfl ?_
          exact ih v z2 z3 (z1 ||| ((1 : Int32) <<< (r11 &&& 31))) (z4 + 1) _ hf hk
  have K33 : ∀ (n : Nat) (v : SX8) (z2 : Int32) (z1 : Int32) (z3 : Int32) (u : Int32), fX8_comers_L33 N v z2 n z1 z3 = some u → V p l e (rmz 2 44) s m args below meth c 5 D A 0 0 (MQ below (ok_Q D (wX8 cy a v) (some (.int o)) A) args s 0 0 A) (wX8 cy a v) [(0, .ref (a 0)), (1, .int u), (2, .int z2)] [] 89 → V p l e (rmz 2 44) s m args below meth c 5 D A 0 0 (MQ below (ok_Q D (wX8 cy a v) (some (.int o)) A) args s 0 0 A) (wX8 cy a v) [(0, .ref (a 0)), (1, .int z1), (2, .int z2), (3, .int z3)] [] 33 := by
    intro n
    induction n with
    | zero =>
      intro v z2 z1 z3 u hf hk
      exact nomatch (show (none : Option (Int32)) = some u from hf)
    | succ n ih =>
      intro v z2 z1 z3 u hf hk
      rw [fX8_comers_L33] at hf
      refine V_iload_n (pc := 33) F dX8_comers_33 rfl 3 rfl ?_
      refine V_aload_n (pc := 34) F dX8_comers_34 rfl 0 rfl ?_
      refine V_get (pc := 35) F 0 8 1 i_X8 rfl (by decide) rfl (mm 1 rfl) dX8_comers_35 rfl rfl ?_
      refine V_iconst (v := 0) (pc := 38) F dX8_comers_38 (by decide) ?_
      obtain ⟨c5, hf⟩ := chk_some hf
      refine V_iald (pc := 39) F 1 rfl c5 dX8_comers_39 ?_
      refine V_icmp_ge (pc := 40) (tgt := 89) F dX8_comers_40 (by decide) (fun h6 => ?_) (fun h6 => ?_)
      · replace hf := ite_pos hf h6
        obtain rfl := some_of hf
        exact V.sub [0, 1, 2] rfl hk
      · replace hf := ite_neg hf h6
        refine V_iconst (v := 0) (pc := 43) F dX8_comers_43 (by decide) ?_
        refine V_istore (L2 := [(4, .int 0), (0, .ref (a 0)), (1, .int z1), (2, .int z2), (3, .int z3)]) (pc := 44) F dX8_comers_44 (by decide) rfl ?_
        refine V.sub [1, 2, 3, 4, 0] rfl ?_
        obtain ⟨u13, g14, hf⟩ := bind_of hf
        refine K46 N v z2 z3 z1 0 u13 g14 ?_
        refine V_iinc (v := (z3 + 1)) (L2 := [(3, .int (z3 + 1)), (0, .ref (a 0)), (1, .int u13), (2, .int z2)]) (pc := 83) F dX8_comers_83 3 rfl rfl (by decide) rfl ?_
        refine V_goto (pc := 86) (tgt := 33) F dX8_comers_86 (by decide) ?_
        refine V.sub [1, 2, 3, 0] rfl ?_
        exact ih v z2 u13 (z3 + 1) _ hf hk
  have K25 : ∀ (n : Nat) (v : SX8) (z1 : Int32) (z2 : Int32) (u : Int32), fX8_comers_L25 N v n z1 z2 = some u → V p l e (rmz 2 44) s m args below meth c 5 D A 0 0 (MQ below (ok_Q D (wX8 cy a v) (some (.int o)) A) args s 0 0 A) (wX8 cy a v) [(1, .int u)] [] 95 → V p l e (rmz 2 44) s m args below meth c 5 D A 0 0 (MQ below (ok_Q D (wX8 cy a v) (some (.int o)) A) args s 0 0 A) (wX8 cy a v) [(0, .ref (a 0)), (1, .int z1), (2, .int z2)] [] 25 := by
    intro n
    induction n with
    | zero =>
      intro v z1 z2 u hf hk
      exact nomatch (show (none : Option (Int32)) = some u from hf)
    | succ n ih =>
      intro v z1 z2 u hf hk
      rw [fX8_comers_L25] at hf
      refine V_iload_n (pc := 25) F dX8_comers_25 rfl 2 rfl ?_
      refine V_bipush (v := 8) (pc := 26) F dX8_comers_26 (by decide) ?_
      refine V_icmp_ge (pc := 28) (tgt := 95) F dX8_comers_28 (by decide) (fun h4 => ?_) (fun h4 => ?_)
      · replace hf := ite_pos hf h4
        obtain rfl := some_of hf
        exact V.sub [1] rfl hk
      · replace hf := ite_neg hf h4
        refine V_iconst (v := 0) (pc := 31) F dX8_comers_31 (by decide) ?_
        refine V_istore_n (L2 := [(3, .int 0), (0, .ref (a 0)), (1, .int z1), (2, .int z2)]) (pc := 32) F dX8_comers_32 rfl (by decide) rfl ?_
        refine V.sub [1, 2, 3, 0] rfl ?_
        obtain ⟨u15, g16, hf⟩ := bind_of hf
        refine K33 N v z2 z1 0 u15 g16 ?_
        refine V_iinc (v := (z2 + 1)) (L2 := [(2, .int (z2 + 1)), (0, .ref (a 0)), (1, .int u15)]) (pc := 89) F dX8_comers_89 2 rfl rfl (by decide) rfl ?_
        refine V_goto (pc := 92) (tgt := 25) F dX8_comers_92 (by decide) ?_
        refine V.sub [1, 2, 0] rfl ?_
        exact ih v u15 (z2 + 1) _ hf hk
  unfold fX8_comers at hf
  refine V.eq rfl (show lv_args 0 [.ref (a 0)] = [(0, .ref (a 0))] from rfl) rfl ?_
  refine V_aload_n (pc := 0) F dX8_comers_0 rfl 0 rfl ?_
  refine V_get (pc := 1) F 0 8 1 i_X8 rfl (by decide) rfl (mm 1 rfl) dX8_comers_1 rfl rfl ?_
  refine V_iconst (v := 2) (pc := 4) F dX8_comers_4 (by decide) ?_
  obtain ⟨c1, hf⟩ := chk_some hf
  refine V_iald (pc := 5) F 1 rfl c1 dX8_comers_5 ?_
  refine V_iconst (v := (-1)) (pc := 6) F dX8_comers_6 (by decide) ?_
  refine V_icmp_ne (pc := 7) (tgt := 14) F dX8_comers_7 (by decide) (fun h2 => ?_) (fun h2 => ?_)
  · replace hf := ite_neg hf h2
    refine V_iconst (v := 1) (pc := 14) F dX8_comers_14 (by decide) ?_
    refine V_aload_n (pc := 15) F dX8_comers_15 rfl 0 rfl ?_
    refine V_get (pc := 16) F 0 8 1 i_X8 rfl (by decide) rfl (mm 1 rfl) dX8_comers_16 rfl rfl ?_
    refine V_iconst (v := 2) (pc := 19) F dX8_comers_19 (by decide) ?_
    obtain ⟨c3, hf⟩ := chk_some hf
    refine V_iald (pc := 20) F 1 rfl c3 dX8_comers_20 ?_
    refine V_ishl (pc := 21) F dX8_comers_21 ?_
    refine V_istore_n (L2 := [(1, .int ((1 : Int32) <<< ((v.2.1 (2 : Int32).toNatClampNeg) &&& 31))), (0, .ref (a 0))]) (pc := 22) F dX8_comers_22 rfl (by decide) rfl ?_
    refine V_iconst (v := 0) (pc := 23) F dX8_comers_23 (by decide) ?_
    refine V_istore_n (L2 := [(2, .int 0), (1, .int ((1 : Int32) <<< ((v.2.1 (2 : Int32).toNatClampNeg) &&& 31))), (0, .ref (a 0))]) (pc := 24) F dX8_comers_24 rfl (by decide) rfl ?_
    refine V.sub [2, 1, 0] rfl ?_
    obtain ⟨u17, g18, hf⟩ := bind_of hf
    refine K25 N v ((1 : Int32) <<< ((v.2.1 (2 : Int32).toNatClampNeg) &&& 31)) 0 u17 g18 ?_
    refine V_iload_n (pc := 95) F dX8_comers_95 rfl 0 rfl ?_
    obtain rfl := some_of hf
    exact V_ret F rfl rfl dX8_comers_96 rfl rfl
  · replace hf := ite_pos hf h2
    refine V_iconst (v := 0) (pc := 10) F dX8_comers_10 (by decide) ?_
    refine V_goto (pc := 11) (tgt := 22) F dX8_comers_11 (by decide) ?_
    refine V_istore_n (L2 := [(1, .int 0), (0, .ref (a 0))]) (pc := 22) F dX8_comers_22 rfl (by decide) rfl ?_
    refine V_iconst (v := 0) (pc := 23) F dX8_comers_23 (by decide) ?_
    refine V_istore_n (L2 := [(2, .int 0), (1, .int 0), (0, .ref (a 0))]) (pc := 24) F dX8_comers_24 rfl (by decide) rfl ?_
    refine V.sub [2, 1, 0] rfl ?_
    obtain ⟨u19, g20, hf⟩ := bind_of hf
    refine K25 N v 0 0 u19 g20 ?_
    refine V_iload_n (pc := 95) F dX8_comers_95 rfl 0 rfl ?_
    obtain rfl := some_of hf
    exact V_ret F rfl rfl dX8_comers_96 rfl rfl
theorem hd_X8_isSure : yX8_isSure.cls = RX8 ∧ yX8_isSure.cls ≠ "java/lang/invoke/MethodHandle" ∧ yX8_isSure.cls ≠ "java/lang/invoke/VarHandle" ∧ (parseMethodDescriptor yX8_isSure.desc).map (fun d => d.parameters.length) = some 3 := by decide +kernel
def fX8_isSure (N : Nat) (v : SX8) (x1 : Int32) (x2 : Int32) (x3 : Int32) : Option (Int32) :=
  (fX8_askers N v x1 x2).bind fun r1 =>
    if r1 = 0 then
      some 1
    else
      (fX8_askers N v x1 x2).bind fun r4 =>
        if ((r4 >>> (x3 &&& 31)) &&& 1) = 1 then
          some 1
        else
          some 0
set_option maxHeartbeats 8000000 in
set_option maxRecDepth 100000 in
theorem M_X8_isSure (l : Launch) (D : va_G) (cy : Nat → ClassId) (N : Nat) (a : Nat → Nat) (v : SX8) (x1 : Int32) (x2 : Int32) (x3 : Int32) (o : Int32) (hf : fX8_isSure N v x1 x2 x3 = some o) : okM l yX8_isSure wsX8_isSure (rmz 2 44) D cy [.ref (a 0), .int x1, .int x2, .int x3] (wX8 cy a v) (wX8 cy a v) (some (.int o)) := by
  refine okM_of (own := RX8) (nme := "isSure") (cc := cX8_isSure) (maxL := 4) (ret := (some .boolean)) (by decide) rfl rfl rfl (Nat.le_of_ble_eq_true rfl) ?_
  intro p e s m args below meth c A F
  unfold fX8_isSure at hf
  refine V.eq rfl (show lv_args 0 [.ref (a 0), .int x1, .int x2, .int x3] = [(0, .ref (a 0)), (1, .int x1), (2, .int x2), (3, .int x3)] from rfl) rfl ?_
  refine V_aload_n (pc := 0) F dX8_isSure_0 rfl 0 rfl ?_
  refine V_iload_n (pc := 1) F dX8_isSure_1 rfl 1 rfl ?_
  refine V_iload_n (pc := 2) F dX8_isSure_2 rfl 2 rfl ?_
  obtain ⟨r1, g2, hf⟩ := bind_of hf
  refine V_V (w2 := wX8 cy a v) (rest := []) (st2 := [.int r1]) (pc := 3) F 8 (M_X8_askers l D cy N a v x1 x2 r1 g2) (cwV 2 F.ts gX8_isSure_X8_askers rfl rfl rfl hd_X8_askers ⟨Nat.le_of_ble_eq_true rfl, Nat.le_of_ble_eq_true rfl⟩) rfl dX8_isSure_3 Fit.whole rfl rfl rfl (Nat.le_of_ble_eq_true rfl) (Nat.zero_le _) (Nat.zero_le _) rfl rfl rfl ?_
  refine V_if_eq (pc := 6) (tgt := 23) F dX8_isSure_6 (by decide) (fun h3 => ?_) (fun h3 => ?_)
  · replace hf := ite_pos hf h3
    refine V_iconst (v := 1) (pc := 23) F dX8_isSure_23 (by decide) ?_
    refine V_goto (pc := 24) (tgt := 28) F dX8_isSure_24 (by decide) ?_
    obtain rfl := some_of hf
    exact V_ret F rfl rfl dX8_isSure_28 rfl rfl
  · replace hf := ite_neg hf h3
    refine V_aload_n (pc := 9) F dX8_isSure_9 rfl 0 rfl ?_
    refine V_iload_n (pc := 10) F dX8_isSure_10 rfl 1 rfl ?_
    refine V_iload_n (pc := 11) F dX8_isSure_11 rfl 2 rfl ?_
    obtain ⟨r4, g5, hf⟩ := bind_of hf
    refine V_V (w2 := wX8 cy a v) (rest := []) (st2 := [.int r4]) (pc := 12) F 8 (M_X8_askers l D cy N a v x1 x2 r4 g5) (cwV 2 F.ts gX8_isSure_X8_askers rfl rfl rfl hd_X8_askers ⟨Nat.le_of_ble_eq_true rfl, Nat.le_of_ble_eq_true rfl⟩) rfl dX8_isSure_12 Fit.whole rfl rfl rfl (Nat.le_of_ble_eq_true rfl) (Nat.zero_le _) (Nat.zero_le _) rfl rfl rfl ?_
    refine V_iload_n (pc := 15) F dX8_isSure_15 rfl 3 rfl ?_
    refine V_ishr (pc := 16) F dX8_isSure_16 ?_
    refine V_iconst (v := 1) (pc := 17) F dX8_isSure_17 (by decide) ?_
    refine V_iand (pc := 18) F dX8_isSure_18 ?_
    refine V_iconst (v := 1) (pc := 19) F dX8_isSure_19 (by decide) ?_
    refine V_icmp_ne (pc := 20) (tgt := 27) F dX8_isSure_20 (by decide) (fun h6 => ?_) (fun h6 => ?_)
    · replace hf := ite_neg hf h6
      refine V_iconst (v := 0) (pc := 27) F dX8_isSure_27 (by decide) ?_
      obtain rfl := some_of hf
      exact V_ret F rfl rfl dX8_isSure_28 rfl rfl
    · replace hf := ite_pos hf h6
      refine V_iconst (v := 1) (pc := 23) F dX8_isSure_23 (by decide) ?_
      refine V_goto (pc := 24) (tgt := 28) F dX8_isSure_24 (by decide) ?_
      obtain rfl := some_of hf
      exact V_ret F rfl rfl dX8_isSure_28 rfl rfl
theorem hd_X8_canFollow : yX8_canFollow.cls = RX8 ∧ yX8_canFollow.cls ≠ "java/lang/invoke/MethodHandle" ∧ yX8_canFollow.cls ≠ "java/lang/invoke/VarHandle" ∧ (parseMethodDescriptor yX8_canFollow.desc).map (fun d => d.parameters.length) = some 3 := by decide +kernel
def fX8_canFollow_L9 (N : Nat) (v : SX8) (z1 : Int32) (z2 : Int32) (z3 : Int32) : Nat → Int32 → Int32 → Int32 → Option (Int32 × Int32)
  | 0, _, _, _ => none
  | n + 1, z4, z5, z6 =>
    if z2 ≤ z6 then
      some (z4, z5)
    else
      if z5 = 0 then
        (fX8_askers N v z1 z6).bind fun r3 =>
          fX8_canFollow_L9 N v z1 z2 z3 n (z4 ||| r3) 0 (z6 + 1)
      else
        (fX8_isSure N v z1 z6 z3).bind fun r5 =>
          if r5 = 0 then
            (fX8_askers N v z1 z6).bind fun r10 =>
              fX8_canFollow_L9 N v z1 z2 z3 n (z4 ||| r10) 1 (z6 + 1)
          else
            (fX8_askers N v z1 z6).bind fun r8 =>
              fX8_canFollow_L9 N v z1 z2 z3 n (z4 ||| r8) 0 (z6 + 1)
def fX8_canFollow (N : Nat) (v : SX8) (x1 : Int32) (x2 : Int32) (x3 : Int32) : Option (Int32) :=
  (fX8_canFollow_L9 N v x1 x2 x3 N 0 1 0).bind fun u12 =>
    if u12.2 = 0 then
      some 0
    else
      (fX8_isSure N v x1 x2 x3).bind fun r15 =>
        if r15 = 0 then
          (fX8_askers N v x1 x2).bind fun r18 =>
            if (r18 &&& (u12.1 ^^^ (-1))) = 0 then
              some 0
            else
              some 1
        else
          some 1
set_option maxHeartbeats 8000000 in
set_option maxRecDepth 100000 in
theorem M_X8_canFollow (l : Launch) (D : va_G) (cy : Nat → ClassId) (N : Nat) (a : Nat → Nat) (v : SX8) (x1 : Int32) (x2 : Int32) (x3 : Int32) (o : Int32) (hf : fX8_canFollow N v x1 x2 x3 = some o) : okM l yX8_canFollow wsX8_canFollow (rmz 3 67) D cy [.ref (a 0), .int x1, .int x2, .int x3] (wX8 cy a v) (wX8 cy a v) (some (.int o)) := by
  refine okM_of (own := RX8) (nme := "canFollow") (cc := cX8_canFollow) (maxL := 7) (ret := (some .boolean)) (by decide) rfl rfl rfl (Nat.le_of_ble_eq_true rfl) ?_
  intro p e s m args below meth c A F
  have K9 : ∀ (n : Nat) (v : SX8) (z1 : Int32) (z2 : Int32) (z3 : Int32) (z4 : Int32) (z5 : Int32) (z6 : Int32) (u : Int32 × Int32), fX8_canFollow_L9 N v z1 z2 z3 n z4 z5 z6 = some u → V p l e (rmz 3 67) s m args below meth c 7 D A 0 0 (MQ below (ok_Q D (wX8 cy a v) (some (.int o)) A) args s 0 0 A) (wX8 cy a v) [(0, .ref (a 0)), (1, .int z1), (2, .int z2), (3, .int z3), (4, .int u.1), (5, .int u.2)] [] 56 → V p l e (rmz 3 67) s m args below meth c 7 D A 0 0 (MQ below (ok_Q D (wX8 cy a v) (some (.int o)) A) args s 0 0 A) (wX8 cy a v) [(0, .ref (a 0)), (1, .int z1), (2, .int z2), (3, .int z3), (4, .int z4), (5, .int z5), (6, .int z6)] [] 9 := by
    intro n
    induction n with
    | zero =>
      intro v z1 z2 z3 z4 z5 z6 u hf hk
      exact nomatch (show (none : Option (Int32 × Int32)) = some u from hf)
    | succ n ih =>
      intro v z1 z2 z3 z4 z5 z6 u hf hk
      rw [fX8_canFollow_L9] at hf
      refine V_iload (pc := 9) F dX8_canFollow_9 6 rfl ?_
      refine V_iload_n (pc := 11) F dX8_canFollow_11 rfl 2 rfl ?_
      refine V_icmp_ge (pc := 12) (tgt := 56) F dX8_canFollow_12 (by decide) (fun h1 => ?_) (fun h1 => ?_)
      · replace hf := ite_pos hf h1
        obtain rfl := some_of hf
        exact V.sub [0, 1, 2, 3, 4, 5] rfl hk
      · replace hf := ite_neg hf h1
        refine V_iload (pc := 15) F dX8_canFollow_15 5 rfl ?_
        refine V_if_eq (pc := 17) (tgt := 35) F dX8_canFollow_17 (by decide) (fun h2 => ?_) (fun h2 => ?_)
        · replace hf := ite_pos hf h2
          refine V_iconst (v := 0) (pc := 35) F dX8_canFollow_35 (by decide) ?_
          refine V_istore (L2 := [(5, .int 0), (0, .ref (a 0)), (1, .int z1), (2, .int z2), (3, .int z3), (4, .int z4), (6, .int z6)]) (pc := 36) F dX8_canFollow_36 (by decide) rfl ?_
          refine V_iload (pc := 38) F dX8_canFollow_38 5 rfl ?_
          refine V_aload_n (pc := 40) F dX8_canFollow_40 rfl 1 rfl ?_
          refine V_iload_n (pc := 41) F dX8_canFollow_41 rfl 2 rfl ?_
          refine V_iload (pc := 42) F dX8_canFollow_42 6 rfl ?_
          obtain ⟨r3, g4, hf⟩ := bind_of hf
          refine V_V (w2 := wX8 cy a v) (rest := [.int z4]) (st2 := [.int r3, .int z4]) (pc := 44) F 8 (M_X8_askers l D cy N a v z1 z6 r3 g4) (cwV 2 F.ts gX8_canFollow_X8_askers rfl rfl rfl hd_X8_askers ⟨Nat.le_of_ble_eq_true rfl, Nat.le_of_ble_eq_true rfl⟩) rfl dX8_canFollow_44 Fit.whole rfl rfl rfl (Nat.le_of_ble_eq_true rfl) (Nat.zero_le _) (Nat.zero_le _) rfl rfl rfl ?_
          refine V_ior (pc := 47) F dX8_canFollow_47 ?_
          refine V_istore (L2 := [(4, .int (z4 ||| r3)), (5, .int 0), (0, .ref (a 0)), (1, .int z1), (2, .int z2), (3, .int z3), (6, .int z6)]) (pc := 48) F dX8_canFollow_48 (by decide) rfl ?_
          refine V_iinc (v := (z6 + 1)) (L2 := [(6, .int (z6 + 1)), (4, .int (z4 ||| r3)), (5, .int 0), (0, .ref (a 0)), (1, .int z1), (2, .int z2), (3, .int z3)]) (pc := 50) F dX8_canFollow_50 6 rfl rfl (by decide) rfl ?_
          refine V_goto (pc := 53) (tgt := 9) F dX8_canFollow_53 (by decide) ?_
          refine V.sub [3, 4, 5, 6, 1, 2, 0] rfl ?_
          exact ih v z1 z2 z3 (z4 ||| r3) 0 (z6 + 1) _ hf hk
        · replace hf := ite_neg hf h2
          refine V_aload_n (pc := 20) F dX8_canFollow_20 rfl 0 rfl ?_
          refine V_iload_n (pc := 21) F dX8_canFollow_21 rfl 1 rfl ?_
          refine V_iload (pc := 22) F dX8_canFollow_22 6 rfl ?_
          refine V_iload_n (pc := 24) F dX8_canFollow_24 rfl 3 rfl ?_
          obtain ⟨r5, g6, hf⟩ := bind_of hf
          refine V_V (w2 := wX8 cy a v) (rest := []) (st2 := [.int r5]) (pc := 25) F 8 (M_X8_isSure l D cy N a v z1 z6 z3 r5 g6) (cwV 3 F.ts gX8_canFollow_X8_isSure rfl rfl rfl hd_X8_isSure ⟨Nat.le_of_ble_eq_true rfl, Nat.le_of_ble_eq_true rfl⟩) rfl dX8_canFollow_25 Fit.whole rfl rfl rfl (Nat.le_of_ble_eq_true rfl) (Nat.zero_le _) (Nat.zero_le _) rfl rfl rfl ?_
          refine V_if_ne (pc := 28) (tgt := 35) F dX8_canFollow_28 (by decide) (fun h7 => ?_) (fun h7 => ?_)
          · replace hf := ite_neg hf h7
            refine V_iconst (v := 0) (pc := 35) F dX8_canFollow_35 (by decide) ?_
            refine V_istore (L2 := [(5, .int 0), (0, .ref (a 0)), (1, .int z1), (2, .int z2), (3, .int z3), (4, .int z4), (6, .int z6)]) (pc := 36) F dX8_canFollow_36 (by decide) rfl ?_
            refine V_iload (pc := 38) F dX8_canFollow_38 5 rfl ?_
            refine V_aload_n (pc := 40) F dX8_canFollow_40 rfl 1 rfl ?_
            refine V_iload_n (pc := 41) F dX8_canFollow_41 rfl 2 rfl ?_
            refine V_iload (pc := 42) F dX8_canFollow_42 6 rfl ?_
            obtain ⟨r8, g9, hf⟩ := bind_of hf
            refine V_V (w2 := wX8 cy a v) (rest := [.int z4]) (st2 := [.int r8, .int z4]) (pc := 44) F 8 (M_X8_askers l D cy N a v z1 z6 r8 g9) (cwV 2 F.ts gX8_canFollow_X8_askers rfl rfl rfl hd_X8_askers ⟨Nat.le_of_ble_eq_true rfl, Nat.le_of_ble_eq_true rfl⟩) rfl dX8_canFollow_44 Fit.whole rfl rfl rfl (Nat.le_of_ble_eq_true rfl) (Nat.zero_le _) (Nat.zero_le _) rfl rfl rfl ?_
            refine V_ior (pc := 47) F dX8_canFollow_47 ?_
            refine V_istore (L2 := [(4, .int (z4 ||| r8)), (5, .int 0), (0, .ref (a 0)), (1, .int z1), (2, .int z2), (3, .int z3), (6, .int z6)]) (pc := 48) F dX8_canFollow_48 (by decide) rfl ?_
            refine V_iinc (v := (z6 + 1)) (L2 := [(6, .int (z6 + 1)), (4, .int (z4 ||| r8)), (5, .int 0), (0, .ref (a 0)), (1, .int z1), (2, .int z2), (3, .int z3)]) (pc := 50) F dX8_canFollow_50 6 rfl rfl (by decide) rfl ?_
            refine V_goto (pc := 53) (tgt := 9) F dX8_canFollow_53 (by decide) ?_
            refine V.sub [3, 4, 5, 6, 1, 2, 0] rfl ?_
            exact ih v z1 z2 z3 (z4 ||| r8) 0 (z6 + 1) _ hf hk
          · replace hf := ite_pos hf h7
            refine V_iconst (v := 1) (pc := 31) F dX8_canFollow_31 (by decide) ?_
            refine V_goto (pc := 32) (tgt := 36) F dX8_canFollow_32 (by decide) ?_
            refine V_istore (L2 := [(5, .int 1), (0, .ref (a 0)), (1, .int z1), (2, .int z2), (3, .int z3), (4, .int z4), (6, .int z6)]) (pc := 36) F dX8_canFollow_36 (by decide) rfl ?_
            refine V_iload (pc := 38) F dX8_canFollow_38 5 rfl ?_
            refine V_aload_n (pc := 40) F dX8_canFollow_40 rfl 1 rfl ?_
            refine V_iload_n (pc := 41) F dX8_canFollow_41 rfl 2 rfl ?_
            refine V_iload (pc := 42) F dX8_canFollow_42 6 rfl ?_
            obtain ⟨r10, g11, hf⟩ := bind_of hf
            refine V_V (w2 := wX8 cy a v) (rest := [.int z4]) (st2 := [.int r10, .int z4]) (pc := 44) F 8 (M_X8_askers l D cy N a v z1 z6 r10 g11) (cwV 2 F.ts gX8_canFollow_X8_askers rfl rfl rfl hd_X8_askers ⟨Nat.le_of_ble_eq_true rfl, Nat.le_of_ble_eq_true rfl⟩) rfl dX8_canFollow_44 Fit.whole rfl rfl rfl (Nat.le_of_ble_eq_true rfl) (Nat.zero_le _) (Nat.zero_le _) rfl rfl rfl ?_
            refine V_ior (pc := 47) F dX8_canFollow_47 ?_
            refine V_istore (L2 := [(4, .int (z4 ||| r10)), (5, .int 1), (0, .ref (a 0)), (1, .int z1), (2, .int z2), (3, .int z3), (6, .int z6)]) (pc := 48) F dX8_canFollow_48 (by decide) rfl ?_
            refine V_iinc (v := (z6 + 1)) (L2 := [(6, .int (z6 + 1)), (4, .int (z4 ||| r10)), (5, .int 1), (0, .ref (a 0)), (1, .int z1), (2, .int z2), (3, .int z3)]) (pc := 50) F dX8_canFollow_50 6 rfl rfl (by decide) rfl ?_
            refine V_goto (pc := 53) (tgt := 9) F dX8_canFollow_53 (by decide) ?_
            refine V.sub [3, 4, 5, 6, 1, 2, 0] rfl ?_
            exact ih v z1 z2 z3 (z4 ||| r10) 1 (z6 + 1) _ hf hk
  unfold fX8_canFollow at hf
  refine V.eq rfl (show lv_args 0 [.ref (a 0), .int x1, .int x2, .int x3] = [(0, .ref (a 0)), (1, .int x1), (2, .int x2), (3, .int x3)] from rfl) rfl ?_
  refine V_iconst (v := 0) (pc := 0) F dX8_canFollow_0 (by decide) ?_
  refine V_istore (L2 := [(4, .int 0), (0, .ref (a 0)), (1, .int x1), (2, .int x2), (3, .int x3)]) (pc := 1) F dX8_canFollow_1 (by decide) rfl ?_
  refine V_iconst (v := 1) (pc := 3) F dX8_canFollow_3 (by decide) ?_
  refine V_istore (L2 := [(5, .int 1), (4, .int 0), (0, .ref (a 0)), (1, .int x1), (2, .int x2), (3, .int x3)]) (pc := 4) F dX8_canFollow_4 (by decide) rfl ?_
  refine V_iconst (v := 0) (pc := 6) F dX8_canFollow_6 (by decide) ?_
  refine V_istore (L2 := [(6, .int 0), (5, .int 1), (4, .int 0), (0, .ref (a 0)), (1, .int x1), (2, .int x2), (3, .int x3)]) (pc := 7) F dX8_canFollow_7 (by decide) rfl ?_
  refine V.sub [3, 4, 5, 6, 2, 1, 0] rfl ?_
  obtain ⟨u12, g13, hf⟩ := bind_of hf
  refine K9 N v x1 x2 x3 0 1 0 u12 g13 ?_
  refine V_iload (pc := 56) F dX8_canFollow_56 5 rfl ?_
  refine V_if_eq (pc := 58) (tgt := 89) F dX8_canFollow_58 (by decide) (fun h14 => ?_) (fun h14 => ?_)
  · replace hf := ite_pos hf h14
    refine V_iconst (v := 0) (pc := 89) F dX8_canFollow_89 (by decide) ?_
    obtain rfl := some_of hf
    exact V_ret F rfl rfl dX8_canFollow_90 rfl rfl
  · replace hf := ite_neg hf h14
    refine V_aload_n (pc := 61) F dX8_canFollow_61 rfl 0 rfl ?_
    refine V_iload_n (pc := 62) F dX8_canFollow_62 rfl 1 rfl ?_
    refine V_iload_n (pc := 63) F dX8_canFollow_63 rfl 2 rfl ?_
    refine V_iload_n (pc := 64) F dX8_canFollow_64 rfl 3 rfl ?_
    obtain ⟨r15, g16, hf⟩ := bind_of hf
    refine V_V (w2 := wX8 cy a v) (rest := []) (st2 := [.int r15]) (pc := 65) F 8 (M_X8_isSure l D cy N a v x1 x2 x3 r15 g16) (cwV 3 F.ts gX8_canFollow_X8_isSure rfl rfl rfl hd_X8_isSure ⟨Nat.le_of_ble_eq_true rfl, Nat.le_of_ble_eq_true rfl⟩) rfl dX8_canFollow_65 Fit.whole rfl rfl rfl (Nat.le_of_ble_eq_true rfl) (Nat.zero_le _) (Nat.zero_le _) rfl rfl rfl ?_
    refine V_if_ne (pc := 68) (tgt := 85) F dX8_canFollow_68 (by decide) (fun h17 => ?_) (fun h17 => ?_)
    · replace hf := ite_neg hf h17
      refine V_iconst (v := 1) (pc := 85) F dX8_canFollow_85 (by decide) ?_
      refine V_goto (pc := 86) (tgt := 90) F dX8_canFollow_86 (by decide) ?_
      obtain rfl := some_of hf
      exact V_ret F rfl rfl dX8_canFollow_90 rfl rfl
    · replace hf := ite_pos hf h17
      refine V_aload_n (pc := 71) F dX8_canFollow_71 rfl 0 rfl ?_
      refine V_iload_n (pc := 72) F dX8_canFollow_72 rfl 1 rfl ?_
      refine V_iload_n (pc := 73) F dX8_canFollow_73 rfl 2 rfl ?_
      obtain ⟨r18, g19, hf⟩ := bind_of hf
      refine V_V (w2 := wX8 cy a v) (rest := []) (st2 := [.int r18]) (pc := 74) F 8 (M_X8_askers l D cy N a v x1 x2 r18 g19) (cwV 2 F.ts gX8_canFollow_X8_askers rfl rfl rfl hd_X8_askers ⟨Nat.le_of_ble_eq_true rfl, Nat.le_of_ble_eq_true rfl⟩) rfl dX8_canFollow_74 Fit.whole rfl rfl rfl (Nat.le_of_ble_eq_true rfl) (Nat.zero_le _) (Nat.zero_le _) rfl rfl rfl ?_
      refine V_iload (pc := 77) F dX8_canFollow_77 4 rfl ?_
      refine V_iconst (v := (-1)) (pc := 79) F dX8_canFollow_79 (by decide) ?_
      refine V_ixor (pc := 80) F dX8_canFollow_80 ?_
      refine V_iand (pc := 81) F dX8_canFollow_81 ?_
      refine V_if_eq (pc := 82) (tgt := 89) F dX8_canFollow_82 (by decide) (fun h20 => ?_) (fun h20 => ?_)
      · replace hf := ite_pos hf h20
        refine V_iconst (v := 0) (pc := 89) F dX8_canFollow_89 (by decide) ?_
        obtain rfl := some_of hf
        exact V_ret F rfl rfl dX8_canFollow_90 rfl rfl
      · replace hf := ite_neg hf h20
        refine V_iconst (v := 1) (pc := 85) F dX8_canFollow_85 (by decide) ?_
        refine V_goto (pc := 86) (tgt := 90) F dX8_canFollow_86 (by decide) ?_
        obtain rfl := some_of hf
        exact V_ret F rfl rfl dX8_canFollow_90 rfl rfl
theorem hd_X8_canStay : yX8_canStay.cls = RX8 ∧ yX8_canStay.cls ≠ "java/lang/invoke/MethodHandle" ∧ yX8_canStay.cls ≠ "java/lang/invoke/VarHandle" ∧ (parseMethodDescriptor yX8_canStay.desc).map (fun d => d.parameters.length) = some 2 := by decide +kernel
def fX8_canStay_L5 (N : Nat) (v : SX8) (z1 : Int32) (z2 : Int32) : Nat → Int32 → Int32 → Option (Int32)
  | 0, _, _ => none
  | n + 1, z3, z4 =>
    (fX8_rules N v z1).bind fun r1 =>
      if r1 ≤ z4 then
        some z3
      else
        if z3 = 0 then
          fX8_canStay_L5 N v z1 z2 n 0 (z4 + 1)
        else
          (fX8_isSure N v z1 z4 z2).bind fun r5 =>
            if r5 = 0 then
              fX8_canStay_L5 N v z1 z2 n 1 (z4 + 1)
            else
              fX8_canStay_L5 N v z1 z2 n 0 (z4 + 1)
def fX8_canStay (N : Nat) (v : SX8) (x1 : Int32) (x2 : Int32) : Option (Int32) :=
  (fX8_canStay_L5 N v x1 x2 N 1 0).bind fun u8 =>
    must (decide (u8 = 0 ∨ u8 = 1)) (
      some u8
    )
set_option maxHeartbeats 8000000 in
set_option maxRecDepth 100000 in
theorem M_X8_canStay (l : Launch) (D : va_G) (cy : Nat → ClassId) (N : Nat) (a : Nat → Nat) (v : SX8) (x1 : Int32) (x2 : Int32) (o : Int32) (hf : fX8_canStay N v x1 x2 = some o) : okM l yX8_canStay wsX8_canStay (rmz 3 67) D cy [.ref (a 0), .int x1, .int x2] (wX8 cy a v) (wX8 cy a v) (some (.int o)) := by
  refine okM_of (own := RX8) (nme := "canStay") (cc := cX8_canStay) (maxL := 5) (ret := (some .boolean)) (by decide) rfl rfl rfl (Nat.le_of_ble_eq_true rfl) ?_
  intro p e s m args below meth c A F
  have K5 : ∀ (n : Nat) (v : SX8) (z1 : Int32) (z2 : Int32) (z3 : Int32) (z4 : Int32) (u : Int32), fX8_canStay_L5 N v z1 z2 n z3 z4 = some u → V p l e (rmz 3 67) s m args below meth c 5 D A 0 0 (MQ below (ok_Q D (wX8 cy a v) (some (.int o)) A) args s 0 0 A) (wX8 cy a v) [(3, .int u)] [] 42 → V p l e (rmz 3 67) s m args below meth c 5 D A 0 0 (MQ below (ok_Q D (wX8 cy a v) (some (.int o)) A) args s 0 0 A) (wX8 cy a v) [(0, .ref (a 0)), (1, .int z1), (2, .int z2), (3, .int z3), (4, .int z4)] [] 5 := by
    intro n
    induction n with
    | zero =>
      intro v z1 z2 z3 z4 u hf hk
      exact nomatch (show (none : Option (Int32)) = some u from hf)
    | succ n ih =>
      intro v z1 z2 z3 z4 u hf hk
      rw [fX8_canStay_L5] at hf
      refine V_iload (pc := 5) F dX8_canStay_5 4 rfl ?_
      refine V_aload_n (pc := 7) F dX8_canStay_7 rfl 0 rfl ?_
      refine V_iload_n (pc := 8) F dX8_canStay_8 rfl 1 rfl ?_
      obtain ⟨r1, g2, hf⟩ := bind_of hf
      refine V_V (w2 := wX8 cy a v) (rest := [.int z4]) (st2 := [.int r1, .int z4]) (pc := 9) F 8 (M_X8_rules l D cy N a v z1 r1 g2) (cwV 1 F.ts gX8_canStay_X8_rules rfl rfl rfl hd_X8_rules ⟨Nat.le_of_ble_eq_true rfl, Nat.le_of_ble_eq_true rfl⟩) rfl dX8_canStay_9 Fit.whole rfl rfl rfl (Nat.le_of_ble_eq_true rfl) (Nat.zero_le _) (Nat.zero_le _) rfl rfl rfl ?_
      refine V_icmp_ge (pc := 12) (tgt := 42) F dX8_canStay_12 (by decide) (fun h3 => ?_) (fun h3 => ?_)
      · replace hf := ite_pos hf h3
        obtain rfl := some_of hf
        exact V.sub [3] rfl hk
      · replace hf := ite_neg hf h3
        refine V_iload_n (pc := 15) F dX8_canStay_15 rfl 3 rfl ?_
        refine V_if_eq (pc := 16) (tgt := 34) F dX8_canStay_16 (by decide) (fun h4 => ?_) (fun h4 => ?_)
        · replace hf := ite_pos hf h4
          refine V_iconst (v := 0) (pc := 34) F dX8_canStay_34 (by decide) ?_
          refine V_istore_n (L2 := [(3, .int 0), (0, .ref (a 0)), (1, .int z1), (2, .int z2), (4, .int z4)]) (pc := 35) F dX8_canStay_35 rfl (by decide) rfl ?_
          refine V_iinc (v := (z4 + 1)) (L2 := [(4, .int (z4 + 1)), (3, .int 0), (0, .ref (a 0)), (1, .int z1), (2, .int z2)]) (pc := 36) F dX8_canStay_36 4 rfl rfl (by decide) rfl ?_
          refine V_goto (pc := 39) (tgt := 5) F dX8_canStay_39 (by decide) ?_
          refine V.sub [2, 3, 4, 1, 0] rfl ?_
          exact ih v z1 z2 0 (z4 + 1) _ hf hk
        · replace hf := ite_neg hf h4
          refine V_aload_n (pc := 19) F dX8_canStay_19 rfl 0 rfl ?_
          refine V_iload_n (pc := 20) F dX8_canStay_20 rfl 1 rfl ?_
          refine V_iload (pc := 21) F dX8_canStay_21 4 rfl ?_
          refine V_iload_n (pc := 23) F dX8_canStay_23 rfl 2 rfl ?_
          obtain ⟨r5, g6, hf⟩ := bind_of hf
          refine V_V (w2 := wX8 cy a v) (rest := []) (st2 := [.int r5]) (pc := 24) F 8 (M_X8_isSure l D cy N a v z1 z4 z2 r5 g6) (cwV 3 F.ts gX8_canStay_X8_isSure rfl rfl rfl hd_X8_isSure ⟨Nat.le_of_ble_eq_true rfl, Nat.le_of_ble_eq_true rfl⟩) rfl dX8_canStay_24 Fit.whole rfl rfl rfl (Nat.le_of_ble_eq_true rfl) (Nat.zero_le _) (Nat.zero_le _) rfl rfl rfl ?_
          refine V_if_ne (pc := 27) (tgt := 34) F dX8_canStay_27 (by decide) (fun h7 => ?_) (fun h7 => ?_)
          · replace hf := ite_neg hf h7
            refine V_iconst (v := 0) (pc := 34) F dX8_canStay_34 (by decide) ?_
            refine V_istore_n (L2 := [(3, .int 0), (0, .ref (a 0)), (1, .int z1), (2, .int z2), (4, .int z4)]) (pc := 35) F dX8_canStay_35 rfl (by decide) rfl ?_
            refine V_iinc (v := (z4 + 1)) (L2 := [(4, .int (z4 + 1)), (3, .int 0), (0, .ref (a 0)), (1, .int z1), (2, .int z2)]) (pc := 36) F dX8_canStay_36 4 rfl rfl (by decide) rfl ?_
            refine V_goto (pc := 39) (tgt := 5) F dX8_canStay_39 (by decide) ?_
            refine V.sub [2, 3, 4, 1, 0] rfl ?_
            exact ih v z1 z2 0 (z4 + 1) _ hf hk
          · replace hf := ite_pos hf h7
            refine V_iconst (v := 1) (pc := 30) F dX8_canStay_30 (by decide) ?_
            refine V_goto (pc := 31) (tgt := 35) F dX8_canStay_31 (by decide) ?_
            refine V_istore_n (L2 := [(3, .int 1), (0, .ref (a 0)), (1, .int z1), (2, .int z2), (4, .int z4)]) (pc := 35) F dX8_canStay_35 rfl (by decide) rfl ?_
            refine V_iinc (v := (z4 + 1)) (L2 := [(4, .int (z4 + 1)), (3, .int 1), (0, .ref (a 0)), (1, .int z1), (2, .int z2)]) (pc := 36) F dX8_canStay_36 4 rfl rfl (by decide) rfl ?_
            refine V_goto (pc := 39) (tgt := 5) F dX8_canStay_39 (by decide) ?_
            refine V.sub [2, 3, 4, 1, 0] rfl ?_
            exact ih v z1 z2 1 (z4 + 1) _ hf hk
  unfold fX8_canStay at hf
  refine V.eq rfl (show lv_args 0 [.ref (a 0), .int x1, .int x2] = [(0, .ref (a 0)), (1, .int x1), (2, .int x2)] from rfl) rfl ?_
  refine V_iconst (v := 1) (pc := 0) F dX8_canStay_0 (by decide) ?_
  refine V_istore_n (L2 := [(3, .int 1), (0, .ref (a 0)), (1, .int x1), (2, .int x2)]) (pc := 1) F dX8_canStay_1 rfl (by decide) rfl ?_
  refine V_iconst (v := 0) (pc := 2) F dX8_canStay_2 (by decide) ?_
  refine V_istore (L2 := [(4, .int 0), (3, .int 1), (0, .ref (a 0)), (1, .int x1), (2, .int x2)]) (pc := 3) F dX8_canStay_3 (by decide) rfl ?_
  refine V.sub [2, 3, 4, 1, 0] rfl ?_
  obtain ⟨u8, g9, hf⟩ := bind_of hf
  refine K5 N v x1 x2 1 0 u8 g9 ?_
  refine V_iload_n (pc := 42) F dX8_canStay_42 rfl 0 rfl ?_
  obtain ⟨c10, hf⟩ := must_some hf
  obtain rfl := some_of hf
  exact V_ret F rfl (nar_bool (of_decide_eq_true c10)) dX8_canStay_43 rfl rfl
theorem hd_X8_reached : yX8_reached.cls = RX8 ∧ yX8_reached.cls ≠ "java/lang/invoke/MethodHandle" ∧ yX8_reached.cls ≠ "java/lang/invoke/VarHandle" ∧ (parseMethodDescriptor yX8_reached.desc).map (fun d => d.parameters.length) = some 2 := by decide +kernel
def fX8_reached_L32 (N : Nat) (v : SX8) (z2 : Int32) (z3 : Int32) (z4 : Int32) (z6 : Int32) : Nat → Int32 → Int32 → Option (Int32)
  | 0, _, _ => none
  | n + 1, z5, z7 =>
    (fX8_rules N v z6).bind fun r4 =>
      if r4 ≤ z7 then
        some z5
      else
        if ((z4 >>> (z6 &&& 31)) &&& 1) = 1 then
          (fX8_canFollow N v z6 z7 z2).bind fun r8 =>
            if r8 = 0 then
              fX8_reached_L32 N v z2 z3 z4 z6 n (z5 ||| 0) (z7 + 1)
            else
              (fX8_goal N v z6 z7).bind fun r11 =>
                (fX8_hasGreen N v r11 z2).bind fun r13 =>
                  if r13 = 0 then
                    (fX8_goal N v z6 z7).bind fun r16 =>
                      fX8_reached_L32 N v z2 z3 z4 z6 n (z5 ||| ((1 : Int32) <<< (r16 &&& 31))) (z7 + 1)
                  else
                    fX8_reached_L32 N v z2 z3 z4 z6 n (z5 ||| 0) (z7 + 1)
        else
          some z5
def fX8_reached_L18 (N : Nat) (v : SX8) (z2 : Int32) (z3 : Int32) (z4 : Int32) : Nat → Int32 → Int32 → Option (Int32)
  | 0, _, _ => none
  | n + 1, z5, z6 =>
    chk 0 143 (
      if (v.2.1 (0 : Int32).toNatClampNeg) ≤ z6 then
        some z5
      else
        (fX8_reached_L32 N v z2 z3 z4 z6 N z5 0).bind fun u18 =>
          fX8_reached_L18 N v z2 z3 z4 n u18 (z6 + 1)
    )
def fX8_reached_L7 (N : Nat) (v : SX8) (z2 : Int32) : Nat → Int32 → Int32 → Option (Int32)
  | 0, _, _ => none
  | n + 1, z3, z4 =>
    if z4 = 0 then
      some z3
    else
      (fX8_reached_L18 N v z2 z3 z4 N 0 0).bind fun u20 =>
        fX8_reached_L7 N v z2 n (z3 ||| u20) (u20 &&& (z3 ^^^ (-1)))
def fX8_reached (N : Nat) (v : SX8) (x1 : Int32) (x2 : Int32) : Option (Int32) :=
  (fX8_reached_L7 N v x2 N 0 ((1 : Int32) <<< (x1 &&& 31))).bind fun u22 =>
    some u22
set_option maxHeartbeats 8000000 in
set_option maxRecDepth 100000 in
theorem M_X8_reached (l : Launch) (D : va_G) (cy : Nat → ClassId) (N : Nat) (a : Nat → Nat) (v : SX8) (x1 : Int32) (x2 : Int32) (o : Int32) (hf : fX8_reached N v x1 x2 = some o) : okM l yX8_reached wsX8_reached (rmz 4 93) D cy [.ref (a 0), .int x1, .int x2] (wX8 cy a v) (wX8 cy a v) (some (.int o)) := by
  refine okM_of (own := RX8) (nme := "reached") (cc := cX8_reached) (maxL := 8) (ret := (some .int)) (by decide) rfl rfl rfl (Nat.le_of_ble_eq_true rfl) ?_
  intro p e s m args below meth c A F
  have i_X8 : ∀ w ∈ u_ws RX8 TX8 13, w ∈ wsX8_reached := fun _ h => List.mem_cons_of_mem _ (List.mem_append_right _ h)
  have K32 : ∀ (n : Nat) (v : SX8) (z2 : Int32) (z3 : Int32) (z4 : Int32) (z6 : Int32) (z5 : Int32) (z7 : Int32) (u : Int32), fX8_reached_L32 N v z2 z3 z4 z6 n z5 z7 = some u → V p l e (rmz 4 93) s m args below meth c 8 D A 0 0 (MQ below (ok_Q D (wX8 cy a v) (some (.int o)) A) args s 0 0 A) (wX8 cy a v) [(0, .ref (a 0)), (2, .int z2), (3, .int z3), (4, .int z4), (5, .int u), (6, .int z6)] [] 107 → V p l e (rmz 4 93) s m args below meth c 8 D A 0 0 (MQ below (ok_Q D (wX8 cy a v) (some (.int o)) A) args s 0 0 A) (wX8 cy a v) [(0, .ref (a 0)), (2, .int z2), (3, .int z3), (4, .int z4), (5, .int z5), (6, .int z6), (7, .int z7)] [] 32 := by
    intro n
    induction n with
    | zero =>
      intro v z2 z3 z4 z6 z5 z7 u hf hk
      exact nomatch (show (none : Option (Int32)) = some u from hf)
    | succ n ih =>
      intro v z2 z3 z4 z6 z5 z7 u hf hk
      rw [fX8_reached_L32] at hf
      refine V_iload (pc := 32) F dX8_reached_32 6 rfl ?_
      refine V_aload_n (pc := 34) F dX8_reached_34 rfl 0 rfl ?_
      refine V_iload (pc := 35) F dX8_reached_35 5 rfl ?_
      obtain ⟨r4, g5, hf⟩ := bind_of hf
      refine V_V (w2 := wX8 cy a v) (rest := [.int z7]) (st2 := [.int r4, .int z7]) (pc := 37) F 8 (M_X8_rules l D cy N a v z6 r4 g5) (cwV 1 F.ts gX8_reached_X8_rules rfl rfl rfl hd_X8_rules ⟨Nat.le_of_ble_eq_true rfl, Nat.le_of_ble_eq_true rfl⟩) rfl dX8_reached_37 Fit.whole rfl rfl rfl (Nat.le_of_ble_eq_true rfl) (Nat.zero_le _) (Nat.zero_le _) rfl rfl rfl ?_
      refine V_icmp_ge (pc := 40) (tgt := 107) F dX8_reached_40 (by decide) (fun h6 => ?_) (fun h6 => ?_)
      · replace hf := ite_pos hf h6
        obtain rfl := some_of hf
        exact V.sub [0, 1, 2, 3, 4, 5] rfl hk
      · replace hf := ite_neg hf h6
        refine V_iload (pc := 43) F dX8_reached_43 3 rfl ?_
        refine V_iload (pc := 45) F dX8_reached_45 5 rfl ?_
        refine V_ishr (pc := 47) F dX8_reached_47 ?_
        refine V_iconst (v := 1) (pc := 48) F dX8_reached_48 (by decide) ?_
        refine V_iand (pc := 49) F dX8_reached_49 ?_
        refine V_iconst (v := 1) (pc := 50) F dX8_reached_50 (by decide) ?_
        refine V_icmp_ne (pc := 51) (tgt := 107) F dX8_reached_51 (by decide) (fun h7 => ?_) (fun h7 => ?_)
        · replace hf := ite_neg hf h7
          obtain rfl := some_of hf
          exact V.sub [0, 1, 2, 3, 4, 5] rfl hk
        · replace hf := ite_pos hf h7
          refine V_iload (pc := 54) F dX8_reached_54 4 rfl ?_
          refine V_aload_n (pc := 56) F dX8_reached_56 rfl 0 rfl ?_
          refine V_iload (pc := 57) F dX8_reached_57 5 rfl ?_
          refine V_iload (pc := 59) F dX8_reached_59 6 rfl ?_
          refine V_iload_n (pc := 61) F dX8_reached_61 rfl 1 rfl ?_
          obtain ⟨r8, g9, hf⟩ := bind_of hf
          refine V_V (w2 := wX8 cy a v) (rest := [.int z5]) (st2 := [.int r8, .int z5]) (pc := 62) F 8 (M_X8_canFollow l D cy N a v z6 z7 z2 r8 g9) (cwV 3 F.ts gX8_reached_X8_canFollow rfl rfl rfl hd_X8_canFollow ⟨Nat.le_of_ble_eq_true rfl, Nat.le_of_ble_eq_true rfl⟩) rfl dX8_reached_62 Fit.whole rfl rfl rfl (Nat.le_of_ble_eq_true rfl) (Nat.zero_le _) (Nat.zero_le _) rfl rfl rfl ?_
          refine V_if_eq (pc := 65) (tgt := 97) F dX8_reached_65 (by decide) (fun h10 => ?_) (fun h10 => ?_)
          · replace hf := ite_pos hf h10
            refine V_iconst (v := 0) (pc := 97) F dX8_reached_97 (by decide) ?_
            refine V_ior (pc := 98) F dX8_reached_98 ?_
            refine V_istore (L2 := [(5, .int (z5 ||| 0)), (0, .ref (a 0)), (2, .int z2), (3, .int z3), (4, .int z4), (6, .int z6), (7, .int z7)]) (pc := 99) F dX8_reached_99 (by decide) rfl ?_
            refine V_iinc (v := (z7 + 1)) (L2 := [(7, .int (z7 + 1)), (5, .int (z5 ||| 0)), (0, .ref (a 0)), (2, .int z2), (3, .int z3), (4, .int z4), (6, .int z6)]) (pc := 101) F dX8_reached_101 6 rfl rfl (by decide) rfl ?_
            refine V_goto (pc := 104) (tgt := 32) F dX8_reached_104 (by decide) ?_
            refine V.sub [2, 3, 4, 5, 1, 6, 0] rfl ?_
            exact ih v z2 z3 z4 z6 (z5 ||| 0) (z7 + 1) _ hf hk
          · replace hf := ite_neg hf h10
            refine V_aload_n (pc := 68) F dX8_reached_68 rfl 0 rfl ?_
            refine V_aload_n (pc := 69) F dX8_reached_69 rfl 0 rfl ?_
            refine V_iload (pc := 70) F dX8_reached_70 5 rfl ?_
            refine V_iload (pc := 72) F dX8_reached_72 6 rfl ?_
            obtain ⟨r11, g12, hf⟩ := bind_of hf
            refine V_V (w2 := wX8 cy a v) (rest := [.ref (a 0), .int z5]) (st2 := [.int r11, .ref (a 0), .int z5]) (pc := 74) F 8 (M_X8_goal l D cy N a v z6 z7 r11 g12) (cwV 2 F.ts gX8_reached_X8_goal rfl rfl rfl hd_X8_goal ⟨Nat.le_of_ble_eq_true rfl, Nat.le_of_ble_eq_true rfl⟩) rfl dX8_reached_74 Fit.whole rfl rfl rfl (Nat.le_of_ble_eq_true rfl) (Nat.zero_le _) (Nat.zero_le _) rfl rfl rfl ?_
            refine V_iload_n (pc := 77) F dX8_reached_77 rfl 1 rfl ?_
            obtain ⟨r13, g14, hf⟩ := bind_of hf
            refine V_V (w2 := wX8 cy a v) (rest := [.int z5]) (st2 := [.int r13, .int z5]) (pc := 78) F 8 (M_X8_hasGreen l D cy N a v r11 z2 r13 g14) (cwV 2 F.ts gX8_reached_X8_hasGreen rfl rfl rfl hd_X8_hasGreen ⟨Nat.le_of_ble_eq_true rfl, Nat.le_of_ble_eq_true rfl⟩) rfl dX8_reached_78 Fit.whole rfl rfl rfl (Nat.le_of_ble_eq_true rfl) (Nat.zero_le _) (Nat.zero_le _) rfl rfl rfl ?_
            refine V_if_ne (pc := 81) (tgt := 97) F dX8_reached_81 (by decide) (fun h15 => ?_) (fun h15 => ?_)
            · replace hf := ite_neg hf h15
              refine V_iconst (v := 0) (pc := 97) F dX8_reached_97 (by decide) ?_
              refine V_ior (pc := 98) F dX8_reached_98 ?_
              refine V_istore (L2 := [(5, .int (z5 ||| 0)), (0, .ref (a 0)), (2, .int z2), (3, .int z3), (4, .int z4), (6, .int z6), (7, .int z7)]) (pc := 99) F dX8_reached_99 (by decide) rfl ?_
              refine V_iinc (v := (z7 + 1)) (L2 := [(7, .int (z7 + 1)), (5, .int (z5 ||| 0)), (0, .ref (a 0)), (2, .int z2), (3, .int z3), (4, .int z4), (6, .int z6)]) (pc := 101) F dX8_reached_101 6 rfl rfl (by decide) rfl ?_
              refine V_goto (pc := 104) (tgt := 32) F dX8_reached_104 (by decide) ?_
              refine V.sub [2, 3, 4, 5, 1, 6, 0] rfl ?_
              exact ih v z2 z3 z4 z6 (z5 ||| 0) (z7 + 1) _ hf hk
            · replace hf := ite_pos hf h15
              refine V_iconst (v := 1) (pc := 84) F dX8_reached_84 (by decide) ?_
              refine V_aload_n (pc := 85) F dX8_reached_85 rfl 0 rfl ?_
              refine V_iload (pc := 86) F dX8_reached_86 5 rfl ?_
              refine V_iload (pc := 88) F dX8_reached_88 6 rfl ?_
              obtain ⟨r16, g17, hf⟩ := bind_of hf
              refine V_V (w2 := wX8 cy a v) (rest := [.int 1, .int z5]) (st2 := [.int r16, .int 1, .int z5]) (pc := 90) F 8 (M_X8_goal l D cy N a v z6 z7 r16 g17) (cwV 2 F.ts gX8_reached_X8_goal rfl rfl rfl hd_X8_goal ⟨Nat.le_of_ble_eq_true rfl, Nat.le_of_ble_eq_true rfl⟩) rfl dX8_reached_90 Fit.whole rfl rfl rfl (Nat.le_of_ble_eq_true rfl) (Nat.zero_le _) (Nat.zero_le _) rfl rfl rfl ?_
              refine V_ishl (pc := 93) F dX8_reached_93 ?_
              refine V_goto (pc := 94) (tgt := 98) F dX8_reached_94 (by decide) ?_
              refine V_ior (pc := 98) F dX8_reached_98 ?_
              refine V_istore (L2 := [(5, .int (z5 ||| ((1 : Int32) <<< (r16 &&& 31)))), (0, .ref (a 0)), (2, .int z2), (3, .int z3), (4, .int z4), (6, .int z6), (7, .int z7)]) (pc := 99) F dX8_reached_99 (by decide) rfl ?_
              refine V_iinc (v := (z7 + 1)) (L2 := [(7, .int (z7 + 1)), (5, .int (z5 ||| ((1 : Int32) <<< (r16 &&& 31)))), (0, .ref (a 0)), (2, .int z2), (3, .int z3), (4, .int z4), (6, .int z6)]) (pc := 101) F dX8_reached_101 6 rfl rfl (by decide) rfl ?_
              refine V_goto (pc := 104) (tgt := 32) F dX8_reached_104 (by decide) ?_
              refine V.sub [2, 3, 4, 5, 1, 6, 0] rfl ?_
              exact ih v z2 z3 z4 z6 (z5 ||| ((1 : Int32) <<< (r16 &&& 31))) (z7 + 1) _ hf hk
  have K18 : ∀ (n : Nat) (v : SX8) (z2 : Int32) (z3 : Int32) (z4 : Int32) (z5 : Int32) (z6 : Int32) (u : Int32), fX8_reached_L18 N v z2 z3 z4 n z5 z6 = some u → V p l e (rmz 4 93) s m args below meth c 8 D A 0 0 (MQ below (ok_Q D (wX8 cy a v) (some (.int o)) A) args s 0 0 A) (wX8 cy a v) [(0, .ref (a 0)), (2, .int z2), (3, .int z3), (5, .int u)] [] 113 → V p l e (rmz 4 93) s m args below meth c 8 D A 0 0 (MQ below (ok_Q D (wX8 cy a v) (some (.int o)) A) args s 0 0 A) (wX8 cy a v) [(0, .ref (a 0)), (2, .int z2), (3, .int z3), (4, .int z4), (5, .int z5), (6, .int z6)] [] 18 := by
    intro n
    induction n with
    | zero =>
      intro v z2 z3 z4 z5 z6 u hf hk
      exact nomatch (show (none : Option (Int32)) = some u from hf)
    | succ n ih =>
      intro v z2 z3 z4 z5 z6 u hf hk
      rw [fX8_reached_L18] at hf
      refine V_iload (pc := 18) F dX8_reached_18 5 rfl ?_
      refine V_aload_n (pc := 20) F dX8_reached_20 rfl 0 rfl ?_
      refine V_get (pc := 21) F 0 8 1 i_X8 rfl (by decide) rfl (mm 1 rfl) dX8_reached_21 rfl rfl ?_
      refine V_iconst (v := 0) (pc := 24) F dX8_reached_24 (by decide) ?_
      obtain ⟨c2, hf⟩ := chk_some hf
      refine V_iald (pc := 25) F 1 rfl c2 dX8_reached_25 ?_
      refine V_icmp_ge (pc := 26) (tgt := 113) F dX8_reached_26 (by decide) (fun h3 => ?_) (fun h3 => ?_)
      · replace hf := ite_pos hf h3
        obtain rfl := some_of hf
        exact V.sub [0, 1, 2, 4] rfl hk
      · replace hf := ite_neg hf h3
        refine V_iconst (v := 0) (pc := 29) F dX8_reached_29 (by decide) ?_
        refine V_istore (L2 := [(7, .int 0), (0, .ref (a 0)), (2, .int z2), (3, .int z3), (4, .int z4), (5, .int z5), (6, .int z6)]) (pc := 30) F dX8_reached_30 (by decide) rfl ?_
        refine V.sub [1, 2, 3, 4, 5, 6, 0] rfl ?_
        obtain ⟨u18, g19, hf⟩ := bind_of hf
        refine K32 N v z2 z3 z4 z6 z5 0 u18 g19 ?_
        refine V_iinc (v := (z6 + 1)) (L2 := [(6, .int (z6 + 1)), (0, .ref (a 0)), (2, .int z2), (3, .int z3), (4, .int z4), (5, .int u18)]) (pc := 107) F dX8_reached_107 5 rfl rfl (by decide) rfl ?_
        refine V_goto (pc := 110) (tgt := 18) F dX8_reached_110 (by decide) ?_
        refine V.sub [1, 2, 3, 4, 5, 0] rfl ?_
        exact ih v z2 z3 z4 u18 (z6 + 1) _ hf hk
  have K7 : ∀ (n : Nat) (v : SX8) (z2 : Int32) (z3 : Int32) (z4 : Int32) (u : Int32), fX8_reached_L7 N v z2 n z3 z4 = some u → V p l e (rmz 4 93) s m args below meth c 8 D A 0 0 (MQ below (ok_Q D (wX8 cy a v) (some (.int o)) A) args s 0 0 A) (wX8 cy a v) [(3, .int u)] [] 129 → V p l e (rmz 4 93) s m args below meth c 8 D A 0 0 (MQ below (ok_Q D (wX8 cy a v) (some (.int o)) A) args s 0 0 A) (wX8 cy a v) [(0, .ref (a 0)), (2, .int z2), (3, .int z3), (4, .int z4)] [] 7 := by
    intro n
    induction n with
    | zero =>
      intro v z2 z3 z4 u hf hk
      exact nomatch (show (none : Option (Int32)) = some u from hf)
    | succ n ih =>
      intro v z2 z3 z4 u hf hk
      rw [fX8_reached_L7] at hf
      refine V_iload (pc := 7) F dX8_reached_7 3 rfl ?_
      refine V_if_eq (pc := 9) (tgt := 129) F dX8_reached_9 (by decide) (fun h1 => ?_) (fun h1 => ?_)
      · replace hf := ite_pos hf h1
        obtain rfl := some_of hf
        exact V.sub [2] rfl hk
      · replace hf := ite_neg hf h1
        refine V_iconst (v := 0) (pc := 12) F dX8_reached_12 (by decide) ?_
        refine V_istore (L2 := [(5, .int 0), (0, .ref (a 0)), (2, .int z2), (3, .int z3), (4, .int z4)]) (pc := 13) F dX8_reached_13 (by decide) rfl ?_
        refine V_iconst (v := 0) (pc := 15) F dX8_reached_15 (by decide) ?_
        refine V_istore (L2 := [(6, .int 0), (5, .int 0), (0, .ref (a 0)), (2, .int z2), (3, .int z3), (4, .int z4)]) (pc := 16) F dX8_reached_16 (by decide) rfl ?_
        refine V.sub [2, 3, 4, 5, 1, 0] rfl ?_
        obtain ⟨u20, g21, hf⟩ := bind_of hf
        refine K18 N v z2 z3 z4 0 0 u20 g21 ?_
        refine V_iload (pc := 113) F dX8_reached_113 3 rfl ?_
        refine V_iload_n (pc := 115) F dX8_reached_115 rfl 2 rfl ?_
        refine V_iconst (v := (-1)) (pc := 116) F dX8_reached_116 (by decide) ?_
        refine V_ixor (pc := 117) F dX8_reached_117 ?_
        refine V_iand (pc := 118) F dX8_reached_118 ?_
        refine V_istore (L2 := [(4, .int (u20 &&& (z3 ^^^ (-1)))), (0, .ref (a 0)), (2, .int z2), (3, .int z3), (5, .int u20)]) (pc := 119) F dX8_reached_119 (by decide) rfl ?_
        refine V_iload_n (pc := 121) F dX8_reached_121 rfl 3 rfl ?_
        refine V_iload (pc := 122) F dX8_reached_122 4 rfl ?_
        refine V_ior (pc := 124) F dX8_reached_124 ?_
        refine V_istore_n (L2 := [(3, .int (z3 ||| u20)), (4, .int (u20 &&& (z3 ^^^ (-1)))), (0, .ref (a 0)), (2, .int z2), (5, .int u20)]) (pc := 125) F dX8_reached_125 rfl (by decide) rfl ?_
        refine V_goto (pc := 126) (tgt := 7) F dX8_reached_126 (by decide) ?_
        refine V.sub [2, 3, 0, 1] rfl ?_
        exact ih v z2 (z3 ||| u20) (u20 &&& (z3 ^^^ (-1))) _ hf hk
  unfold fX8_reached at hf
  refine V.eq rfl (show lv_args 0 [.ref (a 0), .int x1, .int x2] = [(0, .ref (a 0)), (1, .int x1), (2, .int x2)] from rfl) rfl ?_
  refine V_iconst (v := 0) (pc := 0) F dX8_reached_0 (by decide) ?_
  refine V_istore_n (L2 := [(3, .int 0), (0, .ref (a 0)), (1, .int x1), (2, .int x2)]) (pc := 1) F dX8_reached_1 rfl (by decide) rfl ?_
  refine V_iconst (v := 1) (pc := 2) F dX8_reached_2 (by decide) ?_
  refine V_iload_n (pc := 3) F dX8_reached_3 rfl 2 rfl ?_
  refine V_ishl (pc := 4) F dX8_reached_4 ?_
  refine V_istore (L2 := [(4, .int ((1 : Int32) <<< (x1 &&& 31))), (3, .int 0), (0, .ref (a 0)), (1, .int x1), (2, .int x2)]) (pc := 5) F dX8_reached_5 (by decide) rfl ?_
  refine V.sub [2, 4, 1, 0] rfl ?_
  obtain ⟨u22, g23, hf⟩ := bind_of hf
  refine K7 N v x2 0 ((1 : Int32) <<< (x1 &&& 31)) u22 g23 ?_
  refine V_iload_n (pc := 129) F dX8_reached_129 rfl 0 rfl ?_
  obtain rfl := some_of hf
  exact V_ret F rfl rfl dX8_reached_130 rfl rfl
theorem hd_X8_isRound : yX8_isRound.cls = RX8 ∧ yX8_isRound.cls ≠ "java/lang/invoke/MethodHandle" ∧ yX8_isRound.cls ≠ "java/lang/invoke/VarHandle" ∧ (parseMethodDescriptor yX8_isRound.desc).map (fun d => d.parameters.length) = some 2 := by decide +kernel
def fX8_isRound (N : Nat) (v : SX8) (x1 : Int32) (x2 : Int32) : Option (Int32) :=
  (fX8_hasGreen N v x1 x2).bind fun r1 =>
    if r1 = 0 then
      (fX8_canStay N v x1 x2).bind fun r4 =>
        if r4 = 0 then
          (fX8_reached N v x1 x2).bind fun r7 =>
            if ((r7 >>> (x1 &&& 31)) &&& 1) = 1 then
              some 1
            else
              some 0
        else
          some 1
    else
      some 0
set_option maxHeartbeats 8000000 in
set_option maxRecDepth 100000 in
theorem M_X8_isRound (l : Launch) (D : va_G) (cy : Nat → ClassId) (N : Nat) (a : Nat → Nat) (v : SX8) (x1 : Int32) (x2 : Int32) (o : Int32) (hf : fX8_isRound N v x1 x2 = some o) : okM l yX8_isRound wsX8_isRound (rmz 5 120) D cy [.ref (a 0), .int x1, .int x2] (wX8 cy a v) (wX8 cy a v) (some (.int o)) := by
  refine okM_of (own := RX8) (nme := "isRound") (cc := cX8_isRound) (maxL := 3) (ret := (some .boolean)) (by decide) rfl rfl rfl (Nat.le_of_ble_eq_true rfl) ?_
  intro p e s m args below meth c A F
  unfold fX8_isRound at hf
  refine V.eq rfl (show lv_args 0 [.ref (a 0), .int x1, .int x2] = [(0, .ref (a 0)), (1, .int x1), (2, .int x2)] from rfl) rfl ?_
  refine V_aload_n (pc := 0) F dX8_isRound_0 rfl 0 rfl ?_
  refine V_iload_n (pc := 1) F dX8_isRound_1 rfl 1 rfl ?_
  refine V_iload_n (pc := 2) F dX8_isRound_2 rfl 2 rfl ?_
  obtain ⟨r1, g2, hf⟩ := bind_of hf
  refine V_V (w2 := wX8 cy a v) (rest := []) (st2 := [.int r1]) (pc := 3) F 8 (M_X8_hasGreen l D cy N a v x1 x2 r1 g2) (cwV 2 F.ts gX8_isRound_X8_hasGreen rfl rfl rfl hd_X8_hasGreen ⟨Nat.le_of_ble_eq_true rfl, Nat.le_of_ble_eq_true rfl⟩) rfl dX8_isRound_3 Fit.whole rfl rfl rfl (Nat.le_of_ble_eq_true rfl) (Nat.zero_le _) (Nat.zero_le _) rfl rfl rfl ?_
  refine V_if_ne (pc := 6) (tgt := 36) F dX8_isRound_6 (by decide) (fun h3 => ?_) (fun h3 => ?_)
  · replace hf := ite_neg hf h3
    refine V_iconst (v := 0) (pc := 36) F dX8_isRound_36 (by decide) ?_
    obtain rfl := some_of hf
    exact V_ret F rfl rfl dX8_isRound_37 rfl rfl
  · replace hf := ite_pos hf h3
    refine V_aload_n (pc := 9) F dX8_isRound_9 rfl 0 rfl ?_
    refine V_iload_n (pc := 10) F dX8_isRound_10 rfl 1 rfl ?_
    refine V_iload_n (pc := 11) F dX8_isRound_11 rfl 2 rfl ?_
    obtain ⟨r4, g5, hf⟩ := bind_of hf
    refine V_V (w2 := wX8 cy a v) (rest := []) (st2 := [.int r4]) (pc := 12) F 8 (M_X8_canStay l D cy N a v x1 x2 r4 g5) (cwV 2 F.ts gX8_isRound_X8_canStay rfl rfl rfl hd_X8_canStay ⟨Nat.le_of_ble_eq_true rfl, Nat.le_of_ble_eq_true rfl⟩) rfl dX8_isRound_12 Fit.whole rfl rfl rfl (Nat.le_of_ble_eq_true rfl) (Nat.zero_le _) (Nat.zero_le _) rfl rfl rfl ?_
    refine V_if_ne (pc := 15) (tgt := 32) F dX8_isRound_15 (by decide) (fun h6 => ?_) (fun h6 => ?_)
    · replace hf := ite_neg hf h6
      refine V_iconst (v := 1) (pc := 32) F dX8_isRound_32 (by decide) ?_
      refine V_goto (pc := 33) (tgt := 37) F dX8_isRound_33 (by decide) ?_
      obtain rfl := some_of hf
      exact V_ret F rfl rfl dX8_isRound_37 rfl rfl
    · replace hf := ite_pos hf h6
      refine V_aload_n (pc := 18) F dX8_isRound_18 rfl 0 rfl ?_
      refine V_iload_n (pc := 19) F dX8_isRound_19 rfl 1 rfl ?_
      refine V_iload_n (pc := 20) F dX8_isRound_20 rfl 2 rfl ?_
      obtain ⟨r7, g8, hf⟩ := bind_of hf
      refine V_V (w2 := wX8 cy a v) (rest := []) (st2 := [.int r7]) (pc := 21) F 8 (M_X8_reached l D cy N a v x1 x2 r7 g8) (cwV 2 F.ts gX8_isRound_X8_reached rfl rfl rfl hd_X8_reached ⟨Nat.le_of_ble_eq_true rfl, Nat.le_of_ble_eq_true rfl⟩) rfl dX8_isRound_21 Fit.whole rfl rfl rfl (Nat.le_of_ble_eq_true rfl) (Nat.zero_le _) (Nat.zero_le _) rfl rfl rfl ?_
      refine V_iload_n (pc := 24) F dX8_isRound_24 rfl 1 rfl ?_
      refine V_ishr (pc := 25) F dX8_isRound_25 ?_
      refine V_iconst (v := 1) (pc := 26) F dX8_isRound_26 (by decide) ?_
      refine V_iand (pc := 27) F dX8_isRound_27 ?_
      refine V_iconst (v := 1) (pc := 28) F dX8_isRound_28 (by decide) ?_
      refine V_icmp_ne (pc := 29) (tgt := 36) F dX8_isRound_29 (by decide) (fun h9 => ?_) (fun h9 => ?_)
      · replace hf := ite_neg hf h9
        refine V_iconst (v := 0) (pc := 36) F dX8_isRound_36 (by decide) ?_
        obtain rfl := some_of hf
        exact V_ret F rfl rfl dX8_isRound_37 rfl rfl
      · replace hf := ite_pos hf h9
        refine V_iconst (v := 1) (pc := 32) F dX8_isRound_32 (by decide) ?_
        refine V_goto (pc := 33) (tgt := 37) F dX8_isRound_33 (by decide) ?_
        obtain rfl := some_of hf
        exact V_ret F rfl rfl dX8_isRound_37 rfl rfl
theorem hd_X8_canStarve : yX8_canStarve.cls = RX8 ∧ yX8_canStarve.cls ≠ "java/lang/invoke/MethodHandle" ∧ yX8_canStarve.cls ≠ "java/lang/invoke/VarHandle" ∧ (parseMethodDescriptor yX8_canStarve.desc).map (fun d => d.parameters.length) = some 2 := by decide +kernel
def fX8_canStarve_L28 (N : Nat) (v : SX8) (z2 : Int32) (z3 : Int32) : Nat → Int32 → Int32 → Option (Int32)
  | 0, _, _ => none
  | n + 1, z4, z5 =>
    chk 0 143 (
      if (v.2.1 (0 : Int32).toNatClampNeg) ≤ z5 then
        some z4
      else
        if z4 = 0 then
          if ((z3 >>> (z5 &&& 31)) &&& 1) = 1 then
            (fX8_isRound N v z5 z2).bind fun r10 =>
              if r10 = 0 then
                fX8_canStarve_L28 N v z2 z3 n 0 (z5 + 1)
              else
                fX8_canStarve_L28 N v z2 z3 n 1 (z5 + 1)
          else
            fX8_canStarve_L28 N v z2 z3 n 0 (z5 + 1)
        else
          fX8_canStarve_L28 N v z2 z3 n 1 (z5 + 1)
    )
def fX8_canStarve (N : Nat) (v : SX8) (x1 : Int32) (x2 : Int32) : Option (Int32) :=
  (fX8_hasGreen N v x1 x2).bind fun r1 =>
    if r1 = 0 then
      (fX8_reached N v x1 x2).bind fun r4 =>
        (fX8_canStarve_L28 N v x2 (r4 ||| ((1 : Int32) <<< (x1 &&& 31))) N 0 0).bind fun u13 =>
          must (decide (u13 = 0 ∨ u13 = 1)) (
            some u13
          )
    else
      some 0
set_option maxHeartbeats 8000000 in
set_option maxRecDepth 100000 in
theorem M_X8_canStarve (l : Launch) (D : va_G) (cy : Nat → ClassId) (N : Nat) (a : Nat → Nat) (v : SX8) (x1 : Int32) (x2 : Int32) (o : Int32) (hf : fX8_canStarve N v x1 x2 = some o) : okM l yX8_canStarve wsX8_canStarve (rmz 6 142) D cy [.ref (a 0), .int x1, .int x2] (wX8 cy a v) (wX8 cy a v) (some (.int o)) := by
  refine okM_of (own := RX8) (nme := "canStarve") (cc := cX8_canStarve) (maxL := 6) (ret := (some .boolean)) (by decide) rfl rfl rfl (Nat.le_of_ble_eq_true rfl) ?_
  intro p e s m args below meth c A F
  have i_X8 : ∀ w ∈ u_ws RX8 TX8 13, w ∈ wsX8_canStarve := fun _ h => List.mem_cons_of_mem _ (List.mem_append_right _ h)
  have K28 : ∀ (n : Nat) (v : SX8) (z2 : Int32) (z3 : Int32) (z4 : Int32) (z5 : Int32) (u : Int32), fX8_canStarve_L28 N v z2 z3 n z4 z5 = some u → V p l e (rmz 6 142) s m args below meth c 6 D A 0 0 (MQ below (ok_Q D (wX8 cy a v) (some (.int o)) A) args s 0 0 A) (wX8 cy a v) [(4, .int u)] [] 77 → V p l e (rmz 6 142) s m args below meth c 6 D A 0 0 (MQ below (ok_Q D (wX8 cy a v) (some (.int o)) A) args s 0 0 A) (wX8 cy a v) [(0, .ref (a 0)), (2, .int z2), (3, .int z3), (4, .int z4), (5, .int z5)] [] 28 := by
    intro n
    induction n with
    | zero =>
      intro v z2 z3 z4 z5 u hf hk
      exact nomatch (show (none : Option (Int32)) = some u from hf)
    | succ n ih =>
      intro v z2 z3 z4 z5 u hf hk
      rw [fX8_canStarve_L28] at hf
      refine V_iload (pc := 28) F dX8_canStarve_28 4 rfl ?_
      refine V_aload_n (pc := 30) F dX8_canStarve_30 rfl 0 rfl ?_
      refine V_get (pc := 31) F 0 8 1 i_X8 rfl (by decide) rfl (mm 1 rfl) dX8_canStarve_31 rfl rfl ?_
      refine V_iconst (v := 0) (pc := 34) F dX8_canStarve_34 (by decide) ?_
      obtain ⟨c6, hf⟩ := chk_some hf
      refine V_iald (pc := 35) F 1 rfl c6 dX8_canStarve_35 ?_
      refine V_icmp_ge (pc := 36) (tgt := 77) F dX8_canStarve_36 (by decide) (fun h7 => ?_) (fun h7 => ?_)
      · replace hf := ite_pos hf h7
        obtain rfl := some_of hf
        exact V.sub [3] rfl hk
      · replace hf := ite_neg hf h7
        refine V_iload (pc := 39) F dX8_canStarve_39 3 rfl ?_
        refine V_if_ne (pc := 41) (tgt := 64) F dX8_canStarve_41 (by decide) (fun h8 => ?_) (fun h8 => ?_)
        · replace hf := ite_neg hf h8
          refine V_iconst (v := 1) (pc := 64) F dX8_canStarve_64 (by decide) ?_
          refine V_goto (pc := 65) (tgt := 69) F dX8_canStarve_65 (by decide) ?_
          refine V_istore (L2 := [(4, .int 1), (0, .ref (a 0)), (2, .int z2), (3, .int z3), (5, .int z5)]) (pc := 69) F dX8_canStarve_69 (by decide) rfl ?_
          refine V_iinc (v := (z5 + 1)) (L2 := [(5, .int (z5 + 1)), (4, .int 1), (0, .ref (a 0)), (2, .int z2), (3, .int z3)]) (pc := 71) F dX8_canStarve_71 4 rfl rfl (by decide) rfl ?_
          refine V_goto (pc := 74) (tgt := 28) F dX8_canStarve_74 (by decide) ?_
          refine V.sub [2, 3, 4, 1, 0] rfl ?_
          exact ih v z2 z3 1 (z5 + 1) _ hf hk
        · replace hf := ite_pos hf h8
          refine V_iload_n (pc := 44) F dX8_canStarve_44 rfl 2 rfl ?_
          refine V_iload (pc := 45) F dX8_canStarve_45 4 rfl ?_
          refine V_ishr (pc := 47) F dX8_canStarve_47 ?_
          refine V_iconst (v := 1) (pc := 48) F dX8_canStarve_48 (by decide) ?_
          refine V_iand (pc := 49) F dX8_canStarve_49 ?_
          refine V_iconst (v := 1) (pc := 50) F dX8_canStarve_50 (by decide) ?_
          refine V_icmp_ne (pc := 51) (tgt := 68) F dX8_canStarve_51 (by decide) (fun h9 => ?_) (fun h9 => ?_)
          · replace hf := ite_neg hf h9
            refine V_iconst (v := 0) (pc := 68) F dX8_canStarve_68 (by decide) ?_
            refine V_istore (L2 := [(4, .int 0), (0, .ref (a 0)), (2, .int z2), (3, .int z3), (5, .int z5)]) (pc := 69) F dX8_canStarve_69 (by decide) rfl ?_
            refine V_iinc (v := (z5 + 1)) (L2 := [(5, .int (z5 + 1)), (4, .int 0), (0, .ref (a 0)), (2, .int z2), (3, .int z3)]) (pc := 71) F dX8_canStarve_71 4 rfl rfl (by decide) rfl ?_
            refine V_goto (pc := 74) (tgt := 28) F dX8_canStarve_74 (by decide) ?_
            refine V.sub [2, 3, 4, 1, 0] rfl ?_
            exact ih v z2 z3 0 (z5 + 1) _ hf hk
          · replace hf := ite_pos hf h9
            refine V_aload_n (pc := 54) F dX8_canStarve_54 rfl 0 rfl ?_
            refine V_iload (pc := 55) F dX8_canStarve_55 4 rfl ?_
            refine V_iload_n (pc := 57) F dX8_canStarve_57 rfl 1 rfl ?_
            obtain ⟨r10, g11, hf⟩ := bind_of hf
            refine V_V (w2 := wX8 cy a v) (rest := []) (st2 := [.int r10]) (pc := 58) F 8 (M_X8_isRound l D cy N a v z5 z2 r10 g11) (cwV 2 F.ts gX8_canStarve_X8_isRound rfl rfl rfl hd_X8_isRound ⟨Nat.le_of_ble_eq_true rfl, Nat.le_of_ble_eq_true rfl⟩) rfl dX8_canStarve_58 Fit.whole rfl rfl rfl (Nat.le_of_ble_eq_true rfl) (Nat.zero_le _) (Nat.zero_le _) rfl rfl rfl ?_
            refine V_if_eq (pc := 61) (tgt := 68) F dX8_canStarve_61 (by decide) (fun h12 => ?_) (fun h12 => ?_)
            · replace hf := ite_pos hf h12
              refine V_iconst (v := 0) (pc := 68) F dX8_canStarve_68 (by decide) ?_
              refine V_istore (L2 := [(4, .int 0), (0, .ref (a 0)), (2, .int z2), (3, .int z3), (5, .int z5)]) (pc := 69) F dX8_canStarve_69 (by decide) rfl ?_
              refine V_iinc (v := (z5 + 1)) (L2 := [(5, .int (z5 + 1)), (4, .int 0), (0, .ref (a 0)), (2, .int z2), (3, .int z3)]) (pc := 71) F dX8_canStarve_71 4 rfl rfl (by decide) rfl ?_
              refine V_goto (pc := 74) (tgt := 28) F dX8_canStarve_74 (by decide) ?_
              refine V.sub [2, 3, 4, 1, 0] rfl ?_
              exact ih v z2 z3 0 (z5 + 1) _ hf hk
            · replace hf := ite_neg hf h12
              refine V_iconst (v := 1) (pc := 64) F dX8_canStarve_64 (by decide) ?_
              refine V_goto (pc := 65) (tgt := 69) F dX8_canStarve_65 (by decide) ?_
              refine V_istore (L2 := [(4, .int 1), (0, .ref (a 0)), (2, .int z2), (3, .int z3), (5, .int z5)]) (pc := 69) F dX8_canStarve_69 (by decide) rfl ?_
              refine V_iinc (v := (z5 + 1)) (L2 := [(5, .int (z5 + 1)), (4, .int 1), (0, .ref (a 0)), (2, .int z2), (3, .int z3)]) (pc := 71) F dX8_canStarve_71 4 rfl rfl (by decide) rfl ?_
              refine V_goto (pc := 74) (tgt := 28) F dX8_canStarve_74 (by decide) ?_
              refine V.sub [2, 3, 4, 1, 0] rfl ?_
              exact ih v z2 z3 1 (z5 + 1) _ hf hk
  unfold fX8_canStarve at hf
  refine V.eq rfl (show lv_args 0 [.ref (a 0), .int x1, .int x2] = [(0, .ref (a 0)), (1, .int x1), (2, .int x2)] from rfl) rfl ?_
  refine V_aload_n (pc := 0) F dX8_canStarve_0 rfl 0 rfl ?_
  refine V_iload_n (pc := 1) F dX8_canStarve_1 rfl 1 rfl ?_
  refine V_iload_n (pc := 2) F dX8_canStarve_2 rfl 2 rfl ?_
  obtain ⟨r1, g2, hf⟩ := bind_of hf
  refine V_V (w2 := wX8 cy a v) (rest := []) (st2 := [.int r1]) (pc := 3) F 8 (M_X8_hasGreen l D cy N a v x1 x2 r1 g2) (cwV 2 F.ts gX8_canStarve_X8_hasGreen rfl rfl rfl hd_X8_hasGreen ⟨Nat.le_of_ble_eq_true rfl, Nat.le_of_ble_eq_true rfl⟩) rfl dX8_canStarve_3 Fit.whole rfl rfl rfl (Nat.le_of_ble_eq_true rfl) (Nat.zero_le _) (Nat.zero_le _) rfl rfl rfl ?_
  refine V_if_eq (pc := 6) (tgt := 11) F dX8_canStarve_6 (by decide) (fun h3 => ?_) (fun h3 => ?_)
  · replace hf := ite_pos hf h3
    refine V_aload_n (pc := 11) F dX8_canStarve_11 rfl 0 rfl ?_
    refine V_iload_n (pc := 12) F dX8_canStarve_12 rfl 1 rfl ?_
    refine V_iload_n (pc := 13) F dX8_canStarve_13 rfl 2 rfl ?_
    obtain ⟨r4, g5, hf⟩ := bind_of hf
    refine V_V (w2 := wX8 cy a v) (rest := []) (st2 := [.int r4]) (pc := 14) F 8 (M_X8_reached l D cy N a v x1 x2 r4 g5) (cwV 2 F.ts gX8_canStarve_X8_reached rfl rfl rfl hd_X8_reached ⟨Nat.le_of_ble_eq_true rfl, Nat.le_of_ble_eq_true rfl⟩) rfl dX8_canStarve_14 Fit.whole rfl rfl rfl (Nat.le_of_ble_eq_true rfl) (Nat.zero_le _) (Nat.zero_le _) rfl rfl rfl ?_
    refine V_iconst (v := 1) (pc := 17) F dX8_canStarve_17 (by decide) ?_
    refine V_iload_n (pc := 18) F dX8_canStarve_18 rfl 1 rfl ?_
    refine V_ishl (pc := 19) F dX8_canStarve_19 ?_
    refine V_ior (pc := 20) F dX8_canStarve_20 ?_
    refine V_istore_n (L2 := [(3, .int (r4 ||| ((1 : Int32) <<< (x1 &&& 31)))), (0, .ref (a 0)), (1, .int x1), (2, .int x2)]) (pc := 21) F dX8_canStarve_21 rfl (by decide) rfl ?_
    refine V_iconst (v := 0) (pc := 22) F dX8_canStarve_22 (by decide) ?_
    refine V_istore (L2 := [(4, .int 0), (3, .int (r4 ||| ((1 : Int32) <<< (x1 &&& 31)))), (0, .ref (a 0)), (1, .int x1), (2, .int x2)]) (pc := 23) F dX8_canStarve_23 (by decide) rfl ?_
    refine V_iconst (v := 0) (pc := 25) F dX8_canStarve_25 (by decide) ?_
    refine V_istore (L2 := [(5, .int 0), (4, .int 0), (3, .int (r4 ||| ((1 : Int32) <<< (x1 &&& 31)))), (0, .ref (a 0)), (1, .int x1), (2, .int x2)]) (pc := 26) F dX8_canStarve_26 (by decide) rfl ?_
    refine V.sub [3, 5, 2, 1, 0] rfl ?_
    obtain ⟨u13, g14, hf⟩ := bind_of hf
    refine K28 N v x2 (r4 ||| ((1 : Int32) <<< (x1 &&& 31))) 0 0 u13 g14 ?_
    refine V_iload (pc := 77) F dX8_canStarve_77 0 rfl ?_
    obtain ⟨c15, hf⟩ := must_some hf
    obtain rfl := some_of hf
    exact V_ret F rfl (nar_bool (of_decide_eq_true c15)) dX8_canStarve_79 rfl rfl
  · replace hf := ite_neg hf h3
    refine V_iconst (v := 0) (pc := 9) F dX8_canStarve_9 (by decide) ?_
    obtain rfl := some_of hf
    exact V_ret F rfl rfl dX8_canStarve_10 rfl rfl
theorem hd_X8_canStarveAnywhere : yX8_canStarveAnywhere.cls = RX8 ∧ yX8_canStarveAnywhere.cls ≠ "java/lang/invoke/MethodHandle" ∧ yX8_canStarveAnywhere.cls ≠ "java/lang/invoke/VarHandle" ∧ (parseMethodDescriptor yX8_canStarveAnywhere.desc).map (fun d => d.parameters.length) = some 1 := by decide +kernel
def fX8_canStarveAnywhere_L10 (N : Nat) (v : SX8) (z1 : Int32) (z2 : Int32) : Nat → Int32 → Int32 → Option (Int32)
  | 0, _, _ => none
  | n + 1, z3, z4 =>
    chk 0 143 (
      if (v.2.1 (0 : Int32).toNatClampNeg) ≤ z4 then
        some z3
      else
        if z3 = 0 then
          if ((z2 >>> (z4 &&& 31)) &&& 1) = 1 then
            (fX8_canStarve N v z4 z1).bind fun r7 =>
              if r7 = 0 then
                fX8_canStarveAnywhere_L10 N v z1 z2 n 0 (z4 + 1)
              else
                fX8_canStarveAnywhere_L10 N v z1 z2 n 1 (z4 + 1)
          else
            fX8_canStarveAnywhere_L10 N v z1 z2 n 0 (z4 + 1)
        else
          fX8_canStarveAnywhere_L10 N v z1 z2 n 1 (z4 + 1)
    )
def fX8_canStarveAnywhere (N : Nat) (v : SX8) (x1 : Int32) : Option (Int32) :=
  (fX8_comers N v).bind fun r1 =>
    (fX8_canStarveAnywhere_L10 N v x1 r1 N 0 0).bind fun u10 =>
      must (decide (u10 = 0 ∨ u10 = 1)) (
        some u10
      )
set_option maxHeartbeats 8000000 in
set_option maxRecDepth 100000 in
theorem M_X8_canStarveAnywhere (l : Launch) (D : va_G) (cy : Nat → ClassId) (N : Nat) (a : Nat → Nat) (v : SX8) (x1 : Int32) (o : Int32) (hf : fX8_canStarveAnywhere N v x1 = some o) : okM l yX8_canStarveAnywhere wsX8_canStarveAnywhere (rmz 7 167) D cy [.ref (a 0), .int x1] (wX8 cy a v) (wX8 cy a v) (some (.int o)) := by
  refine okM_of (own := RX8) (nme := "canStarveAnywhere") (cc := cX8_canStarveAnywhere) (maxL := 5) (ret := (some .boolean)) (by decide) rfl rfl rfl (Nat.le_of_ble_eq_true rfl) ?_
  intro p e s m args below meth c A F
  have i_X8 : ∀ w ∈ u_ws RX8 TX8 13, w ∈ wsX8_canStarveAnywhere := fun _ h => List.mem_cons_of_mem _ (List.mem_append_right _ h)
  have K10 : ∀ (n : Nat) (v : SX8) (z1 : Int32) (z2 : Int32) (z3 : Int32) (z4 : Int32) (u : Int32), fX8_canStarveAnywhere_L10 N v z1 z2 n z3 z4 = some u → V p l e (rmz 7 167) s m args below meth c 5 D A 0 0 (MQ below (ok_Q D (wX8 cy a v) (some (.int o)) A) args s 0 0 A) (wX8 cy a v) [(3, .int u)] [] 57 → V p l e (rmz 7 167) s m args below meth c 5 D A 0 0 (MQ below (ok_Q D (wX8 cy a v) (some (.int o)) A) args s 0 0 A) (wX8 cy a v) [(0, .ref (a 0)), (1, .int z1), (2, .int z2), (3, .int z3), (4, .int z4)] [] 10 := by
    intro n
    induction n with
    | zero =>
      intro v z1 z2 z3 z4 u hf hk
      exact nomatch (show (none : Option (Int32)) = some u from hf)
    | succ n ih =>
      intro v z1 z2 z3 z4 u hf hk
      rw [fX8_canStarveAnywhere_L10] at hf
      refine V_iload (pc := 10) F dX8_canStarveAnywhere_10 4 rfl ?_
      refine V_aload_n (pc := 12) F dX8_canStarveAnywhere_12 rfl 0 rfl ?_
      refine V_get (pc := 13) F 0 8 1 i_X8 rfl (by decide) rfl (mm 1 rfl) dX8_canStarveAnywhere_13 rfl rfl ?_
      refine V_iconst (v := 0) (pc := 16) F dX8_canStarveAnywhere_16 (by decide) ?_
      obtain ⟨c3, hf⟩ := chk_some hf
      refine V_iald (pc := 17) F 1 rfl c3 dX8_canStarveAnywhere_17 ?_
      refine V_icmp_ge (pc := 18) (tgt := 57) F dX8_canStarveAnywhere_18 (by decide) (fun h4 => ?_) (fun h4 => ?_)
      · replace hf := ite_pos hf h4
        obtain rfl := some_of hf
        exact V.sub [3] rfl hk
      · replace hf := ite_neg hf h4
        refine V_iload_n (pc := 21) F dX8_canStarveAnywhere_21 rfl 3 rfl ?_
        refine V_if_ne (pc := 22) (tgt := 45) F dX8_canStarveAnywhere_22 (by decide) (fun h5 => ?_) (fun h5 => ?_)
        · replace hf := ite_neg hf h5
          refine V_iconst (v := 1) (pc := 45) F dX8_canStarveAnywhere_45 (by decide) ?_
          refine V_goto (pc := 46) (tgt := 50) F dX8_canStarveAnywhere_46 (by decide) ?_
          refine V_istore_n (L2 := [(3, .int 1), (0, .ref (a 0)), (1, .int z1), (2, .int z2), (4, .int z4)]) (pc := 50) F dX8_canStarveAnywhere_50 rfl (by decide) rfl ?_
          refine V_iinc (v := (z4 + 1)) (L2 := [(4, .int (z4 + 1)), (3, .int 1), (0, .ref (a 0)), (1, .int z1), (2, .int z2)]) (pc := 51) F dX8_canStarveAnywhere_51 4 rfl rfl (by decide) rfl ?_
          refine V_goto (pc := 54) (tgt := 10) F dX8_canStarveAnywhere_54 (by decide) ?_
          refine V.sub [2, 3, 4, 1, 0] rfl ?_
          exact ih v z1 z2 1 (z4 + 1) _ hf hk
        · replace hf := ite_pos hf h5
          refine V_iload_n (pc := 25) F dX8_canStarveAnywhere_25 rfl 2 rfl ?_
          refine V_iload (pc := 26) F dX8_canStarveAnywhere_26 4 rfl ?_
          refine V_ishr (pc := 28) F dX8_canStarveAnywhere_28 ?_
          refine V_iconst (v := 1) (pc := 29) F dX8_canStarveAnywhere_29 (by decide) ?_
          refine V_iand (pc := 30) F dX8_canStarveAnywhere_30 ?_
          refine V_iconst (v := 1) (pc := 31) F dX8_canStarveAnywhere_31 (by decide) ?_
          refine V_icmp_ne (pc := 32) (tgt := 49) F dX8_canStarveAnywhere_32 (by decide) (fun h6 => ?_) (fun h6 => ?_)
          · replace hf := ite_neg hf h6
            refine V_iconst (v := 0) (pc := 49) F dX8_canStarveAnywhere_49 (by decide) ?_
            refine V_istore_n (L2 := [(3, .int 0), (0, .ref (a 0)), (1, .int z1), (2, .int z2), (4, .int z4)]) (pc := 50) F dX8_canStarveAnywhere_50 rfl (by decide) rfl ?_
            refine V_iinc (v := (z4 + 1)) (L2 := [(4, .int (z4 + 1)), (3, .int 0), (0, .ref (a 0)), (1, .int z1), (2, .int z2)]) (pc := 51) F dX8_canStarveAnywhere_51 4 rfl rfl (by decide) rfl ?_
            refine V_goto (pc := 54) (tgt := 10) F dX8_canStarveAnywhere_54 (by decide) ?_
            refine V.sub [2, 3, 4, 1, 0] rfl ?_
            exact ih v z1 z2 0 (z4 + 1) _ hf hk
          · replace hf := ite_pos hf h6
            refine V_aload_n (pc := 35) F dX8_canStarveAnywhere_35 rfl 0 rfl ?_
            refine V_iload (pc := 36) F dX8_canStarveAnywhere_36 4 rfl ?_
            refine V_iload_n (pc := 38) F dX8_canStarveAnywhere_38 rfl 1 rfl ?_
            obtain ⟨r7, g8, hf⟩ := bind_of hf
            refine V_V (w2 := wX8 cy a v) (rest := []) (st2 := [.int r7]) (pc := 39) F 8 (M_X8_canStarve l D cy N a v z4 z1 r7 g8) (cwV 2 F.ts gX8_canStarveAnywhere_X8_canStarve rfl rfl rfl hd_X8_canStarve ⟨Nat.le_of_ble_eq_true rfl, Nat.le_of_ble_eq_true rfl⟩) rfl dX8_canStarveAnywhere_39 Fit.whole rfl rfl rfl (Nat.le_of_ble_eq_true rfl) (Nat.zero_le _) (Nat.zero_le _) rfl rfl rfl ?_
            refine V_if_eq (pc := 42) (tgt := 49) F dX8_canStarveAnywhere_42 (by decide) (fun h9 => ?_) (fun h9 => ?_)
            · replace hf := ite_pos hf h9
              refine V_iconst (v := 0) (pc := 49) F dX8_canStarveAnywhere_49 (by decide) ?_
              refine V_istore_n (L2 := [(3, .int 0), (0, .ref (a 0)), (1, .int z1), (2, .int z2), (4, .int z4)]) (pc := 50) F dX8_canStarveAnywhere_50 rfl (by decide) rfl ?_
              refine V_iinc (v := (z4 + 1)) (L2 := [(4, .int (z4 + 1)), (3, .int 0), (0, .ref (a 0)), (1, .int z1), (2, .int z2)]) (pc := 51) F dX8_canStarveAnywhere_51 4 rfl rfl (by decide) rfl ?_
              refine V_goto (pc := 54) (tgt := 10) F dX8_canStarveAnywhere_54 (by decide) ?_
              refine V.sub [2, 3, 4, 1, 0] rfl ?_
              exact ih v z1 z2 0 (z4 + 1) _ hf hk
            · replace hf := ite_neg hf h9
              refine V_iconst (v := 1) (pc := 45) F dX8_canStarveAnywhere_45 (by decide) ?_
              refine V_goto (pc := 46) (tgt := 50) F dX8_canStarveAnywhere_46 (by decide) ?_
              refine V_istore_n (L2 := [(3, .int 1), (0, .ref (a 0)), (1, .int z1), (2, .int z2), (4, .int z4)]) (pc := 50) F dX8_canStarveAnywhere_50 rfl (by decide) rfl ?_
              refine V_iinc (v := (z4 + 1)) (L2 := [(4, .int (z4 + 1)), (3, .int 1), (0, .ref (a 0)), (1, .int z1), (2, .int z2)]) (pc := 51) F dX8_canStarveAnywhere_51 4 rfl rfl (by decide) rfl ?_
              refine V_goto (pc := 54) (tgt := 10) F dX8_canStarveAnywhere_54 (by decide) ?_
              refine V.sub [2, 3, 4, 1, 0] rfl ?_
              exact ih v z1 z2 1 (z4 + 1) _ hf hk
  unfold fX8_canStarveAnywhere at hf
  refine V.eq rfl (show lv_args 0 [.ref (a 0), .int x1] = [(0, .ref (a 0)), (1, .int x1)] from rfl) rfl ?_
  refine V_aload_n (pc := 0) F dX8_canStarveAnywhere_0 rfl 0 rfl ?_
  obtain ⟨r1, g2, hf⟩ := bind_of hf
  refine V_V (w2 := wX8 cy a v) (rest := []) (st2 := [.int r1]) (pc := 1) F 8 (M_X8_comers l D cy N a v r1 g2) (cwV 0 F.ts gX8_canStarveAnywhere_X8_comers rfl rfl rfl hd_X8_comers ⟨Nat.le_of_ble_eq_true rfl, Nat.le_of_ble_eq_true rfl⟩) rfl dX8_canStarveAnywhere_1 Fit.whole rfl rfl rfl (Nat.le_of_ble_eq_true rfl) (Nat.zero_le _) (Nat.zero_le _) rfl rfl rfl ?_
  refine V_istore_n (L2 := [(2, .int r1), (0, .ref (a 0)), (1, .int x1)]) (pc := 4) F dX8_canStarveAnywhere_4 rfl (by decide) rfl ?_
  refine V_iconst (v := 0) (pc := 5) F dX8_canStarveAnywhere_5 (by decide) ?_
  refine V_istore_n (L2 := [(3, .int 0), (2, .int r1), (0, .ref (a 0)), (1, .int x1)]) (pc := 6) F dX8_canStarveAnywhere_6 rfl (by decide) rfl ?_
  refine V_iconst (v := 0) (pc := 7) F dX8_canStarveAnywhere_7 (by decide) ?_
  refine V_istore (L2 := [(4, .int 0), (3, .int 0), (2, .int r1), (0, .ref (a 0)), (1, .int x1)]) (pc := 8) F dX8_canStarveAnywhere_8 (by decide) rfl ?_
  refine V.sub [3, 4, 2, 1, 0] rfl ?_
  obtain ⟨u10, g11, hf⟩ := bind_of hf
  refine K10 N v x1 r1 0 0 u10 g11 ?_
  refine V_iload_n (pc := 57) F dX8_canStarveAnywhere_57 rfl 0 rfl ?_
  obtain ⟨c12, hf⟩ := must_some hf
  obtain rfl := some_of hf
  exact V_ret F rfl (nar_bool (of_decide_eq_true c12)) dX8_canStarveAnywhere_58 rfl rfl
theorem hd_X8_starving : yX8_starving.cls = RX8 ∧ yX8_starving.cls ≠ "java/lang/invoke/MethodHandle" ∧ yX8_starving.cls ≠ "java/lang/invoke/VarHandle" ∧ (parseMethodDescriptor yX8_starving.desc).map (fun d => d.parameters.length) = some 0 := by decide +kernel
def fX8_starving_L4 (N : Nat) (v : SX8) : Nat → Int32 → Int32 → Option (Int32)
  | 0, _, _ => none
  | n + 1, z1, z2 =>
    if 6 ≤ z2 then
      some z1
    else
      (fX8_canStarveAnywhere N v z2).bind fun r2 =>
        if r2 = 0 then
          fX8_starving_L4 N v n (z1 ||| 0) (z2 + 1)
        else
          fX8_starving_L4 N v n (z1 ||| ((1 : Int32) <<< (z2 &&& 31))) (z2 + 1)
def fX8_starving (N : Nat) (v : SX8) : Option (Int32) :=
  (fX8_starving_L4 N v N 0 0).bind fun u5 =>
    some u5
set_option maxHeartbeats 8000000 in
set_option maxRecDepth 100000 in
theorem M_X8_starving (l : Launch) (D : va_G) (cy : Nat → ClassId) (N : Nat) (a : Nat → Nat) (v : SX8) (o : Int32) (hf : fX8_starving N v = some o) : okM l yX8_starving wsX8_starving (rmz 8 191) D cy [.ref (a 0)] (wX8 cy a v) (wX8 cy a v) (some (.int o)) := by
  refine okM_of (own := RX8) (nme := "starving") (cc := cX8_starving) (maxL := 3) (ret := (some .int)) (by decide) rfl rfl rfl (Nat.le_of_ble_eq_true rfl) ?_
  intro p e s m args below meth c A F
  have K4 : ∀ (n : Nat) (v : SX8) (z1 : Int32) (z2 : Int32) (u : Int32), fX8_starving_L4 N v n z1 z2 = some u → V p l e (rmz 8 191) s m args below meth c 3 D A 0 0 (MQ below (ok_Q D (wX8 cy a v) (some (.int o)) A) args s 0 0 A) (wX8 cy a v) [(1, .int u)] [] 34 → V p l e (rmz 8 191) s m args below meth c 3 D A 0 0 (MQ below (ok_Q D (wX8 cy a v) (some (.int o)) A) args s 0 0 A) (wX8 cy a v) [(0, .ref (a 0)), (1, .int z1), (2, .int z2)] [] 4 := by
    intro n
    induction n with
    | zero =>
      intro v z1 z2 u hf hk
      exact nomatch (show (none : Option (Int32)) = some u from hf)
    | succ n ih =>
      intro v z1 z2 u hf hk
      rw [fX8_starving_L4] at hf
      refine V_iload_n (pc := 4) F dX8_starving_4 rfl 2 rfl ?_
      refine V_bipush (v := 6) (pc := 5) F dX8_starving_5 (by decide) ?_
      refine V_icmp_ge (pc := 7) (tgt := 34) F dX8_starving_7 (by decide) (fun h1 => ?_) (fun h1 => ?_)
      · replace hf := ite_pos hf h1
        obtain rfl := some_of hf
        exact V.sub [1] rfl hk
      · replace hf := ite_neg hf h1
        refine V_iload_n (pc := 10) F dX8_starving_10 rfl 1 rfl ?_
        refine V_aload_n (pc := 11) F dX8_starving_11 rfl 0 rfl ?_
        refine V_iload_n (pc := 12) F dX8_starving_12 rfl 2 rfl ?_
        obtain ⟨r2, g3, hf⟩ := bind_of hf
        refine V_V (w2 := wX8 cy a v) (rest := [.int z1]) (st2 := [.int r2, .int z1]) (pc := 13) F 8 (M_X8_canStarveAnywhere l D cy N a v z2 r2 g3) (cwV 1 F.ts gX8_starving_X8_canStarveAnywhere rfl rfl rfl hd_X8_canStarveAnywhere ⟨Nat.le_of_ble_eq_true rfl, Nat.le_of_ble_eq_true rfl⟩) rfl dX8_starving_13 Fit.whole rfl rfl rfl (Nat.le_of_ble_eq_true rfl) (Nat.zero_le _) (Nat.zero_le _) rfl rfl rfl ?_
        refine V_if_eq (pc := 16) (tgt := 25) F dX8_starving_16 (by decide) (fun h4 => ?_) (fun h4 => ?_)
        · replace hf := ite_pos hf h4
          refine V_iconst (v := 0) (pc := 25) F dX8_starving_25 (by decide) ?_
          refine V_ior (pc := 26) F dX8_starving_26 ?_
          refine V_istore_n (L2 := [(1, .int (z1 ||| 0)), (0, .ref (a 0)), (2, .int z2)]) (pc := 27) F dX8_starving_27 rfl (by decide) rfl ?_
          refine V_iinc (v := (z2 + 1)) (L2 := [(2, .int (z2 + 1)), (1, .int (z1 ||| 0)), (0, .ref (a 0))]) (pc := 28) F dX8_starving_28 2 rfl rfl (by decide) rfl ?_
          refine V_goto (pc := 31) (tgt := 4) F dX8_starving_31 (by decide) ?_
          refine V.sub [2, 1, 0] rfl ?_
          exact ih v (z1 ||| 0) (z2 + 1) _ hf hk
        · replace hf := ite_neg hf h4
          refine V_iconst (v := 1) (pc := 19) F dX8_starving_19 (by decide) ?_
          refine V_iload_n (pc := 20) F dX8_starving_20 rfl 2 rfl ?_
          refine V_ishl (pc := 21) F dX8_starving_21 ?_
          refine V_goto (pc := 22) (tgt := 26) F dX8_starving_22 (by decide) ?_
          refine V_ior (pc := 26) F dX8_starving_26 ?_
          refine V_istore_n (L2 := [(1, .int (z1 ||| ((1 : Int32) <<< (z2 &&& 31)))), (0, .ref (a 0)), (2, .int z2)]) (pc := 27) F dX8_starving_27 rfl (by decide) rfl ?_
          refine V_iinc (v := (z2 + 1)) (L2 := [(2, .int (z2 + 1)), (1, .int (z1 ||| ((1 : Int32) <<< (z2 &&& 31)))), (0, .ref (a 0))]) (pc := 28) F dX8_starving_28 2 rfl rfl (by decide) rfl ?_
          refine V_goto (pc := 31) (tgt := 4) F dX8_starving_31 (by decide) ?_
          refine V.sub [2, 1, 0] rfl ?_
          exact ih v (z1 ||| ((1 : Int32) <<< (z2 &&& 31))) (z2 + 1) _ hf hk
  unfold fX8_starving at hf
  refine V.eq rfl (show lv_args 0 [.ref (a 0)] = [(0, .ref (a 0))] from rfl) rfl ?_
  refine V_iconst (v := 0) (pc := 0) F dX8_starving_0 (by decide) ?_
  refine V_istore_n (L2 := [(1, .int 0), (0, .ref (a 0))]) (pc := 1) F dX8_starving_1 rfl (by decide) rfl ?_
  refine V_iconst (v := 0) (pc := 2) F dX8_starving_2 (by decide) ?_
  refine V_istore_n (L2 := [(2, .int 0), (1, .int 0), (0, .ref (a 0))]) (pc := 3) F dX8_starving_3 rfl (by decide) rfl ?_
  refine V.sub [2, 1, 0] rfl ?_
  obtain ⟨u5, g6, hf⟩ := bind_of hf
  refine K4 N v 0 0 u5 g6 ?_
  refine V_iload_n (pc := 34) F dX8_starving_34 rfl 0 rfl ?_
  obtain rfl := some_of hf
  exact V_ret F rfl rfl dX8_starving_35 rfl rfl
theorem hd_X8_roundsOf : yX8_roundsOf.cls = RX8 ∧ yX8_roundsOf.cls ≠ "java/lang/invoke/MethodHandle" ∧ yX8_roundsOf.cls ≠ "java/lang/invoke/VarHandle" ∧ (parseMethodDescriptor yX8_roundsOf.desc).map (fun d => d.parameters.length) = some 1 := by decide +kernel
def fX8_roundsOf_L10 (N : Nat) (v : SX8) (z1 : Int32) (z2 : Int32) : Nat → Int32 → Int32 → Option (Int32)
  | 0, _, _ => none
  | n + 1, z3, z4 =>
    chk 0 143 (
      if (v.2.1 (0 : Int32).toNatClampNeg) ≤ z4 then
        some z3
      else
        if ((z2 >>> (z4 &&& 31)) &&& 1) = 1 then
          (fX8_isRound N v z4 z1).bind fun r6 =>
            if r6 = 0 then
              fX8_roundsOf_L10 N v z1 z2 n (z3 ||| 0) (z4 + 1)
            else
              fX8_roundsOf_L10 N v z1 z2 n (z3 ||| ((1 : Int32) <<< (z4 &&& 31))) (z4 + 1)
        else
          fX8_roundsOf_L10 N v z1 z2 n (z3 ||| 0) (z4 + 1)
    )
def fX8_roundsOf (N : Nat) (v : SX8) (x1 : Int32) : Option (Int32) :=
  (fX8_comers N v).bind fun r1 =>
    (fX8_roundsOf_L10 N v x1 r1 N 0 0).bind fun u9 =>
      some u9
set_option maxHeartbeats 8000000 in
set_option maxRecDepth 100000 in
theorem M_X8_roundsOf (l : Launch) (D : va_G) (cy : Nat → ClassId) (N : Nat) (a : Nat → Nat) (v : SX8) (x1 : Int32) (o : Int32) (hf : fX8_roundsOf N v x1 = some o) : okM l yX8_roundsOf wsX8_roundsOf (rmz 6 142) D cy [.ref (a 0), .int x1] (wX8 cy a v) (wX8 cy a v) (some (.int o)) := by
  refine okM_of (own := RX8) (nme := "roundsOf") (cc := cX8_roundsOf) (maxL := 5) (ret := (some .int)) (by decide) rfl rfl rfl (Nat.le_of_ble_eq_true rfl) ?_
  intro p e s m args below meth c A F
  have i_X8 : ∀ w ∈ u_ws RX8 TX8 13, w ∈ wsX8_roundsOf := fun _ h => List.mem_cons_of_mem _ (List.mem_append_right _ h)
  have K10 : ∀ (n : Nat) (v : SX8) (z1 : Int32) (z2 : Int32) (z3 : Int32) (z4 : Int32) (u : Int32), fX8_roundsOf_L10 N v z1 z2 n z3 z4 = some u → V p l e (rmz 6 142) s m args below meth c 5 D A 0 0 (MQ below (ok_Q D (wX8 cy a v) (some (.int o)) A) args s 0 0 A) (wX8 cy a v) [(3, .int u)] [] 58 → V p l e (rmz 6 142) s m args below meth c 5 D A 0 0 (MQ below (ok_Q D (wX8 cy a v) (some (.int o)) A) args s 0 0 A) (wX8 cy a v) [(0, .ref (a 0)), (1, .int z1), (2, .int z2), (3, .int z3), (4, .int z4)] [] 10 := by
    intro n
    induction n with
    | zero =>
      intro v z1 z2 z3 z4 u hf hk
      exact nomatch (show (none : Option (Int32)) = some u from hf)
    | succ n ih =>
      intro v z1 z2 z3 z4 u hf hk
      rw [fX8_roundsOf_L10] at hf
      refine V_iload (pc := 10) F dX8_roundsOf_10 4 rfl ?_
      refine V_aload_n (pc := 12) F dX8_roundsOf_12 rfl 0 rfl ?_
      refine V_get (pc := 13) F 0 8 1 i_X8 rfl (by decide) rfl (mm 1 rfl) dX8_roundsOf_13 rfl rfl ?_
      refine V_iconst (v := 0) (pc := 16) F dX8_roundsOf_16 (by decide) ?_
      obtain ⟨c3, hf⟩ := chk_some hf
      refine V_iald (pc := 17) F 1 rfl c3 dX8_roundsOf_17 ?_
      refine V_icmp_ge (pc := 18) (tgt := 58) F dX8_roundsOf_18 (by decide) (fun h4 => ?_) (fun h4 => ?_)
      · replace hf := ite_pos hf h4
        obtain rfl := some_of hf
        exact V.sub [3] rfl hk
      · replace hf := ite_neg hf h4
        refine V_iload_n (pc := 21) F dX8_roundsOf_21 rfl 3 rfl ?_
        refine V_iload_n (pc := 22) F dX8_roundsOf_22 rfl 2 rfl ?_
        refine V_iload (pc := 23) F dX8_roundsOf_23 4 rfl ?_
        refine V_ishr (pc := 25) F dX8_roundsOf_25 ?_
        refine V_iconst (v := 1) (pc := 26) F dX8_roundsOf_26 (by decide) ?_
        refine V_iand (pc := 27) F dX8_roundsOf_27 ?_
        refine V_iconst (v := 1) (pc := 28) F dX8_roundsOf_28 (by decide) ?_
        refine V_icmp_ne (pc := 29) (tgt := 49) F dX8_roundsOf_29 (by decide) (fun h5 => ?_) (fun h5 => ?_)
        · replace hf := ite_neg hf h5
          refine V_iconst (v := 0) (pc := 49) F dX8_roundsOf_49 (by decide) ?_
          refine V_ior (pc := 50) F dX8_roundsOf_50 ?_
          refine V_istore_n (L2 := [(3, .int (z3 ||| 0)), (0, .ref (a 0)), (1, .int z1), (2, .int z2), (4, .int z4)]) (pc := 51) F dX8_roundsOf_51 rfl (by decide) rfl ?_
          refine V_iinc (v := (z4 + 1)) (L2 := [(4, .int (z4 + 1)), (3, .int (z3 ||| 0)), (0, .ref (a 0)), (1, .int z1), (2, .int z2)]) (pc := 52) F dX8_roundsOf_52 4 rfl rfl (by decide) rfl ?_
          refine V_goto (pc := 55) (tgt := 10) F dX8_roundsOf_55 (by decide) ?_
          refine V.sub [2, 3, 4, 1, 0] rfl ?_
          exact ih v z1 z2 (z3 ||| 0) (z4 + 1) _ hf hk
        · replace hf := ite_pos hf h5
          refine V_aload_n (pc := 32) F dX8_roundsOf_32 rfl 0 rfl ?_
          refine V_iload (pc := 33) F dX8_roundsOf_33 4 rfl ?_
          refine V_iload_n (pc := 35) F dX8_roundsOf_35 rfl 1 rfl ?_
          obtain ⟨r6, g7, hf⟩ := bind_of hf
          refine V_V (w2 := wX8 cy a v) (rest := [.int z3]) (st2 := [.int r6, .int z3]) (pc := 36) F 8 (M_X8_isRound l D cy N a v z4 z1 r6 g7) (cwV 2 F.ts gX8_roundsOf_X8_isRound rfl rfl rfl hd_X8_isRound ⟨Nat.le_of_ble_eq_true rfl, Nat.le_of_ble_eq_true rfl⟩) rfl dX8_roundsOf_36 Fit.whole rfl rfl rfl (Nat.le_of_ble_eq_true rfl) (Nat.zero_le _) (Nat.zero_le _) rfl rfl rfl ?_
          refine V_if_eq (pc := 39) (tgt := 49) F dX8_roundsOf_39 (by decide) (fun h8 => ?_) (fun h8 => ?_)
          · replace hf := ite_pos hf h8
            refine V_iconst (v := 0) (pc := 49) F dX8_roundsOf_49 (by decide) ?_
            refine V_ior (pc := 50) F dX8_roundsOf_50 ?_
            refine V_istore_n (L2 := [(3, .int (z3 ||| 0)), (0, .ref (a 0)), (1, .int z1), (2, .int z2), (4, .int z4)]) (pc := 51) F dX8_roundsOf_51 rfl (by decide) rfl ?_
            refine V_iinc (v := (z4 + 1)) (L2 := [(4, .int (z4 + 1)), (3, .int (z3 ||| 0)), (0, .ref (a 0)), (1, .int z1), (2, .int z2)]) (pc := 52) F dX8_roundsOf_52 4 rfl rfl (by decide) rfl ?_
            refine V_goto (pc := 55) (tgt := 10) F dX8_roundsOf_55 (by decide) ?_
            refine V.sub [2, 3, 4, 1, 0] rfl ?_
            exact ih v z1 z2 (z3 ||| 0) (z4 + 1) _ hf hk
          · replace hf := ite_neg hf h8
            refine V_iconst (v := 1) (pc := 42) F dX8_roundsOf_42 (by decide) ?_
            refine V_iload (pc := 43) F dX8_roundsOf_43 4 rfl ?_
            refine V_ishl (pc := 45) F dX8_roundsOf_45 ?_
            refine V_goto (pc := 46) (tgt := 50) F dX8_roundsOf_46 (by decide) ?_
            refine V_ior (pc := 50) F dX8_roundsOf_50 ?_
            refine V_istore_n (L2 := [(3, .int (z3 ||| ((1 : Int32) <<< (z4 &&& 31)))), (0, .ref (a 0)), (1, .int z1), (2, .int z2), (4, .int z4)]) (pc := 51) F dX8_roundsOf_51 rfl (by decide) rfl ?_
            refine V_iinc (v := (z4 + 1)) (L2 := [(4, .int (z4 + 1)), (3, .int (z3 ||| ((1 : Int32) <<< (z4 &&& 31)))), (0, .ref (a 0)), (1, .int z1), (2, .int z2)]) (pc := 52) F dX8_roundsOf_52 4 rfl rfl (by decide) rfl ?_
            refine V_goto (pc := 55) (tgt := 10) F dX8_roundsOf_55 (by decide) ?_
            refine V.sub [2, 3, 4, 1, 0] rfl ?_
            exact ih v z1 z2 (z3 ||| ((1 : Int32) <<< (z4 &&& 31))) (z4 + 1) _ hf hk
  unfold fX8_roundsOf at hf
  refine V.eq rfl (show lv_args 0 [.ref (a 0), .int x1] = [(0, .ref (a 0)), (1, .int x1)] from rfl) rfl ?_
  refine V_aload_n (pc := 0) F dX8_roundsOf_0 rfl 0 rfl ?_
  obtain ⟨r1, g2, hf⟩ := bind_of hf
  refine V_V (w2 := wX8 cy a v) (rest := []) (st2 := [.int r1]) (pc := 1) F 8 (M_X8_comers l D cy N a v r1 g2) (cwV 0 F.ts gX8_roundsOf_X8_comers rfl rfl rfl hd_X8_comers ⟨Nat.le_of_ble_eq_true rfl, Nat.le_of_ble_eq_true rfl⟩) rfl dX8_roundsOf_1 Fit.whole rfl rfl rfl (Nat.le_of_ble_eq_true rfl) (Nat.zero_le _) (Nat.zero_le _) rfl rfl rfl ?_
  refine V_istore_n (L2 := [(2, .int r1), (0, .ref (a 0)), (1, .int x1)]) (pc := 4) F dX8_roundsOf_4 rfl (by decide) rfl ?_
  refine V_iconst (v := 0) (pc := 5) F dX8_roundsOf_5 (by decide) ?_
  refine V_istore_n (L2 := [(3, .int 0), (2, .int r1), (0, .ref (a 0)), (1, .int x1)]) (pc := 6) F dX8_roundsOf_6 rfl (by decide) rfl ?_
  refine V_iconst (v := 0) (pc := 7) F dX8_roundsOf_7 (by decide) ?_
  refine V_istore (L2 := [(4, .int 0), (3, .int 0), (2, .int r1), (0, .ref (a 0)), (1, .int x1)]) (pc := 8) F dX8_roundsOf_8 (by decide) rfl ?_
  refine V.sub [3, 4, 2, 1, 0] rfl ?_
  obtain ⟨u9, g10, hf⟩ := bind_of hf
  refine K10 N v x1 r1 0 0 u9 g10 ?_
  refine V_iload_n (pc := 58) F dX8_roundsOf_58 rfl 0 rfl ?_
  obtain rfl := some_of hf
  exact V_ret F rfl rfl dX8_roundsOf_59 rfl rfl
theorem hd_X8_wayBy : yX8_wayBy.cls = RX8 ∧ yX8_wayBy.cls ≠ "java/lang/invoke/MethodHandle" ∧ yX8_wayBy.cls ≠ "java/lang/invoke/VarHandle" ∧ (parseMethodDescriptor yX8_wayBy.desc).map (fun d => d.parameters.length) = some 2 := by decide +kernel
def fX8_wayBy (N : Nat) (v : SX8) (x1 : Int32) (x2 : Int32) : Option (Int32) :=
  (fX8_of N v x1 1).bind fun r1 =>
    (fX8_goal N v x1 x2).bind fun r3 =>
      (fX8_clearingTo N v x1 r3).bind fun r5 =>
        (fX8_goal N v x1 x2).bind fun r7 =>
          chk r7 8 (
            some ((r1 + r5) + (v.2.2.2.2.2.2.2.2.2.2.1 r7.toNatClampNeg))
          )
set_option maxHeartbeats 8000000 in
set_option maxRecDepth 100000 in
theorem M_X8_wayBy (l : Launch) (D : va_G) (cy : Nat → ClassId) (N : Nat) (a : Nat → Nat) (v : SX8) (x1 : Int32) (x2 : Int32) (o : Int32) (hf : fX8_wayBy N v x1 x2 = some o) : okM l yX8_wayBy wsX8_wayBy (rmz 3 65) D cy [.ref (a 0), .int x1, .int x2] (wX8 cy a v) (wX8 cy a v) (some (.int o)) := by
  refine okM_of (own := RX8) (nme := "wayBy") (cc := cX8_wayBy) (maxL := 3) (ret := (some .int)) (by decide) rfl rfl rfl (Nat.le_of_ble_eq_true rfl) ?_
  intro p e s m args below meth c A F
  have i_X8 : ∀ w ∈ u_ws RX8 TX8 13, w ∈ wsX8_wayBy := fun _ h => List.mem_cons_of_mem _ (List.mem_append_right _ h)
  unfold fX8_wayBy at hf
  refine V.eq rfl (show lv_args 0 [.ref (a 0), .int x1, .int x2] = [(0, .ref (a 0)), (1, .int x1), (2, .int x2)] from rfl) rfl ?_
  refine V_aload_n (pc := 0) F dX8_wayBy_0 rfl 0 rfl ?_
  refine V_iload_n (pc := 1) F dX8_wayBy_1 rfl 1 rfl ?_
  refine V_iconst (v := 1) (pc := 2) F dX8_wayBy_2 (by decide) ?_
  obtain ⟨r1, g2, hf⟩ := bind_of hf
  refine V_V (w2 := wX8 cy a v) (rest := []) (st2 := [.int r1]) (pc := 3) F 8 (M_X8_of l D cy N a v x1 1 r1 g2) (cwV 2 F.ts gX8_wayBy_X8_of rfl rfl rfl hd_X8_of ⟨Nat.le_of_ble_eq_true rfl, Nat.le_of_ble_eq_true rfl⟩) rfl dX8_wayBy_3 Fit.whole rfl rfl rfl (Nat.le_of_ble_eq_true rfl) (Nat.zero_le _) (Nat.zero_le _) rfl rfl rfl ?_
  refine V_aload_n (pc := 6) F dX8_wayBy_6 rfl 0 rfl ?_
  refine V_iload_n (pc := 7) F dX8_wayBy_7 rfl 1 rfl ?_
  refine V_aload_n (pc := 8) F dX8_wayBy_8 rfl 0 rfl ?_
  refine V_iload_n (pc := 9) F dX8_wayBy_9 rfl 1 rfl ?_
  refine V_iload_n (pc := 10) F dX8_wayBy_10 rfl 2 rfl ?_
  obtain ⟨r3, g4, hf⟩ := bind_of hf
  refine V_V (w2 := wX8 cy a v) (rest := [.int x1, .ref (a 0), .int r1]) (st2 := [.int r3, .int x1, .ref (a 0), .int r1]) (pc := 11) F 8 (M_X8_goal l D cy N a v x1 x2 r3 g4) (cwV 2 F.ts gX8_wayBy_X8_goal rfl rfl rfl hd_X8_goal ⟨Nat.le_of_ble_eq_true rfl, Nat.le_of_ble_eq_true rfl⟩) rfl dX8_wayBy_11 Fit.whole rfl rfl rfl (Nat.le_of_ble_eq_true rfl) (Nat.zero_le _) (Nat.zero_le _) rfl rfl rfl ?_
  obtain ⟨r5, g6, hf⟩ := bind_of hf
  refine V_V (w2 := wX8 cy a v) (rest := [.int r1]) (st2 := [.int r5, .int r1]) (pc := 14) F 8 (M_X8_clearingTo l D cy N a v x1 r3 r5 g6) (cwV 2 F.ts gX8_wayBy_X8_clearingTo rfl rfl rfl hd_X8_clearingTo ⟨Nat.le_of_ble_eq_true rfl, Nat.le_of_ble_eq_true rfl⟩) rfl dX8_wayBy_14 Fit.whole rfl rfl rfl (Nat.le_of_ble_eq_true rfl) (Nat.zero_le _) (Nat.zero_le _) rfl rfl rfl ?_
  refine V_iadd (pc := 17) F dX8_wayBy_17 ?_
  refine V_aload_n (pc := 18) F dX8_wayBy_18 rfl 0 rfl ?_
  refine V_get (pc := 19) F 0 8 10 i_X8 rfl (by decide) rfl (mm 1 rfl) dX8_wayBy_19 rfl rfl ?_
  refine V_aload_n (pc := 22) F dX8_wayBy_22 rfl 0 rfl ?_
  refine V_iload_n (pc := 23) F dX8_wayBy_23 rfl 1 rfl ?_
  refine V_iload_n (pc := 24) F dX8_wayBy_24 rfl 2 rfl ?_
  obtain ⟨r7, g8, hf⟩ := bind_of hf
  refine V_V (w2 := wX8 cy a v) (rest := [.ref (a 5), .int (r1 + r5)]) (st2 := [.int r7, .ref (a 5), .int (r1 + r5)]) (pc := 25) F 8 (M_X8_goal l D cy N a v x1 x2 r7 g8) (cwV 2 F.ts gX8_wayBy_X8_goal rfl rfl rfl hd_X8_goal ⟨Nat.le_of_ble_eq_true rfl, Nat.le_of_ble_eq_true rfl⟩) rfl dX8_wayBy_25 Fit.whole rfl rfl rfl (Nat.le_of_ble_eq_true rfl) (Nat.zero_le _) (Nat.zero_le _) rfl rfl rfl ?_
  obtain ⟨c9, hf⟩ := chk_some hf
  refine V_iald (pc := 28) F 5 rfl c9 dX8_wayBy_28 ?_
  refine V_iadd (pc := 29) F dX8_wayBy_29 ?_
  obtain rfl := some_of hf
  exact V_ret F rfl rfl dX8_wayBy_30 rfl rfl
theorem hd_X8_layShortest : yX8_layShortest.cls = RX8 ∧ yX8_layShortest.cls ≠ "java/lang/invoke/MethodHandle" ∧ yX8_layShortest.cls ≠ "java/lang/invoke/VarHandle" ∧ (parseMethodDescriptor yX8_layShortest.desc).map (fun d => d.parameters.length) = some 1 := by decide +kernel
def fX8_layShortest_L2 (N : Nat) (z1 : Int32) : Nat → SX8 → Int32 → Option (SX8)
  | 0, _, _ => none
  | n + 1, v, z2 =>
    chk 0 143 (
      if (v.2.1 (0 : Int32).toNatClampNeg) ≤ z2 then
        some v
      else
        (fX8_hasGreen N v z2 z1).bind fun r3 =>
          if r3 = 0 then
            chk z2 8 (
              nmd (upd v.2.2.2.2.2.2.2.2.2.2.1 z2.toNatClampNeg (9999 : Int32)) fun f7 =>
              fX8_layShortest_L2 N z1 n (v.1, v.2.1, v.2.2.1, v.2.2.2.1, v.2.2.2.2.1, v.2.2.2.2.2.1, v.2.2.2.2.2.2.1, v.2.2.2.2.2.2.2.1, v.2.2.2.2.2.2.2.2.1, v.2.2.2.2.2.2.2.2.2.1, f7, v.2.2.2.2.2.2.2.2.2.2.2) (z2 + 1)
            )
          else
            chk z2 8 (
              nmd (upd v.2.2.2.2.2.2.2.2.2.2.1 z2.toNatClampNeg (0 : Int32)) fun f10 =>
              fX8_layShortest_L2 N z1 n (v.1, v.2.1, v.2.2.1, v.2.2.2.1, v.2.2.2.2.1, v.2.2.2.2.2.1, v.2.2.2.2.2.2.1, v.2.2.2.2.2.2.2.1, v.2.2.2.2.2.2.2.2.1, v.2.2.2.2.2.2.2.2.2.1, f10, v.2.2.2.2.2.2.2.2.2.2.2) (z2 + 1)
            )
    )
def fX8_layShortest_L63 (N : Nat) (z1 : Int32) (z2 : Int32) (z3 : Int32) : Nat → SX8 → Int32 → Option (SX8)
  | 0, _, _ => none
  | n + 1, v, z4 =>
    (fX8_rules N v z3).bind fun r17 =>
      if r17 ≤ z4 then
        some v
      else
        (fX8_hasGreen N v z3 z1).bind fun r20 =>
          if r20 = 0 then
            (fX8_canFollow N v z3 z4 z1).bind fun r23 =>
              if r23 = 0 then
                chk z3 8 (
                  if (v.2.2.2.2.2.2.2.2.2.2.1 z3.toNatClampNeg) ≤ 9999 then
                    chk z3 8 (
                      chk z3 8 (
                        nmd (upd v.2.2.2.2.2.2.2.2.2.2.1 z3.toNatClampNeg (v.2.2.2.2.2.2.2.2.2.2.1 z3.toNatClampNeg)) fun f30 =>
                        fX8_layShortest_L63 N z1 z2 z3 n (v.1, v.2.1, v.2.2.1, v.2.2.2.1, v.2.2.2.2.1, v.2.2.2.2.2.1, v.2.2.2.2.2.2.1, v.2.2.2.2.2.2.2.1, v.2.2.2.2.2.2.2.2.1, v.2.2.2.2.2.2.2.2.2.1, f30, v.2.2.2.2.2.2.2.2.2.2.2) (z4 + 1)
                      )
                    )
                  else
                    chk z3 8 (
                      nmd (upd v.2.2.2.2.2.2.2.2.2.2.1 z3.toNatClampNeg (9999 : Int32)) fun f33 =>
                      fX8_layShortest_L63 N z1 z2 z3 n (v.1, v.2.1, v.2.2.1, v.2.2.2.1, v.2.2.2.2.1, v.2.2.2.2.2.1, v.2.2.2.2.2.2.1, v.2.2.2.2.2.2.2.1, v.2.2.2.2.2.2.2.2.1, v.2.2.2.2.2.2.2.2.2.1, f33, v.2.2.2.2.2.2.2.2.2.2.2) (z4 + 1)
                    )
                )
              else
                (fX8_wayBy N v z3 z4).bind fun r35 =>
                  chk z3 8 (
                    if (v.2.2.2.2.2.2.2.2.2.2.1 z3.toNatClampNeg) ≤ r35 then
                      chk z3 8 (
                        chk z3 8 (
                          nmd (upd v.2.2.2.2.2.2.2.2.2.2.1 z3.toNatClampNeg (v.2.2.2.2.2.2.2.2.2.2.1 z3.toNatClampNeg)) fun f41 =>
                          fX8_layShortest_L63 N z1 z2 z3 n (v.1, v.2.1, v.2.2.1, v.2.2.2.1, v.2.2.2.2.1, v.2.2.2.2.2.1, v.2.2.2.2.2.2.1, v.2.2.2.2.2.2.2.1, v.2.2.2.2.2.2.2.2.1, v.2.2.2.2.2.2.2.2.2.1, f41, v.2.2.2.2.2.2.2.2.2.2.2) (z4 + 1)
                        )
                      )
                    else
                      chk z3 8 (
                        nmd (upd v.2.2.2.2.2.2.2.2.2.2.1 z3.toNatClampNeg r35) fun f44 =>
                        fX8_layShortest_L63 N z1 z2 z3 n (v.1, v.2.1, v.2.2.1, v.2.2.2.1, v.2.2.2.2.1, v.2.2.2.2.2.1, v.2.2.2.2.2.2.1, v.2.2.2.2.2.2.2.1, v.2.2.2.2.2.2.2.2.1, v.2.2.2.2.2.2.2.2.2.1, f44, v.2.2.2.2.2.2.2.2.2.2.2) (z4 + 1)
                      )
                  )
          else
            some v
def fX8_layShortest_L50 (N : Nat) (z1 : Int32) (z2 : Int32) : Nat → SX8 → Int32 → Option (SX8)
  | 0, _, _ => none
  | n + 1, v, z3 =>
    chk 0 143 (
      if (v.2.1 (0 : Int32).toNatClampNeg) ≤ z3 then
        some v
      else
        (fX8_layShortest_L63 N z1 z2 z3 N v 0).bind fun u46 =>
          fX8_layShortest_L50 N z1 z2 n u46 (z3 + 1)
    )
def fX8_layShortest_L42 (N : Nat) (z1 : Int32) : Nat → SX8 → Int32 → Option (SX8)
  | 0, _, _ => none
  | n + 1, v, z2 =>
    if 8 ≤ z2 then
      some v
    else
      (fX8_layShortest_L50 N z1 z2 N v 0).bind fun u48 =>
        fX8_layShortest_L42 N z1 n u48 (z2 + 1)
def fX8_layShortest (N : Nat) (v : SX8) (x1 : Int32) : Option (SX8) :=
  (fX8_layShortest_L2 N x1 N v 0).bind fun u12 =>
    (fX8_layShortest_L42 N x1 N u12 0).bind fun u50 =>
      some u50
set_option maxHeartbeats 8000000 in
set_option maxRecDepth 100000 in
theorem M_X8_layShortest (l : Launch) (D : va_G) (cy : Nat → ClassId) (N : Nat) (a : Nat → Nat) (v : SX8) (x1 : Int32) (o : SX8) (hf : fX8_layShortest N v x1 = some o) : okM l yX8_layShortest wsX8_layShortest (rmz 4 93) D cy [.ref (a 0), .int x1] (wX8 cy a v) (wX8 cy a o) none := by
  refine okM_of (own := RX8) (nme := "layShortest") (cc := cX8_layShortest) (maxL := 6) (ret := none) (by decide) rfl rfl rfl (Nat.le_of_ble_eq_true rfl) ?_
  intro p e s m args below meth c A F
  have i_X8 : ∀ w ∈ u_ws RX8 TX8 13, w ∈ wsX8_layShortest := fun _ h => List.mem_cons_of_mem _ (List.mem_append_right _ h)
  have K2 : ∀ (n : Nat) (z1 : Int32) (v : SX8) (z2 : Int32) (u : SX8), fX8_layShortest_L2 N z1 n v z2 = some u → V p l e (rmz 4 93) s m args below meth c 6 D A 0 0 (MQ below (ok_Q D (wX8 cy a o) none A) args s 0 0 A) (wX8 cy a u) [(0, .ref (a 0)), (1, .int z1)] [] 40 → V p l e (rmz 4 93) s m args below meth c 6 D A 0 0 (MQ below (ok_Q D (wX8 cy a o) none A) args s 0 0 A) (wX8 cy a v) [(0, .ref (a 0)), (1, .int z1), (2, .int z2)] [] 2 := by
    intro n
    induction n with
    | zero =>
      intro z1 v z2 u hf hk
      exact nomatch (show (none : Option (SX8)) = some u from hf)
    | succ n ih =>
      intro z1 v z2 u hf hk
      rw [fX8_layShortest_L2] at hf
      refine V_iload_n (pc := 2) F dX8_layShortest_2 rfl 2 rfl ?_
      refine V_aload_n (pc := 3) F dX8_layShortest_3 rfl 0 rfl ?_
      refine V_get (pc := 4) F 0 8 1 i_X8 rfl (by decide) rfl (mm 1 rfl) dX8_layShortest_4 rfl rfl ?_
      refine V_iconst (v := 0) (pc := 7) F dX8_layShortest_7 (by decide) ?_
      obtain ⟨c1, hf⟩ := chk_some hf
      refine V_iald (pc := 8) F 1 rfl c1 dX8_layShortest_8 ?_
      refine V_icmp_ge (pc := 9) (tgt := 40) F dX8_layShortest_9 (by decide) (fun h2 => ?_) (fun h2 => ?_)
      · replace hf := ite_pos hf h2
        obtain rfl := some_of hf
        exact V.sub [0, 1] rfl hk
      · replace hf := ite_neg hf h2
        refine V_aload_n (pc := 12) F dX8_layShortest_12 rfl 0 rfl ?_
        refine V_get (pc := 13) F 0 8 10 i_X8 rfl (by decide) rfl (mm 2 rfl) dX8_layShortest_13 rfl rfl ?_
        refine V_iload_n (pc := 16) F dX8_layShortest_16 rfl 2 rfl ?_
        refine V_aload_n (pc := 17) F dX8_layShortest_17 rfl 0 rfl ?_
        refine V_iload_n (pc := 18) F dX8_layShortest_18 rfl 2 rfl ?_
        refine V_iload_n (pc := 19) F dX8_layShortest_19 rfl 1 rfl ?_
        obtain ⟨r3, g4, hf⟩ := bind_of hf
        refine V_V (w2 := wX8 cy a v) (rest := [.int z2, .ref (a 5)]) (st2 := [.int r3, .int z2, .ref (a 5)]) (pc := 20) F 8 (M_X8_hasGreen l D cy N a v z2 z1 r3 g4) (cwV 2 F.ts gX8_layShortest_X8_hasGreen rfl rfl rfl hd_X8_hasGreen ⟨Nat.le_of_ble_eq_true rfl, Nat.le_of_ble_eq_true rfl⟩) rfl dX8_layShortest_20 Fit.whole rfl rfl rfl (Nat.le_of_ble_eq_true rfl) (Nat.zero_le _) (Nat.zero_le _) rfl rfl rfl ?_
        refine V_if_eq (pc := 23) (tgt := 30) F dX8_layShortest_23 (by decide) (fun h5 => ?_) (fun h5 => ?_)
        · replace hf := ite_pos hf h5
          refine V_sipush (v := 9999) (pc := 30) F dX8_layShortest_30 (by decide) ?_
          obtain ⟨c6, hf⟩ := chk_some hf
          obtain ⟨f7, e8, hf⟩ := nmd_of hf
          refine V_iast (w2 := wX8 cy a (v.1, v.2.1, v.2.2.1, v.2.2.2.1, v.2.2.2.2.1, v.2.2.2.2.2.1, v.2.2.2.2.2.2.1, v.2.2.2.2.2.2.2.1, v.2.2.2.2.2.2.2.2.1, v.2.2.2.2.2.2.2.2.2.1, f7, v.2.2.2.2.2.2.2.2.2.2.2)) (pc := 33) F 5 rfl c6 e8 dX8_layShortest_33 rfl ?_
          refine V_iinc (v := (z2 + 1)) (L2 := [(2, .int (z2 + 1)), (0, .ref (a 0)), (1, .int z1)]) (pc := 34) F dX8_layShortest_34 2 rfl rfl (by decide) rfl ?_
          refine V_goto (pc := 37) (tgt := 2) F dX8_layShortest_37 (by decide) ?_
          refine V.sub [1, 2, 0] rfl ?_
          exact ih z1 (v.1, v.2.1, v.2.2.1, v.2.2.2.1, v.2.2.2.2.1, v.2.2.2.2.2.1, v.2.2.2.2.2.2.1, v.2.2.2.2.2.2.2.1, v.2.2.2.2.2.2.2.2.1, v.2.2.2.2.2.2.2.2.2.1, f7, v.2.2.2.2.2.2.2.2.2.2.2) (z2 + 1) _ hf hk
        · replace hf := ite_neg hf h5
          refine V_iconst (v := 0) (pc := 26) F dX8_layShortest_26 (by decide) ?_
          refine V_goto (pc := 27) (tgt := 33) F dX8_layShortest_27 (by decide) ?_
          obtain ⟨c9, hf⟩ := chk_some hf
          obtain ⟨f10, e11, hf⟩ := nmd_of hf
          refine V_iast (w2 := wX8 cy a (v.1, v.2.1, v.2.2.1, v.2.2.2.1, v.2.2.2.2.1, v.2.2.2.2.2.1, v.2.2.2.2.2.2.1, v.2.2.2.2.2.2.2.1, v.2.2.2.2.2.2.2.2.1, v.2.2.2.2.2.2.2.2.2.1, f10, v.2.2.2.2.2.2.2.2.2.2.2)) (pc := 33) F 5 rfl c9 e11 dX8_layShortest_33 rfl ?_
          refine V_iinc (v := (z2 + 1)) (L2 := [(2, .int (z2 + 1)), (0, .ref (a 0)), (1, .int z1)]) (pc := 34) F dX8_layShortest_34 2 rfl rfl (by decide) rfl ?_
          refine V_goto (pc := 37) (tgt := 2) F dX8_layShortest_37 (by decide) ?_
          refine V.sub [1, 2, 0] rfl ?_
          exact ih z1 (v.1, v.2.1, v.2.2.1, v.2.2.2.1, v.2.2.2.2.1, v.2.2.2.2.2.1, v.2.2.2.2.2.2.1, v.2.2.2.2.2.2.2.1, v.2.2.2.2.2.2.2.2.1, v.2.2.2.2.2.2.2.2.2.1, f10, v.2.2.2.2.2.2.2.2.2.2.2) (z2 + 1) _ hf hk
  have K63 : ∀ (n : Nat) (z1 : Int32) (z2 : Int32) (z3 : Int32) (v : SX8) (z4 : Int32) (u : SX8), fX8_layShortest_L63 N z1 z2 z3 n v z4 = some u → V p l e (rmz 4 93) s m args below meth c 6 D A 0 0 (MQ below (ok_Q D (wX8 cy a o) none A) args s 0 0 A) (wX8 cy a u) [(0, .ref (a 0)), (1, .int z1), (2, .int z2), (3, .int z3)] [] 142 → V p l e (rmz 4 93) s m args below meth c 6 D A 0 0 (MQ below (ok_Q D (wX8 cy a o) none A) args s 0 0 A) (wX8 cy a v) [(0, .ref (a 0)), (1, .int z1), (2, .int z2), (3, .int z3), (4, .int z4)] [] 63 := by
    intro n
    induction n with
    | zero =>
      intro z1 z2 z3 v z4 u hf hk
      exact nomatch (show (none : Option (SX8)) = some u from hf)
    | succ n ih =>
      intro z1 z2 z3 v z4 u hf hk
      rw [fX8_layShortest_L63] at hf
      refine V_iload (pc := 63) F dX8_layShortest_63 4 rfl ?_
      refine V_aload_n (pc := 65) F dX8_layShortest_65 rfl 0 rfl ?_
      refine V_iload_n (pc := 66) F dX8_layShortest_66 rfl 3 rfl ?_
      obtain ⟨r17, g18, hf⟩ := bind_of hf
      refine V_V (w2 := wX8 cy a v) (rest := [.int z4]) (st2 := [.int r17, .int z4]) (pc := 67) F 8 (M_X8_rules l D cy N a v z3 r17 g18) (cwV 1 F.ts gX8_layShortest_X8_rules rfl rfl rfl hd_X8_rules ⟨Nat.le_of_ble_eq_true rfl, Nat.le_of_ble_eq_true rfl⟩) rfl dX8_layShortest_67 Fit.whole rfl rfl rfl (Nat.le_of_ble_eq_true rfl) (Nat.zero_le _) (Nat.zero_le _) rfl rfl rfl ?_
      refine V_icmp_ge (pc := 70) (tgt := 142) F dX8_layShortest_70 (by decide) (fun h19 => ?_) (fun h19 => ?_)
      · replace hf := ite_pos hf h19
        obtain rfl := some_of hf
        exact V.sub [0, 1, 2, 3] rfl hk
      · replace hf := ite_neg hf h19
        refine V_aload_n (pc := 73) F dX8_layShortest_73 rfl 0 rfl ?_
        refine V_iload_n (pc := 74) F dX8_layShortest_74 rfl 3 rfl ?_
        refine V_iload_n (pc := 75) F dX8_layShortest_75 rfl 1 rfl ?_
        obtain ⟨r20, g21, hf⟩ := bind_of hf
        refine V_V (w2 := wX8 cy a v) (rest := []) (st2 := [.int r20]) (pc := 76) F 8 (M_X8_hasGreen l D cy N a v z3 z1 r20 g21) (cwV 2 F.ts gX8_layShortest_X8_hasGreen rfl rfl rfl hd_X8_hasGreen ⟨Nat.le_of_ble_eq_true rfl, Nat.le_of_ble_eq_true rfl⟩) rfl dX8_layShortest_76 Fit.whole rfl rfl rfl (Nat.le_of_ble_eq_true rfl) (Nat.zero_le _) (Nat.zero_le _) rfl rfl rfl ?_
        refine V_if_ne (pc := 79) (tgt := 142) F dX8_layShortest_79 (by decide) (fun h22 => ?_) (fun h22 => ?_)
        · replace hf := ite_neg hf h22
          obtain rfl := some_of hf
          exact V.sub [0, 1, 2, 3] rfl hk
        · replace hf := ite_pos hf h22
          refine V_aload_n (pc := 82) F dX8_layShortest_82 rfl 0 rfl ?_
          refine V_iload_n (pc := 83) F dX8_layShortest_83 rfl 3 rfl ?_
          refine V_iload (pc := 84) F dX8_layShortest_84 4 rfl ?_
          refine V_iload_n (pc := 86) F dX8_layShortest_86 rfl 1 rfl ?_
          obtain ⟨r23, g24, hf⟩ := bind_of hf
          refine V_V (w2 := wX8 cy a v) (rest := []) (st2 := [.int r23]) (pc := 87) F 8 (M_X8_canFollow l D cy N a v z3 z4 z1 r23 g24) (cwV 3 F.ts gX8_layShortest_X8_canFollow rfl rfl rfl hd_X8_canFollow ⟨Nat.le_of_ble_eq_true rfl, Nat.le_of_ble_eq_true rfl⟩) rfl dX8_layShortest_87 Fit.whole rfl rfl rfl (Nat.le_of_ble_eq_true rfl) (Nat.zero_le _) (Nat.zero_le _) rfl rfl rfl ?_
          refine V_if_eq (pc := 90) (tgt := 103) F dX8_layShortest_90 (by decide) (fun h25 => ?_) (fun h25 => ?_)
          · replace hf := ite_pos hf h25
            refine V_sipush (v := 9999) (pc := 103) F dX8_layShortest_103 (by decide) ?_
            refine V_istore (L2 := [(5, .int 9999), (0, .ref (a 0)), (1, .int z1), (2, .int z2), (3, .int z3), (4, .int z4)]) (pc := 106) F dX8_layShortest_106 (by decide) rfl ?_
            refine V_aload_n (pc := 108) F dX8_layShortest_108 rfl 1 rfl ?_
            refine V_get (pc := 109) F 0 8 10 i_X8 rfl (by decide) rfl (mm 2 rfl) dX8_layShortest_109 rfl rfl ?_
            refine V_iload_n (pc := 112) F dX8_layShortest_112 rfl 4 rfl ?_
            refine V_iload (pc := 113) F dX8_layShortest_113 0 rfl ?_
            refine V_aload_n (pc := 115) F dX8_layShortest_115 rfl 1 rfl ?_
            refine V_get (pc := 116) F 0 8 10 i_X8 rfl (by decide) rfl (mm 2 rfl) dX8_layShortest_116 rfl rfl ?_
            refine V_iload_n (pc := 119) F dX8_layShortest_119 rfl 4 rfl ?_
            obtain ⟨c26, hf⟩ := chk_some hf
            refine V_iald (pc := 120) F 5 rfl c26 dX8_layShortest_120 ?_
            refine V_icmp_ge (pc := 121) (tgt := 129) F dX8_layShortest_121 (by decide) (fun h27 => ?_) (fun h27 => ?_)
            · replace hf := ite_pos hf h27
              refine V_aload_n (pc := 129) F dX8_layShortest_129 rfl 1 rfl ?_
              refine V_get (pc := 130) F 0 8 10 i_X8 rfl (by decide) rfl (mm 2 rfl) dX8_layShortest_130 rfl rfl ?_
              refine V_iload_n (pc := 133) F dX8_layShortest_133 rfl 4 rfl ?_
              obtain ⟨c28, hf⟩ := chk_some hf
              refine V_iald (pc := 134) F 5 rfl c28 dX8_layShortest_134 ?_
              obtain ⟨c29, hf⟩ := chk_some hf
              obtain ⟨f30, e31, hf⟩ := nmd_of hf
              refine V_iast (w2 := wX8 cy a (v.1, v.2.1, v.2.2.1, v.2.2.2.1, v.2.2.2.2.1, v.2.2.2.2.2.1, v.2.2.2.2.2.2.1, v.2.2.2.2.2.2.2.1, v.2.2.2.2.2.2.2.2.1, v.2.2.2.2.2.2.2.2.2.1, f30, v.2.2.2.2.2.2.2.2.2.2.2)) (pc := 135) F 5 rfl c29 e31 dX8_layShortest_135 rfl ?_
              refine V_iinc (v := (z4 + 1)) (L2 := [(4, .int (z4 + 1)), (5, .int 9999), (0, .ref (a 0)), (1, .int z1), (2, .int z2), (3, .int z3)]) (pc := 136) F dX8_layShortest_136 5 rfl rfl (by decide) rfl ?_
              refine V_goto (pc := 139) (tgt := 63) F dX8_layShortest_139 (by decide) ?_
              refine V.sub [2, 3, 4, 5, 0] rfl ?_
              exact ih z1 z2 z3 (v.1, v.2.1, v.2.2.1, v.2.2.2.1, v.2.2.2.2.1, v.2.2.2.2.2.1, v.2.2.2.2.2.2.1, v.2.2.2.2.2.2.2.1, v.2.2.2.2.2.2.2.2.1, v.2.2.2.2.2.2.2.2.2.1, f30, v.2.2.2.2.2.2.2.2.2.2.2) (z4 + 1) _ hf hk
            · replace hf := ite_neg hf h27
              refine V_iload (pc := 124) F dX8_layShortest_124 0 rfl ?_
              refine V_goto (pc := 126) (tgt := 135) F dX8_layShortest_126 (by decide) ?_
              obtain ⟨c32, hf⟩ := chk_some hf
              obtain ⟨f33, e34, hf⟩ := nmd_of hf
              refine V_iast (w2 := wX8 cy a (v.1, v.2.1, v.2.2.1, v.2.2.2.1, v.2.2.2.2.1, v.2.2.2.2.2.1, v.2.2.2.2.2.2.1, v.2.2.2.2.2.2.2.1, v.2.2.2.2.2.2.2.2.1, v.2.2.2.2.2.2.2.2.2.1, f33, v.2.2.2.2.2.2.2.2.2.2.2)) (pc := 135) F 5 rfl c32 e34 dX8_layShortest_135 rfl ?_
              refine V_iinc (v := (z4 + 1)) (L2 := [(4, .int (z4 + 1)), (5, .int 9999), (0, .ref (a 0)), (1, .int z1), (2, .int z2), (3, .int z3)]) (pc := 136) F dX8_layShortest_136 5 rfl rfl (by decide) rfl ?_
              refine V_goto (pc := 139) (tgt := 63) F dX8_layShortest_139 (by decide) ?_
              refine V.sub [2, 3, 4, 5, 0] rfl ?_
              exact ih z1 z2 z3 (v.1, v.2.1, v.2.2.1, v.2.2.2.1, v.2.2.2.2.1, v.2.2.2.2.2.1, v.2.2.2.2.2.2.1, v.2.2.2.2.2.2.2.1, v.2.2.2.2.2.2.2.2.1, v.2.2.2.2.2.2.2.2.2.1, f33, v.2.2.2.2.2.2.2.2.2.2.2) (z4 + 1) _ hf hk
          · replace hf := ite_neg hf h25
            refine V_aload_n (pc := 93) F dX8_layShortest_93 rfl 0 rfl ?_
            refine V_iload_n (pc := 94) F dX8_layShortest_94 rfl 3 rfl ?_
            refine V_iload (pc := 95) F dX8_layShortest_95 4 rfl ?_
            obtain ⟨r35, g36, hf⟩ := bind_of hf
            refine V_V (w2 := wX8 cy a v) (rest := []) (st2 := [.int r35]) (pc := 97) F 8 (M_X8_wayBy l D cy N a v z3 z4 r35 g36) (cwV 2 F.ts gX8_layShortest_X8_wayBy rfl rfl rfl hd_X8_wayBy ⟨Nat.le_of_ble_eq_true rfl, Nat.le_of_ble_eq_true rfl⟩) rfl dX8_layShortest_97 Fit.whole rfl rfl rfl (Nat.le_of_ble_eq_true rfl) (Nat.zero_le _) (Nat.zero_le _) rfl rfl rfl ?_
            refine V_goto (pc := 100) (tgt := 106) F dX8_layShortest_100 (by decide) ?_
            refine V_istore (L2 := [(5, .int r35), (0, .ref (a 0)), (1, .int z1), (2, .int z2), (3, .int z3), (4, .int z4)]) (pc := 106) F dX8_layShortest_106 (by decide) rfl ?_
            refine V_aload_n (pc := 108) F dX8_layShortest_108 rfl 1 rfl ?_
            refine V_get (pc := 109) F 0 8 10 i_X8 rfl (by decide) rfl (mm 2 rfl) dX8_layShortest_109 rfl rfl ?_
            refine V_iload_n (pc := 112) F dX8_layShortest_112 rfl 4 rfl ?_
            refine V_iload (pc := 113) F dX8_layShortest_113 0 rfl ?_
            refine V_aload_n (pc := 115) F dX8_layShortest_115 rfl 1 rfl ?_
            refine V_get (pc := 116) F 0 8 10 i_X8 rfl (by decide) rfl (mm 2 rfl) dX8_layShortest_116 rfl rfl ?_
            refine V_iload_n (pc := 119) F dX8_layShortest_119 rfl 4 rfl ?_
            obtain ⟨c37, hf⟩ := chk_some hf
            refine V_iald (pc := 120) F 5 rfl c37 dX8_layShortest_120 ?_
            refine V_icmp_ge (pc := 121) (tgt := 129) F dX8_layShortest_121 (by decide) (fun h38 => ?_) (fun h38 => ?_)
            · replace hf := ite_pos hf h38
              refine V_aload_n (pc := 129) F dX8_layShortest_129 rfl 1 rfl ?_
              refine V_get (pc := 130) F 0 8 10 i_X8 rfl (by decide) rfl (mm 2 rfl) dX8_layShortest_130 rfl rfl ?_
              refine V_iload_n (pc := 133) F dX8_layShortest_133 rfl 4 rfl ?_
              obtain ⟨c39, hf⟩ := chk_some hf
              refine V_iald (pc := 134) F 5 rfl c39 dX8_layShortest_134 ?_
              obtain ⟨c40, hf⟩ := chk_some hf
              obtain ⟨f41, e42, hf⟩ := nmd_of hf
              refine V_iast (w2 := wX8 cy a (v.1, v.2.1, v.2.2.1, v.2.2.2.1, v.2.2.2.2.1, v.2.2.2.2.2.1, v.2.2.2.2.2.2.1, v.2.2.2.2.2.2.2.1, v.2.2.2.2.2.2.2.2.1, v.2.2.2.2.2.2.2.2.2.1, f41, v.2.2.2.2.2.2.2.2.2.2.2)) (pc := 135) F 5 rfl c40 e42 dX8_layShortest_135 rfl ?_
              refine V_iinc (v := (z4 + 1)) (L2 := [(4, .int (z4 + 1)), (5, .int r35), (0, .ref (a 0)), (1, .int z1), (2, .int z2), (3, .int z3)]) (pc := 136) F dX8_layShortest_136 5 rfl rfl (by decide) rfl ?_
              refine V_goto (pc := 139) (tgt := 63) F dX8_layShortest_139 (by decide) ?_
              refine V.sub [2, 3, 4, 5, 0] rfl ?_
              exact ih z1 z2 z3 (v.1, v.2.1, v.2.2.1, v.2.2.2.1, v.2.2.2.2.1, v.2.2.2.2.2.1, v.2.2.2.2.2.2.1, v.2.2.2.2.2.2.2.1, v.2.2.2.2.2.2.2.2.1, v.2.2.2.2.2.2.2.2.2.1, f41, v.2.2.2.2.2.2.2.2.2.2.2) (z4 + 1) _ hf hk
            · replace hf := ite_neg hf h38
              refine V_iload (pc := 124) F dX8_layShortest_124 0 rfl ?_
              refine V_goto (pc := 126) (tgt := 135) F dX8_layShortest_126 (by decide) ?_
              obtain ⟨c43, hf⟩ := chk_some hf
              obtain ⟨f44, e45, hf⟩ := nmd_of hf
              refine V_iast (w2 := wX8 cy a (v.1, v.2.1, v.2.2.1, v.2.2.2.1, v.2.2.2.2.1, v.2.2.2.2.2.1, v.2.2.2.2.2.2.1, v.2.2.2.2.2.2.2.1, v.2.2.2.2.2.2.2.2.1, v.2.2.2.2.2.2.2.2.2.1, f44, v.2.2.2.2.2.2.2.2.2.2.2)) (pc := 135) F 5 rfl c43 e45 dX8_layShortest_135 rfl ?_
              refine V_iinc (v := (z4 + 1)) (L2 := [(4, .int (z4 + 1)), (5, .int r35), (0, .ref (a 0)), (1, .int z1), (2, .int z2), (3, .int z3)]) (pc := 136) F dX8_layShortest_136 5 rfl rfl (by decide) rfl ?_
              refine V_goto (pc := 139) (tgt := 63) F dX8_layShortest_139 (by decide) ?_
              refine V.sub [2, 3, 4, 5, 0] rfl ?_
              exact ih z1 z2 z3 (v.1, v.2.1, v.2.2.1, v.2.2.2.1, v.2.2.2.2.1, v.2.2.2.2.2.1, v.2.2.2.2.2.2.1, v.2.2.2.2.2.2.2.1, v.2.2.2.2.2.2.2.2.1, v.2.2.2.2.2.2.2.2.2.1, f44, v.2.2.2.2.2.2.2.2.2.2.2) (z4 + 1) _ hf hk
  have K50 : ∀ (n : Nat) (z1 : Int32) (z2 : Int32) (v : SX8) (z3 : Int32) (u : SX8), fX8_layShortest_L50 N z1 z2 n v z3 = some u → V p l e (rmz 4 93) s m args below meth c 6 D A 0 0 (MQ below (ok_Q D (wX8 cy a o) none A) args s 0 0 A) (wX8 cy a u) [(0, .ref (a 0)), (1, .int z1), (2, .int z2)] [] 148 → V p l e (rmz 4 93) s m args below meth c 6 D A 0 0 (MQ below (ok_Q D (wX8 cy a o) none A) args s 0 0 A) (wX8 cy a v) [(0, .ref (a 0)), (1, .int z1), (2, .int z2), (3, .int z3)] [] 50 := by
    intro n
    induction n with
    | zero =>
      intro z1 z2 v z3 u hf hk
      exact nomatch (show (none : Option (SX8)) = some u from hf)
    | succ n ih =>
      intro z1 z2 v z3 u hf hk
      rw [fX8_layShortest_L50] at hf
      refine V_iload_n (pc := 50) F dX8_layShortest_50 rfl 3 rfl ?_
      refine V_aload_n (pc := 51) F dX8_layShortest_51 rfl 0 rfl ?_
      refine V_get (pc := 52) F 0 8 1 i_X8 rfl (by decide) rfl (mm 1 rfl) dX8_layShortest_52 rfl rfl ?_
      refine V_iconst (v := 0) (pc := 55) F dX8_layShortest_55 (by decide) ?_
      obtain ⟨c15, hf⟩ := chk_some hf
      refine V_iald (pc := 56) F 1 rfl c15 dX8_layShortest_56 ?_
      refine V_icmp_ge (pc := 57) (tgt := 148) F dX8_layShortest_57 (by decide) (fun h16 => ?_) (fun h16 => ?_)
      · replace hf := ite_pos hf h16
        obtain rfl := some_of hf
        exact V.sub [0, 1, 2] rfl hk
      · replace hf := ite_neg hf h16
        refine V_iconst (v := 0) (pc := 60) F dX8_layShortest_60 (by decide) ?_
        refine V_istore (L2 := [(4, .int 0), (0, .ref (a 0)), (1, .int z1), (2, .int z2), (3, .int z3)]) (pc := 61) F dX8_layShortest_61 (by decide) rfl ?_
        refine V.sub [1, 2, 3, 4, 0] rfl ?_
        obtain ⟨u46, g47, hf⟩ := bind_of hf
        refine K63 N z1 z2 z3 v 0 u46 g47 ?_
        refine V_iinc (v := (z3 + 1)) (L2 := [(3, .int (z3 + 1)), (0, .ref (a 0)), (1, .int z1), (2, .int z2)]) (pc := 142) F dX8_layShortest_142 3 rfl rfl (by decide) rfl ?_
        refine V_goto (pc := 145) (tgt := 50) F dX8_layShortest_145 (by decide) ?_
        refine V.sub [1, 2, 3, 0] rfl ?_
        exact ih z1 z2 u46 (z3 + 1) _ hf hk
  have K42 : ∀ (n : Nat) (z1 : Int32) (v : SX8) (z2 : Int32) (u : SX8), fX8_layShortest_L42 N z1 n v z2 = some u → V p l e (rmz 4 93) s m args below meth c 6 D A 0 0 (MQ below (ok_Q D (wX8 cy a o) none A) args s 0 0 A) (wX8 cy a u) [] [] 154 → V p l e (rmz 4 93) s m args below meth c 6 D A 0 0 (MQ below (ok_Q D (wX8 cy a o) none A) args s 0 0 A) (wX8 cy a v) [(0, .ref (a 0)), (1, .int z1), (2, .int z2)] [] 42 := by
    intro n
    induction n with
    | zero =>
      intro z1 v z2 u hf hk
      exact nomatch (show (none : Option (SX8)) = some u from hf)
    | succ n ih =>
      intro z1 v z2 u hf hk
      rw [fX8_layShortest_L42] at hf
      refine V_iload_n (pc := 42) F dX8_layShortest_42 rfl 2 rfl ?_
      refine V_bipush (v := 8) (pc := 43) F dX8_layShortest_43 (by decide) ?_
      refine V_icmp_ge (pc := 45) (tgt := 154) F dX8_layShortest_45 (by decide) (fun h14 => ?_) (fun h14 => ?_)
      · replace hf := ite_pos hf h14
        obtain rfl := some_of hf
        exact V.sub [] rfl hk
      · replace hf := ite_neg hf h14
        refine V_iconst (v := 0) (pc := 48) F dX8_layShortest_48 (by decide) ?_
        refine V_istore_n (L2 := [(3, .int 0), (0, .ref (a 0)), (1, .int z1), (2, .int z2)]) (pc := 49) F dX8_layShortest_49 rfl (by decide) rfl ?_
        refine V.sub [1, 2, 3, 0] rfl ?_
        obtain ⟨u48, g49, hf⟩ := bind_of hf
        refine K50 N z1 z2 v 0 u48 g49 ?_
        refine V_iinc (v := (z2 + 1)) (L2 := [(2, .int (z2 + 1)), (0, .ref (a 0)), (1, .int z1)]) (pc := 148) F dX8_layShortest_148 2 rfl rfl (by decide) rfl ?_
        refine V_goto (pc := 151) (tgt := 42) F dX8_layShortest_151 (by decide) ?_
        refine V.sub [1, 2, 0] rfl ?_
        exact ih z1 u48 (z2 + 1) _ hf hk
  unfold fX8_layShortest at hf
  refine V.eq rfl (show lv_args 0 [.ref (a 0), .int x1] = [(0, .ref (a 0)), (1, .int x1)] from rfl) rfl ?_
  refine V_iconst (v := 0) (pc := 0) F dX8_layShortest_0 (by decide) ?_
  refine V_istore_n (L2 := [(2, .int 0), (0, .ref (a 0)), (1, .int x1)]) (pc := 1) F dX8_layShortest_1 rfl (by decide) rfl ?_
  refine V.sub [1, 2, 0] rfl ?_
  obtain ⟨u12, g13, hf⟩ := bind_of hf
  refine K2 N x1 v 0 u12 g13 ?_
  refine V_iconst (v := 0) (pc := 40) F dX8_layShortest_40 (by decide) ?_
  refine V_istore_n (L2 := [(2, .int 0), (0, .ref (a 0)), (1, .int x1)]) (pc := 41) F dX8_layShortest_41 rfl (by decide) rfl ?_
  refine V.sub [1, 2, 0] rfl ?_
  obtain ⟨u50, g51, hf⟩ := bind_of hf
  refine K42 N x1 u12 0 u50 g51 ?_
  obtain rfl := some_of hf
  exact V_vret F rfl dX8_layShortest_154 rfl
theorem hd_X8_layLongest : yX8_layLongest.cls = RX8 ∧ yX8_layLongest.cls ≠ "java/lang/invoke/MethodHandle" ∧ yX8_layLongest.cls ≠ "java/lang/invoke/VarHandle" ∧ (parseMethodDescriptor yX8_layLongest.desc).map (fun d => d.parameters.length) = some 1 := by decide +kernel
def fX8_layLongest_L2 (N : Nat) (z1 : Int32) : Nat → SX8 → Int32 → Option (SX8)
  | 0, _, _ => none
  | n + 1, v, z2 =>
    chk 0 143 (
      if (v.2.1 (0 : Int32).toNatClampNeg) ≤ z2 then
        some v
      else
        chk z2 8 (
          nmd (upd v.2.2.2.2.2.2.2.2.2.2.1 z2.toNatClampNeg (0 : Int32)) fun f4 =>
          fX8_layLongest_L2 N z1 n (v.1, v.2.1, v.2.2.1, v.2.2.2.1, v.2.2.2.2.1, v.2.2.2.2.2.1, v.2.2.2.2.2.2.1, v.2.2.2.2.2.2.2.1, v.2.2.2.2.2.2.2.2.1, v.2.2.2.2.2.2.2.2.2.1, f4, v.2.2.2.2.2.2.2.2.2.2.2) (z2 + 1)
        )
    )
def fX8_layLongest_L73 (N : Nat) (z1 : Int32) (z2 : Int32) (z3 : Int32) (z4 : Int32) : Nat → SX8 → Int32 → Option (SX8)
  | 0, _, _ => none
  | n + 1, v, z5 =>
    (fX8_rules N v z3).bind fun r14 =>
      if r14 ≤ z5 then
        some v
      else
        if z4 = 0 then
          some v
        else
          (fX8_canFollow N v z3 z5 z1).bind fun r18 =>
            if r18 = 0 then
              chk z3 8 (
                if 0 ≤ (v.2.2.2.2.2.2.2.2.2.2.1 z3.toNatClampNeg) then
                  chk z3 8 (
                    chk z3 8 (
                      nmd (upd v.2.2.2.2.2.2.2.2.2.2.1 z3.toNatClampNeg (v.2.2.2.2.2.2.2.2.2.2.1 z3.toNatClampNeg)) fun f25 =>
                      fX8_layLongest_L73 N z1 z2 z3 z4 n (v.1, v.2.1, v.2.2.1, v.2.2.2.1, v.2.2.2.2.1, v.2.2.2.2.2.1, v.2.2.2.2.2.2.1, v.2.2.2.2.2.2.2.1, v.2.2.2.2.2.2.2.2.1, v.2.2.2.2.2.2.2.2.2.1, f25, v.2.2.2.2.2.2.2.2.2.2.2) (z5 + 1)
                    )
                  )
                else
                  chk z3 8 (
                    nmd (upd v.2.2.2.2.2.2.2.2.2.2.1 z3.toNatClampNeg (0 : Int32)) fun f28 =>
                    fX8_layLongest_L73 N z1 z2 z3 z4 n (v.1, v.2.1, v.2.2.1, v.2.2.2.1, v.2.2.2.2.1, v.2.2.2.2.2.1, v.2.2.2.2.2.2.1, v.2.2.2.2.2.2.2.1, v.2.2.2.2.2.2.2.2.1, v.2.2.2.2.2.2.2.2.2.1, f28, v.2.2.2.2.2.2.2.2.2.2.2) (z5 + 1)
                  )
              )
            else
              (fX8_wayBy N v z3 z5).bind fun r30 =>
                chk z3 8 (
                  if r30 ≤ (v.2.2.2.2.2.2.2.2.2.2.1 z3.toNatClampNeg) then
                    chk z3 8 (
                      chk z3 8 (
                        nmd (upd v.2.2.2.2.2.2.2.2.2.2.1 z3.toNatClampNeg (v.2.2.2.2.2.2.2.2.2.2.1 z3.toNatClampNeg)) fun f36 =>
                        fX8_layLongest_L73 N z1 z2 z3 z4 n (v.1, v.2.1, v.2.2.1, v.2.2.2.1, v.2.2.2.2.1, v.2.2.2.2.2.1, v.2.2.2.2.2.2.1, v.2.2.2.2.2.2.2.1, v.2.2.2.2.2.2.2.2.1, v.2.2.2.2.2.2.2.2.2.1, f36, v.2.2.2.2.2.2.2.2.2.2.2) (z5 + 1)
                      )
                    )
                  else
                    chk z3 8 (
                      nmd (upd v.2.2.2.2.2.2.2.2.2.2.1 z3.toNatClampNeg r30) fun f39 =>
                      fX8_layLongest_L73 N z1 z2 z3 z4 n (v.1, v.2.1, v.2.2.1, v.2.2.2.1, v.2.2.2.2.1, v.2.2.2.2.2.1, v.2.2.2.2.2.2.1, v.2.2.2.2.2.2.2.1, v.2.2.2.2.2.2.2.2.1, v.2.2.2.2.2.2.2.2.2.1, f39, v.2.2.2.2.2.2.2.2.2.2.2) (z5 + 1)
                    )
                )
def fX8_layLongest_L35 (N : Nat) (z1 : Int32) (z2 : Int32) : Nat → SX8 → Int32 → Option (SX8)
  | 0, _, _ => none
  | n + 1, v, z3 =>
    chk 0 143 (
      if (v.2.1 (0 : Int32).toNatClampNeg) ≤ z3 then
        some v
      else
        (fX8_hasGreen N v z3 z1).bind fun r11 =>
          if r11 = 0 then
            (fX8_canStarve N v z3 z1).bind fun r43 =>
              if r43 = 0 then
                (fX8_layLongest_L73 N z1 z2 z3 1 N v 0).bind fun u48 =>
                  fX8_layLongest_L35 N z1 z2 n u48 (z3 + 1)
              else
                (fX8_layLongest_L73 N z1 z2 z3 0 N v 0).bind fun u46 =>
                  fX8_layLongest_L35 N z1 z2 n u46 (z3 + 1)
          else
            (fX8_layLongest_L73 N z1 z2 z3 0 N v 0).bind fun u41 =>
              fX8_layLongest_L35 N z1 z2 n u41 (z3 + 1)
    )
def fX8_layLongest_L27 (N : Nat) (z1 : Int32) : Nat → SX8 → Int32 → Option (SX8)
  | 0, _, _ => none
  | n + 1, v, z2 =>
    if 8 ≤ z2 then
      some v
    else
      (fX8_layLongest_L35 N z1 z2 N v 0).bind fun u50 =>
        fX8_layLongest_L27 N z1 n u50 (z2 + 1)
def fX8_layLongest (N : Nat) (v : SX8) (x1 : Int32) : Option (SX8) :=
  (fX8_layLongest_L2 N x1 N v 0).bind fun u6 =>
    (fX8_layLongest_L27 N x1 N u6 0).bind fun u52 =>
      some u52
set_option maxHeartbeats 8000000 in
set_option maxRecDepth 100000 in
theorem M_X8_layLongest (l : Launch) (D : va_G) (cy : Nat → ClassId) (N : Nat) (a : Nat → Nat) (v : SX8) (x1 : Int32) (o : SX8) (hf : fX8_layLongest N v x1 = some o) : okM l yX8_layLongest wsX8_layLongest (rmz 7 167) D cy [.ref (a 0), .int x1] (wX8 cy a v) (wX8 cy a o) none := by
  refine okM_of (own := RX8) (nme := "layLongest") (cc := cX8_layLongest) (maxL := 7) (ret := none) (by decide) rfl rfl rfl (Nat.le_of_ble_eq_true rfl) ?_
  intro p e s m args below meth c A F
  have i_X8 : ∀ w ∈ u_ws RX8 TX8 13, w ∈ wsX8_layLongest := fun _ h => List.mem_cons_of_mem _ (List.mem_append_right _ h)
  have K2 : ∀ (n : Nat) (z1 : Int32) (v : SX8) (z2 : Int32) (u : SX8), fX8_layLongest_L2 N z1 n v z2 = some u → V p l e (rmz 7 167) s m args below meth c 7 D A 0 0 (MQ below (ok_Q D (wX8 cy a o) none A) args s 0 0 A) (wX8 cy a u) [(0, .ref (a 0)), (1, .int z1)] [] 25 → V p l e (rmz 7 167) s m args below meth c 7 D A 0 0 (MQ below (ok_Q D (wX8 cy a o) none A) args s 0 0 A) (wX8 cy a v) [(0, .ref (a 0)), (1, .int z1), (2, .int z2)] [] 2 := by
    intro n
    induction n with
    | zero =>
      intro z1 v z2 u hf hk
      exact nomatch (show (none : Option (SX8)) = some u from hf)
    | succ n ih =>
      intro z1 v z2 u hf hk
      rw [fX8_layLongest_L2] at hf
      refine V_iload_n (pc := 2) F dX8_layLongest_2 rfl 2 rfl ?_
      refine V_aload_n (pc := 3) F dX8_layLongest_3 rfl 0 rfl ?_
      refine V_get (pc := 4) F 0 8 1 i_X8 rfl (by decide) rfl (mm 1 rfl) dX8_layLongest_4 rfl rfl ?_
      refine V_iconst (v := 0) (pc := 7) F dX8_layLongest_7 (by decide) ?_
      obtain ⟨c1, hf⟩ := chk_some hf
      refine V_iald (pc := 8) F 1 rfl c1 dX8_layLongest_8 ?_
      refine V_icmp_ge (pc := 9) (tgt := 25) F dX8_layLongest_9 (by decide) (fun h2 => ?_) (fun h2 => ?_)
      · replace hf := ite_pos hf h2
        obtain rfl := some_of hf
        exact V.sub [0, 1] rfl hk
      · replace hf := ite_neg hf h2
        refine V_aload_n (pc := 12) F dX8_layLongest_12 rfl 0 rfl ?_
        refine V_get (pc := 13) F 0 8 10 i_X8 rfl (by decide) rfl (mm 2 rfl) dX8_layLongest_13 rfl rfl ?_
        refine V_iload_n (pc := 16) F dX8_layLongest_16 rfl 2 rfl ?_
        refine V_iconst (v := 0) (pc := 17) F dX8_layLongest_17 (by decide) ?_
        obtain ⟨c3, hf⟩ := chk_some hf
        obtain ⟨f4, e5, hf⟩ := nmd_of hf
        refine V_iast (w2 := wX8 cy a (v.1, v.2.1, v.2.2.1, v.2.2.2.1, v.2.2.2.2.1, v.2.2.2.2.2.1, v.2.2.2.2.2.2.1, v.2.2.2.2.2.2.2.1, v.2.2.2.2.2.2.2.2.1, v.2.2.2.2.2.2.2.2.2.1, f4, v.2.2.2.2.2.2.2.2.2.2.2)) (pc := 18) F 5 rfl c3 e5 dX8_layLongest_18 rfl ?_
        refine V_iinc (v := (z2 + 1)) (L2 := [(2, .int (z2 + 1)), (0, .ref (a 0)), (1, .int z1)]) (pc := 19) F dX8_layLongest_19 2 rfl rfl (by decide) rfl ?_
        refine V_goto (pc := 22) (tgt := 2) F dX8_layLongest_22 (by decide) ?_
        refine V.sub [1, 2, 0] rfl ?_
        exact ih z1 (v.1, v.2.1, v.2.2.1, v.2.2.2.1, v.2.2.2.2.1, v.2.2.2.2.2.1, v.2.2.2.2.2.2.1, v.2.2.2.2.2.2.2.1, v.2.2.2.2.2.2.2.2.1, v.2.2.2.2.2.2.2.2.2.1, f4, v.2.2.2.2.2.2.2.2.2.2.2) (z2 + 1) _ hf hk
  have K73 : ∀ (n : Nat) (z1 : Int32) (z2 : Int32) (z3 : Int32) (z4 : Int32) (v : SX8) (z5 : Int32) (u : SX8), fX8_layLongest_L73 N z1 z2 z3 z4 n v z5 = some u → V p l e (rmz 7 167) s m args below meth c 7 D A 0 0 (MQ below (ok_Q D (wX8 cy a o) none A) args s 0 0 A) (wX8 cy a u) [(0, .ref (a 0)), (1, .int z1), (2, .int z2), (3, .int z3)] [] 146 → V p l e (rmz 7 167) s m args below meth c 7 D A 0 0 (MQ below (ok_Q D (wX8 cy a o) none A) args s 0 0 A) (wX8 cy a v) [(0, .ref (a 0)), (1, .int z1), (2, .int z2), (3, .int z3), (4, .int z4), (5, .int z5)] [] 73 := by
    intro n
    induction n with
    | zero =>
      intro z1 z2 z3 z4 v z5 u hf hk
      exact nomatch (show (none : Option (SX8)) = some u from hf)
    | succ n ih =>
      intro z1 z2 z3 z4 v z5 u hf hk
      rw [fX8_layLongest_L73] at hf
      refine V_iload (pc := 73) F dX8_layLongest_73 5 rfl ?_
      refine V_aload_n (pc := 75) F dX8_layLongest_75 rfl 0 rfl ?_
      refine V_iload_n (pc := 76) F dX8_layLongest_76 rfl 3 rfl ?_
      obtain ⟨r14, g15, hf⟩ := bind_of hf
      refine V_V (w2 := wX8 cy a v) (rest := [.int z5]) (st2 := [.int r14, .int z5]) (pc := 77) F 8 (M_X8_rules l D cy N a v z3 r14 g15) (cwV 1 F.ts gX8_layLongest_X8_rules rfl rfl rfl hd_X8_rules ⟨Nat.le_of_ble_eq_true rfl, Nat.le_of_ble_eq_true rfl⟩) rfl dX8_layLongest_77 Fit.whole rfl rfl rfl (Nat.le_of_ble_eq_true rfl) (Nat.zero_le _) (Nat.zero_le _) rfl rfl rfl ?_
      refine V_icmp_ge (pc := 80) (tgt := 146) F dX8_layLongest_80 (by decide) (fun h16 => ?_) (fun h16 => ?_)
      · replace hf := ite_pos hf h16
        obtain rfl := some_of hf
        exact V.sub [0, 1, 2, 3] rfl hk
      · replace hf := ite_neg hf h16
        refine V_iload (pc := 83) F dX8_layLongest_83 4 rfl ?_
        refine V_if_eq (pc := 85) (tgt := 146) F dX8_layLongest_85 (by decide) (fun h17 => ?_) (fun h17 => ?_)
        · replace hf := ite_pos hf h17
          obtain rfl := some_of hf
          exact V.sub [0, 1, 2, 3] rfl hk
        · replace hf := ite_neg hf h17
          refine V_aload_n (pc := 88) F dX8_layLongest_88 rfl 0 rfl ?_
          refine V_iload_n (pc := 89) F dX8_layLongest_89 rfl 3 rfl ?_
          refine V_iload (pc := 90) F dX8_layLongest_90 5 rfl ?_
          refine V_iload_n (pc := 92) F dX8_layLongest_92 rfl 1 rfl ?_
          obtain ⟨r18, g19, hf⟩ := bind_of hf
          refine V_V (w2 := wX8 cy a v) (rest := []) (st2 := [.int r18]) (pc := 93) F 8 (M_X8_canFollow l D cy N a v z3 z5 z1 r18 g19) (cwV 3 F.ts gX8_layLongest_X8_canFollow rfl rfl rfl hd_X8_canFollow ⟨Nat.le_of_ble_eq_true rfl, Nat.le_of_ble_eq_true rfl⟩) rfl dX8_layLongest_93 Fit.whole rfl rfl rfl (Nat.le_of_ble_eq_true rfl) (Nat.zero_le _) (Nat.zero_le _) rfl rfl rfl ?_
          refine V_if_eq (pc := 96) (tgt := 109) F dX8_layLongest_96 (by decide) (fun h20 => ?_) (fun h20 => ?_)
          · replace hf := ite_pos hf h20
            refine V_iconst (v := 0) (pc := 109) F dX8_layLongest_109 (by decide) ?_
            refine V_istore (L2 := [(6, .int 0), (0, .ref (a 0)), (1, .int z1), (2, .int z2), (3, .int z3), (4, .int z4), (5, .int z5)]) (pc := 110) F dX8_layLongest_110 (by decide) rfl ?_
            refine V_aload_n (pc := 112) F dX8_layLongest_112 rfl 1 rfl ?_
            refine V_get (pc := 113) F 0 8 10 i_X8 rfl (by decide) rfl (mm 2 rfl) dX8_layLongest_113 rfl rfl ?_
            refine V_iload_n (pc := 116) F dX8_layLongest_116 rfl 4 rfl ?_
            refine V_iload (pc := 117) F dX8_layLongest_117 0 rfl ?_
            refine V_aload_n (pc := 119) F dX8_layLongest_119 rfl 1 rfl ?_
            refine V_get (pc := 120) F 0 8 10 i_X8 rfl (by decide) rfl (mm 2 rfl) dX8_layLongest_120 rfl rfl ?_
            refine V_iload_n (pc := 123) F dX8_layLongest_123 rfl 4 rfl ?_
            obtain ⟨c21, hf⟩ := chk_some hf
            refine V_iald (pc := 124) F 5 rfl c21 dX8_layLongest_124 ?_
            refine V_icmp_le (pc := 125) (tgt := 133) F dX8_layLongest_125 (by decide) (fun h22 => ?_) (fun h22 => ?_)
            · replace hf := ite_pos hf h22
              refine V_aload_n (pc := 133) F dX8_layLongest_133 rfl 1 rfl ?_
              refine V_get (pc := 134) F 0 8 10 i_X8 rfl (by decide) rfl (mm 2 rfl) dX8_layLongest_134 rfl rfl ?_
              refine V_iload_n (pc := 137) F dX8_layLongest_137 rfl 4 rfl ?_
              obtain ⟨c23, hf⟩ := chk_some hf
              refine V_iald (pc := 138) F 5 rfl c23 dX8_layLongest_138 ?_
              obtain ⟨c24, hf⟩ := chk_some hf
              obtain ⟨f25, e26, hf⟩ := nmd_of hf
              refine V_iast (w2 := wX8 cy a (v.1, v.2.1, v.2.2.1, v.2.2.2.1, v.2.2.2.2.1, v.2.2.2.2.2.1, v.2.2.2.2.2.2.1, v.2.2.2.2.2.2.2.1, v.2.2.2.2.2.2.2.2.1, v.2.2.2.2.2.2.2.2.2.1, f25, v.2.2.2.2.2.2.2.2.2.2.2)) (pc := 139) F 5 rfl c24 e26 dX8_layLongest_139 rfl ?_
              refine V_iinc (v := (z5 + 1)) (L2 := [(5, .int (z5 + 1)), (6, .int 0), (0, .ref (a 0)), (1, .int z1), (2, .int z2), (3, .int z3), (4, .int z4)]) (pc := 140) F dX8_layLongest_140 6 rfl rfl (by decide) rfl ?_
              refine V_goto (pc := 143) (tgt := 73) F dX8_layLongest_143 (by decide) ?_
              refine V.sub [2, 3, 4, 5, 6, 0] rfl ?_
              exact ih z1 z2 z3 z4 (v.1, v.2.1, v.2.2.1, v.2.2.2.1, v.2.2.2.2.1, v.2.2.2.2.2.1, v.2.2.2.2.2.2.1, v.2.2.2.2.2.2.2.1, v.2.2.2.2.2.2.2.2.1, v.2.2.2.2.2.2.2.2.2.1, f25, v.2.2.2.2.2.2.2.2.2.2.2) (z5 + 1) _ hf hk
            · replace hf := ite_neg hf h22
              refine V_iload (pc := 128) F dX8_layLongest_128 0 rfl ?_
              refine V_goto (pc := 130) (tgt := 139) F dX8_layLongest_130 (by decide) ?_
              obtain ⟨c27, hf⟩ := chk_some hf
              obtain ⟨f28, e29, hf⟩ := nmd_of hf
              refine V_iast (w2 := wX8 cy a (v.1, v.2.1, v.2.2.1, v.2.2.2.1, v.2.2.2.2.1, v.2.2.2.2.2.1, v.2.2.2.2.2.2.1, v.2.2.2.2.2.2.2.1, v.2.2.2.2.2.2.2.2.1, v.2.2.2.2.2.2.2.2.2.1, f28, v.2.2.2.2.2.2.2.2.2.2.2)) (pc := 139) F 5 rfl c27 e29 dX8_layLongest_139 rfl ?_
              refine V_iinc (v := (z5 + 1)) (L2 := [(5, .int (z5 + 1)), (6, .int 0), (0, .ref (a 0)), (1, .int z1), (2, .int z2), (3, .int z3), (4, .int z4)]) (pc := 140) F dX8_layLongest_140 6 rfl rfl (by decide) rfl ?_
              refine V_goto (pc := 143) (tgt := 73) F dX8_layLongest_143 (by decide) ?_
              refine V.sub [2, 3, 4, 5, 6, 0] rfl ?_
              exact ih z1 z2 z3 z4 (v.1, v.2.1, v.2.2.1, v.2.2.2.1, v.2.2.2.2.1, v.2.2.2.2.2.1, v.2.2.2.2.2.2.1, v.2.2.2.2.2.2.2.1, v.2.2.2.2.2.2.2.2.1, v.2.2.2.2.2.2.2.2.2.1, f28, v.2.2.2.2.2.2.2.2.2.2.2) (z5 + 1) _ hf hk
          · replace hf := ite_neg hf h20
            refine V_aload_n (pc := 99) F dX8_layLongest_99 rfl 0 rfl ?_
            refine V_iload_n (pc := 100) F dX8_layLongest_100 rfl 3 rfl ?_
            refine V_iload (pc := 101) F dX8_layLongest_101 5 rfl ?_
            obtain ⟨r30, g31, hf⟩ := bind_of hf
            refine V_V (w2 := wX8 cy a v) (rest := []) (st2 := [.int r30]) (pc := 103) F 8 (M_X8_wayBy l D cy N a v z3 z5 r30 g31) (cwV 2 F.ts gX8_layLongest_X8_wayBy rfl rfl rfl hd_X8_wayBy ⟨Nat.le_of_ble_eq_true rfl, Nat.le_of_ble_eq_true rfl⟩) rfl dX8_layLongest_103 Fit.whole rfl rfl rfl (Nat.le_of_ble_eq_true rfl) (Nat.zero_le _) (Nat.zero_le _) rfl rfl rfl ?_
            refine V_goto (pc := 106) (tgt := 110) F dX8_layLongest_106 (by decide) ?_
            refine V_istore (L2 := [(6, .int r30), (0, .ref (a 0)), (1, .int z1), (2, .int z2), (3, .int z3), (4, .int z4), (5, .int z5)]) (pc := 110) F dX8_layLongest_110 (by decide) rfl ?_
            refine V_aload_n (pc := 112) F dX8_layLongest_112 rfl 1 rfl ?_
            refine V_get (pc := 113) F 0 8 10 i_X8 rfl (by decide) rfl (mm 2 rfl) dX8_layLongest_113 rfl rfl ?_
            refine V_iload_n (pc := 116) F dX8_layLongest_116 rfl 4 rfl ?_
            refine V_iload (pc := 117) F dX8_layLongest_117 0 rfl ?_
            refine V_aload_n (pc := 119) F dX8_layLongest_119 rfl 1 rfl ?_
            refine V_get (pc := 120) F 0 8 10 i_X8 rfl (by decide) rfl (mm 2 rfl) dX8_layLongest_120 rfl rfl ?_
            refine V_iload_n (pc := 123) F dX8_layLongest_123 rfl 4 rfl ?_
            obtain ⟨c32, hf⟩ := chk_some hf
            refine V_iald (pc := 124) F 5 rfl c32 dX8_layLongest_124 ?_
            refine V_icmp_le (pc := 125) (tgt := 133) F dX8_layLongest_125 (by decide) (fun h33 => ?_) (fun h33 => ?_)
            · replace hf := ite_pos hf h33
              refine V_aload_n (pc := 133) F dX8_layLongest_133 rfl 1 rfl ?_
              refine V_get (pc := 134) F 0 8 10 i_X8 rfl (by decide) rfl (mm 2 rfl) dX8_layLongest_134 rfl rfl ?_
              refine V_iload_n (pc := 137) F dX8_layLongest_137 rfl 4 rfl ?_
              obtain ⟨c34, hf⟩ := chk_some hf
              refine V_iald (pc := 138) F 5 rfl c34 dX8_layLongest_138 ?_
              obtain ⟨c35, hf⟩ := chk_some hf
              obtain ⟨f36, e37, hf⟩ := nmd_of hf
              refine V_iast (w2 := wX8 cy a (v.1, v.2.1, v.2.2.1, v.2.2.2.1, v.2.2.2.2.1, v.2.2.2.2.2.1, v.2.2.2.2.2.2.1, v.2.2.2.2.2.2.2.1, v.2.2.2.2.2.2.2.2.1, v.2.2.2.2.2.2.2.2.2.1, f36, v.2.2.2.2.2.2.2.2.2.2.2)) (pc := 139) F 5 rfl c35 e37 dX8_layLongest_139 rfl ?_
              refine V_iinc (v := (z5 + 1)) (L2 := [(5, .int (z5 + 1)), (6, .int r30), (0, .ref (a 0)), (1, .int z1), (2, .int z2), (3, .int z3), (4, .int z4)]) (pc := 140) F dX8_layLongest_140 6 rfl rfl (by decide) rfl ?_
              refine V_goto (pc := 143) (tgt := 73) F dX8_layLongest_143 (by decide) ?_
              refine V.sub [2, 3, 4, 5, 6, 0] rfl ?_
              exact ih z1 z2 z3 z4 (v.1, v.2.1, v.2.2.1, v.2.2.2.1, v.2.2.2.2.1, v.2.2.2.2.2.1, v.2.2.2.2.2.2.1, v.2.2.2.2.2.2.2.1, v.2.2.2.2.2.2.2.2.1, v.2.2.2.2.2.2.2.2.2.1, f36, v.2.2.2.2.2.2.2.2.2.2.2) (z5 + 1) _ hf hk
            · replace hf := ite_neg hf h33
              refine V_iload (pc := 128) F dX8_layLongest_128 0 rfl ?_
              refine V_goto (pc := 130) (tgt := 139) F dX8_layLongest_130 (by decide) ?_
              obtain ⟨c38, hf⟩ := chk_some hf
              obtain ⟨f39, e40, hf⟩ := nmd_of hf
              refine V_iast (w2 := wX8 cy a (v.1, v.2.1, v.2.2.1, v.2.2.2.1, v.2.2.2.2.1, v.2.2.2.2.2.1, v.2.2.2.2.2.2.1, v.2.2.2.2.2.2.2.1, v.2.2.2.2.2.2.2.2.1, v.2.2.2.2.2.2.2.2.2.1, f39, v.2.2.2.2.2.2.2.2.2.2.2)) (pc := 139) F 5 rfl c38 e40 dX8_layLongest_139 rfl ?_
              refine V_iinc (v := (z5 + 1)) (L2 := [(5, .int (z5 + 1)), (6, .int r30), (0, .ref (a 0)), (1, .int z1), (2, .int z2), (3, .int z3), (4, .int z4)]) (pc := 140) F dX8_layLongest_140 6 rfl rfl (by decide) rfl ?_
              refine V_goto (pc := 143) (tgt := 73) F dX8_layLongest_143 (by decide) ?_
              refine V.sub [2, 3, 4, 5, 6, 0] rfl ?_
              exact ih z1 z2 z3 z4 (v.1, v.2.1, v.2.2.1, v.2.2.2.1, v.2.2.2.2.1, v.2.2.2.2.2.1, v.2.2.2.2.2.2.1, v.2.2.2.2.2.2.2.1, v.2.2.2.2.2.2.2.2.1, v.2.2.2.2.2.2.2.2.2.1, f39, v.2.2.2.2.2.2.2.2.2.2.2) (z5 + 1) _ hf hk
  have K35 : ∀ (n : Nat) (z1 : Int32) (z2 : Int32) (v : SX8) (z3 : Int32) (u : SX8), fX8_layLongest_L35 N z1 z2 n v z3 = some u → V p l e (rmz 7 167) s m args below meth c 7 D A 0 0 (MQ below (ok_Q D (wX8 cy a o) none A) args s 0 0 A) (wX8 cy a u) [(0, .ref (a 0)), (1, .int z1), (2, .int z2)] [] 152 → V p l e (rmz 7 167) s m args below meth c 7 D A 0 0 (MQ below (ok_Q D (wX8 cy a o) none A) args s 0 0 A) (wX8 cy a v) [(0, .ref (a 0)), (1, .int z1), (2, .int z2), (3, .int z3)] [] 35 := by
    intro n
    induction n with
    | zero =>
      intro z1 z2 v z3 u hf hk
      exact nomatch (show (none : Option (SX8)) = some u from hf)
    | succ n ih =>
      intro z1 z2 v z3 u hf hk
      rw [fX8_layLongest_L35] at hf
      refine V_iload_n (pc := 35) F dX8_layLongest_35 rfl 3 rfl ?_
      refine V_aload_n (pc := 36) F dX8_layLongest_36 rfl 0 rfl ?_
      refine V_get (pc := 37) F 0 8 1 i_X8 rfl (by decide) rfl (mm 1 rfl) dX8_layLongest_37 rfl rfl ?_
      refine V_iconst (v := 0) (pc := 40) F dX8_layLongest_40 (by decide) ?_
      obtain ⟨c9, hf⟩ := chk_some hf
      refine V_iald (pc := 41) F 1 rfl c9 dX8_layLongest_41 ?_
      refine V_icmp_ge (pc := 42) (tgt := 152) F dX8_layLongest_42 (by decide) (fun h10 => ?_) (fun h10 => ?_)
      · replace hf := ite_pos hf h10
        obtain rfl := some_of hf
        exact V.sub [0, 1, 2] rfl hk
      · replace hf := ite_neg hf h10
        refine V_aload_n (pc := 45) F dX8_layLongest_45 rfl 0 rfl ?_
        refine V_iload_n (pc := 46) F dX8_layLongest_46 rfl 3 rfl ?_
        refine V_iload_n (pc := 47) F dX8_layLongest_47 rfl 1 rfl ?_
        obtain ⟨r11, g12, hf⟩ := bind_of hf
        refine V_V (w2 := wX8 cy a v) (rest := []) (st2 := [.int r11]) (pc := 48) F 8 (M_X8_hasGreen l D cy N a v z3 z1 r11 g12) (cwV 2 F.ts gX8_layLongest_X8_hasGreen rfl rfl rfl hd_X8_hasGreen ⟨Nat.le_of_ble_eq_true rfl, Nat.le_of_ble_eq_true rfl⟩) rfl dX8_layLongest_48 Fit.whole rfl rfl rfl (Nat.le_of_ble_eq_true rfl) (Nat.zero_le _) (Nat.zero_le _) rfl rfl rfl ?_
        refine V_if_ne (pc := 51) (tgt := 67) F dX8_layLongest_51 (by decide) (fun h13 => ?_) (fun h13 => ?_)
        · replace hf := ite_neg hf h13
          refine V_iconst (v := 0) (pc := 67) F dX8_layLongest_67 (by decide) ?_
          refine V_istore (L2 := [(4, .int 0), (0, .ref (a 0)), (1, .int z1), (2, .int z2), (3, .int z3)]) (pc := 68) F dX8_layLongest_68 (by decide) rfl ?_
          refine V_iconst (v := 0) (pc := 70) F dX8_layLongest_70 (by decide) ?_
          refine V_istore (L2 := [(5, .int 0), (4, .int 0), (0, .ref (a 0)), (1, .int z1), (2, .int z2), (3, .int z3)]) (pc := 71) F dX8_layLongest_71 (by decide) rfl ?_
          refine V.sub [2, 3, 4, 5, 1, 0] rfl ?_
          obtain ⟨u41, g42, hf⟩ := bind_of hf
          refine K73 N z1 z2 z3 0 v 0 u41 g42 ?_
          refine V_iinc (v := (z3 + 1)) (L2 := [(3, .int (z3 + 1)), (0, .ref (a 0)), (1, .int z1), (2, .int z2)]) (pc := 146) F dX8_layLongest_146 3 rfl rfl (by decide) rfl ?_
          refine V_goto (pc := 149) (tgt := 35) F dX8_layLongest_149 (by decide) ?_
          refine V.sub [1, 2, 3, 0] rfl ?_
          exact ih z1 z2 u41 (z3 + 1) _ hf hk
        · replace hf := ite_pos hf h13
          refine V_aload_n (pc := 54) F dX8_layLongest_54 rfl 0 rfl ?_
          refine V_iload_n (pc := 55) F dX8_layLongest_55 rfl 3 rfl ?_
          refine V_iload_n (pc := 56) F dX8_layLongest_56 rfl 1 rfl ?_
          obtain ⟨r43, g44, hf⟩ := bind_of hf
          refine V_V (w2 := wX8 cy a v) (rest := []) (st2 := [.int r43]) (pc := 57) F 8 (M_X8_canStarve l D cy N a v z3 z1 r43 g44) (cwV 2 F.ts gX8_layLongest_X8_canStarve rfl rfl rfl hd_X8_canStarve ⟨Nat.le_of_ble_eq_true rfl, Nat.le_of_ble_eq_true rfl⟩) rfl dX8_layLongest_57 Fit.whole rfl rfl rfl (Nat.le_of_ble_eq_true rfl) (Nat.zero_le _) (Nat.zero_le _) rfl rfl rfl ?_
          refine V_if_ne (pc := 60) (tgt := 67) F dX8_layLongest_60 (by decide) (fun h45 => ?_) (fun h45 => ?_)
          · replace hf := ite_neg hf h45
            refine V_iconst (v := 0) (pc := 67) F dX8_layLongest_67 (by decide) ?_
            refine V_istore (L2 := [(4, .int 0), (0, .ref (a 0)), (1, .int z1), (2, .int z2), (3, .int z3)]) (pc := 68) F dX8_layLongest_68 (by decide) rfl ?_
            refine V_iconst (v := 0) (pc := 70) F dX8_layLongest_70 (by decide) ?_
            refine V_istore (L2 := [(5, .int 0), (4, .int 0), (0, .ref (a 0)), (1, .int z1), (2, .int z2), (3, .int z3)]) (pc := 71) F dX8_layLongest_71 (by decide) rfl ?_
            refine V.sub [2, 3, 4, 5, 1, 0] rfl ?_
            obtain ⟨u46, g47, hf⟩ := bind_of hf
            refine K73 N z1 z2 z3 0 v 0 u46 g47 ?_
            refine V_iinc (v := (z3 + 1)) (L2 := [(3, .int (z3 + 1)), (0, .ref (a 0)), (1, .int z1), (2, .int z2)]) (pc := 146) F dX8_layLongest_146 3 rfl rfl (by decide) rfl ?_
            refine V_goto (pc := 149) (tgt := 35) F dX8_layLongest_149 (by decide) ?_
            refine V.sub [1, 2, 3, 0] rfl ?_
            exact ih z1 z2 u46 (z3 + 1) _ hf hk
          · replace hf := ite_pos hf h45
            refine V_iconst (v := 1) (pc := 63) F dX8_layLongest_63 (by decide) ?_
            refine V_goto (pc := 64) (tgt := 68) F dX8_layLongest_64 (by decide) ?_
            refine V_istore (L2 := [(4, .int 1), (0, .ref (a 0)), (1, .int z1), (2, .int z2), (3, .int z3)]) (pc := 68) F dX8_layLongest_68 (by decide) rfl ?_
            refine V_iconst (v := 0) (pc := 70) F dX8_layLongest_70 (by decide) ?_
            refine V_istore (L2 := [(5, .int 0), (4, .int 1), (0, .ref (a 0)), (1, .int z1), (2, .int z2), (3, .int z3)]) (pc := 71) F dX8_layLongest_71 (by decide) rfl ?_
            refine V.sub [2, 3, 4, 5, 1, 0] rfl ?_
            obtain ⟨u48, g49, hf⟩ := bind_of hf
            refine K73 N z1 z2 z3 1 v 0 u48 g49 ?_
            refine V_iinc (v := (z3 + 1)) (L2 := [(3, .int (z3 + 1)), (0, .ref (a 0)), (1, .int z1), (2, .int z2)]) (pc := 146) F dX8_layLongest_146 3 rfl rfl (by decide) rfl ?_
            refine V_goto (pc := 149) (tgt := 35) F dX8_layLongest_149 (by decide) ?_
            refine V.sub [1, 2, 3, 0] rfl ?_
            exact ih z1 z2 u48 (z3 + 1) _ hf hk
  have K27 : ∀ (n : Nat) (z1 : Int32) (v : SX8) (z2 : Int32) (u : SX8), fX8_layLongest_L27 N z1 n v z2 = some u → V p l e (rmz 7 167) s m args below meth c 7 D A 0 0 (MQ below (ok_Q D (wX8 cy a o) none A) args s 0 0 A) (wX8 cy a u) [] [] 158 → V p l e (rmz 7 167) s m args below meth c 7 D A 0 0 (MQ below (ok_Q D (wX8 cy a o) none A) args s 0 0 A) (wX8 cy a v) [(0, .ref (a 0)), (1, .int z1), (2, .int z2)] [] 27 := by
    intro n
    induction n with
    | zero =>
      intro z1 v z2 u hf hk
      exact nomatch (show (none : Option (SX8)) = some u from hf)
    | succ n ih =>
      intro z1 v z2 u hf hk
      rw [fX8_layLongest_L27] at hf
      refine V_iload_n (pc := 27) F dX8_layLongest_27 rfl 2 rfl ?_
      refine V_bipush (v := 8) (pc := 28) F dX8_layLongest_28 (by decide) ?_
      refine V_icmp_ge (pc := 30) (tgt := 158) F dX8_layLongest_30 (by decide) (fun h8 => ?_) (fun h8 => ?_)
      · replace hf := ite_pos hf h8
        obtain rfl := some_of hf
        exact V.sub [] rfl hk
      · replace hf := ite_neg hf h8
        refine V_iconst (v := 0) (pc := 33) F dX8_layLongest_33 (by decide) ?_
        refine V_istore_n (L2 := [(3, .int 0), (0, .ref (a 0)), (1, .int z1), (2, .int z2)]) (pc := 34) F dX8_layLongest_34 rfl (by decide) rfl ?_
        refine V.sub [1, 2, 3, 0] rfl ?_
        obtain ⟨u50, g51, hf⟩ := bind_of hf
        refine K35 N z1 z2 v 0 u50 g51 ?_
        refine V_iinc (v := (z2 + 1)) (L2 := [(2, .int (z2 + 1)), (0, .ref (a 0)), (1, .int z1)]) (pc := 152) F dX8_layLongest_152 2 rfl rfl (by decide) rfl ?_
        refine V_goto (pc := 155) (tgt := 27) F dX8_layLongest_155 (by decide) ?_
        refine V.sub [1, 2, 0] rfl ?_
        exact ih z1 u50 (z2 + 1) _ hf hk
  unfold fX8_layLongest at hf
  refine V.eq rfl (show lv_args 0 [.ref (a 0), .int x1] = [(0, .ref (a 0)), (1, .int x1)] from rfl) rfl ?_
  refine V_iconst (v := 0) (pc := 0) F dX8_layLongest_0 (by decide) ?_
  refine V_istore_n (L2 := [(2, .int 0), (0, .ref (a 0)), (1, .int x1)]) (pc := 1) F dX8_layLongest_1 rfl (by decide) rfl ?_
  refine V.sub [1, 2, 0] rfl ?_
  obtain ⟨u6, g7, hf⟩ := bind_of hf
  refine K2 N x1 v 0 u6 g7 ?_
  refine V_iconst (v := 0) (pc := 25) F dX8_layLongest_25 (by decide) ?_
  refine V_istore_n (L2 := [(2, .int 0), (0, .ref (a 0)), (1, .int x1)]) (pc := 26) F dX8_layLongest_26 rfl (by decide) rfl ?_
  refine V.sub [1, 2, 0] rfl ?_
  obtain ⟨u52, g53, hf⟩ := bind_of hf
  refine K27 N x1 u6 0 u52 g53 ?_
  obtain rfl := some_of hf
  exact V_vret F rfl dX8_layLongest_158 rfl
theorem hd_X8_longest : yX8_longest.cls = RX8 ∧ yX8_longest.cls ≠ "java/lang/invoke/MethodHandle" ∧ yX8_longest.cls ≠ "java/lang/invoke/VarHandle" ∧ (parseMethodDescriptor yX8_longest.desc).map (fun d => d.parameters.length) = some 2 := by decide +kernel
def fX8_longest (N : Nat) (v : SX8) (x1 : Int32) (x2 : Int32) : Option (Int32 × SX8) :=
  (fX8_canStarve N v x2 x1).bind fun r1 =>
    if r1 = 0 then
      (fX8_layLongest N v x1).bind fun r4 =>
        chk x2 8 (
          some ((r4.2.2.2.2.2.2.2.2.2.2.1 x2.toNatClampNeg), r4)
        )
    else
      some ((-1), v)
set_option maxHeartbeats 8000000 in
set_option maxRecDepth 100000 in
theorem M_X8_longest (l : Launch) (D : va_G) (cy : Nat → ClassId) (N : Nat) (a : Nat → Nat) (v : SX8) (x1 : Int32) (x2 : Int32) (o : Int32 × SX8) (hf : fX8_longest N v x1 x2 = some o) : okM l yX8_longest wsX8_longest (rmz 8 193) D cy [.ref (a 0), .int x1, .int x2] (wX8 cy a v) (wX8 cy a o.2) (some (.int o.1)) := by
  refine okM_of (own := RX8) (nme := "longest") (cc := cX8_longest) (maxL := 3) (ret := (some .int)) (by decide) rfl rfl rfl (Nat.le_of_ble_eq_true rfl) ?_
  intro p e s m args below meth c A F
  have i_X8 : ∀ w ∈ u_ws RX8 TX8 13, w ∈ wsX8_longest := fun _ h => List.mem_cons_of_mem _ (List.mem_append_right _ h)
  unfold fX8_longest at hf
  refine V.eq rfl (show lv_args 0 [.ref (a 0), .int x1, .int x2] = [(0, .ref (a 0)), (1, .int x1), (2, .int x2)] from rfl) rfl ?_
  refine V_aload_n (pc := 0) F dX8_longest_0 rfl 0 rfl ?_
  refine V_iload_n (pc := 1) F dX8_longest_1 rfl 2 rfl ?_
  refine V_iload_n (pc := 2) F dX8_longest_2 rfl 1 rfl ?_
  obtain ⟨r1, g2, hf⟩ := bind_of hf
  refine V_V (w2 := wX8 cy a v) (rest := []) (st2 := [.int r1]) (pc := 3) F 8 (M_X8_canStarve l D cy N a v x2 x1 r1 g2) (cwV 2 F.ts gX8_longest_X8_canStarve rfl rfl rfl hd_X8_canStarve ⟨Nat.le_of_ble_eq_true rfl, Nat.le_of_ble_eq_true rfl⟩) rfl dX8_longest_3 Fit.whole rfl rfl rfl (Nat.le_of_ble_eq_true rfl) (Nat.zero_le _) (Nat.zero_le _) rfl rfl rfl ?_
  refine V_if_eq (pc := 6) (tgt := 11) F dX8_longest_6 (by decide) (fun h3 => ?_) (fun h3 => ?_)
  · replace hf := ite_pos hf h3
    refine V_aload_n (pc := 11) F dX8_longest_11 rfl 0 rfl ?_
    refine V_iload_n (pc := 12) F dX8_longest_12 rfl 1 rfl ?_
    obtain ⟨r4, g5, hf⟩ := bind_of hf
    refine V_V (w2 := wX8 cy a r4) (rest := []) (st2 := []) (pc := 13) F 8 (M_X8_layLongest l D cy N a v x1 r4 g5) (cwV 1 F.ts gX8_longest_X8_layLongest rfl rfl rfl hd_X8_layLongest ⟨Nat.le_of_ble_eq_true rfl, Nat.le_of_ble_eq_true rfl⟩) rfl dX8_longest_13 Fit.whole fstX8 rfl rfl (Nat.le_of_ble_eq_true rfl) (Nat.zero_le _) (Nat.zero_le _) rfl rfl rfl ?_
    refine V_aload_n (pc := 16) F dX8_longest_16 rfl 0 rfl ?_
    refine V_get (pc := 17) F 0 8 10 i_X8 rfl (by decide) rfl (mm 1 rfl) dX8_longest_17 rfl rfl ?_
    refine V_iload_n (pc := 20) F dX8_longest_20 rfl 2 rfl ?_
    obtain ⟨c6, hf⟩ := chk_some hf
    refine V_iald (pc := 21) F 5 rfl c6 dX8_longest_21 ?_
    obtain rfl := some_of hf
    exact V_ret F rfl rfl dX8_longest_22 rfl rfl
  · replace hf := ite_neg hf h3
    refine V_iconst (v := (-1)) (pc := 9) F dX8_longest_9 (by decide) ?_
    obtain rfl := some_of hf
    exact V_ret F rfl rfl dX8_longest_10 rfl rfl
