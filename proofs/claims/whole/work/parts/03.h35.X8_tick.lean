theorem hd_X8_tick : yX8_tick.cls = RX8 ∧ yX8_tick.cls ≠ "java/lang/invoke/MethodHandle" ∧ yX8_tick.cls ≠ "java/lang/invoke/VarHandle" ∧ (parseMethodDescriptor yX8_tick.desc).map (fun d => d.parameters.length) = some 0 := by decide +kernel
def fX8_tick (N : Nat) (v : SX8) : Option (SX8) :=
  chk 6 143 (
    chk 6 143 (
      nmd (upd v.2.1 (6 : Int32).toNatClampNeg ((v.2.1 (6 : Int32).toNatClampNeg) + 1)) fun f3 =>
      (fX8_serve N (v.1, f3, v.2.2)).bind fun r5 =>
        chk 2 143 (
          if (r5.2.1 (2 : Int32).toNatClampNeg) = (-1) then
            some r5
          else
            (fX8_isClearing N r5).bind fun r9 =>
              if r9 = 0 then
                chk 3 143 (
                  chk 3 143 (
                    nmd (upd r5.2.1 (3 : Int32).toNatClampNeg ((r5.2.1 (3 : Int32).toNatClampNeg) + 1)) fun f14 =>
                    chk 3 143 (
                      (fX8_of N (r5.1, f14, r5.2.2) (r5.2.1 (2 : Int32).toNatClampNeg) 1).bind fun r17 =>
                        if (f14 (3 : Int32).toNatClampNeg) < r17 then
                          some (r5.1, f14, r5.2.2)
                        else
                          (fX8_holding N (r5.1, f14, r5.2.2) (r5.2.1 (2 : Int32).toNatClampNeg)).bind fun r21 =>
                            if r21 = (-1) then
                              some (r5.1, f14, r5.2.2)
                            else
                              (fX8_goal N (r5.1, f14, r5.2.2) (r5.2.1 (2 : Int32).toNatClampNeg) r21).bind fun r24 =>
                                (fX8_follow N (r5.1, f14, r5.2.2) (r5.2.1 (2 : Int32).toNatClampNeg) r24).bind fun r26 =>
                                  some r26
                    )
                  )
                )
              else
                chk 4 143 (
                  chk 4 143 (
                    nmd (upd r5.2.1 (4 : Int32).toNatClampNeg ((r5.2.1 (4 : Int32).toNatClampNeg) - 1)) fun f30 =>
                    chk 4 143 (
                      if (f30 (4 : Int32).toNatClampNeg) = 0 then
                        (fX8_arrive N (r5.1, f30, r5.2.2) (r5.2.1 (2 : Int32).toNatClampNeg)).bind fun r34 =>
                          some r34
                      else
                        some (r5.1, f30, r5.2.2)
                    )
                  )
                )
        )
    )
  )
set_option maxHeartbeats 8000000 in
set_option maxRecDepth 100000 in
theorem M_X8_tick (l : Launch) (D : va_G) (cy : Nat → ClassId) (N : Nat) (a : Nat → Nat) (v : SX8) (o : SX8) (hf : fX8_tick N v = some o) : okM l yX8_tick wsX8_tick (rmz 4 88) D cy [.ref (a 0)] (wX8 cy a v) (wX8 cy a o) none := by
  refine okM_of (own := RX8) (nme := "tick") (cc := cX8_tick) (maxL := 3) (ret := none) (by decide) rfl rfl rfl (Nat.le_of_ble_eq_true rfl) ?_
  intro p e s m args below meth c A F
  have i_X8 : ∀ w ∈ u_ws RX8 TX8 13, w ∈ wsX8_tick := fun _ h => List.mem_cons_of_mem _ (List.mem_append_right _ h)
  unfold fX8_tick at hf
  refine V.eq rfl (show lv_args 0 [.ref (a 0)] = [(0, .ref (a 0))] from rfl) rfl ?_
  refine V_aload_n (pc := 0) F dX8_tick_0 rfl 0 rfl ?_
  refine V_get (pc := 1) F 0 8 1 i_X8 rfl (by decide) rfl (mm 1 rfl) dX8_tick_1 rfl rfl ?_
  refine V_bipush (v := 6) (pc := 4) F dX8_tick_4 (by decide) ?_
  refine V_dup2_11 (pc := 6) F dX8_tick_6 rfl rfl ?_
  obtain ⟨c1, hf⟩ := chk_some hf
  refine V_iald (pc := 7) F 1 rfl c1 dX8_tick_7 ?_
  refine V_iconst (v := 1) (pc := 8) F dX8_tick_8 (by decide) ?_
  refine V_iadd (pc := 9) F dX8_tick_9 ?_
  obtain ⟨c2, hf⟩ := chk_some hf
  obtain ⟨f3, e4, hf⟩ := nmd_of hf
  refine V_iast (w2 := wX8 cy a (v.1, f3, v.2.2)) (pc := 10) F 1 rfl c2 e4 dX8_tick_10 rfl ?_
  refine V_aload_n (pc := 11) F dX8_tick_11 rfl 0 rfl ?_
  obtain ⟨r5, g6, hf⟩ := bind_of hf
  refine V_V (w2 := wX8 cy a r5) (rest := []) (st2 := []) (pc := 12) F 8 (M_X8_serve l D cy N a (v.1, f3, v.2.2) r5 g6) (cwV 0 F.ts gX8_tick_X8_serve rfl rfl rfl hd_X8_serve ⟨Nat.le_of_ble_eq_true rfl, Nat.le_of_ble_eq_true rfl⟩) rfl dX8_tick_12 Fit.whole fstX8 rfl rfl (Nat.le_of_ble_eq_true rfl) (Nat.zero_le _) (Nat.zero_le _) rfl rfl rfl ?_
  refine V_aload_n (pc := 15) F dX8_tick_15 rfl 0 rfl ?_
  refine V_get (pc := 16) F 0 8 1 i_X8 rfl (by decide) rfl (mm 1 rfl) dX8_tick_16 rfl rfl ?_
  refine V_iconst (v := 2) (pc := 19) F dX8_tick_19 (by decide) ?_
  obtain ⟨c7, hf⟩ := chk_some hf
  refine V_iald (pc := 20) F 1 rfl c7 dX8_tick_20 ?_
  refine V_istore_n (L2 := [(1, .int (r5.2.1 (2 : Int32).toNatClampNeg)), (0, .ref (a 0))]) (pc := 21) F dX8_tick_21 rfl (by decide) rfl ?_
  refine V_iload_n (pc := 22) F dX8_tick_22 rfl 0 rfl ?_
  refine V_iconst (v := (-1)) (pc := 23) F dX8_tick_23 (by decide) ?_
  refine V_icmp_ne (pc := 24) (tgt := 28) F dX8_tick_24 (by decide) (fun h8 => ?_) (fun h8 => ?_)
  · replace hf := ite_neg hf h8
    refine V_aload_n (pc := 28) F dX8_tick_28 rfl 1 rfl ?_
    obtain ⟨r9, g10, hf⟩ := bind_of hf
    refine V_V (w2 := wX8 cy a r5) (rest := []) (st2 := [.int r9]) (pc := 29) F 8 (M_X8_isClearing l D cy N a r5 r9 g10) (cwV 0 F.ts gX8_tick_X8_isClearing rfl rfl rfl hd_X8_isClearing ⟨Nat.le_of_ble_eq_true rfl, Nat.le_of_ble_eq_true rfl⟩) rfl dX8_tick_29 Fit.whole rfl rfl rfl (Nat.le_of_ble_eq_true rfl) (Nat.zero_le _) (Nat.zero_le _) rfl rfl rfl ?_
    refine V_if_eq (pc := 32) (tgt := 60) F dX8_tick_32 (by decide) (fun h11 => ?_) (fun h11 => ?_)
    · replace hf := ite_pos hf h11
      refine V_aload_n (pc := 60) F dX8_tick_60 rfl 1 rfl ?_
      refine V_get (pc := 61) F 0 8 1 i_X8 rfl (by decide) rfl (mm 1 rfl) dX8_tick_61 rfl rfl ?_
      refine V_iconst (v := 3) (pc := 64) F dX8_tick_64 (by decide) ?_
      refine V_dup2_11 (pc := 65) F dX8_tick_65 rfl rfl ?_
      obtain ⟨c12, hf⟩ := chk_some hf
      refine V_iald (pc := 66) F 1 rfl c12 dX8_tick_66 ?_
      refine V_iconst (v := 1) (pc := 67) F dX8_tick_67 (by decide) ?_
      refine V_iadd (pc := 68) F dX8_tick_68 ?_
      obtain ⟨c13, hf⟩ := chk_some hf
      obtain ⟨f14, e15, hf⟩ := nmd_of hf
      refine V_iast (w2 := wX8 cy a (r5.1, f14, r5.2.2)) (pc := 69) F 1 rfl c13 e15 dX8_tick_69 rfl ?_
      refine V_aload_n (pc := 70) F dX8_tick_70 rfl 1 rfl ?_
      refine V_get (pc := 71) F 0 8 1 i_X8 rfl (by decide) rfl (mm 1 rfl) dX8_tick_71 rfl rfl ?_
      refine V_iconst (v := 3) (pc := 74) F dX8_tick_74 (by decide) ?_
      obtain ⟨c16, hf⟩ := chk_some hf
      refine V_iald (pc := 75) F 1 rfl c16 dX8_tick_75 ?_
      refine V_aload_n (pc := 76) F dX8_tick_76 rfl 1 rfl ?_
      refine V_iload_n (pc := 77) F dX8_tick_77 rfl 0 rfl ?_
      refine V_iconst (v := 1) (pc := 78) F dX8_tick_78 (by decide) ?_
      obtain ⟨r17, g18, hf⟩ := bind_of hf
      refine V_V (w2 := wX8 cy a (r5.1, f14, r5.2.2)) (rest := [.int (f14 (3 : Int32).toNatClampNeg)]) (st2 := [.int r17, .int (f14 (3 : Int32).toNatClampNeg)]) (pc := 79) F 8 (M_X8_of l D cy N a (r5.1, f14, r5.2.2) (r5.2.1 (2 : Int32).toNatClampNeg) 1 r17 g18) (cwV 2 F.ts gX8_tick_X8_of rfl rfl rfl hd_X8_of ⟨Nat.le_of_ble_eq_true rfl, Nat.le_of_ble_eq_true rfl⟩) rfl dX8_tick_79 Fit.whole rfl rfl rfl (Nat.le_of_ble_eq_true rfl) (Nat.zero_le _) (Nat.zero_le _) rfl rfl rfl ?_
      refine V_icmp_lt (pc := 82) (tgt := 93) F dX8_tick_82 (by decide) (fun h19 => ?_) (fun h19 => ?_)
      · replace hf := ite_pos hf h19
        refine V_iconst (v := (-1)) (pc := 93) F dX8_tick_93 (by decide) ?_
        refine V_istore_n (L2 := [(2, .int (-1)), (1, .int (r5.2.1 (2 : Int32).toNatClampNeg)), (0, .ref (a 0))]) (pc := 94) F dX8_tick_94 rfl (by decide) rfl ?_
        refine V_iload_n (pc := 95) F dX8_tick_95 rfl 0 rfl ?_
        refine V_iconst (v := (-1)) (pc := 96) F dX8_tick_96 (by decide) ?_
        refine V_icmp_eq (pc := 97) (tgt := 111) F dX8_tick_97 (by decide) (fun h20 => ?_) (fun h20 => ?_)
        · obtain rfl := some_of hf
          exact V_vret F rfl dX8_tick_111 rfl
        · exact absurd h20 (show ¬ (¬ (((-1) : Int32) = ((-1) : Int32))) by decide)
      · replace hf := ite_neg hf h19
        refine V_aload_n (pc := 85) F dX8_tick_85 rfl 1 rfl ?_
        refine V_iload_n (pc := 86) F dX8_tick_86 rfl 0 rfl ?_
        obtain ⟨r21, g22, hf⟩ := bind_of hf
        refine V_V (w2 := wX8 cy a (r5.1, f14, r5.2.2)) (rest := []) (st2 := [.int r21]) (pc := 87) F 8 (M_X8_holding l D cy N a (r5.1, f14, r5.2.2) (r5.2.1 (2 : Int32).toNatClampNeg) r21 g22) (cwV 1 F.ts gX8_tick_X8_holding rfl rfl rfl hd_X8_holding ⟨Nat.le_of_ble_eq_true rfl, Nat.le_of_ble_eq_true rfl⟩) rfl dX8_tick_87 Fit.whole rfl rfl rfl (Nat.le_of_ble_eq_true rfl) (Nat.zero_le _) (Nat.zero_le _) rfl rfl rfl ?_
        refine V_goto (pc := 90) (tgt := 94) F dX8_tick_90 (by decide) ?_
        refine V_istore_n (L2 := [(2, .int r21), (1, .int (r5.2.1 (2 : Int32).toNatClampNeg)), (0, .ref (a 0))]) (pc := 94) F dX8_tick_94 rfl (by decide) rfl ?_
        refine V_iload_n (pc := 95) F dX8_tick_95 rfl 0 rfl ?_
        refine V_iconst (v := (-1)) (pc := 96) F dX8_tick_96 (by decide) ?_
        refine V_icmp_eq (pc := 97) (tgt := 111) F dX8_tick_97 (by decide) (fun h23 => ?_) (fun h23 => ?_)
        · replace hf := ite_pos hf h23
          obtain rfl := some_of hf
          exact V_vret F rfl dX8_tick_111 rfl
        · replace hf := ite_neg hf h23
          refine V_aload_n (pc := 100) F dX8_tick_100 rfl 2 rfl ?_
          refine V_iload_n (pc := 101) F dX8_tick_101 rfl 1 rfl ?_
          refine V_aload_n (pc := 102) F dX8_tick_102 rfl 2 rfl ?_
          refine V_iload_n (pc := 103) F dX8_tick_103 rfl 1 rfl ?_
          refine V_iload_n (pc := 104) F dX8_tick_104 rfl 0 rfl ?_
          obtain ⟨r24, g25, hf⟩ := bind_of hf
          refine V_V (w2 := wX8 cy a (r5.1, f14, r5.2.2)) (rest := [.int (r5.2.1 (2 : Int32).toNatClampNeg), .ref (a 0)]) (st2 := [.int r24, .int (r5.2.1 (2 : Int32).toNatClampNeg), .ref (a 0)]) (pc := 105) F 8 (M_X8_goal l D cy N a (r5.1, f14, r5.2.2) (r5.2.1 (2 : Int32).toNatClampNeg) r21 r24 g25) (cwV 2 F.ts gX8_tick_X8_goal rfl rfl rfl hd_X8_goal ⟨Nat.le_of_ble_eq_true rfl, Nat.le_of_ble_eq_true rfl⟩) rfl dX8_tick_105 Fit.whole rfl rfl rfl (Nat.le_of_ble_eq_true rfl) (Nat.zero_le _) (Nat.zero_le _) rfl rfl rfl ?_
          obtain ⟨r26, g27, hf⟩ := bind_of hf
          refine V_V (w2 := wX8 cy a r26) (rest := []) (st2 := []) (pc := 108) F 8 (M_X8_follow l D cy N a (r5.1, f14, r5.2.2) (r5.2.1 (2 : Int32).toNatClampNeg) r24 r26 g27) (cwV 2 F.ts gX8_tick_X8_follow rfl rfl rfl hd_X8_follow ⟨Nat.le_of_ble_eq_true rfl, Nat.le_of_ble_eq_true rfl⟩) rfl dX8_tick_108 Fit.whole fstX8 rfl rfl (Nat.le_of_ble_eq_true rfl) (Nat.zero_le _) (Nat.zero_le _) rfl rfl rfl ?_
          obtain rfl := some_of hf
          exact V_vret F rfl dX8_tick_111 rfl
    · replace hf := ite_neg hf h11
      refine V_aload_n (pc := 35) F dX8_tick_35 rfl 1 rfl ?_
      refine V_get (pc := 36) F 0 8 1 i_X8 rfl (by decide) rfl (mm 1 rfl) dX8_tick_36 rfl rfl ?_
      refine V_iconst (v := 4) (pc := 39) F dX8_tick_39 (by decide) ?_
      refine V_dup2_11 (pc := 40) F dX8_tick_40 rfl rfl ?_
      obtain ⟨c28, hf⟩ := chk_some hf
      refine V_iald (pc := 41) F 1 rfl c28 dX8_tick_41 ?_
      refine V_iconst (v := 1) (pc := 42) F dX8_tick_42 (by decide) ?_
      refine V_isub (pc := 43) F dX8_tick_43 ?_
      obtain ⟨c29, hf⟩ := chk_some hf
      obtain ⟨f30, e31, hf⟩ := nmd_of hf
      refine V_iast (w2 := wX8 cy a (r5.1, f30, r5.2.2)) (pc := 44) F 1 rfl c29 e31 dX8_tick_44 rfl ?_
      refine V_aload_n (pc := 45) F dX8_tick_45 rfl 1 rfl ?_
      refine V_get (pc := 46) F 0 8 1 i_X8 rfl (by decide) rfl (mm 1 rfl) dX8_tick_46 rfl rfl ?_
      refine V_iconst (v := 4) (pc := 49) F dX8_tick_49 (by decide) ?_
      obtain ⟨c32, hf⟩ := chk_some hf
      refine V_iald (pc := 50) F 1 rfl c32 dX8_tick_50 ?_
      refine V_if_ne (pc := 51) (tgt := 59) F dX8_tick_51 (by decide) (fun h33 => ?_) (fun h33 => ?_)
      · replace hf := ite_neg hf h33
        obtain rfl := some_of hf
        exact V_vret F rfl dX8_tick_59 rfl
      · replace hf := ite_pos hf h33
        refine V_aload_n (pc := 54) F dX8_tick_54 rfl 1 rfl ?_
        refine V_iload_n (pc := 55) F dX8_tick_55 rfl 0 rfl ?_
        obtain ⟨r34, g35, hf⟩ := bind_of hf
        refine V_V (w2 := wX8 cy a r34) (rest := []) (st2 := []) (pc := 56) F 8 (M_X8_arrive l D cy N a (r5.1, f30, r5.2.2) (r5.2.1 (2 : Int32).toNatClampNeg) r34 g35) (cwV 1 F.ts gX8_tick_X8_arrive rfl rfl rfl hd_X8_arrive ⟨Nat.le_of_ble_eq_true rfl, Nat.le_of_ble_eq_true rfl⟩) rfl dX8_tick_56 Fit.whole fstX8 rfl rfl (Nat.le_of_ble_eq_true rfl) (Nat.zero_le _) (Nat.zero_le _) rfl rfl rfl ?_
        obtain rfl := some_of hf
        exact V_vret F rfl dX8_tick_59 rfl
  · replace hf := ite_pos hf h8
    obtain rfl := some_of hf
    exact V_vret F rfl dX8_tick_27 rfl
