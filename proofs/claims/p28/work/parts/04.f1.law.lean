theorem hd_L_build : yL_build.cls ≠ "java/lang/invoke/MethodHandle" ∧ yL_build.cls ≠ "java/lang/invoke/VarHandle" ∧ (parseMethodDescriptor yL_build.desc).map (fun d => d.parameters.length) = some 4 := by decide +kernel
def fL_build_L70 (N : Nat) (sn : Nat) (sx : Nat → Int32) (z2 : Int32) (z3 : Int32) (z4 : Int32) (z5 : Int32) : Nat → SX7 → Int32 → Int32 → Option (SX7 × Int32)
  | 0, _, _, _ => none
  | n + 1, v, z6, z7 =>
    if 4 ≤ z7 then
      some (v, z6)
    else
      if z6 = 0 then
        some (v, z6)
      else
        (fL_low N (z4 >>> (((8 : Int32) + ((3 : Int32) * z7)) &&& 31)) 6).bind fun r12 =>
          (fL_low N (z4 >>> (((20 : Int32) + z7) &&& 31)) 5).bind fun r14 =>
            (rt (fX7_direction N v r12 2)).bind fun r16 =>
              (rt (fX7_clash N v r12 (((r12 + 1) + r14) - ((r12 + 1) + r14) / 6 * 6))).bind fun r18 =>
                if r18.1 = ((1 : Int32) - ((r16 >>> ((((r12 + 1) + r14) - ((r12 + 1) + r14) / 6 * 6) &&& 31)) &&& 1)) then
                  (rt (fX7_direction N r18.2 (((r12 + 1) + r14) - ((r12 + 1) + r14) / 6 * 6) 2)).bind fun r21 =>
                    if ((r21 >>> (r12 &&& 31)) &&& 1) = ((1 : Int32) - ((r16 >>> ((((r12 + 1) + r14) - ((r12 + 1) + r14) / 6 * 6) &&& 31)) &&& 1)) then
                      fL_build_L70 N sn sx z2 z3 z4 z5 n r18.2 1 (z7 + 1)
                    else
                      fL_build_L70 N sn sx z2 z3 z4 z5 n r18.2 0 (z7 + 1)
                else
                  fL_build_L70 N sn sx z2 z3 z4 z5 n r18.2 0 (z7 + 1)
def fL_build_L184 (N : Nat) (sn : Nat) (sx : Nat → Int32) (z2 : Int32) (z3 : Int32) (z5 : Int32) : Nat → SX7 → Int32 → Int32 → Option (SX7 × Int32)
  | 0, _, _, _ => none
  | n + 1, v, z6, z7 =>
    if z5 ≤ z7 then
      some (v, z6)
    else
      if z6 = 0 then
        some (v, z6)
      else
        (fL_cell N sn sx ((z2 + 1) + z7)).bind fun r28 =>
          (fL_low N r28 64).bind fun r30 =>
            (fL_low N (r28 >>> (6 &&& 31)) 64).bind fun r32 =>
              (fL_low N (r28 >>> (16 &&& 31)) 3).bind fun r34 =>
                (fL_low N (r28 >>> (12 &&& 31)) (if r34 = 0 then (9 : Int32) else (3 : Int32))).bind fun r37 =>
                  (rt (fX7_addPhase N v (r30 &&& r32) ((1 : Int32) + r37))).bind fun r39 =>
                    if r39.1 = z7 then
                      (rt (fX7_phase N r39.2 z7 0)).bind fun r42 =>
                        if r42.1 = (r30 &&& r32) then
                          (rt (fX7_phase N r42.2 z7 1)).bind fun r45 =>
                            if r45.1 = ((1 : Int32) + r37) then
                              (rt (fX7_phase N r45.2 z7 2)).bind fun r48 =>
                                if r48.1 = 0 then
                                  fL_build_L184 N sn sx z2 z3 z5 n r48.2 1 (z7 + 1)
                                else
                                  fL_build_L184 N sn sx z2 z3 z5 n r48.2 0 (z7 + 1)
                            else
                              fL_build_L184 N sn sx z2 z3 z5 n r45.2 0 (z7 + 1)
                        else
                          fL_build_L184 N sn sx z2 z3 z5 n r42.2 0 (z7 + 1)
                    else
                      fL_build_L184 N sn sx z2 z3 z5 n r39.2 0 (z7 + 1)
def fL_build_L361 (N : Nat) (sn : Nat) (sx : Nat → Int32) (z2 : Int32) (z3 : Int32) (z5 : Int32) (z7 : Int32) (z8 : Int32) : Nat → SX7 → Int32 → Int32 → Option (SX7 × Int32)
  | 0, _, _, _ => none
  | n + 1, v, z6, z9 =>
    if z8 ≤ z9 then
      some (v, z6)
    else
      if z6 = 0 then
        some (v, z6)
      else
        (fL_cell N sn sx (((z2 + 17) + ((4 : Int32) * z7)) + z9)).bind fun r63 =>
          (fL_low N r63 (z5 - 1)).bind fun r65 =>
            must (decide (¬ z5 = 0)) (
              (fL_low N (r63 >>> (4 &&& 31)) 5).bind fun r68 =>
                if r68 = 0 then
                  (rt (fX7_addRule N v z7 (((z7 + 1) + r65) - ((z7 + 1) + r65) / z5 * z5) 0)).bind fun r84 =>
                    if r84.1 = (z9 + 1) then
                      (rt (fX7_rule N r84.2 z7 z9 0)).bind fun r87 =>
                        if r87 = (((z7 + 1) + r65) - ((z7 + 1) + r65) / z5 * z5) then
                          (rt (fX7_rule N r84.2 z7 z9 1)).bind fun r90 =>
                            if r90 = 0 then
                              fL_build_L361 N sn sx z2 z3 z5 z7 z8 n r84.2 1 (z9 + 1)
                            else
                              fL_build_L361 N sn sx z2 z3 z5 z7 z8 n r84.2 0 (z9 + 1)
                        else
                          fL_build_L361 N sn sx z2 z3 z5 z7 z8 n r84.2 0 (z9 + 1)
                    else
                      fL_build_L361 N sn sx z2 z3 z5 z7 z8 n r84.2 0 (z9 + 1)
                else
                  (fL_low N (r63 >>> (7 &&& 31)) 64).bind fun r71 =>
                    (fL_low N (r63 >>> (13 &&& 31)) 64).bind fun r73 =>
                      (rt (fX7_addRule N v z7 (((z7 + 1) + r65) - ((z7 + 1) + r65) / z5 * z5) (r71 &&& r73))).bind fun r75 =>
                        if r75.1 = (z9 + 1) then
                          (rt (fX7_rule N r75.2 z7 z9 0)).bind fun r78 =>
                            if r78 = (((z7 + 1) + r65) - ((z7 + 1) + r65) / z5 * z5) then
                              (rt (fX7_rule N r75.2 z7 z9 1)).bind fun r81 =>
                                if r81 = (r71 &&& r73) then
                                  fL_build_L361 N sn sx z2 z3 z5 z7 z8 n r75.2 1 (z9 + 1)
                                else
                                  fL_build_L361 N sn sx z2 z3 z5 z7 z8 n r75.2 0 (z9 + 1)
                            else
                              fL_build_L361 N sn sx z2 z3 z5 z7 z8 n r75.2 0 (z9 + 1)
                        else
                          fL_build_L361 N sn sx z2 z3 z5 z7 z8 n r75.2 0 (z9 + 1)
            )
def fL_build_L321 (N : Nat) (sn : Nat) (sx : Nat → Int32) (z2 : Int32) (z3 : Int32) (z5 : Int32) : Nat → SX7 → Int32 → Int32 → Option (SX7 × Int32)
  | 0, _, _, _ => none
  | n + 1, v, z6, z7 =>
    if z5 ≤ z7 then
      some (v, z6)
    else
      if z5 ≤ 1 then
        some (v, z6)
      else
        if z6 = 0 then
          some (v, z6)
        else
          (fL_cell N sn sx ((z2 + 9) + z7)).bind fun r57 =>
            (fL_low N r57 (z3 + 1)).bind fun r59 =>
              (fL_build_L361 N sn sx z2 z3 z5 z7 r59 N v z6 0).bind fun u93 =>
                fL_build_L321 N sn sx z2 z3 z5 n u93.1 u93.2 (z7 + 1)
def fL_build (N : Nat) (sn : Nat) (sx : Nat → Int32) (v : SX7) (x2 : Int32) (x3 : Int32) : Option (Int32 × SX7) :=
  (fL_cell N sn sx x2).bind fun r1 =>
    (fL_low N r1 8).bind fun r3 =>
      (fL_low N (r1 >>> (3 &&& 31)) 6).bind fun r5 =>
        (rt (fX7_set N v r5)).bind fun r7 =>
          if r7.1 = 2 then
            (fL_low N (r1 >>> (6 &&& 31)) 4).bind fun r104 =>
              (rt (fX7_set N r7.2 r104)).bind fun r106 =>
                (fL_low N (r1 >>> (3 &&& 31)) 6).bind fun r108 =>
                  if r106.1 = r108 then
                    (fL_build_L70 N sn sx x2 x3 r1 ((1 : Int32) + r3) N r106.2 1 0).bind fun u124 =>
                      (fL_build_L184 N sn sx x2 x3 ((1 : Int32) + r3) N u124.1 u124.2 0).bind fun u126 =>
                        (fL_build_L321 N sn sx x2 x3 ((1 : Int32) + r3) N u126.1 u126.2 0).bind fun u128 =>
                          if u128.2 = 0 then
                            some (0, u128.1)
                          else
                            (rt (fX7_count N u128.1 0)).bind fun r131 =>
                              if r131.1 = ((1 : Int32) + r3) then
                                (rt (fX7_count N r131.2 1)).bind fun r134 =>
                                  if r134.1 = 0 then
                                    some (1, r134.2)
                                  else
                                    some (0, r134.2)
                              else
                                some (0, r131.2)
                  else
                    (fL_build_L70 N sn sx x2 x3 r1 ((1 : Int32) + r3) N r106.2 0 0).bind fun u111 =>
                      (fL_build_L184 N sn sx x2 x3 ((1 : Int32) + r3) N u111.1 u111.2 0).bind fun u113 =>
                        (fL_build_L321 N sn sx x2 x3 ((1 : Int32) + r3) N u113.1 u113.2 0).bind fun u115 =>
                          if u115.2 = 0 then
                            some (0, u115.1)
                          else
                            (rt (fX7_count N u115.1 0)).bind fun r118 =>
                              if r118.1 = ((1 : Int32) + r3) then
                                (rt (fX7_count N r118.2 1)).bind fun r121 =>
                                  if r121.1 = 0 then
                                    some (1, r121.2)
                                  else
                                    some (0, r121.2)
                              else
                                some (0, r118.2)
          else
            (fL_build_L70 N sn sx x2 x3 r1 ((1 : Int32) + r3) N r7.2 0 0).bind fun u24 =>
              (fL_build_L184 N sn sx x2 x3 ((1 : Int32) + r3) N u24.1 u24.2 0).bind fun u52 =>
                (fL_build_L321 N sn sx x2 x3 ((1 : Int32) + r3) N u52.1 u52.2 0).bind fun u95 =>
                  if u95.2 = 0 then
                    some (0, u95.1)
                  else
                    (rt (fX7_count N u95.1 0)).bind fun r98 =>
                      if r98.1 = ((1 : Int32) + r3) then
                        (rt (fX7_count N r98.2 1)).bind fun r101 =>
                          if r101.1 = 0 then
                            some (1, r101.2)
                          else
                            some (0, r101.2)
                      else
                        some (0, r98.2)
set_option maxHeartbeats 8000000 in
set_option maxRecDepth 100000 in
theorem M_L_build (l : Launch) (D : va_G) (cy : Nat → ClassId) (N : Nat) (sb : Nat) (sn : Nat) (sx : Nat → Int32) (a : Nat → Nat) (v : SX7) (x2 : Int32) (x3 : Int32) (o : Int32 × SX7) (hf : fL_build N sn sx v x2 x3 = some o) : okS l yL_build wsL_build (rmz 6 140) D cy sb sn sx [.ref (a 0), .ref sb, .int x2, .int x3] (wX7 cy a v) (wX7 cy a o.2) (some (.int o.1)) := by
  refine okS_of (own := RL) (nme := "build") (cc := cL_build) (maxL := 13) (ret := (some .boolean)) (by decide) rfl rfl rfl (Nat.le_of_ble_eq_true rfl) ?_
  intro p e s m args below meth c A F G
  have K70 : ∀ (n : Nat) (z2 : Int32) (z3 : Int32) (z4 : Int32) (z5 : Int32) (v : SX7) (z6 : Int32) (z7 : Int32) (u : SX7 × Int32), fL_build_L70 N sn sx z2 z3 z4 z5 n v z6 z7 = some u → V p l e (rmz 6 140) s m args below meth c 13 D A 0 0 (MQ below (ok_Q D (wX7 cy a o.2) (some (.int o.1)) A) args s 0 0 A) (wX7 cy a u.1) [(0, .ref (a 0)), (1, .ref sb), (2, .int z2), (3, .int z3), (5, .int z5), (6, .int u.2)] [] 181 → V p l e (rmz 6 140) s m args below meth c 13 D A 0 0 (MQ below (ok_Q D (wX7 cy a o.2) (some (.int o.1)) A) args s 0 0 A) (wX7 cy a v) [(0, .ref (a 0)), (1, .ref sb), (2, .int z2), (3, .int z3), (4, .int z4), (5, .int z5), (6, .int z6), (7, .int z7)] [] 70 := by
    intro n
    induction n with
    | zero =>
      intro z2 z3 z4 z5 v z6 z7 u hf hk
      exact nomatch (show (none : Option (SX7 × Int32)) = some u from hf)
    | succ n ih =>
      intro z2 z3 z4 z5 v z6 z7 u hf hk
      rw [fL_build_L70] at hf
      refine V_iload (pc := 70) F dL_build_70 7 rfl ?_
      refine V_iconst (v := 4) (pc := 72) F dL_build_72 (by decide) ?_
      refine V_icmp_ge (pc := 73) (tgt := 181) F dL_build_73 (by decide) (fun h10 => ?_) (fun h10 => ?_)
      · replace hf := ite_pos hf h10
        obtain rfl := some_of hf
        exact V.sub [0, 1, 2, 3, 5, 6] rfl hk
      · replace hf := ite_neg hf h10
        refine V_iload (pc := 76) F dL_build_76 6 rfl ?_
        refine V_if_eq (pc := 78) (tgt := 181) F dL_build_78 (by decide) (fun h11 => ?_) (fun h11 => ?_)
        · replace hf := ite_pos hf h11
          obtain rfl := some_of hf
          exact V.sub [0, 1, 2, 3, 5, 6] rfl hk
        · replace hf := ite_neg hf h11
          refine V_iload (pc := 81) F dL_build_81 4 rfl ?_
          refine V_bipush (v := 8) (pc := 83) F dL_build_83 (by decide) ?_
          refine V_iconst (v := 3) (pc := 85) F dL_build_85 (by decide) ?_
          refine V_iload (pc := 86) F dL_build_86 7 rfl ?_
          refine V_imul (pc := 88) F dL_build_88 ?_
          refine V_iadd (pc := 89) F dL_build_89 ?_
          refine V_ishr (pc := 90) F dL_build_90 ?_
          refine V_bipush (v := 6) (pc := 91) F dL_build_91 (by decide) ?_
          obtain ⟨r12, g13, hf⟩ := bind_of hf
          refine V_SM (w2 := wX7 cy a v) (rest := []) (st2 := [.int r12]) (pc := 93) F (M_L_low l D cy N (z4 >>> (((8 : Int32) + ((3 : Int32) * z7)) &&& 31)) 6 r12 g13) (va_cwS 2 F.ts gL_build_L_low rfl rfl rfl hd_L_low ⟨Nat.le_of_ble_eq_true rfl, Nat.le_of_ble_eq_true rfl⟩) rfl dL_build_93 Fit.nil rfl (Nat.le_of_ble_eq_true rfl) (Nat.zero_le _) (Nat.zero_le _) rfl rfl rfl ?_
          refine V_istore (L2 := [(8, .int r12), (0, .ref (a 0)), (1, .ref sb), (2, .int z2), (3, .int z3), (4, .int z4), (5, .int z5), (6, .int z6), (7, .int z7)]) (pc := 96) F dL_build_96 (by decide) rfl ?_
          refine V_iload (pc := 98) F dL_build_98 0 rfl ?_
          refine V_iconst (v := 1) (pc := 100) F dL_build_100 (by decide) ?_
          refine V_iadd (pc := 101) F dL_build_101 ?_
          refine V_iload (pc := 102) F dL_build_102 5 rfl ?_
          refine V_bipush (v := 20) (pc := 104) F dL_build_104 (by decide) ?_
          refine V_iload (pc := 106) F dL_build_106 8 rfl ?_
          refine V_iadd (pc := 108) F dL_build_108 ?_
          refine V_ishr (pc := 109) F dL_build_109 ?_
          refine V_iconst (v := 5) (pc := 110) F dL_build_110 (by decide) ?_
          obtain ⟨r14, g15, hf⟩ := bind_of hf
          refine V_SM (w2 := wX7 cy a v) (rest := [.int (r12 + 1)]) (st2 := [.int r14, .int (r12 + 1)]) (pc := 111) F (M_L_low l D cy N (z4 >>> (((20 : Int32) + z7) &&& 31)) 5 r14 g15) (va_cwS 2 F.ts gL_build_L_low rfl rfl rfl hd_L_low ⟨Nat.le_of_ble_eq_true rfl, Nat.le_of_ble_eq_true rfl⟩) rfl dL_build_111 Fit.nil rfl (Nat.le_of_ble_eq_true rfl) (Nat.zero_le _) (Nat.zero_le _) rfl rfl rfl ?_
          refine V_iadd (pc := 114) F dL_build_114 ?_
          refine V_bipush (v := 6) (pc := 115) F dL_build_115 (by decide) ?_
          refine V_irem (pc := 117) F dL_build_117 (by decide) ?_
          refine V_istore (L2 := [(9, .int (((r12 + 1) + r14) - ((r12 + 1) + r14) / 6 * 6)), (8, .int r12), (0, .ref (a 0)), (1, .ref sb), (2, .int z2), (3, .int z3), (4, .int z4), (5, .int z5), (6, .int z6), (7, .int z7)]) (pc := 118) F dL_build_118 (by decide) rfl ?_
          refine V_aload_n (pc := 120) F dL_build_120 rfl 2 rfl ?_
          refine V_iload (pc := 121) F dL_build_121 1 rfl ?_
          refine V_iconst (v := 2) (pc := 123) F dL_build_123 (by decide) ?_
          obtain ⟨r16, g17, hf⟩ := bind_of hf
          refine V_V (w2 := wX7 cy a v) (rest := []) (st2 := [.int r16]) (pc := 124) F 7 (M_X7_direction l D cy N a v r12 2 r16 (rt_of g17)) (cwV 2 F.ts gL_build_X7_direction rfl rfl rfl hd_X7_direction ⟨Nat.le_of_ble_eq_true rfl, Nat.le_of_ble_eq_true rfl⟩) rfl dL_build_124 Fit.whole rfl rfl rfl (Nat.le_of_ble_eq_true rfl) (Nat.zero_le _) (Nat.zero_le _) rfl rfl rfl ?_
          refine V_iload (pc := 127) F dL_build_127 0 rfl ?_
          refine V_ishr (pc := 129) F dL_build_129 ?_
          refine V_iconst (v := 1) (pc := 130) F dL_build_130 (by decide) ?_
          refine V_iand (pc := 131) F dL_build_131 ?_
          refine V_istore (L2 := [(10, .int ((r16 >>> ((((r12 + 1) + r14) - ((r12 + 1) + r14) / 6 * 6) &&& 31)) &&& 1)), (9, .int (((r12 + 1) + r14) - ((r12 + 1) + r14) / 6 * 6)), (8, .int r12), (0, .ref (a 0)), (1, .ref sb), (2, .int z2), (3, .int z3), (4, .int z4), (5, .int z5), (6, .int z6), (7, .int z7)]) (pc := 132) F dL_build_132 (by decide) rfl ?_
          refine V_aload_n (pc := 134) F dL_build_134 rfl 3 rfl ?_
          refine V_iload (pc := 135) F dL_build_135 2 rfl ?_
          refine V_iload (pc := 137) F dL_build_137 1 rfl ?_
          obtain ⟨r18, g19, hf⟩ := bind_of hf
          refine V_V (w2 := wX7 cy a r18.2) (rest := []) (st2 := [.int r18.1]) (pc := 139) F 7 (M_X7_clash l D cy N a v r12 (((r12 + 1) + r14) - ((r12 + 1) + r14) / 6 * 6) r18 (rt_of g19)) (cwV 2 F.ts gL_build_X7_clash rfl rfl rfl hd_X7_clash ⟨Nat.le_of_ble_eq_true rfl, Nat.le_of_ble_eq_true rfl⟩) rfl dL_build_139 Fit.whole fstX7 rfl rfl (Nat.le_of_ble_eq_true rfl) (Nat.zero_le _) (Nat.zero_le _) rfl rfl rfl ?_
          refine V_iconst (v := 1) (pc := 142) F dL_build_142 (by decide) ?_
          refine V_iload (pc := 143) F dL_build_143 0 rfl ?_
          refine V_isub (pc := 145) F dL_build_145 ?_
          refine V_icmp_ne (pc := 146) (tgt := 172) F dL_build_146 (by decide) (fun h20 => ?_) (fun h20 => ?_)
          · replace hf := ite_neg hf h20
            refine V_iconst (v := 0) (pc := 172) F dL_build_172 (by decide) ?_
            refine V_istore (L2 := [(6, .int 0), (10, .int ((r16 >>> ((((r12 + 1) + r14) - ((r12 + 1) + r14) / 6 * 6) &&& 31)) &&& 1)), (9, .int (((r12 + 1) + r14) - ((r12 + 1) + r14) / 6 * 6)), (8, .int r12), (0, .ref (a 0)), (1, .ref sb), (2, .int z2), (3, .int z3), (4, .int z4), (5, .int z5), (7, .int z7)]) (pc := 173) F dL_build_173 (by decide) rfl ?_
            refine V_iinc (v := (z7 + 1)) (L2 := [(7, .int (z7 + 1)), (6, .int 0), (10, .int ((r16 >>> ((((r12 + 1) + r14) - ((r12 + 1) + r14) / 6 * 6) &&& 31)) &&& 1)), (9, .int (((r12 + 1) + r14) - ((r12 + 1) + r14) / 6 * 6)), (8, .int r12), (0, .ref (a 0)), (1, .ref sb), (2, .int z2), (3, .int z3), (4, .int z4), (5, .int z5)]) (pc := 175) F dL_build_175 10 rfl rfl (by decide) rfl ?_
            refine V_goto (pc := 178) (tgt := 70) F dL_build_178 (by decide) ?_
            refine V.sub [5, 6, 7, 8, 9, 10, 1, 0] rfl ?_
            exact ih z2 z3 z4 z5 r18.2 0 (z7 + 1) _ hf hk
          · replace hf := ite_pos hf h20
            refine V_aload_n (pc := 149) F dL_build_149 rfl 3 rfl ?_
            refine V_iload (pc := 150) F dL_build_150 1 rfl ?_
            refine V_iconst (v := 2) (pc := 152) F dL_build_152 (by decide) ?_
            obtain ⟨r21, g22, hf⟩ := bind_of hf
            refine V_V (w2 := wX7 cy a r18.2) (rest := []) (st2 := [.int r21]) (pc := 153) F 7 (M_X7_direction l D cy N a r18.2 (((r12 + 1) + r14) - ((r12 + 1) + r14) / 6 * 6) 2 r21 (rt_of g22)) (cwV 2 F.ts gL_build_X7_direction rfl rfl rfl hd_X7_direction ⟨Nat.le_of_ble_eq_true rfl, Nat.le_of_ble_eq_true rfl⟩) rfl dL_build_153 Fit.whole rfl rfl rfl (Nat.le_of_ble_eq_true rfl) (Nat.zero_le _) (Nat.zero_le _) rfl rfl rfl ?_
            refine V_iload (pc := 156) F dL_build_156 2 rfl ?_
            refine V_ishr (pc := 158) F dL_build_158 ?_
            refine V_iconst (v := 1) (pc := 159) F dL_build_159 (by decide) ?_
            refine V_iand (pc := 160) F dL_build_160 ?_
            refine V_iconst (v := 1) (pc := 161) F dL_build_161 (by decide) ?_
            refine V_iload (pc := 162) F dL_build_162 0 rfl ?_
            refine V_isub (pc := 164) F dL_build_164 ?_
            refine V_icmp_ne (pc := 165) (tgt := 172) F dL_build_165 (by decide) (fun h23 => ?_) (fun h23 => ?_)
            · replace hf := ite_neg hf h23
              refine V_iconst (v := 0) (pc := 172) F dL_build_172 (by decide) ?_
              refine V_istore (L2 := [(6, .int 0), (10, .int ((r16 >>> ((((r12 + 1) + r14) - ((r12 + 1) + r14) / 6 * 6) &&& 31)) &&& 1)), (9, .int (((r12 + 1) + r14) - ((r12 + 1) + r14) / 6 * 6)), (8, .int r12), (0, .ref (a 0)), (1, .ref sb), (2, .int z2), (3, .int z3), (4, .int z4), (5, .int z5), (7, .int z7)]) (pc := 173) F dL_build_173 (by decide) rfl ?_
              refine V_iinc (v := (z7 + 1)) (L2 := [(7, .int (z7 + 1)), (6, .int 0), (10, .int ((r16 >>> ((((r12 + 1) + r14) - ((r12 + 1) + r14) / 6 * 6) &&& 31)) &&& 1)), (9, .int (((r12 + 1) + r14) - ((r12 + 1) + r14) / 6 * 6)), (8, .int r12), (0, .ref (a 0)), (1, .ref sb), (2, .int z2), (3, .int z3), (4, .int z4), (5, .int z5)]) (pc := 175) F dL_build_175 10 rfl rfl (by decide) rfl ?_
              refine V_goto (pc := 178) (tgt := 70) F dL_build_178 (by decide) ?_
              refine V.sub [5, 6, 7, 8, 9, 10, 1, 0] rfl ?_
              exact ih z2 z3 z4 z5 r18.2 0 (z7 + 1) _ hf hk
            · replace hf := ite_pos hf h23
              refine V_iconst (v := 1) (pc := 168) F dL_build_168 (by decide) ?_
              refine V_goto (pc := 169) (tgt := 173) F dL_build_169 (by decide) ?_
              refine V_istore (L2 := [(6, .int 1), (10, .int ((r16 >>> ((((r12 + 1) + r14) - ((r12 + 1) + r14) / 6 * 6) &&& 31)) &&& 1)), (9, .int (((r12 + 1) + r14) - ((r12 + 1) + r14) / 6 * 6)), (8, .int r12), (0, .ref (a 0)), (1, .ref sb), (2, .int z2), (3, .int z3), (4, .int z4), (5, .int z5), (7, .int z7)]) (pc := 173) F dL_build_173 (by decide) rfl ?_
              refine V_iinc (v := (z7 + 1)) (L2 := [(7, .int (z7 + 1)), (6, .int 1), (10, .int ((r16 >>> ((((r12 + 1) + r14) - ((r12 + 1) + r14) / 6 * 6) &&& 31)) &&& 1)), (9, .int (((r12 + 1) + r14) - ((r12 + 1) + r14) / 6 * 6)), (8, .int r12), (0, .ref (a 0)), (1, .ref sb), (2, .int z2), (3, .int z3), (4, .int z4), (5, .int z5)]) (pc := 175) F dL_build_175 10 rfl rfl (by decide) rfl ?_
              refine V_goto (pc := 178) (tgt := 70) F dL_build_178 (by decide) ?_
              refine V.sub [5, 6, 7, 8, 9, 10, 1, 0] rfl ?_
              exact ih z2 z3 z4 z5 r18.2 1 (z7 + 1) _ hf hk
  have K184 : ∀ (n : Nat) (z2 : Int32) (z3 : Int32) (z5 : Int32) (v : SX7) (z6 : Int32) (z7 : Int32) (u : SX7 × Int32), fL_build_L184 N sn sx z2 z3 z5 n v z6 z7 = some u → V p l e (rmz 6 140) s m args below meth c 13 D A 0 0 (MQ below (ok_Q D (wX7 cy a o.2) (some (.int o.1)) A) args s 0 0 A) (wX7 cy a u.1) [(0, .ref (a 0)), (1, .ref sb), (2, .int z2), (3, .int z3), (5, .int z5), (6, .int u.2)] [] 318 → V p l e (rmz 6 140) s m args below meth c 13 D A 0 0 (MQ below (ok_Q D (wX7 cy a o.2) (some (.int o.1)) A) args s 0 0 A) (wX7 cy a v) [(0, .ref (a 0)), (1, .ref sb), (2, .int z2), (3, .int z3), (5, .int z5), (6, .int z6), (7, .int z7)] [] 184 := by
    intro n
    induction n with
    | zero =>
      intro z2 z3 z5 v z6 z7 u hf hk
      exact nomatch (show (none : Option (SX7 × Int32)) = some u from hf)
    | succ n ih =>
      intro z2 z3 z5 v z6 z7 u hf hk
      rw [fL_build_L184] at hf
      refine V_iload (pc := 184) F dL_build_184 6 rfl ?_
      refine V_iload (pc := 186) F dL_build_186 4 rfl ?_
      refine V_icmp_ge (pc := 188) (tgt := 318) F dL_build_188 (by decide) (fun h26 => ?_) (fun h26 => ?_)
      · replace hf := ite_pos hf h26
        obtain rfl := some_of hf
        exact V.sub [0, 1, 2, 3, 4, 5] rfl hk
      · replace hf := ite_neg hf h26
        refine V_iload (pc := 191) F dL_build_191 5 rfl ?_
        refine V_if_eq (pc := 193) (tgt := 318) F dL_build_193 (by decide) (fun h27 => ?_) (fun h27 => ?_)
        · replace hf := ite_pos hf h27
          obtain rfl := some_of hf
          exact V.sub [0, 1, 2, 3, 4, 5] rfl hk
        · replace hf := ite_neg hf h27
          refine V_aload_n (pc := 196) F dL_build_196 rfl 1 rfl ?_
          refine V_iload_n (pc := 197) F dL_build_197 rfl 2 rfl ?_
          refine V_iconst (v := 1) (pc := 198) F dL_build_198 (by decide) ?_
          refine V_iadd (pc := 199) F dL_build_199 ?_
          refine V_iload (pc := 200) F dL_build_200 6 rfl ?_
          refine V_iadd (pc := 202) F dL_build_202 ?_
          obtain ⟨r28, g29, hf⟩ := bind_of hf
          refine V_SS (w2 := wX7 cy a v) (rest := []) (st2 := [.int r28]) (pc := 203) F G (M_L_cell l D cy N sb sn sx ((z2 + 1) + z7) r28 g29) (va_cwS 2 F.ts gL_build_L_cell rfl rfl rfl hd_L_cell ⟨Nat.le_of_ble_eq_true rfl, Nat.le_of_ble_eq_true rfl⟩) rfl dL_build_203 Fit.nil rfl (Nat.le_of_ble_eq_true rfl) (Nat.zero_le _) (Nat.zero_le _) rfl rfl rfl ?_
          refine V_istore (L2 := [(8, .int r28), (0, .ref (a 0)), (1, .ref sb), (2, .int z2), (3, .int z3), (5, .int z5), (6, .int z6), (7, .int z7)]) (pc := 206) F dL_build_206 (by decide) rfl ?_
          refine V_iload (pc := 208) F dL_build_208 0 rfl ?_
          refine V_bipush (v := 64) (pc := 210) F dL_build_210 (by decide) ?_
          obtain ⟨r30, g31, hf⟩ := bind_of hf
          refine V_SM (w2 := wX7 cy a v) (rest := []) (st2 := [.int r30]) (pc := 212) F (M_L_low l D cy N r28 64 r30 g31) (va_cwS 2 F.ts gL_build_L_low rfl rfl rfl hd_L_low ⟨Nat.le_of_ble_eq_true rfl, Nat.le_of_ble_eq_true rfl⟩) rfl dL_build_212 Fit.nil rfl (Nat.le_of_ble_eq_true rfl) (Nat.zero_le _) (Nat.zero_le _) rfl rfl rfl ?_
          refine V_iload (pc := 215) F dL_build_215 0 rfl ?_
          refine V_bipush (v := 6) (pc := 217) F dL_build_217 (by decide) ?_
          refine V_ishr (pc := 219) F dL_build_219 ?_
          refine V_bipush (v := 64) (pc := 220) F dL_build_220 (by decide) ?_
          obtain ⟨r32, g33, hf⟩ := bind_of hf
          refine V_SM (w2 := wX7 cy a v) (rest := [.int r30]) (st2 := [.int r32, .int r30]) (pc := 222) F (M_L_low l D cy N (r28 >>> (6 &&& 31)) 64 r32 g33) (va_cwS 2 F.ts gL_build_L_low rfl rfl rfl hd_L_low ⟨Nat.le_of_ble_eq_true rfl, Nat.le_of_ble_eq_true rfl⟩) rfl dL_build_222 Fit.nil rfl (Nat.le_of_ble_eq_true rfl) (Nat.zero_le _) (Nat.zero_le _) rfl rfl rfl ?_
          refine V_iand (pc := 225) F dL_build_225 ?_
          refine V_istore (L2 := [(9, .int (r30 &&& r32)), (8, .int r28), (0, .ref (a 0)), (1, .ref sb), (2, .int z2), (3, .int z3), (5, .int z5), (6, .int z6), (7, .int z7)]) (pc := 226) F dL_build_226 (by decide) rfl ?_
          refine V_iconst (v := 1) (pc := 228) F dL_build_228 (by decide) ?_
          refine V_iload (pc := 229) F dL_build_229 1 rfl ?_
          refine V_bipush (v := 12) (pc := 231) F dL_build_231 (by decide) ?_
          refine V_ishr (pc := 233) F dL_build_233 ?_
          refine V_iload (pc := 234) F dL_build_234 1 rfl ?_
          refine V_bipush (v := 16) (pc := 236) F dL_build_236 (by decide) ?_
          refine V_ishr (pc := 238) F dL_build_238 ?_
          refine V_iconst (v := 3) (pc := 239) F dL_build_239 (by decide) ?_
          obtain ⟨r34, g35, hf⟩ := bind_of hf
          refine V_SM (w2 := wX7 cy a v) (rest := [.int (r28 >>> (12 &&& 31)), .int 1]) (st2 := [.int r34, .int (r28 >>> (12 &&& 31)), .int 1]) (pc := 240) F (M_L_low l D cy N (r28 >>> (16 &&& 31)) 3 r34 g35) (va_cwS 2 F.ts gL_build_L_low rfl rfl rfl hd_L_low ⟨Nat.le_of_ble_eq_true rfl, Nat.le_of_ble_eq_true rfl⟩) rfl dL_build_240 Fit.nil rfl (Nat.le_of_ble_eq_true rfl) (Nat.zero_le _) (Nat.zero_le _) rfl rfl rfl ?_
          have J51 : V p l e (rmz 6 140) s m args below meth c 13 D A 0 0 (MQ below (ok_Q D (wX7 cy a o.2) (some (.int o.1)) A) args s 0 0 A) (wX7 cy a v) [(9, .int (r30 &&& r32)), (8, .int r28), (0, .ref (a 0)), (1, .ref sb), (2, .int z2), (3, .int z3), (5, .int z5), (6, .int z6), (7, .int z7)] [.int (if r34 = 0 then (9 : Int32) else (3 : Int32)), .int (r28 >>> (12 &&& 31)), .int 1] 252 := by
            obtain ⟨r37, g38, hf⟩ := bind_of hf
            refine V_SM (w2 := wX7 cy a v) (rest := [.int 1]) (st2 := [.int r37, .int 1]) (pc := 252) F (M_L_low l D cy N (r28 >>> (12 &&& 31)) (if r34 = 0 then (9 : Int32) else (3 : Int32)) r37 g38) (va_cwS 2 F.ts gL_build_L_low rfl rfl rfl hd_L_low ⟨Nat.le_of_ble_eq_true rfl, Nat.le_of_ble_eq_true rfl⟩) rfl dL_build_252 Fit.nil rfl (Nat.le_of_ble_eq_true rfl) (Nat.zero_le _) (Nat.zero_le _) rfl rfl rfl ?_
            refine V_iadd (pc := 255) F dL_build_255 ?_
            refine V_istore (L2 := [(10, .int ((1 : Int32) + r37)), (9, .int (r30 &&& r32)), (8, .int r28), (0, .ref (a 0)), (1, .ref sb), (2, .int z2), (3, .int z3), (5, .int z5), (6, .int z6), (7, .int z7)]) (pc := 256) F dL_build_256 (by decide) rfl ?_
            refine V_aload_n (pc := 258) F dL_build_258 rfl 3 rfl ?_
            refine V_iload (pc := 259) F dL_build_259 1 rfl ?_
            refine V_iload (pc := 261) F dL_build_261 0 rfl ?_
            obtain ⟨r39, g40, hf⟩ := bind_of hf
            refine V_V (w2 := wX7 cy a r39.2) (rest := []) (st2 := [.int r39.1]) (pc := 263) F 7 (M_X7_addPhase l D cy N a v (r30 &&& r32) ((1 : Int32) + r37) r39 (rt_of g40)) (cwV 2 F.ts gL_build_X7_addPhase rfl rfl rfl hd_X7_addPhase ⟨Nat.le_of_ble_eq_true rfl, Nat.le_of_ble_eq_true rfl⟩) rfl dL_build_263 Fit.whole fstX7 rfl rfl (Nat.le_of_ble_eq_true rfl) (Nat.zero_le _) (Nat.zero_le _) rfl rfl rfl ?_
            refine V_iload (pc := 266) F dL_build_266 9 rfl ?_
            refine V_icmp_ne (pc := 268) (tgt := 309) F dL_build_268 (by decide) (fun h41 => ?_) (fun h41 => ?_)
            · replace hf := ite_neg hf h41
              refine V_iconst (v := 0) (pc := 309) F dL_build_309 (by decide) ?_
              refine V_istore (L2 := [(6, .int 0), (10, .int ((1 : Int32) + r37)), (9, .int (r30 &&& r32)), (8, .int r28), (0, .ref (a 0)), (1, .ref sb), (2, .int z2), (3, .int z3), (5, .int z5), (7, .int z7)]) (pc := 310) F dL_build_310 (by decide) rfl ?_
              refine V_iinc (v := (z7 + 1)) (L2 := [(7, .int (z7 + 1)), (6, .int 0), (10, .int ((1 : Int32) + r37)), (9, .int (r30 &&& r32)), (8, .int r28), (0, .ref (a 0)), (1, .ref sb), (2, .int z2), (3, .int z3), (5, .int z5)]) (pc := 312) F dL_build_312 9 rfl rfl (by decide) rfl ?_
              refine V_goto (pc := 315) (tgt := 184) F dL_build_315 (by decide) ?_
              refine V.sub [5, 6, 7, 8, 9, 1, 0] rfl ?_
              exact ih z2 z3 z5 r39.2 0 (z7 + 1) _ hf hk
            · replace hf := ite_pos hf h41
              refine V_aload_n (pc := 271) F dL_build_271 rfl 3 rfl ?_
              refine V_iload (pc := 272) F dL_build_272 9 rfl ?_
              refine V_iconst (v := 0) (pc := 274) F dL_build_274 (by decide) ?_
              obtain ⟨r42, g43, hf⟩ := bind_of hf
              refine V_V (w2 := wX7 cy a r42.2) (rest := []) (st2 := [.int r42.1]) (pc := 275) F 7 (M_X7_phase l D cy N a r39.2 z7 0 r42 (rt_of g43)) (cwV 2 F.ts gL_build_X7_phase rfl rfl rfl hd_X7_phase ⟨Nat.le_of_ble_eq_true rfl, Nat.le_of_ble_eq_true rfl⟩) rfl dL_build_275 Fit.whole fstX7 rfl rfl (Nat.le_of_ble_eq_true rfl) (Nat.zero_le _) (Nat.zero_le _) rfl rfl rfl ?_
              refine V_iload (pc := 278) F dL_build_278 1 rfl ?_
              refine V_icmp_ne (pc := 280) (tgt := 309) F dL_build_280 (by decide) (fun h44 => ?_) (fun h44 => ?_)
              · replace hf := ite_neg hf h44
                refine V_iconst (v := 0) (pc := 309) F dL_build_309 (by decide) ?_
                refine V_istore (L2 := [(6, .int 0), (10, .int ((1 : Int32) + r37)), (9, .int (r30 &&& r32)), (8, .int r28), (0, .ref (a 0)), (1, .ref sb), (2, .int z2), (3, .int z3), (5, .int z5), (7, .int z7)]) (pc := 310) F dL_build_310 (by decide) rfl ?_
                refine V_iinc (v := (z7 + 1)) (L2 := [(7, .int (z7 + 1)), (6, .int 0), (10, .int ((1 : Int32) + r37)), (9, .int (r30 &&& r32)), (8, .int r28), (0, .ref (a 0)), (1, .ref sb), (2, .int z2), (3, .int z3), (5, .int z5)]) (pc := 312) F dL_build_312 9 rfl rfl (by decide) rfl ?_
                refine V_goto (pc := 315) (tgt := 184) F dL_build_315 (by decide) ?_
                refine V.sub [5, 6, 7, 8, 9, 1, 0] rfl ?_
                exact ih z2 z3 z5 r42.2 0 (z7 + 1) _ hf hk
              · replace hf := ite_pos hf h44
                refine V_aload_n (pc := 283) F dL_build_283 rfl 3 rfl ?_
                refine V_iload (pc := 284) F dL_build_284 9 rfl ?_
                refine V_iconst (v := 1) (pc := 286) F dL_build_286 (by decide) ?_
                obtain ⟨r45, g46, hf⟩ := bind_of hf
                refine V_V (w2 := wX7 cy a r45.2) (rest := []) (st2 := [.int r45.1]) (pc := 287) F 7 (M_X7_phase l D cy N a r42.2 z7 1 r45 (rt_of g46)) (cwV 2 F.ts gL_build_X7_phase rfl rfl rfl hd_X7_phase ⟨Nat.le_of_ble_eq_true rfl, Nat.le_of_ble_eq_true rfl⟩) rfl dL_build_287 Fit.whole fstX7 rfl rfl (Nat.le_of_ble_eq_true rfl) (Nat.zero_le _) (Nat.zero_le _) rfl rfl rfl ?_
                refine V_iload (pc := 290) F dL_build_290 0 rfl ?_
                refine V_icmp_ne (pc := 292) (tgt := 309) F dL_build_292 (by decide) (fun h47 => ?_) (fun h47 => ?_)
                · replace hf := ite_neg hf h47
                  refine V_iconst (v := 0) (pc := 309) F dL_build_309 (by decide) ?_
                  refine V_istore (L2 := [(6, .int 0), (10, .int ((1 : Int32) + r37)), (9, .int (r30 &&& r32)), (8, .int r28), (0, .ref (a 0)), (1, .ref sb), (2, .int z2), (3, .int z3), (5, .int z5), (7, .int z7)]) (pc := 310) F dL_build_310 (by decide) rfl ?_
                  refine V_iinc (v := (z7 + 1)) (L2 := [(7, .int (z7 + 1)), (6, .int 0), (10, .int ((1 : Int32) + r37)), (9, .int (r30 &&& r32)), (8, .int r28), (0, .ref (a 0)), (1, .ref sb), (2, .int z2), (3, .int z3), (5, .int z5)]) (pc := 312) F dL_build_312 9 rfl rfl (by decide) rfl ?_
                  refine V_goto (pc := 315) (tgt := 184) F dL_build_315 (by decide) ?_
                  refine V.sub [5, 6, 7, 8, 9, 1, 0] rfl ?_
                  exact ih z2 z3 z5 r45.2 0 (z7 + 1) _ hf hk
                · replace hf := ite_pos hf h47
                  refine V_aload_n (pc := 295) F dL_build_295 rfl 3 rfl ?_
                  refine V_iload (pc := 296) F dL_build_296 9 rfl ?_
                  refine V_iconst (v := 2) (pc := 298) F dL_build_298 (by decide) ?_
                  obtain ⟨r48, g49, hf⟩ := bind_of hf
                  refine V_V (w2 := wX7 cy a r48.2) (rest := []) (st2 := [.int r48.1]) (pc := 299) F 7 (M_X7_phase l D cy N a r45.2 z7 2 r48 (rt_of g49)) (cwV 2 F.ts gL_build_X7_phase rfl rfl rfl hd_X7_phase ⟨Nat.le_of_ble_eq_true rfl, Nat.le_of_ble_eq_true rfl⟩) rfl dL_build_299 Fit.whole fstX7 rfl rfl (Nat.le_of_ble_eq_true rfl) (Nat.zero_le _) (Nat.zero_le _) rfl rfl rfl ?_
                  refine V_if_ne (pc := 302) (tgt := 309) F dL_build_302 (by decide) (fun h50 => ?_) (fun h50 => ?_)
                  · replace hf := ite_neg hf h50
                    refine V_iconst (v := 0) (pc := 309) F dL_build_309 (by decide) ?_
                    refine V_istore (L2 := [(6, .int 0), (10, .int ((1 : Int32) + r37)), (9, .int (r30 &&& r32)), (8, .int r28), (0, .ref (a 0)), (1, .ref sb), (2, .int z2), (3, .int z3), (5, .int z5), (7, .int z7)]) (pc := 310) F dL_build_310 (by decide) rfl ?_
                    refine V_iinc (v := (z7 + 1)) (L2 := [(7, .int (z7 + 1)), (6, .int 0), (10, .int ((1 : Int32) + r37)), (9, .int (r30 &&& r32)), (8, .int r28), (0, .ref (a 0)), (1, .ref sb), (2, .int z2), (3, .int z3), (5, .int z5)]) (pc := 312) F dL_build_312 9 rfl rfl (by decide) rfl ?_
                    refine V_goto (pc := 315) (tgt := 184) F dL_build_315 (by decide) ?_
                    refine V.sub [5, 6, 7, 8, 9, 1, 0] rfl ?_
                    exact ih z2 z3 z5 r48.2 0 (z7 + 1) _ hf hk
                  · replace hf := ite_pos hf h50
                    refine V_iconst (v := 1) (pc := 305) F dL_build_305 (by decide) ?_
                    refine V_goto (pc := 306) (tgt := 310) F dL_build_306 (by decide) ?_
                    refine V_istore (L2 := [(6, .int 1), (10, .int ((1 : Int32) + r37)), (9, .int (r30 &&& r32)), (8, .int r28), (0, .ref (a 0)), (1, .ref sb), (2, .int z2), (3, .int z3), (5, .int z5), (7, .int z7)]) (pc := 310) F dL_build_310 (by decide) rfl ?_
                    refine V_iinc (v := (z7 + 1)) (L2 := [(7, .int (z7 + 1)), (6, .int 1), (10, .int ((1 : Int32) + r37)), (9, .int (r30 &&& r32)), (8, .int r28), (0, .ref (a 0)), (1, .ref sb), (2, .int z2), (3, .int z3), (5, .int z5)]) (pc := 312) F dL_build_312 9 rfl rfl (by decide) rfl ?_
                    refine V_goto (pc := 315) (tgt := 184) F dL_build_315 (by decide) ?_
                    refine V.sub [5, 6, 7, 8, 9, 1, 0] rfl ?_
                    exact ih z2 z3 z5 r48.2 1 (z7 + 1) _ hf hk
          refine V_if_ne (pc := 243) (tgt := 251) F dL_build_243 (by decide) (fun h36 => ?_) (fun h36 => ?_)
          · refine V_iconst (v := 3) (pc := 251) F dL_build_251 (by decide) ?_
            exact V.eq rfl rfl (by rw [if_neg h36]) J51
          · refine V_bipush (v := 9) (pc := 246) F dL_build_246 (by decide) ?_
            refine V_goto (pc := 248) (tgt := 252) F dL_build_248 (by decide) ?_
            exact V.eq rfl rfl (by rw [if_pos h36]) J51
  have K361 : ∀ (n : Nat) (z2 : Int32) (z3 : Int32) (z5 : Int32) (z7 : Int32) (z8 : Int32) (v : SX7) (z6 : Int32) (z9 : Int32) (u : SX7 × Int32), fL_build_L361 N sn sx z2 z3 z5 z7 z8 n v z6 z9 = some u → V p l e (rmz 6 140) s m args below meth c 13 D A 0 0 (MQ below (ok_Q D (wX7 cy a o.2) (some (.int o.1)) A) args s 0 0 A) (wX7 cy a u.1) [(0, .ref (a 0)), (1, .ref sb), (2, .int z2), (3, .int z3), (5, .int z5), (6, .int u.2), (7, .int z7)] [] 506 → V p l e (rmz 6 140) s m args below meth c 13 D A 0 0 (MQ below (ok_Q D (wX7 cy a o.2) (some (.int o.1)) A) args s 0 0 A) (wX7 cy a v) [(0, .ref (a 0)), (1, .ref sb), (2, .int z2), (3, .int z3), (5, .int z5), (6, .int z6), (7, .int z7), (8, .int z8), (9, .int z9)] [] 361 := by
    intro n
    induction n with
    | zero =>
      intro z2 z3 z5 z7 z8 v z6 z9 u hf hk
      exact nomatch (show (none : Option (SX7 × Int32)) = some u from hf)
    | succ n ih =>
      intro z2 z3 z5 z7 z8 v z6 z9 u hf hk
      rw [fL_build_L361] at hf
      refine V_iload (pc := 361) F dL_build_361 8 rfl ?_
      refine V_iload (pc := 363) F dL_build_363 7 rfl ?_
      refine V_icmp_ge (pc := 365) (tgt := 506) F dL_build_365 (by decide) (fun h61 => ?_) (fun h61 => ?_)
      · replace hf := ite_pos hf h61
        obtain rfl := some_of hf
        exact V.sub [0, 1, 2, 3, 4, 5, 6] rfl hk
      · replace hf := ite_neg hf h61
        refine V_iload (pc := 368) F dL_build_368 5 rfl ?_
        refine V_if_eq (pc := 370) (tgt := 506) F dL_build_370 (by decide) (fun h62 => ?_) (fun h62 => ?_)
        · replace hf := ite_pos hf h62
          obtain rfl := some_of hf
          exact V.sub [0, 1, 2, 3, 4, 5, 6] rfl hk
        · replace hf := ite_neg hf h62
          refine V_aload_n (pc := 373) F dL_build_373 rfl 1 rfl ?_
          refine V_iload_n (pc := 374) F dL_build_374 rfl 2 rfl ?_
          refine V_bipush (v := 17) (pc := 375) F dL_build_375 (by decide) ?_
          refine V_iadd (pc := 377) F dL_build_377 ?_
          refine V_iconst (v := 4) (pc := 378) F dL_build_378 (by decide) ?_
          refine V_iload (pc := 379) F dL_build_379 6 rfl ?_
          refine V_imul (pc := 381) F dL_build_381 ?_
          refine V_iadd (pc := 382) F dL_build_382 ?_
          refine V_iload (pc := 383) F dL_build_383 8 rfl ?_
          refine V_iadd (pc := 385) F dL_build_385 ?_
          obtain ⟨r63, g64, hf⟩ := bind_of hf
          refine V_SS (w2 := wX7 cy a v) (rest := []) (st2 := [.int r63]) (pc := 386) F G (M_L_cell l D cy N sb sn sx (((z2 + 17) + ((4 : Int32) * z7)) + z9) r63 g64) (va_cwS 2 F.ts gL_build_L_cell rfl rfl rfl hd_L_cell ⟨Nat.le_of_ble_eq_true rfl, Nat.le_of_ble_eq_true rfl⟩) rfl dL_build_386 Fit.nil rfl (Nat.le_of_ble_eq_true rfl) (Nat.zero_le _) (Nat.zero_le _) rfl rfl rfl ?_
          refine V_istore (L2 := [(10, .int r63), (0, .ref (a 0)), (1, .ref sb), (2, .int z2), (3, .int z3), (5, .int z5), (6, .int z6), (7, .int z7), (8, .int z8), (9, .int z9)]) (pc := 389) F dL_build_389 (by decide) rfl ?_
          refine V_iload (pc := 391) F dL_build_391 7 rfl ?_
          refine V_iconst (v := 1) (pc := 393) F dL_build_393 (by decide) ?_
          refine V_iadd (pc := 394) F dL_build_394 ?_
          refine V_iload (pc := 395) F dL_build_395 0 rfl ?_
          refine V_iload (pc := 397) F dL_build_397 5 rfl ?_
          refine V_iconst (v := 1) (pc := 399) F dL_build_399 (by decide) ?_
          refine V_isub (pc := 400) F dL_build_400 ?_
          obtain ⟨r65, g66, hf⟩ := bind_of hf
          refine V_SM (w2 := wX7 cy a v) (rest := [.int (z7 + 1)]) (st2 := [.int r65, .int (z7 + 1)]) (pc := 401) F (M_L_low l D cy N r63 (z5 - 1) r65 g66) (va_cwS 2 F.ts gL_build_L_low rfl rfl rfl hd_L_low ⟨Nat.le_of_ble_eq_true rfl, Nat.le_of_ble_eq_true rfl⟩) rfl dL_build_401 Fit.nil rfl (Nat.le_of_ble_eq_true rfl) (Nat.zero_le _) (Nat.zero_le _) rfl rfl rfl ?_
          refine V_iadd (pc := 404) F dL_build_404 ?_
          refine V_iload (pc := 405) F dL_build_405 5 rfl ?_
          obtain ⟨c67, hf⟩ := must_some hf
          refine V_irem (pc := 407) F dL_build_407 (of_decide_eq_true c67) ?_
          refine V_istore (L2 := [(11, .int (((z7 + 1) + r65) - ((z7 + 1) + r65) / z5 * z5)), (10, .int r63), (0, .ref (a 0)), (1, .ref sb), (2, .int z2), (3, .int z3), (5, .int z5), (6, .int z6), (7, .int z7), (8, .int z8), (9, .int z9)]) (pc := 408) F dL_build_408 (by decide) rfl ?_
          refine V_iload (pc := 410) F dL_build_410 1 rfl ?_
          refine V_iconst (v := 4) (pc := 412) F dL_build_412 (by decide) ?_
          refine V_ishr (pc := 413) F dL_build_413 ?_
          refine V_iconst (v := 5) (pc := 414) F dL_build_414 (by decide) ?_
          obtain ⟨r68, g69, hf⟩ := bind_of hf
          refine V_SM (w2 := wX7 cy a v) (rest := []) (st2 := [.int r68]) (pc := 415) F (M_L_low l D cy N (r63 >>> (4 &&& 31)) 5 r68 g69) (va_cwS 2 F.ts gL_build_L_low rfl rfl rfl hd_L_low ⟨Nat.le_of_ble_eq_true rfl, Nat.le_of_ble_eq_true rfl⟩) rfl dL_build_415 Fit.nil rfl (Nat.le_of_ble_eq_true rfl) (Nat.zero_le _) (Nat.zero_le _) rfl rfl rfl ?_
          refine V_if_ne (pc := 418) (tgt := 425) F dL_build_418 (by decide) (fun h70 => ?_) (fun h70 => ?_)
          · replace hf := ite_neg hf h70
            refine V_iload (pc := 425) F dL_build_425 1 rfl ?_
            refine V_bipush (v := 7) (pc := 427) F dL_build_427 (by decide) ?_
            refine V_ishr (pc := 429) F dL_build_429 ?_
            refine V_bipush (v := 64) (pc := 430) F dL_build_430 (by decide) ?_
            obtain ⟨r71, g72, hf⟩ := bind_of hf
            refine V_SM (w2 := wX7 cy a v) (rest := []) (st2 := [.int r71]) (pc := 432) F (M_L_low l D cy N (r63 >>> (7 &&& 31)) 64 r71 g72) (va_cwS 2 F.ts gL_build_L_low rfl rfl rfl hd_L_low ⟨Nat.le_of_ble_eq_true rfl, Nat.le_of_ble_eq_true rfl⟩) rfl dL_build_432 Fit.nil rfl (Nat.le_of_ble_eq_true rfl) (Nat.zero_le _) (Nat.zero_le _) rfl rfl rfl ?_
            refine V_iload (pc := 435) F dL_build_435 1 rfl ?_
            refine V_bipush (v := 13) (pc := 437) F dL_build_437 (by decide) ?_
            refine V_ishr (pc := 439) F dL_build_439 ?_
            refine V_bipush (v := 64) (pc := 440) F dL_build_440 (by decide) ?_
            obtain ⟨r73, g74, hf⟩ := bind_of hf
            refine V_SM (w2 := wX7 cy a v) (rest := [.int r71]) (st2 := [.int r73, .int r71]) (pc := 442) F (M_L_low l D cy N (r63 >>> (13 &&& 31)) 64 r73 g74) (va_cwS 2 F.ts gL_build_L_low rfl rfl rfl hd_L_low ⟨Nat.le_of_ble_eq_true rfl, Nat.le_of_ble_eq_true rfl⟩) rfl dL_build_442 Fit.nil rfl (Nat.le_of_ble_eq_true rfl) (Nat.zero_le _) (Nat.zero_le _) rfl rfl rfl ?_
            refine V_iand (pc := 445) F dL_build_445 ?_
            refine V_istore (L2 := [(12, .int (r71 &&& r73)), (11, .int (((z7 + 1) + r65) - ((z7 + 1) + r65) / z5 * z5)), (10, .int r63), (0, .ref (a 0)), (1, .ref sb), (2, .int z2), (3, .int z3), (5, .int z5), (6, .int z6), (7, .int z7), (8, .int z8), (9, .int z9)]) (pc := 446) F dL_build_446 (by decide) rfl ?_
            refine V_aload_n (pc := 448) F dL_build_448 rfl 3 rfl ?_
            refine V_iload (pc := 449) F dL_build_449 9 rfl ?_
            refine V_iload (pc := 451) F dL_build_451 1 rfl ?_
            refine V_iload (pc := 453) F dL_build_453 0 rfl ?_
            obtain ⟨r75, g76, hf⟩ := bind_of hf
            refine V_V (w2 := wX7 cy a r75.2) (rest := []) (st2 := [.int r75.1]) (pc := 455) F 7 (M_X7_addRule l D cy N a v z7 (((z7 + 1) + r65) - ((z7 + 1) + r65) / z5 * z5) (r71 &&& r73) r75 (rt_of g76)) (cwV 3 F.ts gL_build_X7_addRule rfl rfl rfl hd_X7_addRule ⟨Nat.le_of_ble_eq_true rfl, Nat.le_of_ble_eq_true rfl⟩) rfl dL_build_455 Fit.whole fstX7 rfl rfl (Nat.le_of_ble_eq_true rfl) (Nat.zero_le _) (Nat.zero_le _) rfl rfl rfl ?_
            refine V_iload (pc := 458) F dL_build_458 11 rfl ?_
            refine V_iconst (v := 1) (pc := 460) F dL_build_460 (by decide) ?_
            refine V_iadd (pc := 461) F dL_build_461 ?_
            refine V_icmp_ne (pc := 462) (tgt := 497) F dL_build_462 (by decide) (fun h77 => ?_) (fun h77 => ?_)
            · replace hf := ite_neg hf h77
              refine V_iconst (v := 0) (pc := 497) F dL_build_497 (by decide) ?_
              refine V_istore (L2 := [(6, .int 0), (12, .int (r71 &&& r73)), (11, .int (((z7 + 1) + r65) - ((z7 + 1) + r65) / z5 * z5)), (10, .int r63), (0, .ref (a 0)), (1, .ref sb), (2, .int z2), (3, .int z3), (5, .int z5), (7, .int z7), (8, .int z8), (9, .int z9)]) (pc := 498) F dL_build_498 (by decide) rfl ?_
              refine V_iinc (v := (z9 + 1)) (L2 := [(9, .int (z9 + 1)), (6, .int 0), (12, .int (r71 &&& r73)), (11, .int (((z7 + 1) + r65) - ((z7 + 1) + r65) / z5 * z5)), (10, .int r63), (0, .ref (a 0)), (1, .ref sb), (2, .int z2), (3, .int z3), (5, .int z5), (7, .int z7), (8, .int z8)]) (pc := 500) F dL_build_500 11 rfl rfl (by decide) rfl ?_
              refine V_goto (pc := 503) (tgt := 361) F dL_build_503 (by decide) ?_
              refine V.sub [5, 6, 7, 8, 9, 1, 10, 11, 0] rfl ?_
              exact ih z2 z3 z5 z7 z8 r75.2 0 (z9 + 1) _ hf hk
            · replace hf := ite_pos hf h77
              refine V_aload_n (pc := 465) F dL_build_465 rfl 3 rfl ?_
              refine V_iload (pc := 466) F dL_build_466 9 rfl ?_
              refine V_iload (pc := 468) F dL_build_468 11 rfl ?_
              refine V_iconst (v := 0) (pc := 470) F dL_build_470 (by decide) ?_
              obtain ⟨r78, g79, hf⟩ := bind_of hf
              refine V_V (w2 := wX7 cy a r75.2) (rest := []) (st2 := [.int r78]) (pc := 471) F 7 (M_X7_rule l D cy N a r75.2 z7 z9 0 r78 (rt_of g79)) (cwV 3 F.ts gL_build_X7_rule rfl rfl rfl hd_X7_rule ⟨Nat.le_of_ble_eq_true rfl, Nat.le_of_ble_eq_true rfl⟩) rfl dL_build_471 Fit.whole rfl rfl rfl (Nat.le_of_ble_eq_true rfl) (Nat.zero_le _) (Nat.zero_le _) rfl rfl rfl ?_
              refine V_iload (pc := 474) F dL_build_474 1 rfl ?_
              refine V_icmp_ne (pc := 476) (tgt := 497) F dL_build_476 (by decide) (fun h80 => ?_) (fun h80 => ?_)
              · replace hf := ite_neg hf h80
                refine V_iconst (v := 0) (pc := 497) F dL_build_497 (by decide) ?_
                refine V_istore (L2 := [(6, .int 0), (12, .int (r71 &&& r73)), (11, .int (((z7 + 1) + r65) - ((z7 + 1) + r65) / z5 * z5)), (10, .int r63), (0, .ref (a 0)), (1, .ref sb), (2, .int z2), (3, .int z3), (5, .int z5), (7, .int z7), (8, .int z8), (9, .int z9)]) (pc := 498) F dL_build_498 (by decide) rfl ?_
                refine V_iinc (v := (z9 + 1)) (L2 := [(9, .int (z9 + 1)), (6, .int 0), (12, .int (r71 &&& r73)), (11, .int (((z7 + 1) + r65) - ((z7 + 1) + r65) / z5 * z5)), (10, .int r63), (0, .ref (a 0)), (1, .ref sb), (2, .int z2), (3, .int z3), (5, .int z5), (7, .int z7), (8, .int z8)]) (pc := 500) F dL_build_500 11 rfl rfl (by decide) rfl ?_
                refine V_goto (pc := 503) (tgt := 361) F dL_build_503 (by decide) ?_
                refine V.sub [5, 6, 7, 8, 9, 1, 10, 11, 0] rfl ?_
                exact ih z2 z3 z5 z7 z8 r75.2 0 (z9 + 1) _ hf hk
              · replace hf := ite_pos hf h80
                refine V_aload_n (pc := 479) F dL_build_479 rfl 3 rfl ?_
                refine V_iload (pc := 480) F dL_build_480 9 rfl ?_
                refine V_iload (pc := 482) F dL_build_482 11 rfl ?_
                refine V_iconst (v := 1) (pc := 484) F dL_build_484 (by decide) ?_
                obtain ⟨r81, g82, hf⟩ := bind_of hf
                refine V_V (w2 := wX7 cy a r75.2) (rest := []) (st2 := [.int r81]) (pc := 485) F 7 (M_X7_rule l D cy N a r75.2 z7 z9 1 r81 (rt_of g82)) (cwV 3 F.ts gL_build_X7_rule rfl rfl rfl hd_X7_rule ⟨Nat.le_of_ble_eq_true rfl, Nat.le_of_ble_eq_true rfl⟩) rfl dL_build_485 Fit.whole rfl rfl rfl (Nat.le_of_ble_eq_true rfl) (Nat.zero_le _) (Nat.zero_le _) rfl rfl rfl ?_
                refine V_iload (pc := 488) F dL_build_488 0 rfl ?_
                refine V_icmp_ne (pc := 490) (tgt := 497) F dL_build_490 (by decide) (fun h83 => ?_) (fun h83 => ?_)
                · replace hf := ite_neg hf h83
                  refine V_iconst (v := 0) (pc := 497) F dL_build_497 (by decide) ?_
                  refine V_istore (L2 := [(6, .int 0), (12, .int (r71 &&& r73)), (11, .int (((z7 + 1) + r65) - ((z7 + 1) + r65) / z5 * z5)), (10, .int r63), (0, .ref (a 0)), (1, .ref sb), (2, .int z2), (3, .int z3), (5, .int z5), (7, .int z7), (8, .int z8), (9, .int z9)]) (pc := 498) F dL_build_498 (by decide) rfl ?_
                  refine V_iinc (v := (z9 + 1)) (L2 := [(9, .int (z9 + 1)), (6, .int 0), (12, .int (r71 &&& r73)), (11, .int (((z7 + 1) + r65) - ((z7 + 1) + r65) / z5 * z5)), (10, .int r63), (0, .ref (a 0)), (1, .ref sb), (2, .int z2), (3, .int z3), (5, .int z5), (7, .int z7), (8, .int z8)]) (pc := 500) F dL_build_500 11 rfl rfl (by decide) rfl ?_
                  refine V_goto (pc := 503) (tgt := 361) F dL_build_503 (by decide) ?_
                  refine V.sub [5, 6, 7, 8, 9, 1, 10, 11, 0] rfl ?_
                  exact ih z2 z3 z5 z7 z8 r75.2 0 (z9 + 1) _ hf hk
                · replace hf := ite_pos hf h83
                  refine V_iconst (v := 1) (pc := 493) F dL_build_493 (by decide) ?_
                  refine V_goto (pc := 494) (tgt := 498) F dL_build_494 (by decide) ?_
                  refine V_istore (L2 := [(6, .int 1), (12, .int (r71 &&& r73)), (11, .int (((z7 + 1) + r65) - ((z7 + 1) + r65) / z5 * z5)), (10, .int r63), (0, .ref (a 0)), (1, .ref sb), (2, .int z2), (3, .int z3), (5, .int z5), (7, .int z7), (8, .int z8), (9, .int z9)]) (pc := 498) F dL_build_498 (by decide) rfl ?_
                  refine V_iinc (v := (z9 + 1)) (L2 := [(9, .int (z9 + 1)), (6, .int 1), (12, .int (r71 &&& r73)), (11, .int (((z7 + 1) + r65) - ((z7 + 1) + r65) / z5 * z5)), (10, .int r63), (0, .ref (a 0)), (1, .ref sb), (2, .int z2), (3, .int z3), (5, .int z5), (7, .int z7), (8, .int z8)]) (pc := 500) F dL_build_500 11 rfl rfl (by decide) rfl ?_
                  refine V_goto (pc := 503) (tgt := 361) F dL_build_503 (by decide) ?_
                  refine V.sub [5, 6, 7, 8, 9, 1, 10, 11, 0] rfl ?_
                  exact ih z2 z3 z5 z7 z8 r75.2 1 (z9 + 1) _ hf hk
          · replace hf := ite_pos hf h70
            refine V_iconst (v := 0) (pc := 421) F dL_build_421 (by decide) ?_
            refine V_goto (pc := 422) (tgt := 446) F dL_build_422 (by decide) ?_
            refine V_istore (L2 := [(12, .int 0), (11, .int (((z7 + 1) + r65) - ((z7 + 1) + r65) / z5 * z5)), (10, .int r63), (0, .ref (a 0)), (1, .ref sb), (2, .int z2), (3, .int z3), (5, .int z5), (6, .int z6), (7, .int z7), (8, .int z8), (9, .int z9)]) (pc := 446) F dL_build_446 (by decide) rfl ?_
            refine V_aload_n (pc := 448) F dL_build_448 rfl 3 rfl ?_
            refine V_iload (pc := 449) F dL_build_449 9 rfl ?_
            refine V_iload (pc := 451) F dL_build_451 1 rfl ?_
            refine V_iload (pc := 453) F dL_build_453 0 rfl ?_
            obtain ⟨r84, g85, hf⟩ := bind_of hf
            refine V_V (w2 := wX7 cy a r84.2) (rest := []) (st2 := [.int r84.1]) (pc := 455) F 7 (M_X7_addRule l D cy N a v z7 (((z7 + 1) + r65) - ((z7 + 1) + r65) / z5 * z5) 0 r84 (rt_of g85)) (cwV 3 F.ts gL_build_X7_addRule rfl rfl rfl hd_X7_addRule ⟨Nat.le_of_ble_eq_true rfl, Nat.le_of_ble_eq_true rfl⟩) rfl dL_build_455 Fit.whole fstX7 rfl rfl (Nat.le_of_ble_eq_true rfl) (Nat.zero_le _) (Nat.zero_le _) rfl rfl rfl ?_
            refine V_iload (pc := 458) F dL_build_458 11 rfl ?_
            refine V_iconst (v := 1) (pc := 460) F dL_build_460 (by decide) ?_
            refine V_iadd (pc := 461) F dL_build_461 ?_
            refine V_icmp_ne (pc := 462) (tgt := 497) F dL_build_462 (by decide) (fun h86 => ?_) (fun h86 => ?_)
            · replace hf := ite_neg hf h86
              refine V_iconst (v := 0) (pc := 497) F dL_build_497 (by decide) ?_
              refine V_istore (L2 := [(6, .int 0), (12, .int 0), (11, .int (((z7 + 1) + r65) - ((z7 + 1) + r65) / z5 * z5)), (10, .int r63), (0, .ref (a 0)), (1, .ref sb), (2, .int z2), (3, .int z3), (5, .int z5), (7, .int z7), (8, .int z8), (9, .int z9)]) (pc := 498) F dL_build_498 (by decide) rfl ?_
              refine V_iinc (v := (z9 + 1)) (L2 := [(9, .int (z9 + 1)), (6, .int 0), (12, .int 0), (11, .int (((z7 + 1) + r65) - ((z7 + 1) + r65) / z5 * z5)), (10, .int r63), (0, .ref (a 0)), (1, .ref sb), (2, .int z2), (3, .int z3), (5, .int z5), (7, .int z7), (8, .int z8)]) (pc := 500) F dL_build_500 11 rfl rfl (by decide) rfl ?_
              refine V_goto (pc := 503) (tgt := 361) F dL_build_503 (by decide) ?_
              refine V.sub [5, 6, 7, 8, 9, 1, 10, 11, 0] rfl ?_
              exact ih z2 z3 z5 z7 z8 r84.2 0 (z9 + 1) _ hf hk
            · replace hf := ite_pos hf h86
              refine V_aload_n (pc := 465) F dL_build_465 rfl 3 rfl ?_
              refine V_iload (pc := 466) F dL_build_466 9 rfl ?_
              refine V_iload (pc := 468) F dL_build_468 11 rfl ?_
              refine V_iconst (v := 0) (pc := 470) F dL_build_470 (by decide) ?_
              obtain ⟨r87, g88, hf⟩ := bind_of hf
              refine V_V (w2 := wX7 cy a r84.2) (rest := []) (st2 := [.int r87]) (pc := 471) F 7 (M_X7_rule l D cy N a r84.2 z7 z9 0 r87 (rt_of g88)) (cwV 3 F.ts gL_build_X7_rule rfl rfl rfl hd_X7_rule ⟨Nat.le_of_ble_eq_true rfl, Nat.le_of_ble_eq_true rfl⟩) rfl dL_build_471 Fit.whole rfl rfl rfl (Nat.le_of_ble_eq_true rfl) (Nat.zero_le _) (Nat.zero_le _) rfl rfl rfl ?_
              refine V_iload (pc := 474) F dL_build_474 1 rfl ?_
              refine V_icmp_ne (pc := 476) (tgt := 497) F dL_build_476 (by decide) (fun h89 => ?_) (fun h89 => ?_)
              · replace hf := ite_neg hf h89
                refine V_iconst (v := 0) (pc := 497) F dL_build_497 (by decide) ?_
                refine V_istore (L2 := [(6, .int 0), (12, .int 0), (11, .int (((z7 + 1) + r65) - ((z7 + 1) + r65) / z5 * z5)), (10, .int r63), (0, .ref (a 0)), (1, .ref sb), (2, .int z2), (3, .int z3), (5, .int z5), (7, .int z7), (8, .int z8), (9, .int z9)]) (pc := 498) F dL_build_498 (by decide) rfl ?_
                refine V_iinc (v := (z9 + 1)) (L2 := [(9, .int (z9 + 1)), (6, .int 0), (12, .int 0), (11, .int (((z7 + 1) + r65) - ((z7 + 1) + r65) / z5 * z5)), (10, .int r63), (0, .ref (a 0)), (1, .ref sb), (2, .int z2), (3, .int z3), (5, .int z5), (7, .int z7), (8, .int z8)]) (pc := 500) F dL_build_500 11 rfl rfl (by decide) rfl ?_
                refine V_goto (pc := 503) (tgt := 361) F dL_build_503 (by decide) ?_
                refine V.sub [5, 6, 7, 8, 9, 1, 10, 11, 0] rfl ?_
                exact ih z2 z3 z5 z7 z8 r84.2 0 (z9 + 1) _ hf hk
              · replace hf := ite_pos hf h89
                refine V_aload_n (pc := 479) F dL_build_479 rfl 3 rfl ?_
                refine V_iload (pc := 480) F dL_build_480 9 rfl ?_
                refine V_iload (pc := 482) F dL_build_482 11 rfl ?_
                refine V_iconst (v := 1) (pc := 484) F dL_build_484 (by decide) ?_
                obtain ⟨r90, g91, hf⟩ := bind_of hf
                refine V_V (w2 := wX7 cy a r84.2) (rest := []) (st2 := [.int r90]) (pc := 485) F 7 (M_X7_rule l D cy N a r84.2 z7 z9 1 r90 (rt_of g91)) (cwV 3 F.ts gL_build_X7_rule rfl rfl rfl hd_X7_rule ⟨Nat.le_of_ble_eq_true rfl, Nat.le_of_ble_eq_true rfl⟩) rfl dL_build_485 Fit.whole rfl rfl rfl (Nat.le_of_ble_eq_true rfl) (Nat.zero_le _) (Nat.zero_le _) rfl rfl rfl ?_
                refine V_iload (pc := 488) F dL_build_488 0 rfl ?_
                refine V_icmp_ne (pc := 490) (tgt := 497) F dL_build_490 (by decide) (fun h92 => ?_) (fun h92 => ?_)
                · replace hf := ite_neg hf h92
                  refine V_iconst (v := 0) (pc := 497) F dL_build_497 (by decide) ?_
                  refine V_istore (L2 := [(6, .int 0), (12, .int 0), (11, .int (((z7 + 1) + r65) - ((z7 + 1) + r65) / z5 * z5)), (10, .int r63), (0, .ref (a 0)), (1, .ref sb), (2, .int z2), (3, .int z3), (5, .int z5), (7, .int z7), (8, .int z8), (9, .int z9)]) (pc := 498) F dL_build_498 (by decide) rfl ?_
                  refine V_iinc (v := (z9 + 1)) (L2 := [(9, .int (z9 + 1)), (6, .int 0), (12, .int 0), (11, .int (((z7 + 1) + r65) - ((z7 + 1) + r65) / z5 * z5)), (10, .int r63), (0, .ref (a 0)), (1, .ref sb), (2, .int z2), (3, .int z3), (5, .int z5), (7, .int z7), (8, .int z8)]) (pc := 500) F dL_build_500 11 rfl rfl (by decide) rfl ?_
                  refine V_goto (pc := 503) (tgt := 361) F dL_build_503 (by decide) ?_
                  refine V.sub [5, 6, 7, 8, 9, 1, 10, 11, 0] rfl ?_
                  exact ih z2 z3 z5 z7 z8 r84.2 0 (z9 + 1) _ hf hk
                · replace hf := ite_pos hf h92
                  refine V_iconst (v := 1) (pc := 493) F dL_build_493 (by decide) ?_
                  refine V_goto (pc := 494) (tgt := 498) F dL_build_494 (by decide) ?_
                  refine V_istore (L2 := [(6, .int 1), (12, .int 0), (11, .int (((z7 + 1) + r65) - ((z7 + 1) + r65) / z5 * z5)), (10, .int r63), (0, .ref (a 0)), (1, .ref sb), (2, .int z2), (3, .int z3), (5, .int z5), (7, .int z7), (8, .int z8), (9, .int z9)]) (pc := 498) F dL_build_498 (by decide) rfl ?_
                  refine V_iinc (v := (z9 + 1)) (L2 := [(9, .int (z9 + 1)), (6, .int 1), (12, .int 0), (11, .int (((z7 + 1) + r65) - ((z7 + 1) + r65) / z5 * z5)), (10, .int r63), (0, .ref (a 0)), (1, .ref sb), (2, .int z2), (3, .int z3), (5, .int z5), (7, .int z7), (8, .int z8)]) (pc := 500) F dL_build_500 11 rfl rfl (by decide) rfl ?_
                  refine V_goto (pc := 503) (tgt := 361) F dL_build_503 (by decide) ?_
                  refine V.sub [5, 6, 7, 8, 9, 1, 10, 11, 0] rfl ?_
                  exact ih z2 z3 z5 z7 z8 r84.2 1 (z9 + 1) _ hf hk
  have K321 : ∀ (n : Nat) (z2 : Int32) (z3 : Int32) (z5 : Int32) (v : SX7) (z6 : Int32) (z7 : Int32) (u : SX7 × Int32), fL_build_L321 N sn sx z2 z3 z5 n v z6 z7 = some u → V p l e (rmz 6 140) s m args below meth c 13 D A 0 0 (MQ below (ok_Q D (wX7 cy a o.2) (some (.int o.1)) A) args s 0 0 A) (wX7 cy a u.1) [(0, .ref (a 0)), (5, .int z5), (6, .int u.2)] [] 512 → V p l e (rmz 6 140) s m args below meth c 13 D A 0 0 (MQ below (ok_Q D (wX7 cy a o.2) (some (.int o.1)) A) args s 0 0 A) (wX7 cy a v) [(0, .ref (a 0)), (1, .ref sb), (2, .int z2), (3, .int z3), (5, .int z5), (6, .int z6), (7, .int z7)] [] 321 := by
    intro n
    induction n with
    | zero =>
      intro z2 z3 z5 v z6 z7 u hf hk
      exact nomatch (show (none : Option (SX7 × Int32)) = some u from hf)
    | succ n ih =>
      intro z2 z3 z5 v z6 z7 u hf hk
      rw [fL_build_L321] at hf
      refine V_iload (pc := 321) F dL_build_321 6 rfl ?_
      refine V_iload (pc := 323) F dL_build_323 4 rfl ?_
      refine V_icmp_ge (pc := 325) (tgt := 512) F dL_build_325 (by decide) (fun h54 => ?_) (fun h54 => ?_)
      · replace hf := ite_pos hf h54
        obtain rfl := some_of hf
        exact V.sub [0, 4, 5] rfl hk
      · replace hf := ite_neg hf h54
        refine V_iload (pc := 328) F dL_build_328 4 rfl ?_
        refine V_iconst (v := 1) (pc := 330) F dL_build_330 (by decide) ?_
        refine V_icmp_le (pc := 331) (tgt := 512) F dL_build_331 (by decide) (fun h55 => ?_) (fun h55 => ?_)
        · replace hf := ite_pos hf h55
          obtain rfl := some_of hf
          exact V.sub [0, 4, 5] rfl hk
        · replace hf := ite_neg hf h55
          refine V_iload (pc := 334) F dL_build_334 5 rfl ?_
          refine V_if_eq (pc := 336) (tgt := 512) F dL_build_336 (by decide) (fun h56 => ?_) (fun h56 => ?_)
          · replace hf := ite_pos hf h56
            obtain rfl := some_of hf
            exact V.sub [0, 4, 5] rfl hk
          · replace hf := ite_neg hf h56
            refine V_aload_n (pc := 339) F dL_build_339 rfl 1 rfl ?_
            refine V_iload_n (pc := 340) F dL_build_340 rfl 2 rfl ?_
            refine V_bipush (v := 9) (pc := 341) F dL_build_341 (by decide) ?_
            refine V_iadd (pc := 343) F dL_build_343 ?_
            refine V_iload (pc := 344) F dL_build_344 6 rfl ?_
            refine V_iadd (pc := 346) F dL_build_346 ?_
            obtain ⟨r57, g58, hf⟩ := bind_of hf
            refine V_SS (w2 := wX7 cy a v) (rest := []) (st2 := [.int r57]) (pc := 347) F G (M_L_cell l D cy N sb sn sx ((z2 + 9) + z7) r57 g58) (va_cwS 2 F.ts gL_build_L_cell rfl rfl rfl hd_L_cell ⟨Nat.le_of_ble_eq_true rfl, Nat.le_of_ble_eq_true rfl⟩) rfl dL_build_347 Fit.nil rfl (Nat.le_of_ble_eq_true rfl) (Nat.zero_le _) (Nat.zero_le _) rfl rfl rfl ?_
            refine V_iload_n (pc := 350) F dL_build_350 rfl 3 rfl ?_
            refine V_iconst (v := 1) (pc := 351) F dL_build_351 (by decide) ?_
            refine V_iadd (pc := 352) F dL_build_352 ?_
            obtain ⟨r59, g60, hf⟩ := bind_of hf
            refine V_SM (w2 := wX7 cy a v) (rest := []) (st2 := [.int r59]) (pc := 353) F (M_L_low l D cy N r57 (z3 + 1) r59 g60) (va_cwS 2 F.ts gL_build_L_low rfl rfl rfl hd_L_low ⟨Nat.le_of_ble_eq_true rfl, Nat.le_of_ble_eq_true rfl⟩) rfl dL_build_353 Fit.nil rfl (Nat.le_of_ble_eq_true rfl) (Nat.zero_le _) (Nat.zero_le _) rfl rfl rfl ?_
            refine V_istore (L2 := [(8, .int r59), (0, .ref (a 0)), (1, .ref sb), (2, .int z2), (3, .int z3), (5, .int z5), (6, .int z6), (7, .int z7)]) (pc := 356) F dL_build_356 (by decide) rfl ?_
            refine V_iconst (v := 0) (pc := 358) F dL_build_358 (by decide) ?_
            refine V_istore (L2 := [(9, .int 0), (8, .int r59), (0, .ref (a 0)), (1, .ref sb), (2, .int z2), (3, .int z3), (5, .int z5), (6, .int z6), (7, .int z7)]) (pc := 359) F dL_build_359 (by decide) rfl ?_
            refine V.sub [2, 3, 4, 5, 6, 7, 8, 1, 0] rfl ?_
            obtain ⟨u93, g94, hf⟩ := bind_of hf
            refine K361 N z2 z3 z5 z7 r59 v z6 0 u93 g94 ?_
            refine V_iinc (v := (z7 + 1)) (L2 := [(7, .int (z7 + 1)), (0, .ref (a 0)), (1, .ref sb), (2, .int z2), (3, .int z3), (5, .int z5), (6, .int u93.2)]) (pc := 506) F dL_build_506 6 rfl rfl (by decide) rfl ?_
            refine V_goto (pc := 509) (tgt := 321) F dL_build_509 (by decide) ?_
            refine V.sub [1, 2, 3, 4, 5, 6, 0] rfl ?_
            exact ih z2 z3 z5 u93.1 u93.2 (z7 + 1) _ hf hk
  unfold fL_build at hf
  refine V.eq rfl (show lv_args 0 [.ref (a 0), .ref sb, .int x2, .int x3] = [(0, .ref (a 0)), (1, .ref sb), (2, .int x2), (3, .int x3)] from rfl) rfl ?_
  refine V_aload_n (pc := 0) F dL_build_0 rfl 1 rfl ?_
  refine V_iload_n (pc := 1) F dL_build_1 rfl 2 rfl ?_
  obtain ⟨r1, g2, hf⟩ := bind_of hf
  refine V_SS (w2 := wX7 cy a v) (rest := []) (st2 := [.int r1]) (pc := 2) F G (M_L_cell l D cy N sb sn sx x2 r1 g2) (va_cwS 2 F.ts gL_build_L_cell rfl rfl rfl hd_L_cell ⟨Nat.le_of_ble_eq_true rfl, Nat.le_of_ble_eq_true rfl⟩) rfl dL_build_2 Fit.nil rfl (Nat.le_of_ble_eq_true rfl) (Nat.zero_le _) (Nat.zero_le _) rfl rfl rfl ?_
  refine V_istore (L2 := [(4, .int r1), (0, .ref (a 0)), (1, .ref sb), (2, .int x2), (3, .int x3)]) (pc := 5) F dL_build_5 (by decide) rfl ?_
  refine V_iconst (v := 1) (pc := 7) F dL_build_7 (by decide) ?_
  refine V_iload (pc := 8) F dL_build_8 0 rfl ?_
  refine V_bipush (v := 8) (pc := 10) F dL_build_10 (by decide) ?_
  obtain ⟨r3, g4, hf⟩ := bind_of hf
  refine V_SM (w2 := wX7 cy a v) (rest := [.int 1]) (st2 := [.int r3, .int 1]) (pc := 12) F (M_L_low l D cy N r1 8 r3 g4) (va_cwS 2 F.ts gL_build_L_low rfl rfl rfl hd_L_low ⟨Nat.le_of_ble_eq_true rfl, Nat.le_of_ble_eq_true rfl⟩) rfl dL_build_12 Fit.nil rfl (Nat.le_of_ble_eq_true rfl) (Nat.zero_le _) (Nat.zero_le _) rfl rfl rfl ?_
  refine V_iadd (pc := 15) F dL_build_15 ?_
  refine V_istore (L2 := [(5, .int ((1 : Int32) + r3)), (4, .int r1), (0, .ref (a 0)), (1, .ref sb), (2, .int x2), (3, .int x3)]) (pc := 16) F dL_build_16 (by decide) rfl ?_
  refine V_aload_n (pc := 18) F dL_build_18 rfl 2 rfl ?_
  refine V_iload (pc := 19) F dL_build_19 1 rfl ?_
  refine V_iconst (v := 3) (pc := 21) F dL_build_21 (by decide) ?_
  refine V_ishr (pc := 22) F dL_build_22 ?_
  refine V_bipush (v := 6) (pc := 23) F dL_build_23 (by decide) ?_
  obtain ⟨r5, g6, hf⟩ := bind_of hf
  refine V_SM (w2 := wX7 cy a v) (rest := [.ref (a 0)]) (st2 := [.int r5, .ref (a 0)]) (pc := 25) F (M_L_low l D cy N (r1 >>> (3 &&& 31)) 6 r5 g6) (va_cwS 2 F.ts gL_build_L_low rfl rfl rfl hd_L_low ⟨Nat.le_of_ble_eq_true rfl, Nat.le_of_ble_eq_true rfl⟩) rfl dL_build_25 Fit.nil rfl (Nat.le_of_ble_eq_true rfl) (Nat.zero_le _) (Nat.zero_le _) rfl rfl rfl ?_
  obtain ⟨r7, g8, hf⟩ := bind_of hf
  refine V_V (w2 := wX7 cy a r7.2) (rest := []) (st2 := [.int r7.1]) (pc := 28) F 7 (M_X7_set l D cy N a v r5 r7 (rt_of g8)) (cwV 1 F.ts gL_build_X7_set rfl rfl rfl hd_X7_set ⟨Nat.le_of_ble_eq_true rfl, Nat.le_of_ble_eq_true rfl⟩) rfl dL_build_28 Fit.whole fstX7 rfl rfl (Nat.le_of_ble_eq_true rfl) (Nat.zero_le _) (Nat.zero_le _) rfl rfl rfl ?_
  refine V_iconst (v := 2) (pc := 31) F dL_build_31 (by decide) ?_
  refine V_icmp_ne (pc := 32) (tgt := 64) F dL_build_32 (by decide) (fun h9 => ?_) (fun h9 => ?_)
  · replace hf := ite_neg hf h9
    refine V_iconst (v := 0) (pc := 64) F dL_build_64 (by decide) ?_
    refine V_istore (L2 := [(6, .int 0), (5, .int ((1 : Int32) + r3)), (4, .int r1), (0, .ref (a 0)), (1, .ref sb), (2, .int x2), (3, .int x3)]) (pc := 65) F dL_build_65 (by decide) rfl ?_
    refine V_iconst (v := 0) (pc := 67) F dL_build_67 (by decide) ?_
    refine V_istore (L2 := [(7, .int 0), (6, .int 0), (5, .int ((1 : Int32) + r3)), (4, .int r1), (0, .ref (a 0)), (1, .ref sb), (2, .int x2), (3, .int x3)]) (pc := 68) F dL_build_68 (by decide) rfl ?_
    refine V.sub [4, 5, 6, 7, 3, 2, 1, 0] rfl ?_
    obtain ⟨u24, g25, hf⟩ := bind_of hf
    refine K70 N x2 x3 r1 ((1 : Int32) + r3) r7.2 0 0 u24 g25 ?_
    refine V_iconst (v := 0) (pc := 181) F dL_build_181 (by decide) ?_
    refine V_istore (L2 := [(7, .int 0), (0, .ref (a 0)), (1, .ref sb), (2, .int x2), (3, .int x3), (5, .int ((1 : Int32) + r3)), (6, .int u24.2)]) (pc := 182) F dL_build_182 (by decide) rfl ?_
    refine V.sub [1, 2, 3, 4, 5, 6, 0] rfl ?_
    obtain ⟨u52, g53, hf⟩ := bind_of hf
    refine K184 N x2 x3 ((1 : Int32) + r3) u24.1 u24.2 0 u52 g53 ?_
    refine V_iconst (v := 0) (pc := 318) F dL_build_318 (by decide) ?_
    refine V_istore (L2 := [(7, .int 0), (0, .ref (a 0)), (1, .ref sb), (2, .int x2), (3, .int x3), (5, .int ((1 : Int32) + r3)), (6, .int u52.2)]) (pc := 319) F dL_build_319 (by decide) rfl ?_
    refine V.sub [1, 2, 3, 4, 5, 6, 0] rfl ?_
    obtain ⟨u95, g96, hf⟩ := bind_of hf
    refine K321 N x2 x3 ((1 : Int32) + r3) u52.1 u52.2 0 u95 g96 ?_
    refine V_iload (pc := 512) F dL_build_512 2 rfl ?_
    refine V_if_eq (pc := 514) (tgt := 539) F dL_build_514 (by decide) (fun h97 => ?_) (fun h97 => ?_)
    · replace hf := ite_pos hf h97
      refine V_iconst (v := 0) (pc := 539) F dL_build_539 (by decide) ?_
      obtain rfl := some_of hf
      exact V_ret F rfl rfl dL_build_540 rfl rfl
    · replace hf := ite_neg hf h97
      refine V_aload_n (pc := 517) F dL_build_517 rfl 0 rfl ?_
      refine V_iconst (v := 0) (pc := 518) F dL_build_518 (by decide) ?_
      obtain ⟨r98, g99, hf⟩ := bind_of hf
      refine V_V (w2 := wX7 cy a r98.2) (rest := []) (st2 := [.int r98.1]) (pc := 519) F 7 (M_X7_count l D cy N a u95.1 0 r98 (rt_of g99)) (cwV 1 F.ts gL_build_X7_count rfl rfl rfl hd_X7_count ⟨Nat.le_of_ble_eq_true rfl, Nat.le_of_ble_eq_true rfl⟩) rfl dL_build_519 Fit.whole fstX7 rfl rfl (Nat.le_of_ble_eq_true rfl) (Nat.zero_le _) (Nat.zero_le _) rfl rfl rfl ?_
      refine V_iload (pc := 522) F dL_build_522 1 rfl ?_
      refine V_icmp_ne (pc := 524) (tgt := 539) F dL_build_524 (by decide) (fun h100 => ?_) (fun h100 => ?_)
      · replace hf := ite_neg hf h100
        refine V_iconst (v := 0) (pc := 539) F dL_build_539 (by decide) ?_
        obtain rfl := some_of hf
        exact V_ret F rfl rfl dL_build_540 rfl rfl
      · replace hf := ite_pos hf h100
        refine V_aload_n (pc := 527) F dL_build_527 rfl 0 rfl ?_
        refine V_iconst (v := 1) (pc := 528) F dL_build_528 (by decide) ?_
        obtain ⟨r101, g102, hf⟩ := bind_of hf
        refine V_V (w2 := wX7 cy a r101.2) (rest := []) (st2 := [.int r101.1]) (pc := 529) F 7 (M_X7_count l D cy N a r98.2 1 r101 (rt_of g102)) (cwV 1 F.ts gL_build_X7_count rfl rfl rfl hd_X7_count ⟨Nat.le_of_ble_eq_true rfl, Nat.le_of_ble_eq_true rfl⟩) rfl dL_build_529 Fit.whole fstX7 rfl rfl (Nat.le_of_ble_eq_true rfl) (Nat.zero_le _) (Nat.zero_le _) rfl rfl rfl ?_
        refine V_if_ne (pc := 532) (tgt := 539) F dL_build_532 (by decide) (fun h103 => ?_) (fun h103 => ?_)
        · replace hf := ite_neg hf h103
          refine V_iconst (v := 0) (pc := 539) F dL_build_539 (by decide) ?_
          obtain rfl := some_of hf
          exact V_ret F rfl rfl dL_build_540 rfl rfl
        · replace hf := ite_pos hf h103
          refine V_iconst (v := 1) (pc := 535) F dL_build_535 (by decide) ?_
          refine V_goto (pc := 536) (tgt := 540) F dL_build_536 (by decide) ?_
          obtain rfl := some_of hf
          exact V_ret F rfl rfl dL_build_540 rfl rfl
  · replace hf := ite_pos hf h9
    refine V_aload_n (pc := 35) F dL_build_35 rfl 2 rfl ?_
    refine V_iload (pc := 36) F dL_build_36 1 rfl ?_
    refine V_bipush (v := 6) (pc := 38) F dL_build_38 (by decide) ?_
    refine V_ishr (pc := 40) F dL_build_40 ?_
    refine V_iconst (v := 4) (pc := 41) F dL_build_41 (by decide) ?_
    obtain ⟨r104, g105, hf⟩ := bind_of hf
    refine V_SM (w2 := wX7 cy a r7.2) (rest := [.ref (a 0)]) (st2 := [.int r104, .ref (a 0)]) (pc := 42) F (M_L_low l D cy N (r1 >>> (6 &&& 31)) 4 r104 g105) (va_cwS 2 F.ts gL_build_L_low rfl rfl rfl hd_L_low ⟨Nat.le_of_ble_eq_true rfl, Nat.le_of_ble_eq_true rfl⟩) rfl dL_build_42 Fit.nil rfl (Nat.le_of_ble_eq_true rfl) (Nat.zero_le _) (Nat.zero_le _) rfl rfl rfl ?_
    obtain ⟨r106, g107, hf⟩ := bind_of hf
    refine V_V (w2 := wX7 cy a r106.2) (rest := []) (st2 := [.int r106.1]) (pc := 45) F 7 (M_X7_set l D cy N a r7.2 r104 r106 (rt_of g107)) (cwV 1 F.ts gL_build_X7_set rfl rfl rfl hd_X7_set ⟨Nat.le_of_ble_eq_true rfl, Nat.le_of_ble_eq_true rfl⟩) rfl dL_build_45 Fit.whole fstX7 rfl rfl (Nat.le_of_ble_eq_true rfl) (Nat.zero_le _) (Nat.zero_le _) rfl rfl rfl ?_
    refine V_iload (pc := 48) F dL_build_48 1 rfl ?_
    refine V_iconst (v := 3) (pc := 50) F dL_build_50 (by decide) ?_
    refine V_ishr (pc := 51) F dL_build_51 ?_
    refine V_bipush (v := 6) (pc := 52) F dL_build_52 (by decide) ?_
    obtain ⟨r108, g109, hf⟩ := bind_of hf
    refine V_SM (w2 := wX7 cy a r106.2) (rest := [.int r106.1]) (st2 := [.int r108, .int r106.1]) (pc := 54) F (M_L_low l D cy N (r1 >>> (3 &&& 31)) 6 r108 g109) (va_cwS 2 F.ts gL_build_L_low rfl rfl rfl hd_L_low ⟨Nat.le_of_ble_eq_true rfl, Nat.le_of_ble_eq_true rfl⟩) rfl dL_build_54 Fit.nil rfl (Nat.le_of_ble_eq_true rfl) (Nat.zero_le _) (Nat.zero_le _) rfl rfl rfl ?_
    refine V_icmp_ne (pc := 57) (tgt := 64) F dL_build_57 (by decide) (fun h110 => ?_) (fun h110 => ?_)
    · replace hf := ite_neg hf h110
      refine V_iconst (v := 0) (pc := 64) F dL_build_64 (by decide) ?_
      refine V_istore (L2 := [(6, .int 0), (5, .int ((1 : Int32) + r3)), (4, .int r1), (0, .ref (a 0)), (1, .ref sb), (2, .int x2), (3, .int x3)]) (pc := 65) F dL_build_65 (by decide) rfl ?_
      refine V_iconst (v := 0) (pc := 67) F dL_build_67 (by decide) ?_
      refine V_istore (L2 := [(7, .int 0), (6, .int 0), (5, .int ((1 : Int32) + r3)), (4, .int r1), (0, .ref (a 0)), (1, .ref sb), (2, .int x2), (3, .int x3)]) (pc := 68) F dL_build_68 (by decide) rfl ?_
      refine V.sub [4, 5, 6, 7, 3, 2, 1, 0] rfl ?_
      obtain ⟨u111, g112, hf⟩ := bind_of hf
      refine K70 N x2 x3 r1 ((1 : Int32) + r3) r106.2 0 0 u111 g112 ?_
      refine V_iconst (v := 0) (pc := 181) F dL_build_181 (by decide) ?_
      refine V_istore (L2 := [(7, .int 0), (0, .ref (a 0)), (1, .ref sb), (2, .int x2), (3, .int x3), (5, .int ((1 : Int32) + r3)), (6, .int u111.2)]) (pc := 182) F dL_build_182 (by decide) rfl ?_
      refine V.sub [1, 2, 3, 4, 5, 6, 0] rfl ?_
      obtain ⟨u113, g114, hf⟩ := bind_of hf
      refine K184 N x2 x3 ((1 : Int32) + r3) u111.1 u111.2 0 u113 g114 ?_
      refine V_iconst (v := 0) (pc := 318) F dL_build_318 (by decide) ?_
      refine V_istore (L2 := [(7, .int 0), (0, .ref (a 0)), (1, .ref sb), (2, .int x2), (3, .int x3), (5, .int ((1 : Int32) + r3)), (6, .int u113.2)]) (pc := 319) F dL_build_319 (by decide) rfl ?_
      refine V.sub [1, 2, 3, 4, 5, 6, 0] rfl ?_
      obtain ⟨u115, g116, hf⟩ := bind_of hf
      refine K321 N x2 x3 ((1 : Int32) + r3) u113.1 u113.2 0 u115 g116 ?_
      refine V_iload (pc := 512) F dL_build_512 2 rfl ?_
      refine V_if_eq (pc := 514) (tgt := 539) F dL_build_514 (by decide) (fun h117 => ?_) (fun h117 => ?_)
      · replace hf := ite_pos hf h117
        refine V_iconst (v := 0) (pc := 539) F dL_build_539 (by decide) ?_
        obtain rfl := some_of hf
        exact V_ret F rfl rfl dL_build_540 rfl rfl
      · replace hf := ite_neg hf h117
        refine V_aload_n (pc := 517) F dL_build_517 rfl 0 rfl ?_
        refine V_iconst (v := 0) (pc := 518) F dL_build_518 (by decide) ?_
        obtain ⟨r118, g119, hf⟩ := bind_of hf
        refine V_V (w2 := wX7 cy a r118.2) (rest := []) (st2 := [.int r118.1]) (pc := 519) F 7 (M_X7_count l D cy N a u115.1 0 r118 (rt_of g119)) (cwV 1 F.ts gL_build_X7_count rfl rfl rfl hd_X7_count ⟨Nat.le_of_ble_eq_true rfl, Nat.le_of_ble_eq_true rfl⟩) rfl dL_build_519 Fit.whole fstX7 rfl rfl (Nat.le_of_ble_eq_true rfl) (Nat.zero_le _) (Nat.zero_le _) rfl rfl rfl ?_
        refine V_iload (pc := 522) F dL_build_522 1 rfl ?_
        refine V_icmp_ne (pc := 524) (tgt := 539) F dL_build_524 (by decide) (fun h120 => ?_) (fun h120 => ?_)
        · replace hf := ite_neg hf h120
          refine V_iconst (v := 0) (pc := 539) F dL_build_539 (by decide) ?_
          obtain rfl := some_of hf
          exact V_ret F rfl rfl dL_build_540 rfl rfl
        · replace hf := ite_pos hf h120
          refine V_aload_n (pc := 527) F dL_build_527 rfl 0 rfl ?_
          refine V_iconst (v := 1) (pc := 528) F dL_build_528 (by decide) ?_
          obtain ⟨r121, g122, hf⟩ := bind_of hf
          refine V_V (w2 := wX7 cy a r121.2) (rest := []) (st2 := [.int r121.1]) (pc := 529) F 7 (M_X7_count l D cy N a r118.2 1 r121 (rt_of g122)) (cwV 1 F.ts gL_build_X7_count rfl rfl rfl hd_X7_count ⟨Nat.le_of_ble_eq_true rfl, Nat.le_of_ble_eq_true rfl⟩) rfl dL_build_529 Fit.whole fstX7 rfl rfl (Nat.le_of_ble_eq_true rfl) (Nat.zero_le _) (Nat.zero_le _) rfl rfl rfl ?_
          refine V_if_ne (pc := 532) (tgt := 539) F dL_build_532 (by decide) (fun h123 => ?_) (fun h123 => ?_)
          · replace hf := ite_neg hf h123
            refine V_iconst (v := 0) (pc := 539) F dL_build_539 (by decide) ?_
            obtain rfl := some_of hf
            exact V_ret F rfl rfl dL_build_540 rfl rfl
          · replace hf := ite_pos hf h123
            refine V_iconst (v := 1) (pc := 535) F dL_build_535 (by decide) ?_
            refine V_goto (pc := 536) (tgt := 540) F dL_build_536 (by decide) ?_
            obtain rfl := some_of hf
            exact V_ret F rfl rfl dL_build_540 rfl rfl
    · replace hf := ite_pos hf h110
      refine V_iconst (v := 1) (pc := 60) F dL_build_60 (by decide) ?_
      refine V_goto (pc := 61) (tgt := 65) F dL_build_61 (by decide) ?_
      refine V_istore (L2 := [(6, .int 1), (5, .int ((1 : Int32) + r3)), (4, .int r1), (0, .ref (a 0)), (1, .ref sb), (2, .int x2), (3, .int x3)]) (pc := 65) F dL_build_65 (by decide) rfl ?_
      refine V_iconst (v := 0) (pc := 67) F dL_build_67 (by decide) ?_
      refine V_istore (L2 := [(7, .int 0), (6, .int 1), (5, .int ((1 : Int32) + r3)), (4, .int r1), (0, .ref (a 0)), (1, .ref sb), (2, .int x2), (3, .int x3)]) (pc := 68) F dL_build_68 (by decide) rfl ?_
      refine V.sub [4, 5, 6, 7, 3, 2, 1, 0] rfl ?_
      obtain ⟨u124, g125, hf⟩ := bind_of hf
      refine K70 N x2 x3 r1 ((1 : Int32) + r3) r106.2 1 0 u124 g125 ?_
      refine V_iconst (v := 0) (pc := 181) F dL_build_181 (by decide) ?_
      refine V_istore (L2 := [(7, .int 0), (0, .ref (a 0)), (1, .ref sb), (2, .int x2), (3, .int x3), (5, .int ((1 : Int32) + r3)), (6, .int u124.2)]) (pc := 182) F dL_build_182 (by decide) rfl ?_
      refine V.sub [1, 2, 3, 4, 5, 6, 0] rfl ?_
      obtain ⟨u126, g127, hf⟩ := bind_of hf
      refine K184 N x2 x3 ((1 : Int32) + r3) u124.1 u124.2 0 u126 g127 ?_
      refine V_iconst (v := 0) (pc := 318) F dL_build_318 (by decide) ?_
      refine V_istore (L2 := [(7, .int 0), (0, .ref (a 0)), (1, .ref sb), (2, .int x2), (3, .int x3), (5, .int ((1 : Int32) + r3)), (6, .int u126.2)]) (pc := 319) F dL_build_319 (by decide) rfl ?_
      refine V.sub [1, 2, 3, 4, 5, 6, 0] rfl ?_
      obtain ⟨u128, g129, hf⟩ := bind_of hf
      refine K321 N x2 x3 ((1 : Int32) + r3) u126.1 u126.2 0 u128 g129 ?_
      refine V_iload (pc := 512) F dL_build_512 2 rfl ?_
      refine V_if_eq (pc := 514) (tgt := 539) F dL_build_514 (by decide) (fun h130 => ?_) (fun h130 => ?_)
      · replace hf := ite_pos hf h130
        refine V_iconst (v := 0) (pc := 539) F dL_build_539 (by decide) ?_
        obtain rfl := some_of hf
        exact V_ret F rfl rfl dL_build_540 rfl rfl
      · replace hf := ite_neg hf h130
        refine V_aload_n (pc := 517) F dL_build_517 rfl 0 rfl ?_
        refine V_iconst (v := 0) (pc := 518) F dL_build_518 (by decide) ?_
        obtain ⟨r131, g132, hf⟩ := bind_of hf
        refine V_V (w2 := wX7 cy a r131.2) (rest := []) (st2 := [.int r131.1]) (pc := 519) F 7 (M_X7_count l D cy N a u128.1 0 r131 (rt_of g132)) (cwV 1 F.ts gL_build_X7_count rfl rfl rfl hd_X7_count ⟨Nat.le_of_ble_eq_true rfl, Nat.le_of_ble_eq_true rfl⟩) rfl dL_build_519 Fit.whole fstX7 rfl rfl (Nat.le_of_ble_eq_true rfl) (Nat.zero_le _) (Nat.zero_le _) rfl rfl rfl ?_
        refine V_iload (pc := 522) F dL_build_522 1 rfl ?_
        refine V_icmp_ne (pc := 524) (tgt := 539) F dL_build_524 (by decide) (fun h133 => ?_) (fun h133 => ?_)
        · replace hf := ite_neg hf h133
          refine V_iconst (v := 0) (pc := 539) F dL_build_539 (by decide) ?_
          obtain rfl := some_of hf
          exact V_ret F rfl rfl dL_build_540 rfl rfl
        · replace hf := ite_pos hf h133
          refine V_aload_n (pc := 527) F dL_build_527 rfl 0 rfl ?_
          refine V_iconst (v := 1) (pc := 528) F dL_build_528 (by decide) ?_
          obtain ⟨r134, g135, hf⟩ := bind_of hf
          refine V_V (w2 := wX7 cy a r134.2) (rest := []) (st2 := [.int r134.1]) (pc := 529) F 7 (M_X7_count l D cy N a r131.2 1 r134 (rt_of g135)) (cwV 1 F.ts gL_build_X7_count rfl rfl rfl hd_X7_count ⟨Nat.le_of_ble_eq_true rfl, Nat.le_of_ble_eq_true rfl⟩) rfl dL_build_529 Fit.whole fstX7 rfl rfl (Nat.le_of_ble_eq_true rfl) (Nat.zero_le _) (Nat.zero_le _) rfl rfl rfl ?_
          refine V_if_ne (pc := 532) (tgt := 539) F dL_build_532 (by decide) (fun h136 => ?_) (fun h136 => ?_)
          · replace hf := ite_neg hf h136
            refine V_iconst (v := 0) (pc := 539) F dL_build_539 (by decide) ?_
            obtain rfl := some_of hf
            exact V_ret F rfl rfl dL_build_540 rfl rfl
          · replace hf := ite_pos hf h136
            refine V_iconst (v := 1) (pc := 535) F dL_build_535 (by decide) ?_
            refine V_goto (pc := 536) (tgt := 540) F dL_build_536 (by decide) ?_
            obtain rfl := some_of hf
            exact V_ret F rfl rfl dL_build_540 rfl rfl
