
def fL_lawA (N : Nat) (sn : Nat) (sx : Nat → Int32) (v : SX7) : Option (SX7 × Int32) :=
  (rt (fX7_count N v 1)).bind fun r1 =>
    if r1.1 = (-1) then
      (rt (fX7_count N r1.2 2)).bind fun r4 =>
        if r4.1 = (-1) then
          (rt (fX7_run N r4.2 3)).bind fun r7 =>
            if r7.1 = 0 then
              (rt (fX7_come N r7.2 2)).bind fun r10 =>
                if r10.1 = 0 then
                  (rt (fX7_run N r10.2 2)).bind fun r13 =>
                    if r13.1 = 1 then
                      (rt (fX7_direction N r13.2 2 1)).bind fun r16 =>
                        if r16 = 2 then
                          (rt (fX7_count N r13.2 9)).bind fun r19 =>
                            if r19.1 = 5 then
                              (rt (fX7_undo N r19.2)).bind fun r22 =>
                                if r22.1 < 0 then
                                  none
                                else
                                  (rt (fX7_undo N r22.2)).bind fun r25 =>
                                    if r25.1 < 0 then
                                      none
                                    else
                                      (rt (fX7_undo N r25.2)).bind fun r28 =>
                                        if r28.1 < 0 then
                                          none
                                        else
                                          (rt (fX7_count N r28.2 10)).bind fun r31 =>
                                            if r31.1 = 0 then
                                              (fL_build N sn sx r31.2 0 4).bind fun r34 =>
                                                if r34.1 = 0 then
                                                  none
                                                else
                                                  (fL_cell N sn sx 0).bind fun r37 =>
                                                    (fL_low N (r37 >>> (6 &&& 31)) 4).bind fun r39 =>
                                                      some (r34.2, r39)
                                            else
                                              none
                            else
                              none
                        else
                          none
                    else
                      none
                else
                  none
            else
              none
        else
          none
    else
      none
set_option maxHeartbeats 8000000 in
set_option maxRecDepth 100000 in
theorem S_law_A {p : Program} {l : Launch} {e : Env} {s : State} {m : MethodId} {below : List Frame} {meth : Method} {c : Code} {nme : String} {D : va_G} {cy : Nat → ClassId} {sb sn : Nat} {sx : Nat → Int32} (F : Fx p s m #[.ref sb] meth c cL_law 13 RL nme wsL_law ret D cy (aL s)) (G : FxS s (aL s) sb sn sx) (a : Nat → Nat) (N : Nat) (v : SX7) (o : SX7 × Int32) (hf : fL_lawA N sn sx v = some o) (hk : V p l e room_1 s m #[.ref sb] below meth c 13 D (aL s) 172 1288 (lw_Z below #[.ref sb] s) (wX7 cy a o.1) [(2, .int o.2), (1, .ref (a 0)), (0, .ref sb)] [] 128) : V p l e room_1 s m #[.ref sb] below meth c 13 D (aL s) 172 1288 (lw_Z below #[.ref sb] s) (wX7 cy a v) [(1, .ref (a 0)), (0, .ref sb)] [] 8 := by
  unfold fL_lawA at hf
  refine V_aload_n (pc := 8) F dL_law_8 rfl 0 rfl ?_
  refine V_iconst (v := 1) (pc := 9) F dL_law_9 (by decide) ?_
  obtain ⟨r1, g2, hf⟩ := bind_of hf
  refine V_V (w2 := wX7 cy a r1.2) (rest := []) (st2 := [.int r1.1]) (pc := 10) F 7 (M_X7_count l D cy N a v 1 r1 (rt_of g2)) (cwV 1 F.ts gL_law_X7_count rfl rfl rfl hd_X7_count ⟨Nat.le_of_ble_eq_true rfl, Nat.le_of_ble_eq_true rfl⟩) rfl dL_law_10 Fit.whole fstX7 rfl rfl (Nat.le_of_ble_eq_true rfl) (Nat.le_of_ble_eq_true rfl) (Nat.le_of_ble_eq_true rfl) rfl rfl rfl ?_
  refine V_iconst (v := (-1)) (pc := 13) F dL_law_13 (by decide) ?_
  refine V_icmp_ne (pc := 14) (tgt := 101) F dL_law_14 (by decide) (fun h3 => ?_) (fun h3 => ?_)
  · replace hf := ite_neg hf h3
    refine V_iconst (v := 0) (pc := 101) F dL_law_101 (by decide) ?_
    exact nomatch hf
  · replace hf := ite_pos hf h3
    refine V_aload_n (pc := 17) F dL_law_17 rfl 0 rfl ?_
    refine V_iconst (v := 2) (pc := 18) F dL_law_18 (by decide) ?_
    obtain ⟨r4, g5, hf⟩ := bind_of hf
    refine V_V (w2 := wX7 cy a r4.2) (rest := []) (st2 := [.int r4.1]) (pc := 19) F 7 (M_X7_count l D cy N a r1.2 2 r4 (rt_of g5)) (cwV 1 F.ts gL_law_X7_count rfl rfl rfl hd_X7_count ⟨Nat.le_of_ble_eq_true rfl, Nat.le_of_ble_eq_true rfl⟩) rfl dL_law_19 Fit.whole fstX7 rfl rfl (Nat.le_of_ble_eq_true rfl) (Nat.le_of_ble_eq_true rfl) (Nat.le_of_ble_eq_true rfl) rfl rfl rfl ?_
    refine V_iconst (v := (-1)) (pc := 22) F dL_law_22 (by decide) ?_
    refine V_icmp_ne (pc := 23) (tgt := 101) F dL_law_23 (by decide) (fun h6 => ?_) (fun h6 => ?_)
    · replace hf := ite_neg hf h6
      refine V_iconst (v := 0) (pc := 101) F dL_law_101 (by decide) ?_
      exact nomatch hf
    · replace hf := ite_pos hf h6
      refine V_aload_n (pc := 26) F dL_law_26 rfl 0 rfl ?_
      refine V_iconst (v := 3) (pc := 27) F dL_law_27 (by decide) ?_
      obtain ⟨r7, g8, hf⟩ := bind_of hf
      refine V_V (w2 := wX7 cy a r7.2) (rest := []) (st2 := [.int r7.1]) (pc := 28) F 7 (M_X7_run l D cy N a r4.2 3 r7 (rt_of g8)) (cwV 1 F.ts gL_law_X7_run rfl rfl rfl hd_X7_run ⟨Nat.le_of_ble_eq_true rfl, Nat.le_of_ble_eq_true rfl⟩) rfl dL_law_28 Fit.whole fstX7 rfl rfl (Nat.le_of_ble_eq_true rfl) (Nat.le_of_ble_eq_true rfl) (Nat.le_of_ble_eq_true rfl) rfl rfl rfl ?_
      refine V_if_ne (pc := 31) (tgt := 101) F dL_law_31 (by decide) (fun h9 => ?_) (fun h9 => ?_)
      · replace hf := ite_neg hf h9
        refine V_iconst (v := 0) (pc := 101) F dL_law_101 (by decide) ?_
        exact nomatch hf
      · replace hf := ite_pos hf h9
        refine V_aload_n (pc := 34) F dL_law_34 rfl 0 rfl ?_
        refine V_iconst (v := 2) (pc := 35) F dL_law_35 (by decide) ?_
        obtain ⟨r10, g11, hf⟩ := bind_of hf
        refine V_V (w2 := wX7 cy a r10.2) (rest := []) (st2 := [.int r10.1]) (pc := 36) F 7 (M_X7_come l D cy N a r7.2 2 r10 (rt_of g11)) (cwV 1 F.ts gL_law_X7_come rfl rfl rfl hd_X7_come ⟨Nat.le_of_ble_eq_true rfl, Nat.le_of_ble_eq_true rfl⟩) rfl dL_law_36 Fit.whole fstX7 rfl rfl (Nat.le_of_ble_eq_true rfl) (Nat.le_of_ble_eq_true rfl) (Nat.le_of_ble_eq_true rfl) rfl rfl rfl ?_
        refine V_if_ne (pc := 39) (tgt := 101) F dL_law_39 (by decide) (fun h12 => ?_) (fun h12 => ?_)
        · replace hf := ite_neg hf h12
          refine V_iconst (v := 0) (pc := 101) F dL_law_101 (by decide) ?_
          exact nomatch hf
        · replace hf := ite_pos hf h12
          refine V_aload_n (pc := 42) F dL_law_42 rfl 0 rfl ?_
          refine V_iconst (v := 2) (pc := 43) F dL_law_43 (by decide) ?_
          obtain ⟨r13, g14, hf⟩ := bind_of hf
          refine V_V (w2 := wX7 cy a r13.2) (rest := []) (st2 := [.int r13.1]) (pc := 44) F 7 (M_X7_run l D cy N a r10.2 2 r13 (rt_of g14)) (cwV 1 F.ts gL_law_X7_run rfl rfl rfl hd_X7_run ⟨Nat.le_of_ble_eq_true rfl, Nat.le_of_ble_eq_true rfl⟩) rfl dL_law_44 Fit.whole fstX7 rfl rfl (Nat.le_of_ble_eq_true rfl) (Nat.le_of_ble_eq_true rfl) (Nat.le_of_ble_eq_true rfl) rfl rfl rfl ?_
          refine V_iconst (v := 1) (pc := 47) F dL_law_47 (by decide) ?_
          refine V_icmp_ne (pc := 48) (tgt := 101) F dL_law_48 (by decide) (fun h15 => ?_) (fun h15 => ?_)
          · replace hf := ite_neg hf h15
            refine V_iconst (v := 0) (pc := 101) F dL_law_101 (by decide) ?_
            exact nomatch hf
          · replace hf := ite_pos hf h15
            refine V_aload_n (pc := 51) F dL_law_51 rfl 0 rfl ?_
            refine V_iconst (v := 2) (pc := 52) F dL_law_52 (by decide) ?_
            refine V_iconst (v := 1) (pc := 53) F dL_law_53 (by decide) ?_
            obtain ⟨r16, g17, hf⟩ := bind_of hf
            refine V_V (w2 := wX7 cy a r13.2) (rest := []) (st2 := [.int r16]) (pc := 54) F 7 (M_X7_direction l D cy N a r13.2 2 1 r16 (rt_of g17)) (cwV 2 F.ts gL_law_X7_direction rfl rfl rfl hd_X7_direction ⟨Nat.le_of_ble_eq_true rfl, Nat.le_of_ble_eq_true rfl⟩) rfl dL_law_54 Fit.whole rfl rfl rfl (Nat.le_of_ble_eq_true rfl) (Nat.le_of_ble_eq_true rfl) (Nat.le_of_ble_eq_true rfl) rfl rfl rfl ?_
            refine V_iconst (v := 2) (pc := 57) F dL_law_57 (by decide) ?_
            refine V_icmp_ne (pc := 58) (tgt := 101) F dL_law_58 (by decide) (fun h18 => ?_) (fun h18 => ?_)
            · replace hf := ite_neg hf h18
              refine V_iconst (v := 0) (pc := 101) F dL_law_101 (by decide) ?_
              exact nomatch hf
            · replace hf := ite_pos hf h18
              refine V_aload_n (pc := 61) F dL_law_61 rfl 0 rfl ?_
              refine V_bipush (v := 9) (pc := 62) F dL_law_62 (by decide) ?_
              obtain ⟨r19, g20, hf⟩ := bind_of hf
              refine V_V (w2 := wX7 cy a r19.2) (rest := []) (st2 := [.int r19.1]) (pc := 64) F 7 (M_X7_count l D cy N a r13.2 9 r19 (rt_of g20)) (cwV 1 F.ts gL_law_X7_count rfl rfl rfl hd_X7_count ⟨Nat.le_of_ble_eq_true rfl, Nat.le_of_ble_eq_true rfl⟩) rfl dL_law_64 Fit.whole fstX7 rfl rfl (Nat.le_of_ble_eq_true rfl) (Nat.le_of_ble_eq_true rfl) (Nat.le_of_ble_eq_true rfl) rfl rfl rfl ?_
              refine V_iconst (v := 5) (pc := 67) F dL_law_67 (by decide) ?_
              refine V_icmp_ne (pc := 68) (tgt := 101) F dL_law_68 (by decide) (fun h21 => ?_) (fun h21 => ?_)
              · replace hf := ite_neg hf h21
                refine V_iconst (v := 0) (pc := 101) F dL_law_101 (by decide) ?_
                exact nomatch hf
              · replace hf := ite_pos hf h21
                refine V_aload_n (pc := 71) F dL_law_71 rfl 0 rfl ?_
                obtain ⟨r22, g23, hf⟩ := bind_of hf
                refine V_V (w2 := wX7 cy a r22.2) (rest := []) (st2 := [.int r22.1]) (pc := 72) F 7 (M_X7_undo l D cy N a r19.2 r22 (rt_of g23)) (cwV 0 F.ts gL_law_X7_undo rfl rfl rfl hd_X7_undo ⟨Nat.le_of_ble_eq_true rfl, Nat.le_of_ble_eq_true rfl⟩) rfl dL_law_72 Fit.whole fstX7 rfl rfl (Nat.le_of_ble_eq_true rfl) (Nat.le_of_ble_eq_true rfl) (Nat.le_of_ble_eq_true rfl) rfl rfl rfl ?_
                refine V_if_lt (pc := 75) (tgt := 101) F dL_law_75 (by decide) (fun h24 => ?_) (fun h24 => ?_)
                · replace hf := ite_pos hf h24
                  refine V_iconst (v := 0) (pc := 101) F dL_law_101 (by decide) ?_
                  exact nomatch hf
                · replace hf := ite_neg hf h24
                  refine V_aload_n (pc := 78) F dL_law_78 rfl 0 rfl ?_
                  obtain ⟨r25, g26, hf⟩ := bind_of hf
                  refine V_V (w2 := wX7 cy a r25.2) (rest := []) (st2 := [.int r25.1]) (pc := 79) F 7 (M_X7_undo l D cy N a r22.2 r25 (rt_of g26)) (cwV 0 F.ts gL_law_X7_undo rfl rfl rfl hd_X7_undo ⟨Nat.le_of_ble_eq_true rfl, Nat.le_of_ble_eq_true rfl⟩) rfl dL_law_79 Fit.whole fstX7 rfl rfl (Nat.le_of_ble_eq_true rfl) (Nat.le_of_ble_eq_true rfl) (Nat.le_of_ble_eq_true rfl) rfl rfl rfl ?_
                  refine V_if_lt (pc := 82) (tgt := 101) F dL_law_82 (by decide) (fun h27 => ?_) (fun h27 => ?_)
                  · replace hf := ite_pos hf h27
                    refine V_iconst (v := 0) (pc := 101) F dL_law_101 (by decide) ?_
                    exact nomatch hf
                  · replace hf := ite_neg hf h27
                    refine V_aload_n (pc := 85) F dL_law_85 rfl 0 rfl ?_
                    obtain ⟨r28, g29, hf⟩ := bind_of hf
                    refine V_V (w2 := wX7 cy a r28.2) (rest := []) (st2 := [.int r28.1]) (pc := 86) F 7 (M_X7_undo l D cy N a r25.2 r28 (rt_of g29)) (cwV 0 F.ts gL_law_X7_undo rfl rfl rfl hd_X7_undo ⟨Nat.le_of_ble_eq_true rfl, Nat.le_of_ble_eq_true rfl⟩) rfl dL_law_86 Fit.whole fstX7 rfl rfl (Nat.le_of_ble_eq_true rfl) (Nat.le_of_ble_eq_true rfl) (Nat.le_of_ble_eq_true rfl) rfl rfl rfl ?_
                    refine V_if_lt (pc := 89) (tgt := 101) F dL_law_89 (by decide) (fun h30 => ?_) (fun h30 => ?_)
                    · replace hf := ite_pos hf h30
                      refine V_iconst (v := 0) (pc := 101) F dL_law_101 (by decide) ?_
                      exact nomatch hf
                    · replace hf := ite_neg hf h30
                      refine V_aload_n (pc := 92) F dL_law_92 rfl 0 rfl ?_
                      refine V_bipush (v := 10) (pc := 93) F dL_law_93 (by decide) ?_
                      obtain ⟨r31, g32, hf⟩ := bind_of hf
                      refine V_V (w2 := wX7 cy a r31.2) (rest := []) (st2 := [.int r31.1]) (pc := 95) F 7 (M_X7_count l D cy N a r28.2 10 r31 (rt_of g32)) (cwV 1 F.ts gL_law_X7_count rfl rfl rfl hd_X7_count ⟨Nat.le_of_ble_eq_true rfl, Nat.le_of_ble_eq_true rfl⟩) rfl dL_law_95 Fit.whole fstX7 rfl rfl (Nat.le_of_ble_eq_true rfl) (Nat.le_of_ble_eq_true rfl) (Nat.le_of_ble_eq_true rfl) rfl rfl rfl ?_
                      refine V_if_eq (pc := 98) (tgt := 103) F dL_law_98 (by decide) (fun h33 => ?_) (fun h33 => ?_)
                      · replace hf := ite_pos hf h33
                        refine V_aload_n (pc := 103) F dL_law_103 rfl 0 rfl ?_
                        refine V_aload_n (pc := 104) F dL_law_104 rfl 1 rfl ?_
                        refine V_iconst (v := 0) (pc := 105) F dL_law_105 (by decide) ?_
                        refine V_iconst (v := 4) (pc := 106) F dL_law_106 (by decide) ?_
                        obtain ⟨r34, g35, hf⟩ := bind_of hf
                        refine V_SS (w2 := wX7 cy a r34.2) (rest := []) (st2 := [.int r34.1]) (pc := 107) F G (M_L_build l D cy N sb sn sx a r31.2 0 4 r34 g35) (va_cwS 4 F.ts gL_law_L_build rfl rfl rfl hd_L_build ⟨Nat.le_of_ble_eq_true rfl, Nat.le_of_ble_eq_true rfl⟩) rfl dL_law_107 Fit.whole fstX7 (Nat.le_of_ble_eq_true rfl) (Nat.le_of_ble_eq_true rfl) (Nat.le_of_ble_eq_true rfl) rfl rfl rfl ?_
                        refine V_if_ne (pc := 110) (tgt := 115) F dL_law_110 (by decide) (fun h36 => ?_) (fun h36 => ?_)
                        · replace hf := ite_neg hf h36
                          refine V_aload_n (pc := 115) F dL_law_115 rfl 1 rfl ?_
                          refine V_iconst (v := 0) (pc := 116) F dL_law_116 (by decide) ?_
                          obtain ⟨r37, g38, hf⟩ := bind_of hf
                          refine V_SS (w2 := wX7 cy a r34.2) (rest := []) (st2 := [.int r37]) (pc := 117) F G (M_L_cell l D cy N sb sn sx 0 r37 g38) (va_cwS 2 F.ts gL_law_L_cell rfl rfl rfl hd_L_cell ⟨Nat.le_of_ble_eq_true rfl, Nat.le_of_ble_eq_true rfl⟩) rfl dL_law_117 Fit.nil rfl (Nat.le_of_ble_eq_true rfl) (Nat.le_of_ble_eq_true rfl) (Nat.le_of_ble_eq_true rfl) rfl rfl rfl ?_
                          refine V_bipush (v := 6) (pc := 120) F dL_law_120 (by decide) ?_
                          refine V_ishr (pc := 122) F dL_law_122 ?_
                          refine V_iconst (v := 4) (pc := 123) F dL_law_123 (by decide) ?_
                          obtain ⟨r39, g40, hf⟩ := bind_of hf
                          refine V_SM (w2 := wX7 cy a r34.2) (rest := []) (st2 := [.int r39]) (pc := 124) F (M_L_low l D cy N (r37 >>> (6 &&& 31)) 4 r39 g40) (va_cwS 2 F.ts gL_law_L_low rfl rfl rfl hd_L_low ⟨Nat.le_of_ble_eq_true rfl, Nat.le_of_ble_eq_true rfl⟩) rfl dL_law_124 Fit.nil rfl (Nat.le_of_ble_eq_true rfl) (Nat.le_of_ble_eq_true rfl) (Nat.le_of_ble_eq_true rfl) rfl rfl rfl ?_
                          refine V_istore_n (L2 := [(2, .int r39), (1, .ref (a 0)), (0, .ref sb)]) (pc := 127) F dL_law_127 rfl (by decide) rfl ?_
                          obtain rfl := some_of hf
                          exact V.sub [0, 1, 2] rfl hk
                        · replace hf := ite_pos hf h36
                          refine V_iconst (v := 0) (pc := 113) F dL_law_113 (by decide) ?_
                          exact nomatch hf
                      · replace hf := ite_neg hf h33
                        refine V_iconst (v := 0) (pc := 101) F dL_law_101 (by decide) ?_
                        exact nomatch hf
