theorem hd_X8_dropRule : yX8_dropRule.cls = RX8 ∧ yX8_dropRule.cls ≠ "java/lang/invoke/MethodHandle" ∧ yX8_dropRule.cls ≠ "java/lang/invoke/VarHandle" ∧ (parseMethodDescriptor yX8_dropRule.desc).map (fun d => d.parameters.length) = some 1 := by decide +kernel
def fX8_dropRule (N : Nat) (v : SX8) (x1 : Int32) : Option (Int32 × SX8) :=
  (fX8_isPhase N v x1).bind fun r1 =>
    if r1 = 0 then
      some (0, (1, v.2))
    else
      (fX8_rules N v x1).bind fun r4 =>
        if r4 = 0 then
          some (0, (2, v.2))
        else
          (fX8_save N (0, v.2)).bind fun r8 =>
            chk (((31 : Int32) + ((14 : Int32) * x1)) + 3) 143 (
              chk (((31 : Int32) + ((14 : Int32) * x1)) + 3) 143 (
                nmd (upd r8.2.1 (((31 : Int32) + ((14 : Int32) * x1)) + 3).toNatClampNeg ((r8.2.1 (((31 : Int32) + ((14 : Int32) * x1)) + 3).toNatClampNeg) - 1)) fun f12 =>
                (fX8_rules N (r8.1, f12, r8.2.2) x1).bind fun r14 =>
                  chk ((((31 : Int32) + ((14 : Int32) * x1)) + 4) + ((2 : Int32) * r14)) 143 (
                    chk ((((31 : Int32) + ((14 : Int32) * x1)) + 4) + ((2 : Int32) * r14)) 143 (
                      nmd (upd f12 ((((31 : Int32) + ((14 : Int32) * x1)) + 4) + ((2 : Int32) * r14)).toNatClampNeg (0 : Int32)) fun f18 =>
                      chk (((((31 : Int32) + ((14 : Int32) * x1)) + 4) + ((2 : Int32) * r14)) + 1) 143 (
                        nmd (upd f18 (((((31 : Int32) + ((14 : Int32) * x1)) + 4) + ((2 : Int32) * r14)) + 1).toNatClampNeg (0 : Int32)) fun f21 =>
                        some ((f12 ((((31 : Int32) + ((14 : Int32) * x1)) + 4) + ((2 : Int32) * r14)).toNatClampNeg), (r8.1, f21, r8.2.2))
                      )
                    )
                  )
              )
            )
set_option maxHeartbeats 8000000 in
set_option maxRecDepth 100000 in
theorem M_X8_dropRule (l : Launch) (D : va_G) (cy : Nat → ClassId) (N : Nat) (a : Nat → Nat) (v : SX8) (x1 : Int32) (o : Int32 × SX8) (hf : fX8_dropRule N v x1 = some o) : okM l yX8_dropRule wsX8_dropRule (rmz 2 43) D cy [.ref (a 0), .int x1] (wX8 cy a v) (wX8 cy a o.2) (some (.int o.1)) := by
  refine okM_of (own := RX8) (nme := "dropRule") (cc := cX8_dropRule) (maxL := 5) (ret := (some .int)) (by decide) rfl rfl rfl (Nat.le_of_ble_eq_true rfl) ?_
  intro p e s m args below meth c A F
  have i_X8 : ∀ w ∈ u_ws RX8 TX8 13, w ∈ wsX8_dropRule := fun _ h => List.mem_cons_of_mem _ (List.mem_append_right _ h)
  unfold fX8_dropRule at hf
  refine V.eq rfl (show lv_args 0 [.ref (a 0), .int x1] = [(0, .ref (a 0)), (1, .int x1)] from rfl) rfl ?_
  refine V_aload_n (pc := 0) F dX8_dropRule_0 rfl 0 rfl ?_
  refine V_aload_n (pc := 1) F dX8_dropRule_1 rfl 0 rfl ?_
  refine V_iload_n (pc := 2) F dX8_dropRule_2 rfl 1 rfl ?_
  obtain ⟨r1, g2, hf⟩ := bind_of hf
  refine V_V (w2 := wX8 cy a v) (rest := [.ref (a 0)]) (st2 := [.int r1, .ref (a 0)]) (pc := 3) F 8 (M_X8_isPhase l D cy N a v x1 r1 g2) (cwV 1 F.ts gX8_dropRule_X8_isPhase rfl rfl rfl hd_X8_isPhase ⟨Nat.le_of_ble_eq_true rfl, Nat.le_of_ble_eq_true rfl⟩) rfl dX8_dropRule_3 Fit.whole rfl rfl rfl (Nat.le_of_ble_eq_true rfl) (Nat.zero_le _) (Nat.zero_le _) rfl rfl rfl ?_
  refine V_if_ne (pc := 6) (tgt := 13) F dX8_dropRule_6 (by decide) (fun h3 => ?_) (fun h3 => ?_)
  · replace hf := ite_neg hf h3
    refine V_aload_n (pc := 13) F dX8_dropRule_13 rfl 0 rfl ?_
    refine V_iload_n (pc := 14) F dX8_dropRule_14 rfl 1 rfl ?_
    obtain ⟨r4, g5, hf⟩ := bind_of hf
    refine V_V (w2 := wX8 cy a v) (rest := [.ref (a 0)]) (st2 := [.int r4, .ref (a 0)]) (pc := 15) F 8 (M_X8_rules l D cy N a v x1 r4 g5) (cwV 1 F.ts gX8_dropRule_X8_rules rfl rfl rfl hd_X8_rules ⟨Nat.le_of_ble_eq_true rfl, Nat.le_of_ble_eq_true rfl⟩) rfl dX8_dropRule_15 Fit.whole rfl rfl rfl (Nat.le_of_ble_eq_true rfl) (Nat.zero_le _) (Nat.zero_le _) rfl rfl rfl ?_
    refine V_if_ne (pc := 18) (tgt := 25) F dX8_dropRule_18 (by decide) (fun h6 => ?_) (fun h6 => ?_)
    · replace hf := ite_neg hf h6
      refine V_iconst (v := 0) (pc := 25) F dX8_dropRule_25 (by decide) ?_
      refine V_put (w2 := wX8 cy a (0, v.2)) (pc := 26) F 0 8 0 i_X8 tyX8 tyX8_ok nmX8 rfl (by decide) rfl (mm 1 rfl) rfl dX8_dropRule_26 rfl rfl rfl (Nat.le_of_ble_eq_true rfl) rfl ?_
      refine V_aload_n (pc := 29) F dX8_dropRule_29 rfl 0 rfl ?_
      refine V_get (pc := 30) F 0 8 0 i_X8 rfl (by decide) rfl (mm 1 rfl) dX8_dropRule_30 rfl rfl ?_
      refine V_if_le (pc := 33) (tgt := 38) F dX8_dropRule_33 (by decide) (fun h7 => ?_) (fun h7 => ?_)
      · refine V_aload_n (pc := 38) F dX8_dropRule_38 rfl 0 rfl ?_
        obtain ⟨r8, g9, hf⟩ := bind_of hf
        refine V_V (w2 := wX8 cy a r8) (rest := []) (st2 := []) (pc := 39) F 8 (M_X8_save l D cy N a (0, v.2) r8 g9) (cwV 0 F.ts gX8_dropRule_X8_save rfl rfl rfl hd_X8_save ⟨Nat.le_of_ble_eq_true rfl, Nat.le_of_ble_eq_true rfl⟩) rfl dX8_dropRule_39 Fit.whole fstX8 rfl rfl (Nat.le_of_ble_eq_true rfl) (Nat.zero_le _) (Nat.zero_le _) rfl rfl rfl ?_
        refine V_bipush (v := 31) (pc := 42) F dX8_dropRule_42 (by decide) ?_
        refine V_bipush (v := 14) (pc := 44) F dX8_dropRule_44 (by decide) ?_
        refine V_iload_n (pc := 46) F dX8_dropRule_46 rfl 1 rfl ?_
        refine V_imul (pc := 47) F dX8_dropRule_47 ?_
        refine V_iadd (pc := 48) F dX8_dropRule_48 ?_
        refine V_istore_n (L2 := [(2, .int ((31 : Int32) + ((14 : Int32) * x1))), (0, .ref (a 0)), (1, .int x1)]) (pc := 49) F dX8_dropRule_49 rfl (by decide) rfl ?_
        refine V_aload_n (pc := 50) F dX8_dropRule_50 rfl 1 rfl ?_
        refine V_get (pc := 51) F 0 8 1 i_X8 rfl (by decide) rfl (mm 2 rfl) dX8_dropRule_51 rfl rfl ?_
        refine V_iload_n (pc := 54) F dX8_dropRule_54 rfl 0 rfl ?_
        refine V_iconst (v := 3) (pc := 55) F dX8_dropRule_55 (by decide) ?_
        refine V_iadd (pc := 56) F dX8_dropRule_56 ?_
        refine V_dup2_11 (pc := 57) F dX8_dropRule_57 rfl rfl ?_
        obtain ⟨c10, hf⟩ := chk_some hf
        refine V_iald (pc := 58) F 1 rfl c10 dX8_dropRule_58 ?_
        refine V_iconst (v := 1) (pc := 59) F dX8_dropRule_59 (by decide) ?_
        refine V_isub (pc := 60) F dX8_dropRule_60 ?_
        obtain ⟨c11, hf⟩ := chk_some hf
        obtain ⟨f12, e13, hf⟩ := nmd_of hf
        refine V_iast (w2 := wX8 cy a (r8.1, f12, r8.2.2)) (pc := 61) F 1 rfl c11 e13 dX8_dropRule_61 rfl ?_
        refine V_iload_n (pc := 62) F dX8_dropRule_62 rfl 0 rfl ?_
        refine V_iconst (v := 4) (pc := 63) F dX8_dropRule_63 (by decide) ?_
        refine V_iadd (pc := 64) F dX8_dropRule_64 ?_
        refine V_iconst (v := 2) (pc := 65) F dX8_dropRule_65 (by decide) ?_
        refine V_aload_n (pc := 66) F dX8_dropRule_66 rfl 1 rfl ?_
        refine V_iload_n (pc := 67) F dX8_dropRule_67 rfl 2 rfl ?_
        obtain ⟨r14, g15, hf⟩ := bind_of hf
        refine V_V (w2 := wX8 cy a (r8.1, f12, r8.2.2)) (rest := [.int 2, .int (((31 : Int32) + ((14 : Int32) * x1)) + 4)]) (st2 := [.int r14, .int 2, .int (((31 : Int32) + ((14 : Int32) * x1)) + 4)]) (pc := 68) F 8 (M_X8_rules l D cy N a (r8.1, f12, r8.2.2) x1 r14 g15) (cwV 1 F.ts gX8_dropRule_X8_rules rfl rfl rfl hd_X8_rules ⟨Nat.le_of_ble_eq_true rfl, Nat.le_of_ble_eq_true rfl⟩) rfl dX8_dropRule_68 Fit.whole rfl rfl rfl (Nat.le_of_ble_eq_true rfl) (Nat.zero_le _) (Nat.zero_le _) rfl rfl rfl ?_
        refine V_imul (pc := 71) F dX8_dropRule_71 ?_
        refine V_iadd (pc := 72) F dX8_dropRule_72 ?_
        refine V_istore_n (L2 := [(3, .int ((((31 : Int32) + ((14 : Int32) * x1)) + 4) + ((2 : Int32) * r14))), (2, .int ((31 : Int32) + ((14 : Int32) * x1))), (0, .ref (a 0)), (1, .int x1)]) (pc := 73) F dX8_dropRule_73 rfl (by decide) rfl ?_
        refine V_aload_n (pc := 74) F dX8_dropRule_74 rfl 2 rfl ?_
        refine V_get (pc := 75) F 0 8 1 i_X8 rfl (by decide) rfl (mm 2 rfl) dX8_dropRule_75 rfl rfl ?_
        refine V_iload_n (pc := 78) F dX8_dropRule_78 rfl 0 rfl ?_
        obtain ⟨c16, hf⟩ := chk_some hf
        refine V_iald (pc := 79) F 1 rfl c16 dX8_dropRule_79 ?_
        refine V_istore (L2 := [(4, .int (f12 ((((31 : Int32) + ((14 : Int32) * x1)) + 4) + ((2 : Int32) * r14)).toNatClampNeg)), (3, .int ((((31 : Int32) + ((14 : Int32) * x1)) + 4) + ((2 : Int32) * r14))), (2, .int ((31 : Int32) + ((14 : Int32) * x1))), (0, .ref (a 0)), (1, .int x1)]) (pc := 80) F dX8_dropRule_80 (by decide) rfl ?_
        refine V_aload_n (pc := 82) F dX8_dropRule_82 rfl 3 rfl ?_
        refine V_get (pc := 83) F 0 8 1 i_X8 rfl (by decide) rfl (mm 2 rfl) dX8_dropRule_83 rfl rfl ?_
        refine V_iload_n (pc := 86) F dX8_dropRule_86 rfl 1 rfl ?_
        refine V_iconst (v := 0) (pc := 87) F dX8_dropRule_87 (by decide) ?_
        obtain ⟨c17, hf⟩ := chk_some hf
        obtain ⟨f18, e19, hf⟩ := nmd_of hf
        refine V_iast (w2 := wX8 cy a (r8.1, f18, r8.2.2)) (pc := 88) F 1 rfl c17 e19 dX8_dropRule_88 rfl ?_
        refine V_aload_n (pc := 89) F dX8_dropRule_89 rfl 3 rfl ?_
        refine V_get (pc := 90) F 0 8 1 i_X8 rfl (by decide) rfl (mm 2 rfl) dX8_dropRule_90 rfl rfl ?_
        refine V_iload_n (pc := 93) F dX8_dropRule_93 rfl 1 rfl ?_
        refine V_iconst (v := 1) (pc := 94) F dX8_dropRule_94 (by decide) ?_
        refine V_iadd (pc := 95) F dX8_dropRule_95 ?_
        refine V_iconst (v := 0) (pc := 96) F dX8_dropRule_96 (by decide) ?_
        obtain ⟨c20, hf⟩ := chk_some hf
        obtain ⟨f21, e22, hf⟩ := nmd_of hf
        refine V_iast (w2 := wX8 cy a (r8.1, f21, r8.2.2)) (pc := 97) F 1 rfl c20 e22 dX8_dropRule_97 rfl ?_
        refine V_iload (pc := 98) F dX8_dropRule_98 0 rfl ?_
        obtain rfl := some_of hf
        exact V_ret F rfl rfl dX8_dropRule_100 rfl rfl
      · exact absurd h7 (show ¬ (¬ ((0 : Int32) ≤ (0 : Int32))) by decide)
    · replace hf := ite_pos hf h6
      refine V_iconst (v := 2) (pc := 21) F dX8_dropRule_21 (by decide) ?_
      refine V_goto (pc := 22) (tgt := 26) F dX8_dropRule_22 (by decide) ?_
      refine V_put (w2 := wX8 cy a (2, v.2)) (pc := 26) F 0 8 0 i_X8 tyX8 tyX8_ok nmX8 rfl (by decide) rfl (mm 1 rfl) rfl dX8_dropRule_26 rfl rfl rfl (Nat.le_of_ble_eq_true rfl) rfl ?_
      refine V_aload_n (pc := 29) F dX8_dropRule_29 rfl 0 rfl ?_
      refine V_get (pc := 30) F 0 8 0 i_X8 rfl (by decide) rfl (mm 1 rfl) dX8_dropRule_30 rfl rfl ?_
      refine V_if_le (pc := 33) (tgt := 38) F dX8_dropRule_33 (by decide) (fun h23 => ?_) (fun h23 => ?_)
      · exact absurd h23 (show ¬ ((2 : Int32) ≤ (0 : Int32)) by decide)
      · refine V_iconst (v := 0) (pc := 36) F dX8_dropRule_36 (by decide) ?_
        obtain rfl := some_of hf
        exact V_ret F rfl rfl dX8_dropRule_37 rfl rfl
  · replace hf := ite_pos hf h3
    refine V_iconst (v := 1) (pc := 9) F dX8_dropRule_9 (by decide) ?_
    refine V_goto (pc := 10) (tgt := 26) F dX8_dropRule_10 (by decide) ?_
    refine V_put (w2 := wX8 cy a (1, v.2)) (pc := 26) F 0 8 0 i_X8 tyX8 tyX8_ok nmX8 rfl (by decide) rfl (mm 1 rfl) rfl dX8_dropRule_26 rfl rfl rfl (Nat.le_of_ble_eq_true rfl) rfl ?_
    refine V_aload_n (pc := 29) F dX8_dropRule_29 rfl 0 rfl ?_
    refine V_get (pc := 30) F 0 8 0 i_X8 rfl (by decide) rfl (mm 1 rfl) dX8_dropRule_30 rfl rfl ?_
    refine V_if_le (pc := 33) (tgt := 38) F dX8_dropRule_33 (by decide) (fun h24 => ?_) (fun h24 => ?_)
    · exact absurd h24 (show ¬ ((1 : Int32) ≤ (0 : Int32)) by decide)
    · refine V_iconst (v := 0) (pc := 36) F dX8_dropRule_36 (by decide) ?_
      obtain rfl := some_of hf
      exact V_ret F rfl rfl dX8_dropRule_37 rfl rfl
