theorem hd_X8_change : yX8_change.cls = RX8 ∧ yX8_change.cls ≠ "java/lang/invoke/MethodHandle" ∧ yX8_change.cls ≠ "java/lang/invoke/VarHandle" ∧ (parseMethodDescriptor yX8_change.desc).map (fun d => d.parameters.length) = some 3 := by decide +kernel
def fX8_change (N : Nat) (v : SX8) (x1 : Int32) (x2 : Int32) (x3 : Int32) : Option (Int32 × SX8) :=
  (fX8_isPhase N v x1).bind fun r1 =>
    if r1 = 0 then
      some (0, (1, v.2))
    else
      (fX8_in N x2 0 63).bind fun r4 =>
        if r4 = 0 then
          some (0, (2, v.2))
        else
          (fX8_in N x3 1 9).bind fun r8 =>
            if r8 = 0 then
              some (0, (2, v.2))
            else
              (fX8_save N (0, v.2)).bind fun r13 =>
                (fX8_greens N r13 x1).bind fun r15 =>
                  chk (((31 : Int32) + ((14 : Int32) * x1)) + 0) 143 (
                    nmd (upd r13.2.1 (((31 : Int32) + ((14 : Int32) * x1)) + 0).toNatClampNeg x2) fun f18 =>
                    chk (((31 : Int32) + ((14 : Int32) * x1)) + 1) 143 (
                      nmd (upd f18 (((31 : Int32) + ((14 : Int32) * x1)) + 1).toNatClampNeg x3) fun f21 =>
                      some (r15, (r13.1, f21, r13.2.2))
                    )
                  )
set_option maxHeartbeats 8000000 in
set_option maxRecDepth 100000 in
theorem M_X8_change (l : Launch) (D : va_G) (cy : Nat → ClassId) (N : Nat) (a : Nat → Nat) (v : SX8) (x1 : Int32) (x2 : Int32) (x3 : Int32) (o : Int32 × SX8) (hf : fX8_change N v x1 x2 x3 = some o) : okM l yX8_change wsX8_change (rmz 2 43) D cy [.ref (a 0), .int x1, .int x2, .int x3] (wX8 cy a v) (wX8 cy a o.2) (some (.int o.1)) := by
  refine okM_of (own := RX8) (nme := "change") (cc := cX8_change) (maxL := 5) (ret := (some .int)) (by decide) rfl rfl rfl (Nat.le_of_ble_eq_true rfl) ?_
  intro p e s m args below meth c A F
  have i_X8 : ∀ w ∈ u_ws RX8 TX8 13, w ∈ wsX8_change := fun _ h => List.mem_cons_of_mem _ (List.mem_append_right _ h)
  unfold fX8_change at hf
  refine V.eq rfl (show lv_args 0 [.ref (a 0), .int x1, .int x2, .int x3] = [(0, .ref (a 0)), (1, .int x1), (2, .int x2), (3, .int x3)] from rfl) rfl ?_
  refine V_aload_n (pc := 0) F dX8_change_0 rfl 0 rfl ?_
  refine V_aload_n (pc := 1) F dX8_change_1 rfl 0 rfl ?_
  refine V_iload_n (pc := 2) F dX8_change_2 rfl 1 rfl ?_
  obtain ⟨r1, g2, hf⟩ := bind_of hf
  refine V_V (w2 := wX8 cy a v) (rest := [.ref (a 0)]) (st2 := [.int r1, .ref (a 0)]) (pc := 3) F 8 (M_X8_isPhase l D cy N a v x1 r1 g2) (cwV 1 F.ts gX8_change_X8_isPhase rfl rfl rfl hd_X8_isPhase ⟨Nat.le_of_ble_eq_true rfl, Nat.le_of_ble_eq_true rfl⟩) rfl dX8_change_3 Fit.whole rfl rfl rfl (Nat.le_of_ble_eq_true rfl) (Nat.zero_le _) (Nat.zero_le _) rfl rfl rfl ?_
  refine V_if_ne (pc := 6) (tgt := 13) F dX8_change_6 (by decide) (fun h3 => ?_) (fun h3 => ?_)
  · replace hf := ite_neg hf h3
    refine V_iload_n (pc := 13) F dX8_change_13 rfl 2 rfl ?_
    refine V_iconst (v := 0) (pc := 14) F dX8_change_14 (by decide) ?_
    refine V_bipush (v := 63) (pc := 15) F dX8_change_15 (by decide) ?_
    obtain ⟨r4, g5, hf⟩ := bind_of hf
    refine V_Sc (rest := [.ref (a 0)]) (st2 := [.int r4, .ref (a 0)]) (pc := 17) F (M_X8_in l D cy N x2 0 63 r4 g5) (va_cwS 3 F.ts gX8_change_X8_in rfl rfl rfl hd_X8_in ⟨Nat.le_of_ble_eq_true rfl, Nat.le_of_ble_eq_true rfl⟩) rfl dX8_change_17 (Nat.le_of_ble_eq_true rfl) (Nat.zero_le _) (Nat.zero_le _) rfl rfl ?_
    refine V_if_eq (pc := 20) (tgt := 37) F dX8_change_20 (by decide) (fun h6 => ?_) (fun h6 => ?_)
    · replace hf := ite_pos hf h6
      refine V_iconst (v := 2) (pc := 37) F dX8_change_37 (by decide) ?_
      refine V_put (w2 := wX8 cy a (2, v.2)) (pc := 38) F 0 8 0 i_X8 tyX8 tyX8_ok nmX8 rfl (by decide) rfl (mm 1 rfl) rfl dX8_change_38 rfl rfl rfl (Nat.le_of_ble_eq_true rfl) rfl ?_
      refine V_aload_n (pc := 41) F dX8_change_41 rfl 0 rfl ?_
      refine V_get (pc := 42) F 0 8 0 i_X8 rfl (by decide) rfl (mm 1 rfl) dX8_change_42 rfl rfl ?_
      refine V_if_le (pc := 45) (tgt := 50) F dX8_change_45 (by decide) (fun h7 => ?_) (fun h7 => ?_)
      · exact absurd h7 (show ¬ ((2 : Int32) ≤ (0 : Int32)) by decide)
      · refine V_iconst (v := 0) (pc := 48) F dX8_change_48 (by decide) ?_
        obtain rfl := some_of hf
        exact V_ret F rfl rfl dX8_change_49 rfl rfl
    · replace hf := ite_neg hf h6
      refine V_iload_n (pc := 23) F dX8_change_23 rfl 3 rfl ?_
      refine V_iconst (v := 1) (pc := 24) F dX8_change_24 (by decide) ?_
      refine V_bipush (v := 9) (pc := 25) F dX8_change_25 (by decide) ?_
      obtain ⟨r8, g9, hf⟩ := bind_of hf
      refine V_Sc (rest := [.ref (a 0)]) (st2 := [.int r8, .ref (a 0)]) (pc := 27) F (M_X8_in l D cy N x3 1 9 r8 g9) (va_cwS 3 F.ts gX8_change_X8_in rfl rfl rfl hd_X8_in ⟨Nat.le_of_ble_eq_true rfl, Nat.le_of_ble_eq_true rfl⟩) rfl dX8_change_27 (Nat.le_of_ble_eq_true rfl) (Nat.zero_le _) (Nat.zero_le _) rfl rfl ?_
      refine V_if_eq (pc := 30) (tgt := 37) F dX8_change_30 (by decide) (fun h10 => ?_) (fun h10 => ?_)
      · replace hf := ite_pos hf h10
        refine V_iconst (v := 2) (pc := 37) F dX8_change_37 (by decide) ?_
        refine V_put (w2 := wX8 cy a (2, v.2)) (pc := 38) F 0 8 0 i_X8 tyX8 tyX8_ok nmX8 rfl (by decide) rfl (mm 1 rfl) rfl dX8_change_38 rfl rfl rfl (Nat.le_of_ble_eq_true rfl) rfl ?_
        refine V_aload_n (pc := 41) F dX8_change_41 rfl 0 rfl ?_
        refine V_get (pc := 42) F 0 8 0 i_X8 rfl (by decide) rfl (mm 1 rfl) dX8_change_42 rfl rfl ?_
        refine V_if_le (pc := 45) (tgt := 50) F dX8_change_45 (by decide) (fun h11 => ?_) (fun h11 => ?_)
        · exact absurd h11 (show ¬ ((2 : Int32) ≤ (0 : Int32)) by decide)
        · refine V_iconst (v := 0) (pc := 48) F dX8_change_48 (by decide) ?_
          obtain rfl := some_of hf
          exact V_ret F rfl rfl dX8_change_49 rfl rfl
      · replace hf := ite_neg hf h10
        refine V_iconst (v := 0) (pc := 33) F dX8_change_33 (by decide) ?_
        refine V_goto (pc := 34) (tgt := 38) F dX8_change_34 (by decide) ?_
        refine V_put (w2 := wX8 cy a (0, v.2)) (pc := 38) F 0 8 0 i_X8 tyX8 tyX8_ok nmX8 rfl (by decide) rfl (mm 1 rfl) rfl dX8_change_38 rfl rfl rfl (Nat.le_of_ble_eq_true rfl) rfl ?_
        refine V_aload_n (pc := 41) F dX8_change_41 rfl 0 rfl ?_
        refine V_get (pc := 42) F 0 8 0 i_X8 rfl (by decide) rfl (mm 1 rfl) dX8_change_42 rfl rfl ?_
        refine V_if_le (pc := 45) (tgt := 50) F dX8_change_45 (by decide) (fun h12 => ?_) (fun h12 => ?_)
        · refine V_aload_n (pc := 50) F dX8_change_50 rfl 0 rfl ?_
          obtain ⟨r13, g14, hf⟩ := bind_of hf
          refine V_V (w2 := wX8 cy a r13) (rest := []) (st2 := []) (pc := 51) F 8 (M_X8_save l D cy N a (0, v.2) r13 g14) (cwV 0 F.ts gX8_change_X8_save rfl rfl rfl hd_X8_save ⟨Nat.le_of_ble_eq_true rfl, Nat.le_of_ble_eq_true rfl⟩) rfl dX8_change_51 Fit.whole fstX8 rfl rfl (Nat.le_of_ble_eq_true rfl) (Nat.zero_le _) (Nat.zero_le _) rfl rfl rfl ?_
          refine V_aload_n (pc := 54) F dX8_change_54 rfl 0 rfl ?_
          refine V_iload_n (pc := 55) F dX8_change_55 rfl 1 rfl ?_
          obtain ⟨r15, g16, hf⟩ := bind_of hf
          refine V_V (w2 := wX8 cy a r13) (rest := []) (st2 := [.int r15]) (pc := 56) F 8 (M_X8_greens l D cy N a r13 x1 r15 g16) (cwV 1 F.ts gX8_change_X8_greens rfl rfl rfl hd_X8_greens ⟨Nat.le_of_ble_eq_true rfl, Nat.le_of_ble_eq_true rfl⟩) rfl dX8_change_56 Fit.whole rfl rfl rfl (Nat.le_of_ble_eq_true rfl) (Nat.zero_le _) (Nat.zero_le _) rfl rfl rfl ?_
          refine V_istore (L2 := [(4, .int r15), (0, .ref (a 0)), (1, .int x1), (2, .int x2), (3, .int x3)]) (pc := 59) F dX8_change_59 (by decide) rfl ?_
          refine V_aload_n (pc := 61) F dX8_change_61 rfl 1 rfl ?_
          refine V_get (pc := 62) F 0 8 1 i_X8 rfl (by decide) rfl (mm 2 rfl) dX8_change_62 rfl rfl ?_
          refine V_bipush (v := 31) (pc := 65) F dX8_change_65 (by decide) ?_
          refine V_bipush (v := 14) (pc := 67) F dX8_change_67 (by decide) ?_
          refine V_iload_n (pc := 69) F dX8_change_69 rfl 2 rfl ?_
          refine V_imul (pc := 70) F dX8_change_70 ?_
          refine V_iadd (pc := 71) F dX8_change_71 ?_
          refine V_iconst (v := 0) (pc := 72) F dX8_change_72 (by decide) ?_
          refine V_iadd (pc := 73) F dX8_change_73 ?_
          refine V_iload_n (pc := 74) F dX8_change_74 rfl 3 rfl ?_
          obtain ⟨c17, hf⟩ := chk_some hf
          obtain ⟨f18, e19, hf⟩ := nmd_of hf
          refine V_iast (w2 := wX8 cy a (r13.1, f18, r13.2.2)) (pc := 75) F 1 rfl c17 e19 dX8_change_75 rfl ?_
          refine V_aload_n (pc := 76) F dX8_change_76 rfl 1 rfl ?_
          refine V_get (pc := 77) F 0 8 1 i_X8 rfl (by decide) rfl (mm 2 rfl) dX8_change_77 rfl rfl ?_
          refine V_bipush (v := 31) (pc := 80) F dX8_change_80 (by decide) ?_
          refine V_bipush (v := 14) (pc := 82) F dX8_change_82 (by decide) ?_
          refine V_iload_n (pc := 84) F dX8_change_84 rfl 2 rfl ?_
          refine V_imul (pc := 85) F dX8_change_85 ?_
          refine V_iadd (pc := 86) F dX8_change_86 ?_
          refine V_iconst (v := 1) (pc := 87) F dX8_change_87 (by decide) ?_
          refine V_iadd (pc := 88) F dX8_change_88 ?_
          refine V_iload_n (pc := 89) F dX8_change_89 rfl 4 rfl ?_
          obtain ⟨c20, hf⟩ := chk_some hf
          obtain ⟨f21, e22, hf⟩ := nmd_of hf
          refine V_iast (w2 := wX8 cy a (r13.1, f21, r13.2.2)) (pc := 90) F 1 rfl c20 e22 dX8_change_90 rfl ?_
          refine V_iload (pc := 91) F dX8_change_91 0 rfl ?_
          obtain rfl := some_of hf
          exact V_ret F rfl rfl dX8_change_93 rfl rfl
        · exact absurd h12 (show ¬ (¬ ((0 : Int32) ≤ (0 : Int32))) by decide)
  · replace hf := ite_pos hf h3
    refine V_iconst (v := 1) (pc := 9) F dX8_change_9 (by decide) ?_
    refine V_goto (pc := 10) (tgt := 38) F dX8_change_10 (by decide) ?_
    refine V_put (w2 := wX8 cy a (1, v.2)) (pc := 38) F 0 8 0 i_X8 tyX8 tyX8_ok nmX8 rfl (by decide) rfl (mm 1 rfl) rfl dX8_change_38 rfl rfl rfl (Nat.le_of_ble_eq_true rfl) rfl ?_
    refine V_aload_n (pc := 41) F dX8_change_41 rfl 0 rfl ?_
    refine V_get (pc := 42) F 0 8 0 i_X8 rfl (by decide) rfl (mm 1 rfl) dX8_change_42 rfl rfl ?_
    refine V_if_le (pc := 45) (tgt := 50) F dX8_change_45 (by decide) (fun h23 => ?_) (fun h23 => ?_)
    · exact absurd h23 (show ¬ ((1 : Int32) ≤ (0 : Int32)) by decide)
    · refine V_iconst (v := 0) (pc := 48) F dX8_change_48 (by decide) ?_
      obtain rfl := some_of hf
      exact V_ret F rfl rfl dX8_change_49 rfl rfl
