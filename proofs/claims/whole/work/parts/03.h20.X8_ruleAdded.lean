theorem hd_X8_ruleAdded : yX8_ruleAdded.cls = RX8 ∧ yX8_ruleAdded.cls ≠ "java/lang/invoke/MethodHandle" ∧ yX8_ruleAdded.cls ≠ "java/lang/invoke/VarHandle" ∧ (parseMethodDescriptor yX8_ruleAdded.desc).map (fun d => d.parameters.length) = some 3 := by decide +kernel
def fX8_ruleAdded (N : Nat) (v : SX8) (x1 : Int32) (x2 : Int32) (x3 : Int32) : Option (Int32 × SX8) :=
  (fX8_rules N v x1).bind fun r1 =>
    chk ((((31 : Int32) + ((14 : Int32) * x1)) + 4) + ((2 : Int32) * r1)) 143 (
      nmd (upd v.2.1 ((((31 : Int32) + ((14 : Int32) * x1)) + 4) + ((2 : Int32) * r1)).toNatClampNeg x2) fun f4 =>
      (fX8_rules N (v.1, f4, v.2.2) x1).bind fun r6 =>
        chk (((((31 : Int32) + ((14 : Int32) * x1)) + 4) + ((2 : Int32) * r6)) + 1) 143 (
          nmd (upd f4 (((((31 : Int32) + ((14 : Int32) * x1)) + 4) + ((2 : Int32) * r6)) + 1).toNatClampNeg x3) fun f9 =>
          chk (((31 : Int32) + ((14 : Int32) * x1)) + 3) 143 (
            chk (((31 : Int32) + ((14 : Int32) * x1)) + 3) 143 (
              nmd (upd f9 (((31 : Int32) + ((14 : Int32) * x1)) + 3).toNatClampNeg ((f9 (((31 : Int32) + ((14 : Int32) * x1)) + 3).toNatClampNeg) + 1)) fun f13 =>
              (fX8_rules N (v.1, f13, v.2.2) x1).bind fun r15 =>
                some (r15, (v.1, f13, v.2.2))
            )
          )
        )
    )
set_option maxHeartbeats 8000000 in
set_option maxRecDepth 100000 in
theorem M_X8_ruleAdded (l : Launch) (D : va_G) (cy : Nat → ClassId) (N : Nat) (a : Nat → Nat) (v : SX8) (x1 : Int32) (x2 : Int32) (x3 : Int32) (o : Int32 × SX8) (hf : fX8_ruleAdded N v x1 x2 x3 = some o) : okM l yX8_ruleAdded wsX8_ruleAdded (rmz 2 43) D cy [.ref (a 0), .int x1, .int x2, .int x3] (wX8 cy a v) (wX8 cy a o.2) (some (.int o.1)) := by
  refine okM_of (own := RX8) (nme := "ruleAdded") (cc := cX8_ruleAdded) (maxL := 5) (ret := (some .int)) (by decide) rfl rfl rfl (Nat.le_of_ble_eq_true rfl) ?_
  intro p e s m args below meth c A F
  have i_X8 : ∀ w ∈ u_ws RX8 TX8 13, w ∈ wsX8_ruleAdded := fun _ h => List.mem_cons_of_mem _ (List.mem_append_right _ h)
  unfold fX8_ruleAdded at hf
  refine V.eq rfl (show lv_args 0 [.ref (a 0), .int x1, .int x2, .int x3] = [(0, .ref (a 0)), (1, .int x1), (2, .int x2), (3, .int x3)] from rfl) rfl ?_
  refine V_bipush (v := 31) (pc := 0) F dX8_ruleAdded_0 (by decide) ?_
  refine V_bipush (v := 14) (pc := 2) F dX8_ruleAdded_2 (by decide) ?_
  refine V_iload_n (pc := 4) F dX8_ruleAdded_4 rfl 1 rfl ?_
  refine V_imul (pc := 5) F dX8_ruleAdded_5 ?_
  refine V_iadd (pc := 6) F dX8_ruleAdded_6 ?_
  refine V_istore (L2 := [(4, .int ((31 : Int32) + ((14 : Int32) * x1))), (0, .ref (a 0)), (1, .int x1), (2, .int x2), (3, .int x3)]) (pc := 7) F dX8_ruleAdded_7 (by decide) rfl ?_
  refine V_aload_n (pc := 9) F dX8_ruleAdded_9 rfl 1 rfl ?_
  refine V_get (pc := 10) F 0 8 1 i_X8 rfl (by decide) rfl (mm 1 rfl) dX8_ruleAdded_10 rfl rfl ?_
  refine V_iload (pc := 13) F dX8_ruleAdded_13 0 rfl ?_
  refine V_iconst (v := 4) (pc := 15) F dX8_ruleAdded_15 (by decide) ?_
  refine V_iadd (pc := 16) F dX8_ruleAdded_16 ?_
  refine V_iconst (v := 2) (pc := 17) F dX8_ruleAdded_17 (by decide) ?_
  refine V_aload_n (pc := 18) F dX8_ruleAdded_18 rfl 1 rfl ?_
  refine V_iload_n (pc := 19) F dX8_ruleAdded_19 rfl 2 rfl ?_
  obtain ⟨r1, g2, hf⟩ := bind_of hf
  refine V_V (w2 := wX8 cy a v) (rest := [.int 2, .int (((31 : Int32) + ((14 : Int32) * x1)) + 4), .ref (a 1)]) (st2 := [.int r1, .int 2, .int (((31 : Int32) + ((14 : Int32) * x1)) + 4), .ref (a 1)]) (pc := 20) F 8 (M_X8_rules l D cy N a v x1 r1 g2) (cwV 1 F.ts gX8_ruleAdded_X8_rules rfl rfl rfl hd_X8_rules ⟨Nat.le_of_ble_eq_true rfl, Nat.le_of_ble_eq_true rfl⟩) rfl dX8_ruleAdded_20 Fit.whole rfl rfl rfl (Nat.le_of_ble_eq_true rfl) (Nat.zero_le _) (Nat.zero_le _) rfl rfl rfl ?_
  refine V_imul (pc := 23) F dX8_ruleAdded_23 ?_
  refine V_iadd (pc := 24) F dX8_ruleAdded_24 ?_
  refine V_iload_n (pc := 25) F dX8_ruleAdded_25 rfl 3 rfl ?_
  obtain ⟨c3, hf⟩ := chk_some hf
  obtain ⟨f4, e5, hf⟩ := nmd_of hf
  refine V_iast (w2 := wX8 cy a (v.1, f4, v.2.2)) (pc := 26) F 1 rfl c3 e5 dX8_ruleAdded_26 rfl ?_
  refine V_aload_n (pc := 27) F dX8_ruleAdded_27 rfl 1 rfl ?_
  refine V_get (pc := 28) F 0 8 1 i_X8 rfl (by decide) rfl (mm 1 rfl) dX8_ruleAdded_28 rfl rfl ?_
  refine V_iload (pc := 31) F dX8_ruleAdded_31 0 rfl ?_
  refine V_iconst (v := 4) (pc := 33) F dX8_ruleAdded_33 (by decide) ?_
  refine V_iadd (pc := 34) F dX8_ruleAdded_34 ?_
  refine V_iconst (v := 2) (pc := 35) F dX8_ruleAdded_35 (by decide) ?_
  refine V_aload_n (pc := 36) F dX8_ruleAdded_36 rfl 1 rfl ?_
  refine V_iload_n (pc := 37) F dX8_ruleAdded_37 rfl 2 rfl ?_
  obtain ⟨r6, g7, hf⟩ := bind_of hf
  refine V_V (w2 := wX8 cy a (v.1, f4, v.2.2)) (rest := [.int 2, .int (((31 : Int32) + ((14 : Int32) * x1)) + 4), .ref (a 1)]) (st2 := [.int r6, .int 2, .int (((31 : Int32) + ((14 : Int32) * x1)) + 4), .ref (a 1)]) (pc := 38) F 8 (M_X8_rules l D cy N a (v.1, f4, v.2.2) x1 r6 g7) (cwV 1 F.ts gX8_ruleAdded_X8_rules rfl rfl rfl hd_X8_rules ⟨Nat.le_of_ble_eq_true rfl, Nat.le_of_ble_eq_true rfl⟩) rfl dX8_ruleAdded_38 Fit.whole rfl rfl rfl (Nat.le_of_ble_eq_true rfl) (Nat.zero_le _) (Nat.zero_le _) rfl rfl rfl ?_
  refine V_imul (pc := 41) F dX8_ruleAdded_41 ?_
  refine V_iadd (pc := 42) F dX8_ruleAdded_42 ?_
  refine V_iconst (v := 1) (pc := 43) F dX8_ruleAdded_43 (by decide) ?_
  refine V_iadd (pc := 44) F dX8_ruleAdded_44 ?_
  refine V_iload_n (pc := 45) F dX8_ruleAdded_45 rfl 4 rfl ?_
  obtain ⟨c8, hf⟩ := chk_some hf
  obtain ⟨f9, e10, hf⟩ := nmd_of hf
  refine V_iast (w2 := wX8 cy a (v.1, f9, v.2.2)) (pc := 46) F 1 rfl c8 e10 dX8_ruleAdded_46 rfl ?_
  refine V_aload_n (pc := 47) F dX8_ruleAdded_47 rfl 1 rfl ?_
  refine V_get (pc := 48) F 0 8 1 i_X8 rfl (by decide) rfl (mm 1 rfl) dX8_ruleAdded_48 rfl rfl ?_
  refine V_iload (pc := 51) F dX8_ruleAdded_51 0 rfl ?_
  refine V_iconst (v := 3) (pc := 53) F dX8_ruleAdded_53 (by decide) ?_
  refine V_iadd (pc := 54) F dX8_ruleAdded_54 ?_
  refine V_dup2_11 (pc := 55) F dX8_ruleAdded_55 rfl rfl ?_
  obtain ⟨c11, hf⟩ := chk_some hf
  refine V_iald (pc := 56) F 1 rfl c11 dX8_ruleAdded_56 ?_
  refine V_iconst (v := 1) (pc := 57) F dX8_ruleAdded_57 (by decide) ?_
  refine V_iadd (pc := 58) F dX8_ruleAdded_58 ?_
  obtain ⟨c12, hf⟩ := chk_some hf
  obtain ⟨f13, e14, hf⟩ := nmd_of hf
  refine V_iast (w2 := wX8 cy a (v.1, f13, v.2.2)) (pc := 59) F 1 rfl c12 e14 dX8_ruleAdded_59 rfl ?_
  refine V_aload_n (pc := 60) F dX8_ruleAdded_60 rfl 1 rfl ?_
  refine V_iload_n (pc := 61) F dX8_ruleAdded_61 rfl 2 rfl ?_
  obtain ⟨r15, g16, hf⟩ := bind_of hf
  refine V_V (w2 := wX8 cy a (v.1, f13, v.2.2)) (rest := []) (st2 := [.int r15]) (pc := 62) F 8 (M_X8_rules l D cy N a (v.1, f13, v.2.2) x1 r15 g16) (cwV 1 F.ts gX8_ruleAdded_X8_rules rfl rfl rfl hd_X8_rules ⟨Nat.le_of_ble_eq_true rfl, Nat.le_of_ble_eq_true rfl⟩) rfl dX8_ruleAdded_62 Fit.whole rfl rfl rfl (Nat.le_of_ble_eq_true rfl) (Nat.zero_le _) (Nat.zero_le _) rfl rfl rfl ?_
  obtain rfl := some_of hf
  exact V_ret F rfl rfl dX8_ruleAdded_65 rfl rfl
