theorem hd_X8_toldDirection : yX8_toldDirection.cls = RX8 ∧ yX8_toldDirection.cls ≠ "java/lang/invoke/MethodHandle" ∧ yX8_toldDirection.cls ≠ "java/lang/invoke/VarHandle" ∧ (parseMethodDescriptor yX8_toldDirection.desc).map (fun d => d.parameters.length) = some 2 := by decide +kernel
def fX8_toldDirection (N : Nat) (v : SX8) (x1 : Int32) (x2 : Int32) : Option (Int32) :=
  if x2 = 0 then
    (fX8_greensNow N v).bind fun r2 =>
      some ((r2 >>> (x1 &&& 31)) &&& 1)
  else
  if x2 = 1 then
    chk ((13 : Int32) + x1) 143 (
      some (v.2.1 ((13 : Int32) + x1).toNatClampNeg)
    )
  else
  if x2 = 2 then
    chk ((7 : Int32) + x1) 143 (
      some (v.2.1 ((7 : Int32) + x1).toNatClampNeg)
    )
  else
  if x2 = 3 then
    chk ((19 : Int32) + x1) 143 (
      some (v.2.1 ((19 : Int32) + x1).toNatClampNeg)
    )
  else
  if x2 = 4 then
    chk ((25 : Int32) + x1) 143 (
      some (v.2.1 ((25 : Int32) + x1).toNatClampNeg)
    )
  else
  (fX8_phasesWith N v x1).bind fun r12 =>
    some r12
set_option maxHeartbeats 8000000 in
set_option maxRecDepth 100000 in
theorem M_X8_toldDirection (l : Launch) (D : va_G) (cy : Nat → ClassId) (N : Nat) (a : Nat → Nat) (v : SX8) (x1 : Int32) (x2 : Int32) (o : Int32) (hf : fX8_toldDirection N v x1 x2 = some o) : okM l yX8_toldDirection wsX8_toldDirection (rmz 4 88) D cy [.ref (a 0), .int x1, .int x2] (wX8 cy a v) (wX8 cy a v) (some (.int o)) := by
  refine okM_of (own := RX8) (nme := "toldDirection") (cc := cX8_toldDirection) (maxL := 3) (ret := (some .int)) (by decide) rfl rfl rfl (Nat.le_of_ble_eq_true rfl) ?_
  intro p e s m args below meth c A F
  have i_X8 : ∀ w ∈ u_ws RX8 TX8 13, w ∈ wsX8_toldDirection := fun _ h => List.mem_cons_of_mem _ (List.mem_append_right _ h)
  unfold fX8_toldDirection at hf
  refine V.eq rfl (show lv_args 0 [.ref (a 0), .int x1, .int x2] = [(0, .ref (a 0)), (1, .int x1), (2, .int x2)] from rfl) rfl ?_
  refine V_iload_n (pc := 0) F dX8_toldDirection_0 rfl 2 rfl ?_
  by_cases h1 : x2 = 0
  · replace hf := ite_pos hf h1
    refine V_tableIn (pc := 1) (tgt := 36) F dX8_toldDirection_1 (by rw [h1]; decide) (by rw [h1]; decide) (by rw [h1]; rfl) (by decide) ?_
    refine V_aload_n (pc := 36) F dX8_toldDirection_36 rfl 0 rfl ?_
    obtain ⟨r2, g3, hf⟩ := bind_of hf
    refine V_V (w2 := wX8 cy a v) (rest := []) (st2 := [.int r2]) (pc := 37) F 8 (M_X8_greensNow l D cy N a v r2 g3) (cwV 0 F.ts gX8_toldDirection_X8_greensNow rfl rfl rfl hd_X8_greensNow ⟨Nat.le_of_ble_eq_true rfl, Nat.le_of_ble_eq_true rfl⟩) rfl dX8_toldDirection_37 Fit.whole rfl rfl rfl (Nat.le_of_ble_eq_true rfl) (Nat.zero_le _) (Nat.zero_le _) rfl rfl rfl ?_
    refine V_iload_n (pc := 40) F dX8_toldDirection_40 rfl 1 rfl ?_
    refine V_ishr (pc := 41) F dX8_toldDirection_41 ?_
    refine V_iconst (v := 1) (pc := 42) F dX8_toldDirection_42 (by decide) ?_
    refine V_iand (pc := 43) F dX8_toldDirection_43 ?_
    obtain rfl := some_of hf
    exact V_ret F rfl rfl dX8_toldDirection_44 rfl rfl
  replace hf := ite_neg hf h1
  by_cases h4 : x2 = 1
  · replace hf := ite_pos hf h4
    refine V_tableIn (pc := 1) (tgt := 45) F dX8_toldDirection_1 (by rw [h4]; decide) (by rw [h4]; decide) (by rw [h4]; rfl) (by decide) ?_
    refine V_aload_n (pc := 45) F dX8_toldDirection_45 rfl 0 rfl ?_
    refine V_get (pc := 46) F 0 8 1 i_X8 rfl (by decide) rfl (mm 1 rfl) dX8_toldDirection_46 rfl rfl ?_
    refine V_bipush (v := 13) (pc := 49) F dX8_toldDirection_49 (by decide) ?_
    refine V_iload_n (pc := 51) F dX8_toldDirection_51 rfl 1 rfl ?_
    refine V_iadd (pc := 52) F dX8_toldDirection_52 ?_
    obtain ⟨c5, hf⟩ := chk_some hf
    refine V_iald (pc := 53) F 1 rfl c5 dX8_toldDirection_53 ?_
    obtain rfl := some_of hf
    exact V_ret F rfl rfl dX8_toldDirection_54 rfl rfl
  replace hf := ite_neg hf h4
  by_cases h6 : x2 = 2
  · replace hf := ite_pos hf h6
    refine V_tableIn (pc := 1) (tgt := 55) F dX8_toldDirection_1 (by rw [h6]; decide) (by rw [h6]; decide) (by rw [h6]; rfl) (by decide) ?_
    refine V_aload_n (pc := 55) F dX8_toldDirection_55 rfl 0 rfl ?_
    refine V_get (pc := 56) F 0 8 1 i_X8 rfl (by decide) rfl (mm 1 rfl) dX8_toldDirection_56 rfl rfl ?_
    refine V_bipush (v := 7) (pc := 59) F dX8_toldDirection_59 (by decide) ?_
    refine V_iload_n (pc := 61) F dX8_toldDirection_61 rfl 1 rfl ?_
    refine V_iadd (pc := 62) F dX8_toldDirection_62 ?_
    obtain ⟨c7, hf⟩ := chk_some hf
    refine V_iald (pc := 63) F 1 rfl c7 dX8_toldDirection_63 ?_
    obtain rfl := some_of hf
    exact V_ret F rfl rfl dX8_toldDirection_64 rfl rfl
  replace hf := ite_neg hf h6
  by_cases h8 : x2 = 3
  · replace hf := ite_pos hf h8
    refine V_tableIn (pc := 1) (tgt := 65) F dX8_toldDirection_1 (by rw [h8]; decide) (by rw [h8]; decide) (by rw [h8]; rfl) (by decide) ?_
    refine V_aload_n (pc := 65) F dX8_toldDirection_65 rfl 0 rfl ?_
    refine V_get (pc := 66) F 0 8 1 i_X8 rfl (by decide) rfl (mm 1 rfl) dX8_toldDirection_66 rfl rfl ?_
    refine V_bipush (v := 19) (pc := 69) F dX8_toldDirection_69 (by decide) ?_
    refine V_iload_n (pc := 71) F dX8_toldDirection_71 rfl 1 rfl ?_
    refine V_iadd (pc := 72) F dX8_toldDirection_72 ?_
    obtain ⟨c9, hf⟩ := chk_some hf
    refine V_iald (pc := 73) F 1 rfl c9 dX8_toldDirection_73 ?_
    obtain rfl := some_of hf
    exact V_ret F rfl rfl dX8_toldDirection_74 rfl rfl
  replace hf := ite_neg hf h8
  by_cases h10 : x2 = 4
  · replace hf := ite_pos hf h10
    refine V_tableIn (pc := 1) (tgt := 75) F dX8_toldDirection_1 (by rw [h10]; decide) (by rw [h10]; decide) (by rw [h10]; rfl) (by decide) ?_
    refine V_aload_n (pc := 75) F dX8_toldDirection_75 rfl 0 rfl ?_
    refine V_get (pc := 76) F 0 8 1 i_X8 rfl (by decide) rfl (mm 1 rfl) dX8_toldDirection_76 rfl rfl ?_
    refine V_bipush (v := 25) (pc := 79) F dX8_toldDirection_79 (by decide) ?_
    refine V_iload_n (pc := 81) F dX8_toldDirection_81 rfl 1 rfl ?_
    refine V_iadd (pc := 82) F dX8_toldDirection_82 ?_
    obtain ⟨c11, hf⟩ := chk_some hf
    refine V_iald (pc := 83) F 1 rfl c11 dX8_toldDirection_83 ?_
    obtain rfl := some_of hf
    exact V_ret F rfl rfl dX8_toldDirection_84 rfl rfl
  replace hf := ite_neg hf h10
  refine V_tableOut (pc := 1) (tgt := 85) F dX8_toldDirection_1 (by have q0 := lv_neT h1 (a := 0) rfl; have q1 := lv_neT h4 (a := 1) rfl; have q2 := lv_neT h6 (a := 2) rfl; have q3 := lv_neT h8 (a := 3) rfl; have q4 := lv_neT h10 (a := 4) rfl; omega) (by decide) ?_
  refine V_aload_n (pc := 85) F dX8_toldDirection_85 rfl 0 rfl ?_
  refine V_iload_n (pc := 86) F dX8_toldDirection_86 rfl 1 rfl ?_
  obtain ⟨r12, g13, hf⟩ := bind_of hf
  refine V_V (w2 := wX8 cy a v) (rest := []) (st2 := [.int r12]) (pc := 87) F 8 (M_X8_phasesWith l D cy N a v x1 r12 g13) (cwV 1 F.ts gX8_toldDirection_X8_phasesWith rfl rfl rfl hd_X8_phasesWith ⟨Nat.le_of_ble_eq_true rfl, Nat.le_of_ble_eq_true rfl⟩) rfl dX8_toldDirection_87 Fit.whole rfl rfl rfl (Nat.le_of_ble_eq_true rfl) (Nat.zero_le _) (Nat.zero_le _) rfl rfl rfl ?_
  obtain rfl := some_of hf
  exact V_ret F rfl rfl dX8_toldDirection_90 rfl rfl
