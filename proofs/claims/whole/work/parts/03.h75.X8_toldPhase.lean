theorem hd_X8_toldPhase : yX8_toldPhase.cls = RX8 ∧ yX8_toldPhase.cls ≠ "java/lang/invoke/MethodHandle" ∧ yX8_toldPhase.cls ≠ "java/lang/invoke/VarHandle" ∧ (parseMethodDescriptor yX8_toldPhase.desc).map (fun d => d.parameters.length) = some 2 := by decide +kernel
def fX8_toldPhase (N : Nat) (v : SX8) (x1 : Int32) (x2 : Int32) : Option (Int32) :=
  if x2 = 0 then
    (fX8_greens N v x1).bind fun r2 =>
      some r2
  else
  if x2 = 1 then
    (fX8_of N v x1 1).bind fun r5 =>
      some r5
  else
  if x2 = 2 then
    (fX8_rules N v x1).bind fun r8 =>
      some r8
  else
  if x2 = 3 then
    (fX8_doesClash N v x1).bind fun r11 =>
      if r11 = 0 then
        some 0
      else
        some 1
  else
  if x2 = 4 then
    (fX8_comers N v).bind fun r15 =>
      some ((r15 >>> (x1 &&& 31)) &&& 1)
  else
  (fX8_of N v x1 2).bind fun r17 =>
    some r17
set_option maxHeartbeats 8000000 in
set_option maxRecDepth 100000 in
theorem M_X8_toldPhase (l : Launch) (D : va_G) (cy : Nat → ClassId) (N : Nat) (a : Nat → Nat) (v : SX8) (x1 : Int32) (x2 : Int32) (o : Int32) (hf : fX8_toldPhase N v x1 x2 = some o) : okM l yX8_toldPhase wsX8_toldPhase (rmz 4 88) D cy [.ref (a 0), .int x1, .int x2] (wX8 cy a v) (wX8 cy a v) (some (.int o)) := by
  refine okM_of (own := RX8) (nme := "toldPhase") (cc := cX8_toldPhase) (maxL := 3) (ret := (some .int)) (by decide) rfl rfl rfl (Nat.le_of_ble_eq_true rfl) ?_
  intro p e s m args below meth c A F
  unfold fX8_toldPhase at hf
  refine V.eq rfl (show lv_args 0 [.ref (a 0), .int x1, .int x2] = [(0, .ref (a 0)), (1, .int x1), (2, .int x2)] from rfl) rfl ?_
  refine V_iload_n (pc := 0) F dX8_toldPhase_0 rfl 2 rfl ?_
  by_cases h1 : x2 = 0
  · replace hf := ite_pos hf h1
    refine V_tableIn (pc := 1) (tgt := 36) F dX8_toldPhase_1 (by rw [h1]; decide) (by rw [h1]; decide) (by rw [h1]; rfl) (by decide) ?_
    refine V_aload_n (pc := 36) F dX8_toldPhase_36 rfl 0 rfl ?_
    refine V_iload_n (pc := 37) F dX8_toldPhase_37 rfl 1 rfl ?_
    obtain ⟨r2, g3, hf⟩ := bind_of hf
    refine V_V (w2 := wX8 cy a v) (rest := []) (st2 := [.int r2]) (pc := 38) F 8 (M_X8_greens l D cy N a v x1 r2 g3) (cwV 1 F.ts gX8_toldPhase_X8_greens rfl rfl rfl hd_X8_greens ⟨Nat.le_of_ble_eq_true rfl, Nat.le_of_ble_eq_true rfl⟩) rfl dX8_toldPhase_38 Fit.whole rfl rfl rfl (Nat.le_of_ble_eq_true rfl) (Nat.zero_le _) (Nat.zero_le _) rfl rfl rfl ?_
    obtain rfl := some_of hf
    exact V_ret F rfl rfl dX8_toldPhase_41 rfl rfl
  replace hf := ite_neg hf h1
  by_cases h4 : x2 = 1
  · replace hf := ite_pos hf h4
    refine V_tableIn (pc := 1) (tgt := 42) F dX8_toldPhase_1 (by rw [h4]; decide) (by rw [h4]; decide) (by rw [h4]; rfl) (by decide) ?_
    refine V_aload_n (pc := 42) F dX8_toldPhase_42 rfl 0 rfl ?_
    refine V_iload_n (pc := 43) F dX8_toldPhase_43 rfl 1 rfl ?_
    refine V_iconst (v := 1) (pc := 44) F dX8_toldPhase_44 (by decide) ?_
    obtain ⟨r5, g6, hf⟩ := bind_of hf
    refine V_V (w2 := wX8 cy a v) (rest := []) (st2 := [.int r5]) (pc := 45) F 8 (M_X8_of l D cy N a v x1 1 r5 g6) (cwV 2 F.ts gX8_toldPhase_X8_of rfl rfl rfl hd_X8_of ⟨Nat.le_of_ble_eq_true rfl, Nat.le_of_ble_eq_true rfl⟩) rfl dX8_toldPhase_45 Fit.whole rfl rfl rfl (Nat.le_of_ble_eq_true rfl) (Nat.zero_le _) (Nat.zero_le _) rfl rfl rfl ?_
    obtain rfl := some_of hf
    exact V_ret F rfl rfl dX8_toldPhase_48 rfl rfl
  replace hf := ite_neg hf h4
  by_cases h7 : x2 = 2
  · replace hf := ite_pos hf h7
    refine V_tableIn (pc := 1) (tgt := 49) F dX8_toldPhase_1 (by rw [h7]; decide) (by rw [h7]; decide) (by rw [h7]; rfl) (by decide) ?_
    refine V_aload_n (pc := 49) F dX8_toldPhase_49 rfl 0 rfl ?_
    refine V_iload_n (pc := 50) F dX8_toldPhase_50 rfl 1 rfl ?_
    obtain ⟨r8, g9, hf⟩ := bind_of hf
    refine V_V (w2 := wX8 cy a v) (rest := []) (st2 := [.int r8]) (pc := 51) F 8 (M_X8_rules l D cy N a v x1 r8 g9) (cwV 1 F.ts gX8_toldPhase_X8_rules rfl rfl rfl hd_X8_rules ⟨Nat.le_of_ble_eq_true rfl, Nat.le_of_ble_eq_true rfl⟩) rfl dX8_toldPhase_51 Fit.whole rfl rfl rfl (Nat.le_of_ble_eq_true rfl) (Nat.zero_le _) (Nat.zero_le _) rfl rfl rfl ?_
    obtain rfl := some_of hf
    exact V_ret F rfl rfl dX8_toldPhase_54 rfl rfl
  replace hf := ite_neg hf h7
  by_cases h10 : x2 = 3
  · replace hf := ite_pos hf h10
    refine V_tableIn (pc := 1) (tgt := 55) F dX8_toldPhase_1 (by rw [h10]; decide) (by rw [h10]; decide) (by rw [h10]; rfl) (by decide) ?_
    refine V_aload_n (pc := 55) F dX8_toldPhase_55 rfl 0 rfl ?_
    refine V_iload_n (pc := 56) F dX8_toldPhase_56 rfl 1 rfl ?_
    obtain ⟨r11, g12, hf⟩ := bind_of hf
    refine V_V (w2 := wX8 cy a v) (rest := []) (st2 := [.int r11]) (pc := 57) F 8 (M_X8_doesClash l D cy N a v x1 r11 g12) (cwV 1 F.ts gX8_toldPhase_X8_doesClash rfl rfl rfl hd_X8_doesClash ⟨Nat.le_of_ble_eq_true rfl, Nat.le_of_ble_eq_true rfl⟩) rfl dX8_toldPhase_57 Fit.whole rfl rfl rfl (Nat.le_of_ble_eq_true rfl) (Nat.zero_le _) (Nat.zero_le _) rfl rfl rfl ?_
    refine V_if_eq (pc := 60) (tgt := 67) F dX8_toldPhase_60 (by decide) (fun h13 => ?_) (fun h13 => ?_)
    · replace hf := ite_pos hf h13
      refine V_iconst (v := 0) (pc := 67) F dX8_toldPhase_67 (by decide) ?_
      obtain rfl := some_of hf
      exact V_ret F rfl rfl dX8_toldPhase_68 rfl rfl
    · replace hf := ite_neg hf h13
      refine V_iconst (v := 1) (pc := 63) F dX8_toldPhase_63 (by decide) ?_
      refine V_goto (pc := 64) (tgt := 68) F dX8_toldPhase_64 (by decide) ?_
      obtain rfl := some_of hf
      exact V_ret F rfl rfl dX8_toldPhase_68 rfl rfl
  replace hf := ite_neg hf h10
  by_cases h14 : x2 = 4
  · replace hf := ite_pos hf h14
    refine V_tableIn (pc := 1) (tgt := 69) F dX8_toldPhase_1 (by rw [h14]; decide) (by rw [h14]; decide) (by rw [h14]; rfl) (by decide) ?_
    refine V_aload_n (pc := 69) F dX8_toldPhase_69 rfl 0 rfl ?_
    obtain ⟨r15, g16, hf⟩ := bind_of hf
    refine V_V (w2 := wX8 cy a v) (rest := []) (st2 := [.int r15]) (pc := 70) F 8 (M_X8_comers l D cy N a v r15 g16) (cwV 0 F.ts gX8_toldPhase_X8_comers rfl rfl rfl hd_X8_comers ⟨Nat.le_of_ble_eq_true rfl, Nat.le_of_ble_eq_true rfl⟩) rfl dX8_toldPhase_70 Fit.whole rfl rfl rfl (Nat.le_of_ble_eq_true rfl) (Nat.zero_le _) (Nat.zero_le _) rfl rfl rfl ?_
    refine V_iload_n (pc := 73) F dX8_toldPhase_73 rfl 1 rfl ?_
    refine V_ishr (pc := 74) F dX8_toldPhase_74 ?_
    refine V_iconst (v := 1) (pc := 75) F dX8_toldPhase_75 (by decide) ?_
    refine V_iand (pc := 76) F dX8_toldPhase_76 ?_
    obtain rfl := some_of hf
    exact V_ret F rfl rfl dX8_toldPhase_77 rfl rfl
  replace hf := ite_neg hf h14
  refine V_tableOut (pc := 1) (tgt := 78) F dX8_toldPhase_1 (by have q0 := lv_neT h1 (a := 0) rfl; have q1 := lv_neT h4 (a := 1) rfl; have q2 := lv_neT h7 (a := 2) rfl; have q3 := lv_neT h10 (a := 3) rfl; have q4 := lv_neT h14 (a := 4) rfl; omega) (by decide) ?_
  refine V_aload_n (pc := 78) F dX8_toldPhase_78 rfl 0 rfl ?_
  refine V_iload_n (pc := 79) F dX8_toldPhase_79 rfl 1 rfl ?_
  refine V_iconst (v := 2) (pc := 80) F dX8_toldPhase_80 (by decide) ?_
  obtain ⟨r17, g18, hf⟩ := bind_of hf
  refine V_V (w2 := wX8 cy a v) (rest := []) (st2 := [.int r17]) (pc := 81) F 8 (M_X8_of l D cy N a v x1 2 r17 g18) (cwV 2 F.ts gX8_toldPhase_X8_of rfl rfl rfl hd_X8_of ⟨Nat.le_of_ble_eq_true rfl, Nat.le_of_ble_eq_true rfl⟩) rfl dX8_toldPhase_81 Fit.whole rfl rfl rfl (Nat.le_of_ble_eq_true rfl) (Nat.zero_le _) (Nat.zero_le _) rfl rfl rfl ?_
  obtain rfl := some_of hf
  exact V_ret F rfl rfl dX8_toldPhase_84 rfl rfl
