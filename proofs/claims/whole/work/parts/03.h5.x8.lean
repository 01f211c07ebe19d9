theorem hd_X8_toldDirection : yX8_toldDirection.cls = RX8 ∧ yX8_toldDirection.cls ≠ "java/lang/invoke/MethodHandle" ∧ yX8_toldDirection.cls ≠ "java/lang/invoke/VarHandle" ∧ (parseMethodDescriptor yX8_toldDirection.desc).map (fun d => d.parameters.length) = some 2 := by decide +kernel
def fX8_toldDirection (N : Nat) (v : SX8) (x1 : Int32) (x2 : Int32) : Option (Int32) :=
  if x2 = 0 then
    (fX8_greensNow N v).bind fun r2 =>
      some ((r2 >>> (x1 &&& 31)) &&& 1)
  else
  if x2 = 1 then
    chk ((13 : Int32) + x1) 143 (
      some (v.2.1 ((13 : Int32) + x1).toNatClampNeg)
    )
  else
  if x2 = 2 then
    chk ((7 : Int32) + x1) 143 (
      some (v.2.1 ((7 : Int32) + x1).toNatClampNeg)
    )
  else
  if x2 = 3 then
    chk ((19 : Int32) + x1) 143 (
      some (v.2.1 ((19 : Int32) + x1).toNatClampNeg)
    )
  else
  if x2 = 4 then
    chk ((25 : Int32) + x1) 143 (
      some (v.2.1 ((25 : Int32) + x1).toNatClampNeg)
    )
  else
  (fX8_phasesWith N v x1).bind fun r12 =>
    some r12
set_option maxHeartbeats 8000000 in
set_option maxRecDepth 100000 in
theorem M_X8_toldDirection (l : Launch) (D : va_G) (cy : Nat → ClassId) (N : Nat) (a : Nat → Nat) (v : SX8) (x1 : Int32) (x2 : Int32) (o : Int32) (hf : fX8_toldDirection N v x1 x2 = some o) : okM l yX8_toldDirection wsX8_toldDirection (rmz 4 88) D cy [.ref (a 0), .int x1, .int x2] (wX8 cy a v) (wX8 cy a v) (some (.int o)) := by
  refine okM_of (own := RX8) (nme := "toldDirection") (cc := cX8_toldDirection) (maxL := 3) (ret := (some .int)) (by decide) rfl rfl rfl (Nat.le_of_ble_eq_true rfl) ?_
  intro p e s m args below meth c A F
  have i_X8 : ∀ w ∈ u_ws RX8 TX8 13, w ∈ wsX8_toldDirection := fun _ h => List.mem_cons_of_mem _ (List.mem_append_right _ h)
  unfold fX8_toldDirection at hf
  refine V.eq rfl (show lv_args 0 [.ref (a 0), .int x1, .int x2] = [(0, .ref (a 0)), (1, .int x1), (2, .int x2)] from rfl) rfl ?_
  refine V_iload_n (pc := 0) F dX8_toldDirection_0 rfl 2 rfl ?_
  by_cases h1 : x2 = 0
  · replace hf := ite_pos hf h1
    refine V_tableIn (pc := 1) (tgt := 36) F dX8_toldDirection_1 (by rw [h1]; decide) (by rw [h1]; decide) (by rw [h1]; rfl) (by decide) ?_
    refine V_aload_n (pc := 36) F dX8_toldDirection_36 rfl 0 rfl ?_
    obtain ⟨r2, g3, hf⟩ := bind_of hf
    refine V_V (w2 := wX8 cy a v) (rest := []) (st2 := [.int r2]) (pc := 37) F 8 (M_X8_greensNow l D cy N a v r2 g3) (cwV 0 F.ts gX8_toldDirection_X8_greensNow rfl rfl rfl hd_X8_greensNow ⟨Nat.le_of_ble_eq_true rfl, Nat.le_of_ble_eq_true rfl⟩) rfl dX8_toldDirection_37 Fit.whole rfl rfl rfl (Nat.le_of_ble_eq_true rfl) (Nat.zero_le _) (Nat.zero_le _) rfl rfl rfl ?_
    refine V_iload_n (pc := 40) F dX8_toldDirection_40 rfl 1 rfl ?_
    refine V_ishr (pc := 41) F dX8_toldDirection_41 ?_
    refine V_iconst (v := 1) (pc := 42) F dX8_toldDirection_42 (by decide) ?_
    refine V_iand (pc := 43) F dX8_toldDirection_43 ?_
    obtain rfl := some_of hf
    exact V_ret F rfl rfl dX8_toldDirection_44 rfl rfl
  replace hf := ite_neg hf h1
  by_cases h4 : x2 = 1
  · replace hf := ite_pos hf h4
    refine V_tableIn (pc := 1) (tgt := 45) F dX8_toldDirection_1 (by rw [h4]; decide) (by rw [h4]; decide) (by rw [h4]; rfl) (by decide) ?_
    refine V_aload_n (pc := 45) F dX8_toldDirection_45 rfl 0 rfl ?_
    refine V_get (pc := 46) F 0 8 1 i_X8 rfl (by decide) rfl (mm 1 rfl) dX8_toldDirection_46 rfl rfl ?_
    refine V_bipush (v := 13) (pc := 49) F dX8_toldDirection_49 (by decide) ?_
    refine V_iload_n (pc := 51) F dX8_toldDirection_51 rfl 1 rfl ?_
    refine V_iadd (pc := 52) F dX8_toldDirection_52 ?_
    obtain ⟨c5, hf⟩ := chk_some hf
    refine V_iald (pc := 53) F 1 rfl c5 dX8_toldDirection_53 ?_
    obtain rfl := some_of hf
    exact V_ret F rfl rfl dX8_toldDirection_54 rfl rfl
  replace hf := ite_neg hf h4
  by_cases h6 : x2 = 2
  · replace hf := ite_pos hf h6
    refine V_tableIn (pc := 1) (tgt := 55) F dX8_toldDirection_1 (by rw [h6]; decide) (by rw [h6]; decide) (by rw [h6]; rfl) (by decide) ?_
    refine V_aload_n (pc := 55) F dX8_toldDirection_55 rfl 0 rfl ?_
    refine V_get (pc := 56) F 0 8 1 i_X8 rfl (by decide) rfl (mm 1 rfl) dX8_toldDirection_56 rfl rfl ?_
    refine V_bipush (v := 7) (pc := 59) F dX8_toldDirection_59 (by decide) ?_
    refine V_iload_n (pc := 61) F dX8_toldDirection_61 rfl 1 rfl ?_
    refine V_iadd (pc := 62) F dX8_toldDirection_62 ?_
    obtain ⟨c7, hf⟩ := chk_some hf
    refine V_iald (pc := 63) F 1 rfl c7 dX8_toldDirection_63 ?_
    obtain rfl := some_of hf
    exact V_ret F rfl rfl dX8_toldDirection_64 rfl rfl
  replace hf := ite_neg hf h6
  by_cases h8 : x2 = 3
  · replace hf := ite_pos hf h8
    refine V_tableIn (pc := 1) (tgt := 65) F dX8_toldDirection_1 (by rw [h8]; decide) (by rw [h8]; decide) (by rw [h8]; rfl) (by decide) ?_
    refine V_aload_n (pc := 65) F dX8_toldDirection_65 rfl 0 rfl ?_
    refine V_get (pc := 66) F 0 8 1 i_X8 rfl (by decide) rfl (mm 1 rfl) dX8_toldDirection_66 rfl rfl ?_
    refine V_bipush (v := 19) (pc := 69) F dX8_toldDirection_69 (by decide) ?_
    refine V_iload_n (pc := 71) F dX8_toldDirection_71 rfl 1 rfl ?_
    refine V_iadd (pc := 72) F dX8_toldDirection_72 ?_
    obtain ⟨c9, hf⟩ := chk_some hf
    refine V_iald (pc := 73) F 1 rfl c9 dX8_toldDirection_73 ?_
    obtain rfl := some_of hf
    exact V_ret F rfl rfl dX8_toldDirection_74 rfl rfl
  replace hf := ite_neg hf h8
  by_cases h10 : x2 = 4
  · replace hf := ite_pos hf h10
    refine V_tableIn (pc := 1) (tgt := 75) F dX8_toldDirection_1 (by rw [h10]; decide) (by rw [h10]; decide) (by rw [h10]; rfl) (by decide) ?_
    refine V_aload_n (pc := 75) F dX8_toldDirection_75 rfl 0 rfl ?_
    refine V_get (pc := 76) F 0 8 1 i_X8 rfl (by decide) rfl (mm 1 rfl) dX8_toldDirection_76 rfl rfl ?_
    refine V_bipush (v := 25) (pc := 79) F dX8_toldDirection_79 (by decide) ?_
    refine V_iload_n (pc := 81) F dX8_toldDirection_81 rfl 1 rfl ?_
    refine V_iadd (pc := 82) F dX8_toldDirection_82 ?_
    obtain ⟨c11, hf⟩ := chk_some hf
    refine V_iald (pc := 83) F 1 rfl c11 dX8_toldDirection_83 ?_
    obtain rfl := some_of hf
    exact V_ret F rfl rfl dX8_toldDirection_84 rfl rfl
  replace hf := ite_neg hf h10
  refine V_tableOut (pc := 1) (tgt := 85) F dX8_toldDirection_1 (by have q0 := lv_neT h1 (a := 0) rfl; have q1 := lv_neT h4 (a := 1) rfl; have q2 := lv_neT h6 (a := 2) rfl; have q3 := lv_neT h8 (a := 3) rfl; have q4 := lv_neT h10 (a := 4) rfl; omega) (by decide) ?_
  refine V_aload_n (pc := 85) F dX8_toldDirection_85 rfl 0 rfl ?_
  refine V_iload_n (pc := 86) F dX8_toldDirection_86 rfl 1 rfl ?_
  obtain ⟨r12, g13, hf⟩ := bind_of hf
  refine V_V (w2 := wX8 cy a v) (rest := []) (st2 := [.int r12]) (pc := 87) F 8 (M_X8_phasesWith l D cy N a v x1 r12 g13) (cwV 1 F.ts gX8_toldDirection_X8_phasesWith rfl rfl rfl hd_X8_phasesWith ⟨Nat.le_of_ble_eq_true rfl, Nat.le_of_ble_eq_true rfl⟩) rfl dX8_toldDirection_87 Fit.whole rfl rfl rfl (Nat.le_of_ble_eq_true rfl) (Nat.zero_le _) (Nat.zero_le _) rfl rfl rfl ?_
  obtain rfl := some_of hf
  exact V_ret F rfl rfl dX8_toldDirection_90 rfl rfl
theorem hd_X8_direction : yX8_direction.cls = RX8 ∧ yX8_direction.cls ≠ "java/lang/invoke/MethodHandle" ∧ yX8_direction.cls ≠ "java/lang/invoke/VarHandle" ∧ (parseMethodDescriptor yX8_direction.desc).map (fun d => d.parameters.length) = some 2 := by decide +kernel
def fX8_direction (N : Nat) (v : SX8) (x1 : Int32) (x2 : Int32) : Option (Int32 × SX8) :=
  (fX8_isDirection N x1).bind fun r1 =>
    if r1 = 0 then
      some (0, (1, v.2))
    else
      (fX8_in N x2 0 5).bind fun r5 =>
        if r5 = 0 then
          some (0, (1, v.2))
        else
          (fX8_toldDirection N (0, v.2) x1 x2).bind fun r10 =>
            some (r10, (0, v.2))
set_option maxHeartbeats 8000000 in
set_option maxRecDepth 100000 in
theorem M_X8_direction (l : Launch) (D : va_G) (cy : Nat → ClassId) (N : Nat) (a : Nat → Nat) (v : SX8) (x1 : Int32) (x2 : Int32) (o : Int32 × SX8) (hf : fX8_direction N v x1 x2 = some o) : okM l yX8_direction wsX8_direction (rmz 5 110) D cy [.ref (a 0), .int x1, .int x2] (wX8 cy a v) (wX8 cy a o.2) (some (.int o.1)) := by
  refine okM_of (own := RX8) (nme := "direction") (cc := cX8_direction) (maxL := 3) (ret := (some .int)) (by decide) rfl rfl rfl (Nat.le_of_ble_eq_true rfl) ?_
  intro p e s m args below meth c A F
  have i_X8 : ∀ w ∈ u_ws RX8 TX8 13, w ∈ wsX8_direction := fun _ h => List.mem_cons_of_mem _ (List.mem_append_right _ h)
  unfold fX8_direction at hf
  refine V.eq rfl (show lv_args 0 [.ref (a 0), .int x1, .int x2] = [(0, .ref (a 0)), (1, .int x1), (2, .int x2)] from rfl) rfl ?_
  refine V_aload_n (pc := 0) F dX8_direction_0 rfl 0 rfl ?_
  refine V_iload_n (pc := 1) F dX8_direction_1 rfl 1 rfl ?_
  obtain ⟨r1, g2, hf⟩ := bind_of hf
  refine V_Sc (rest := [.ref (a 0)]) (st2 := [.int r1, .ref (a 0)]) (pc := 2) F (M_X8_isDirection l D cy N x1 r1 g2) (va_cwS 1 F.ts gX8_direction_X8_isDirection rfl rfl rfl hd_X8_isDirection ⟨Nat.le_of_ble_eq_true rfl, Nat.le_of_ble_eq_true rfl⟩) rfl dX8_direction_2 (Nat.le_of_ble_eq_true rfl) (Nat.zero_le _) (Nat.zero_le _) rfl rfl ?_
  refine V_if_eq (pc := 5) (tgt := 21) F dX8_direction_5 (by decide) (fun h3 => ?_) (fun h3 => ?_)
  · replace hf := ite_pos hf h3
    refine V_iconst (v := 1) (pc := 21) F dX8_direction_21 (by decide) ?_
    refine V_put (w2 := wX8 cy a (1, v.2)) (pc := 22) F 0 8 0 i_X8 tyX8 tyX8_ok nmX8 rfl (by decide) rfl (mm 1 rfl) rfl dX8_direction_22 rfl rfl rfl (Nat.le_of_ble_eq_true rfl) rfl ?_
    refine V_aload_n (pc := 25) F dX8_direction_25 rfl 0 rfl ?_
    refine V_get (pc := 26) F 0 8 0 i_X8 rfl (by decide) rfl (mm 1 rfl) dX8_direction_26 rfl rfl ?_
    refine V_if_le (pc := 29) (tgt := 36) F dX8_direction_29 (by decide) (fun h4 => ?_) (fun h4 => ?_)
    · exact absurd h4 (show ¬ ((1 : Int32) ≤ (0 : Int32)) by decide)
    · refine V_iconst (v := 0) (pc := 32) F dX8_direction_32 (by decide) ?_
      refine V_goto (pc := 33) (tgt := 42) F dX8_direction_33 (by decide) ?_
      obtain rfl := some_of hf
      exact V_ret F rfl rfl dX8_direction_42 rfl rfl
  · replace hf := ite_neg hf h3
    refine V_iload_n (pc := 8) F dX8_direction_8 rfl 2 rfl ?_
    refine V_iconst (v := 0) (pc := 9) F dX8_direction_9 (by decide) ?_
    refine V_iconst (v := 5) (pc := 10) F dX8_direction_10 (by decide) ?_
    obtain ⟨r5, g6, hf⟩ := bind_of hf
    refine V_Sc (rest := [.ref (a 0)]) (st2 := [.int r5, .ref (a 0)]) (pc := 11) F (M_X8_in l D cy N x2 0 5 r5 g6) (va_cwS 3 F.ts gX8_direction_X8_in rfl rfl rfl hd_X8_in ⟨Nat.le_of_ble_eq_true rfl, Nat.le_of_ble_eq_true rfl⟩) rfl dX8_direction_11 (Nat.le_of_ble_eq_true rfl) (Nat.zero_le _) (Nat.zero_le _) rfl rfl ?_
    refine V_if_eq (pc := 14) (tgt := 21) F dX8_direction_14 (by decide) (fun h7 => ?_) (fun h7 => ?_)
    · replace hf := ite_pos hf h7
      refine V_iconst (v := 1) (pc := 21) F dX8_direction_21 (by decide) ?_
      refine V_put (w2 := wX8 cy a (1, v.2)) (pc := 22) F 0 8 0 i_X8 tyX8 tyX8_ok nmX8 rfl (by decide) rfl (mm 1 rfl) rfl dX8_direction_22 rfl rfl rfl (Nat.le_of_ble_eq_true rfl) rfl ?_
      refine V_aload_n (pc := 25) F dX8_direction_25 rfl 0 rfl ?_
      refine V_get (pc := 26) F 0 8 0 i_X8 rfl (by decide) rfl (mm 1 rfl) dX8_direction_26 rfl rfl ?_
      refine V_if_le (pc := 29) (tgt := 36) F dX8_direction_29 (by decide) (fun h8 => ?_) (fun h8 => ?_)
      · exact absurd h8 (show ¬ ((1 : Int32) ≤ (0 : Int32)) by decide)
      · refine V_iconst (v := 0) (pc := 32) F dX8_direction_32 (by decide) ?_
        refine V_goto (pc := 33) (tgt := 42) F dX8_direction_33 (by decide) ?_
        obtain rfl := some_of hf
        exact V_ret F rfl rfl dX8_direction_42 rfl rfl
    · replace hf := ite_neg hf h7
      refine V_iconst (v := 0) (pc := 17) F dX8_direction_17 (by decide) ?_
      refine V_goto (pc := 18) (tgt := 22) F dX8_direction_18 (by decide) ?_
      refine V_put (w2 := wX8 cy a (0, v.2)) (pc := 22) F 0 8 0 i_X8 tyX8 tyX8_ok nmX8 rfl (by decide) rfl (mm 1 rfl) rfl dX8_direction_22 rfl rfl rfl (Nat.le_of_ble_eq_true rfl) rfl ?_
      refine V_aload_n (pc := 25) F dX8_direction_25 rfl 0 rfl ?_
      refine V_get (pc := 26) F 0 8 0 i_X8 rfl (by decide) rfl (mm 1 rfl) dX8_direction_26 rfl rfl ?_
      refine V_if_le (pc := 29) (tgt := 36) F dX8_direction_29 (by decide) (fun h9 => ?_) (fun h9 => ?_)
      · refine V_aload_n (pc := 36) F dX8_direction_36 rfl 0 rfl ?_
        refine V_iload_n (pc := 37) F dX8_direction_37 rfl 1 rfl ?_
        refine V_iload_n (pc := 38) F dX8_direction_38 rfl 2 rfl ?_
        obtain ⟨r10, g11, hf⟩ := bind_of hf
        refine V_V (w2 := wX8 cy a (0, v.2)) (rest := []) (st2 := [.int r10]) (pc := 39) F 8 (M_X8_toldDirection l D cy N a (0, v.2) x1 x2 r10 g11) (cwV 2 F.ts gX8_direction_X8_toldDirection rfl rfl rfl hd_X8_toldDirection ⟨Nat.le_of_ble_eq_true rfl, Nat.le_of_ble_eq_true rfl⟩) rfl dX8_direction_39 Fit.whole rfl rfl rfl (Nat.le_of_ble_eq_true rfl) (Nat.zero_le _) (Nat.zero_le _) rfl rfl rfl ?_
        obtain rfl := some_of hf
        exact V_ret F rfl rfl dX8_direction_42 rfl rfl
      · exact absurd h9 (show ¬ (¬ ((0 : Int32) ≤ (0 : Int32))) by decide)
theorem hd_X8_clashing : yX8_clashing.cls = RX8 ∧ yX8_clashing.cls ≠ "java/lang/invoke/MethodHandle" ∧ yX8_clashing.cls ≠ "java/lang/invoke/VarHandle" ∧ (parseMethodDescriptor yX8_clashing.desc).map (fun d => d.parameters.length) = some 1 := by decide +kernel
def fX8_clashing_L4 (N : Nat) (v : SX8) (z1 : Int32) : Nat → Int32 → Int32 → Option (Int32)
  | 0, _, _ => none
  | n + 1, z2, z3 =>
    chk 0 143 (
      if (v.2.1 (0 : Int32).toNatClampNeg) ≤ z3 then
        some z2
      else
        if ((z1 >>> (z3 &&& 31)) &&& 1) = 1 then
          (fX8_doesClash N v z3).bind fun r4 =>
            if r4 = 0 then
              fX8_clashing_L4 N v z1 n (z2 + 0) (z3 + 1)
            else
              fX8_clashing_L4 N v z1 n (z2 + 1) (z3 + 1)
        else
          fX8_clashing_L4 N v z1 n (z2 + 0) (z3 + 1)
    )
def fX8_clashing (N : Nat) (v : SX8) (x1 : Int32) : Option (Int32) :=
  (fX8_clashing_L4 N v x1 N 0 0).bind fun u7 =>
    some u7
set_option maxHeartbeats 8000000 in
set_option maxRecDepth 100000 in
theorem M_X8_clashing (l : Launch) (D : va_G) (cy : Nat → ClassId) (N : Nat) (a : Nat → Nat) (v : SX8) (x1 : Int32) (o : Int32) (hf : fX8_clashing N v x1 = some o) : okM l yX8_clashing wsX8_clashing (rmz 4 88) D cy [.ref (a 0), .int x1] (wX8 cy a v) (wX8 cy a v) (some (.int o)) := by
  refine okM_of (own := RX8) (nme := "clashing") (cc := cX8_clashing) (maxL := 4) (ret := (some .int)) (by decide) rfl rfl rfl (Nat.le_of_ble_eq_true rfl) ?_
  intro p e s m args below meth c A F
  have i_X8 : ∀ w ∈ u_ws RX8 TX8 13, w ∈ wsX8_clashing := fun _ h => List.mem_cons_of_mem _ (List.mem_append_right _ h)
  have K4 : ∀ (n : Nat) (v : SX8) (z1 : Int32) (z2 : Int32) (z3 : Int32) (u : Int32), fX8_clashing_L4 N v z1 n z2 z3 = some u → V p l e (rmz 4 88) s m args below meth c 4 D A 0 0 (MQ below (ok_Q D (wX8 cy a v) (some (.int o)) A) args s 0 0 A) (wX8 cy a v) [(2, .int u)] [] 45 → V p l e (rmz 4 88) s m args below meth c 4 D A 0 0 (MQ below (ok_Q D (wX8 cy a v) (some (.int o)) A) args s 0 0 A) (wX8 cy a v) [(0, .ref (a 0)), (1, .int z1), (2, .int z2), (3, .int z3)] [] 4 := by
    intro n
    induction n with
    | zero =>
      intro v z1 z2 z3 u hf hk
      exact nomatch (show (none : Option (Int32)) = some u from hf)
    | succ n ih =>
      intro v z1 z2 z3 u hf hk
      rw [fX8_clashing_L4] at hf
      refine V_iload_n (pc := 4) F dX8_clashing_4 rfl 3 rfl ?_
      refine V_aload_n (pc := 5) F dX8_clashing_5 rfl 0 rfl ?_
      refine V_get (pc := 6) F 0 8 1 i_X8 rfl (by decide) rfl (mm 1 rfl) dX8_clashing_6 rfl rfl ?_
      refine V_iconst (v := 0) (pc := 9) F dX8_clashing_9 (by decide) ?_
      obtain ⟨c1, hf⟩ := chk_some hf
      refine V_iald (pc := 10) F 1 rfl c1 dX8_clashing_10 ?_
      refine V_icmp_ge (pc := 11) (tgt := 45) F dX8_clashing_11 (by decide) (fun h2 => ?_) (fun h2 => ?_)
      · replace hf := ite_pos hf h2
        obtain rfl := some_of hf
        exact V.sub [2] rfl hk
      · replace hf := ite_neg hf h2
        refine V_iload_n (pc := 14) F dX8_clashing_14 rfl 2 rfl ?_
        refine V_iload_n (pc := 15) F dX8_clashing_15 rfl 1 rfl ?_
        refine V_iload_n (pc := 16) F dX8_clashing_16 rfl 3 rfl ?_
        refine V_ishr (pc := 17) F dX8_clashing_17 ?_
        refine V_iconst (v := 1) (pc := 18) F dX8_clashing_18 (by decide) ?_
        refine V_iand (pc := 19) F dX8_clashing_19 ?_
        refine V_iconst (v := 1) (pc := 20) F dX8_clashing_20 (by decide) ?_
        refine V_icmp_ne (pc := 21) (tgt := 36) F dX8_clashing_21 (by decide) (fun h3 => ?_) (fun h3 => ?_)
        · replace hf := ite_neg hf h3
          refine V_iconst (v := 0) (pc := 36) F dX8_clashing_36 (by decide) ?_
          refine V_iadd (pc := 37) F dX8_clashing_37 ?_
          refine V_istore_n (L2 := [(2, .int (z2 + 0)), (0, .ref (a 0)), (1, .int z1), (3, .int z3)]) (pc := 38) F dX8_clashing_38 rfl (by decide) rfl ?_
          refine V_iinc (v := (z3 + 1)) (L2 := [(3, .int (z3 + 1)), (2, .int (z2 + 0)), (0, .ref (a 0)), (1, .int z1)]) (pc := 39) F dX8_clashing_39 3 rfl rfl (by decide) rfl ?_
          refine V_goto (pc := 42) (tgt := 4) F dX8_clashing_42 (by decide) ?_
          refine V.sub [2, 3, 1, 0] rfl ?_
          exact ih v z1 (z2 + 0) (z3 + 1) _ hf hk
        · replace hf := ite_pos hf h3
          refine V_aload_n (pc := 24) F dX8_clashing_24 rfl 0 rfl ?_
          refine V_iload_n (pc := 25) F dX8_clashing_25 rfl 3 rfl ?_
          obtain ⟨r4, g5, hf⟩ := bind_of hf
          refine V_V (w2 := wX8 cy a v) (rest := [.int z2]) (st2 := [.int r4, .int z2]) (pc := 26) F 8 (M_X8_doesClash l D cy N a v z3 r4 g5) (cwV 1 F.ts gX8_clashing_X8_doesClash rfl rfl rfl hd_X8_doesClash ⟨Nat.le_of_ble_eq_true rfl, Nat.le_of_ble_eq_true rfl⟩) rfl dX8_clashing_26 Fit.whole rfl rfl rfl (Nat.le_of_ble_eq_true rfl) (Nat.zero_le _) (Nat.zero_le _) rfl rfl rfl ?_
          refine V_if_eq (pc := 29) (tgt := 36) F dX8_clashing_29 (by decide) (fun h6 => ?_) (fun h6 => ?_)
          · replace hf := ite_pos hf h6
            refine V_iconst (v := 0) (pc := 36) F dX8_clashing_36 (by decide) ?_
            refine V_iadd (pc := 37) F dX8_clashing_37 ?_
            refine V_istore_n (L2 := [(2, .int (z2 + 0)), (0, .ref (a 0)), (1, .int z1), (3, .int z3)]) (pc := 38) F dX8_clashing_38 rfl (by decide) rfl ?_
            refine V_iinc (v := (z3 + 1)) (L2 := [(3, .int (z3 + 1)), (2, .int (z2 + 0)), (0, .ref (a 0)), (1, .int z1)]) (pc := 39) F dX8_clashing_39 3 rfl rfl (by decide) rfl ?_
            refine V_goto (pc := 42) (tgt := 4) F dX8_clashing_42 (by decide) ?_
            refine V.sub [2, 3, 1, 0] rfl ?_
            exact ih v z1 (z2 + 0) (z3 + 1) _ hf hk
          · replace hf := ite_neg hf h6
            refine V_iconst (v := 1) (pc := 32) F dX8_clashing_32 (by decide) ?_
            refine V_goto (pc := 33) (tgt := 37) F dX8_clashing_33 (by decide) ?_
            refine V_iadd (pc := 37) F dX8_clashing_37 ?_
            refine V_istore_n (L2 := [(2, .int (z2 + 1)), (0, .ref (a 0)), (1, .int z1), (3, .int z3)]) (pc := 38) F dX8_clashing_38 rfl (by decide) rfl ?_
            refine V_iinc (v := (z3 + 1)) (L2 := [(3, .int (z3 + 1)), (2, .int (z2 + 1)), (0, .ref (a 0)), (1, .int z1)]) (pc := 39) F dX8_clashing_39 3 rfl rfl (by decide) rfl ?_
            refine V_goto (pc := 42) (tgt := 4) F dX8_clashing_42 (by decide) ?_
            refine V.sub [2, 3, 1, 0] rfl ?_
            exact ih v z1 (z2 + 1) (z3 + 1) _ hf hk
  unfold fX8_clashing at hf
  refine V.eq rfl (show lv_args 0 [.ref (a 0), .int x1] = [(0, .ref (a 0)), (1, .int x1)] from rfl) rfl ?_
  refine V_iconst (v := 0) (pc := 0) F dX8_clashing_0 (by decide) ?_
  refine V_istore_n (L2 := [(2, .int 0), (0, .ref (a 0)), (1, .int x1)]) (pc := 1) F dX8_clashing_1 rfl (by decide) rfl ?_
  refine V_iconst (v := 0) (pc := 2) F dX8_clashing_2 (by decide) ?_
  refine V_istore_n (L2 := [(3, .int 0), (2, .int 0), (0, .ref (a 0)), (1, .int x1)]) (pc := 3) F dX8_clashing_3 rfl (by decide) rfl ?_
  refine V.sub [2, 3, 1, 0] rfl ?_
  obtain ⟨u7, g8, hf⟩ := bind_of hf
  refine K4 N v x1 0 0 u7 g8 ?_
  refine V_iload_n (pc := 45) F dX8_clashing_45 rfl 0 rfl ?_
  obtain rfl := some_of hf
  exact V_ret F rfl rfl dX8_clashing_46 rfl rfl
theorem hd_X8_counted : yX8_counted.cls = RX8 ∧ yX8_counted.cls ≠ "java/lang/invoke/MethodHandle" ∧ yX8_counted.cls ≠ "java/lang/invoke/VarHandle" ∧ (parseMethodDescriptor yX8_counted.desc).map (fun d => d.parameters.length) = some 1 := by decide +kernel
def fX8_counted (N : Nat) (v : SX8) (x1 : Int32) : Option (Int32) :=
  if x1 = 0 then
    chk 0 143 (
      some (v.2.1 (0 : Int32).toNatClampNeg)
    )
  else
  if x1 = 1 then
    chk 2 143 (
      some (v.2.1 (2 : Int32).toNatClampNeg)
    )
  else
  if x1 = 2 then
    chk 2 143 (
      if (v.2.1 (2 : Int32).toNatClampNeg) = (-1) then
        some (-1)
      else
        (fX8_isClearing N v).bind fun r8 =>
          if r8 = 0 then
            chk 3 143 (
              some (v.2.1 (3 : Int32).toNatClampNeg)
            )
          else
            some (-1)
    )
  else
  if x1 = 3 then
    chk 4 143 (
      some (v.2.1 (4 : Int32).toNatClampNeg)
    )
  else
  if x1 = 4 then
    (fX8_greensNow N v).bind fun r15 =>
      some r15
  else
  if x1 = 5 then
    (fX8_waiting N v).bind fun r18 =>
      some r18
  else
  if x1 = 6 then
    (fX8_clashing N v 255).bind fun r21 =>
      some r21
  else
  if x1 = 7 then
    (fX8_comers N v).bind fun r24 =>
      (fX8_bits N r24).bind fun r26 =>
        some r26
  else
  if x1 = 8 then
    (fX8_comers N v).bind fun r29 =>
      (fX8_clashing N v r29).bind fun r31 =>
        some r31
  else
  if x1 = 9 then
    chk 6 143 (
      some (v.2.1 (6 : Int32).toNatClampNeg)
    )
  else
  if x1 = 10 then
    (fX8_starving N v).bind fun r36 =>
      some r36
  else
  some v.2.2.2.1
set_option maxHeartbeats 8000000 in
set_option maxRecDepth 100000 in
theorem M_X8_counted (l : Launch) (D : va_G) (cy : Nat → ClassId) (N : Nat) (a : Nat → Nat) (v : SX8) (x1 : Int32) (o : Int32) (hf : fX8_counted N v x1 = some o) : okM l yX8_counted wsX8_counted (rmz 9 213) D cy [.ref (a 0), .int x1] (wX8 cy a v) (wX8 cy a v) (some (.int o)) := by
  refine okM_of (own := RX8) (nme := "counted") (cc := cX8_counted) (maxL := 2) (ret := (some .int)) (by decide) rfl rfl rfl (Nat.le_of_ble_eq_true rfl) ?_
  intro p e s m args below meth c A F
  have i_X8 : ∀ w ∈ u_ws RX8 TX8 13, w ∈ wsX8_counted := fun _ h => List.mem_cons_of_mem _ (List.mem_append_right _ h)
  unfold fX8_counted at hf
  refine V.eq rfl (show lv_args 0 [.ref (a 0), .int x1] = [(0, .ref (a 0)), (1, .int x1)] from rfl) rfl ?_
  refine V_iload_n (pc := 0) F dX8_counted_0 rfl 1 rfl ?_
  by_cases h1 : x1 = 0
  · replace hf := ite_pos hf h1
    refine V_tableIn (pc := 1) (tgt := 60) F dX8_counted_1 (by rw [h1]; decide) (by rw [h1]; decide) (by rw [h1]; rfl) (by decide) ?_
    refine V_aload_n (pc := 60) F dX8_counted_60 rfl 0 rfl ?_
    refine V_get (pc := 61) F 0 8 1 i_X8 rfl (by decide) rfl (mm 1 rfl) dX8_counted_61 rfl rfl ?_
    refine V_iconst (v := 0) (pc := 64) F dX8_counted_64 (by decide) ?_
    obtain ⟨c2, hf⟩ := chk_some hf
    refine V_iald (pc := 65) F 1 rfl c2 dX8_counted_65 ?_
    obtain rfl := some_of hf
    exact V_ret F rfl rfl dX8_counted_66 rfl rfl
  replace hf := ite_neg hf h1
  by_cases h3 : x1 = 1
  · replace hf := ite_pos hf h3
    refine V_tableIn (pc := 1) (tgt := 67) F dX8_counted_1 (by rw [h3]; decide) (by rw [h3]; decide) (by rw [h3]; rfl) (by decide) ?_
    refine V_aload_n (pc := 67) F dX8_counted_67 rfl 0 rfl ?_
    refine V_get (pc := 68) F 0 8 1 i_X8 rfl (by decide) rfl (mm 1 rfl) dX8_counted_68 rfl rfl ?_
    refine V_iconst (v := 2) (pc := 71) F dX8_counted_71 (by decide) ?_
    obtain ⟨c4, hf⟩ := chk_some hf
    refine V_iald (pc := 72) F 1 rfl c4 dX8_counted_72 ?_
    obtain rfl := some_of hf
    exact V_ret F rfl rfl dX8_counted_73 rfl rfl
  replace hf := ite_neg hf h3
  by_cases h5 : x1 = 2
  · replace hf := ite_pos hf h5
    refine V_tableIn (pc := 1) (tgt := 74) F dX8_counted_1 (by rw [h5]; decide) (by rw [h5]; decide) (by rw [h5]; rfl) (by decide) ?_
    refine V_aload_n (pc := 74) F dX8_counted_74 rfl 0 rfl ?_
    refine V_get (pc := 75) F 0 8 1 i_X8 rfl (by decide) rfl (mm 1 rfl) dX8_counted_75 rfl rfl ?_
    refine V_iconst (v := 2) (pc := 78) F dX8_counted_78 (by decide) ?_
    obtain ⟨c6, hf⟩ := chk_some hf
    refine V_iald (pc := 79) F 1 rfl c6 dX8_counted_79 ?_
    refine V_iconst (v := (-1)) (pc := 80) F dX8_counted_80 (by decide) ?_
    refine V_icmp_eq (pc := 81) (tgt := 91) F dX8_counted_81 (by decide) (fun h7 => ?_) (fun h7 => ?_)
    · replace hf := ite_pos hf h7
      refine V_iconst (v := (-1)) (pc := 91) F dX8_counted_91 (by decide) ?_
      refine V_goto (pc := 92) (tgt := 101) F dX8_counted_92 (by decide) ?_
      obtain rfl := some_of hf
      exact V_ret F rfl rfl dX8_counted_101 rfl rfl
    · replace hf := ite_neg hf h7
      refine V_aload_n (pc := 84) F dX8_counted_84 rfl 0 rfl ?_
      obtain ⟨r8, g9, hf⟩ := bind_of hf
      refine V_V (w2 := wX8 cy a v) (rest := []) (st2 := [.int r8]) (pc := 85) F 8 (M_X8_isClearing l D cy N a v r8 g9) (cwV 0 F.ts gX8_counted_X8_isClearing rfl rfl rfl hd_X8_isClearing ⟨Nat.le_of_ble_eq_true rfl, Nat.le_of_ble_eq_true rfl⟩) rfl dX8_counted_85 Fit.whole rfl rfl rfl (Nat.le_of_ble_eq_true rfl) (Nat.zero_le _) (Nat.zero_le _) rfl rfl rfl ?_
      refine V_if_eq (pc := 88) (tgt := 95) F dX8_counted_88 (by decide) (fun h10 => ?_) (fun h10 => ?_)
      · replace hf := ite_pos hf h10
        refine V_aload_n (pc := 95) F dX8_counted_95 rfl 0 rfl ?_
        refine V_get (pc := 96) F 0 8 1 i_X8 rfl (by decide) rfl (mm 1 rfl) dX8_counted_96 rfl rfl ?_
        refine V_iconst (v := 3) (pc := 99) F dX8_counted_99 (by decide) ?_
        obtain ⟨c11, hf⟩ := chk_some hf
        refine V_iald (pc := 100) F 1 rfl c11 dX8_counted_100 ?_
        obtain rfl := some_of hf
        exact V_ret F rfl rfl dX8_counted_101 rfl rfl
      · replace hf := ite_neg hf h10
        refine V_iconst (v := (-1)) (pc := 91) F dX8_counted_91 (by decide) ?_
        refine V_goto (pc := 92) (tgt := 101) F dX8_counted_92 (by decide) ?_
        obtain rfl := some_of hf
        exact V_ret F rfl rfl dX8_counted_101 rfl rfl
  replace hf := ite_neg hf h5
  by_cases h12 : x1 = 3
  · replace hf := ite_pos hf h12
    refine V_tableIn (pc := 1) (tgt := 102) F dX8_counted_1 (by rw [h12]; decide) (by rw [h12]; decide) (by rw [h12]; rfl) (by decide) ?_
    refine V_aload_n (pc := 102) F dX8_counted_102 rfl 0 rfl ?_
    refine V_get (pc := 103) F 0 8 1 i_X8 rfl (by decide) rfl (mm 1 rfl) dX8_counted_103 rfl rfl ?_
    refine V_iconst (v := 4) (pc := 106) F dX8_counted_106 (by decide) ?_
    obtain ⟨c13, hf⟩ := chk_some hf
    refine V_iald (pc := 107) F 1 rfl c13 dX8_counted_107 ?_
    obtain rfl := some_of hf
    exact V_ret F rfl rfl dX8_counted_108 rfl rfl
  replace hf := ite_neg hf h12
  by_cases h14 : x1 = 4
  · replace hf := ite_pos hf h14
    refine V_tableIn (pc := 1) (tgt := 109) F dX8_counted_1 (by rw [h14]; decide) (by rw [h14]; decide) (by rw [h14]; rfl) (by decide) ?_
    refine V_aload_n (pc := 109) F dX8_counted_109 rfl 0 rfl ?_
    obtain ⟨r15, g16, hf⟩ := bind_of hf
    refine V_V (w2 := wX8 cy a v) (rest := []) (st2 := [.int r15]) (pc := 110) F 8 (M_X8_greensNow l D cy N a v r15 g16) (cwV 0 F.ts gX8_counted_X8_greensNow rfl rfl rfl hd_X8_greensNow ⟨Nat.le_of_ble_eq_true rfl, Nat.le_of_ble_eq_true rfl⟩) rfl dX8_counted_110 Fit.whole rfl rfl rfl (Nat.le_of_ble_eq_true rfl) (Nat.zero_le _) (Nat.zero_le _) rfl rfl rfl ?_
    obtain rfl := some_of hf
    exact V_ret F rfl rfl dX8_counted_113 rfl rfl
  replace hf := ite_neg hf h14
  by_cases h17 : x1 = 5
  · replace hf := ite_pos hf h17
    refine V_tableIn (pc := 1) (tgt := 114) F dX8_counted_1 (by rw [h17]; decide) (by rw [h17]; decide) (by rw [h17]; rfl) (by decide) ?_
    refine V_aload_n (pc := 114) F dX8_counted_114 rfl 0 rfl ?_
    obtain ⟨r18, g19, hf⟩ := bind_of hf
    refine V_V (w2 := wX8 cy a v) (rest := []) (st2 := [.int r18]) (pc := 115) F 8 (M_X8_waiting l D cy N a v r18 g19) (cwV 0 F.ts gX8_counted_X8_waiting rfl rfl rfl hd_X8_waiting ⟨Nat.le_of_ble_eq_true rfl, Nat.le_of_ble_eq_true rfl⟩) rfl dX8_counted_115 Fit.whole rfl rfl rfl (Nat.le_of_ble_eq_true rfl) (Nat.zero_le _) (Nat.zero_le _) rfl rfl rfl ?_
    obtain rfl := some_of hf
    exact V_ret F rfl rfl dX8_counted_118 rfl rfl
  replace hf := ite_neg hf h17
  by_cases h20 : x1 = 6
  · replace hf := ite_pos hf h20
    refine V_tableIn (pc := 1) (tgt := 119) F dX8_counted_1 (by rw [h20]; decide) (by rw [h20]; decide) (by rw [h20]; rfl) (by decide) ?_
    refine V_aload_n (pc := 119) F dX8_counted_119 rfl 0 rfl ?_
    refine V_sipush (v := 255) (pc := 120) F dX8_counted_120 (by decide) ?_
    obtain ⟨r21, g22, hf⟩ := bind_of hf
    refine V_V (w2 := wX8 cy a v) (rest := []) (st2 := [.int r21]) (pc := 123) F 8 (M_X8_clashing l D cy N a v 255 r21 g22) (cwV 1 F.ts gX8_counted_X8_clashing rfl rfl rfl hd_X8_clashing ⟨Nat.le_of_ble_eq_true rfl, Nat.le_of_ble_eq_true rfl⟩) rfl dX8_counted_123 Fit.whole rfl rfl rfl (Nat.le_of_ble_eq_true rfl) (Nat.zero_le _) (Nat.zero_le _) rfl rfl rfl ?_
    obtain rfl := some_of hf
    exact V_ret F rfl rfl dX8_counted_126 rfl rfl
  replace hf := ite_neg hf h20
  by_cases h23 : x1 = 7
  · replace hf := ite_pos hf h23
    refine V_tableIn (pc := 1) (tgt := 127) F dX8_counted_1 (by rw [h23]; decide) (by rw [h23]; decide) (by rw [h23]; rfl) (by decide) ?_
    refine V_aload_n (pc := 127) F dX8_counted_127 rfl 0 rfl ?_
    obtain ⟨r24, g25, hf⟩ := bind_of hf
    refine V_V (w2 := wX8 cy a v) (rest := []) (st2 := [.int r24]) (pc := 128) F 8 (M_X8_comers l D cy N a v r24 g25) (cwV 0 F.ts gX8_counted_X8_comers rfl rfl rfl hd_X8_comers ⟨Nat.le_of_ble_eq_true rfl, Nat.le_of_ble_eq_true rfl⟩) rfl dX8_counted_128 Fit.whole rfl rfl rfl (Nat.le_of_ble_eq_true rfl) (Nat.zero_le _) (Nat.zero_le _) rfl rfl rfl ?_
    obtain ⟨r26, g27, hf⟩ := bind_of hf
    refine V_Sc (rest := []) (st2 := [.int r26]) (pc := 131) F (M_X8_bits l D cy N r24 r26 g27) (va_cwS 1 F.ts gX8_counted_X8_bits rfl rfl rfl hd_X8_bits ⟨Nat.le_of_ble_eq_true rfl, Nat.le_of_ble_eq_true rfl⟩) rfl dX8_counted_131 (Nat.le_of_ble_eq_true rfl) (Nat.zero_le _) (Nat.zero_le _) rfl rfl ?_
    obtain rfl := some_of hf
    exact V_ret F rfl rfl dX8_counted_134 rfl rfl
  replace hf := ite_neg hf h23
  by_cases h28 : x1 = 8
  · replace hf := ite_pos hf h28
    refine V_tableIn (pc := 1) (tgt := 135) F dX8_counted_1 (by rw [h28]; decide) (by rw [h28]; decide) (by rw [h28]; rfl) (by decide) ?_
    refine V_aload_n (pc := 135) F dX8_counted_135 rfl 0 rfl ?_
    refine V_aload_n (pc := 136) F dX8_counted_136 rfl 0 rfl ?_
    obtain ⟨r29, g30, hf⟩ := bind_of hf
    refine V_V (w2 := wX8 cy a v) (rest := [.ref (a 0)]) (st2 := [.int r29, .ref (a 0)]) (pc := 137) F 8 (M_X8_comers l D cy N a v r29 g30) (cwV 0 F.ts gX8_counted_X8_comers rfl rfl rfl hd_X8_comers ⟨Nat.le_of_ble_eq_true rfl, Nat.le_of_ble_eq_true rfl⟩) rfl dX8_counted_137 Fit.whole rfl rfl rfl (Nat.le_of_ble_eq_true rfl) (Nat.zero_le _) (Nat.zero_le _) rfl rfl rfl ?_
    obtain ⟨r31, g32, hf⟩ := bind_of hf
    refine V_V (w2 := wX8 cy a v) (rest := []) (st2 := [.int r31]) (pc := 140) F 8 (M_X8_clashing l D cy N a v r29 r31 g32) (cwV 1 F.ts gX8_counted_X8_clashing rfl rfl rfl hd_X8_clashing ⟨Nat.le_of_ble_eq_true rfl, Nat.le_of_ble_eq_true rfl⟩) rfl dX8_counted_140 Fit.whole rfl rfl rfl (Nat.le_of_ble_eq_true rfl) (Nat.zero_le _) (Nat.zero_le _) rfl rfl rfl ?_
    obtain rfl := some_of hf
    exact V_ret F rfl rfl dX8_counted_143 rfl rfl
  replace hf := ite_neg hf h28
  by_cases h33 : x1 = 9
  · replace hf := ite_pos hf h33
    refine V_tableIn (pc := 1) (tgt := 144) F dX8_counted_1 (by rw [h33]; decide) (by rw [h33]; decide) (by rw [h33]; rfl) (by decide) ?_
    refine V_aload_n (pc := 144) F dX8_counted_144 rfl 0 rfl ?_
    refine V_get (pc := 145) F 0 8 1 i_X8 rfl (by decide) rfl (mm 1 rfl) dX8_counted_145 rfl rfl ?_
    refine V_bipush (v := 6) (pc := 148) F dX8_counted_148 (by decide) ?_
    obtain ⟨c34, hf⟩ := chk_some hf
    refine V_iald (pc := 150) F 1 rfl c34 dX8_counted_150 ?_
    obtain rfl := some_of hf
    exact V_ret F rfl rfl dX8_counted_151 rfl rfl
  replace hf := ite_neg hf h33
  by_cases h35 : x1 = 10
  · replace hf := ite_pos hf h35
    refine V_tableIn (pc := 1) (tgt := 152) F dX8_counted_1 (by rw [h35]; decide) (by rw [h35]; decide) (by rw [h35]; rfl) (by decide) ?_
    refine V_aload_n (pc := 152) F dX8_counted_152 rfl 0 rfl ?_
    obtain ⟨r36, g37, hf⟩ := bind_of hf
    refine V_V (w2 := wX8 cy a v) (rest := []) (st2 := [.int r36]) (pc := 153) F 8 (M_X8_starving l D cy N a v r36 g37) (cwV 0 F.ts gX8_counted_X8_starving rfl rfl rfl hd_X8_starving ⟨Nat.le_of_ble_eq_true rfl, Nat.le_of_ble_eq_true rfl⟩) rfl dX8_counted_153 Fit.whole rfl rfl rfl (Nat.le_of_ble_eq_true rfl) (Nat.zero_le _) (Nat.zero_le _) rfl rfl rfl ?_
    obtain rfl := some_of hf
    exact V_ret F rfl rfl dX8_counted_156 rfl rfl
  replace hf := ite_neg hf h35
  refine V_tableOut (pc := 1) (tgt := 157) F dX8_counted_1 (by have q0 := lv_neT h1 (a := 0) rfl; have q1 := lv_neT h3 (a := 1) rfl; have q2 := lv_neT h5 (a := 2) rfl; have q3 := lv_neT h12 (a := 3) rfl; have q4 := lv_neT h14 (a := 4) rfl; have q5 := lv_neT h17 (a := 5) rfl; have q6 := lv_neT h20 (a := 6) rfl; have q7 := lv_neT h23 (a := 7) rfl; have q8 := lv_neT h28 (a := 8) rfl; have q9 := lv_neT h33 (a := 9) rfl; have q10 := lv_neT h35 (a := 10) rfl; omega) (by decide) ?_
  refine V_aload_n (pc := 157) F dX8_counted_157 rfl 0 rfl ?_
  refine V_get (pc := 158) F 0 8 3 i_X8 rfl (by decide) rfl (mm 2 rfl) dX8_counted_158 rfl rfl ?_
  obtain rfl := some_of hf
  exact V_ret F rfl rfl dX8_counted_161 rfl rfl
theorem hd_X8_count : yX8_count.cls = RX8 ∧ yX8_count.cls ≠ "java/lang/invoke/MethodHandle" ∧ yX8_count.cls ≠ "java/lang/invoke/VarHandle" ∧ (parseMethodDescriptor yX8_count.desc).map (fun d => d.parameters.length) = some 1 := by decide +kernel
def fX8_count (N : Nat) (v : SX8) (x1 : Int32) : Option (Int32 × SX8) :=
  (fX8_in N x1 0 11).bind fun r1 =>
    if r1 = 0 then
      some (0, (1, v.2))
    else
      (fX8_counted N (0, v.2) x1).bind fun r6 =>
        some (r6, (0, v.2))
set_option maxHeartbeats 8000000 in
set_option maxRecDepth 100000 in
theorem M_X8_count (l : Launch) (D : va_G) (cy : Nat → ClassId) (N : Nat) (a : Nat → Nat) (v : SX8) (x1 : Int32) (o : Int32 × SX8) (hf : fX8_count N v x1 = some o) : okM l yX8_count wsX8_count (rmz 10 234) D cy [.ref (a 0), .int x1] (wX8 cy a v) (wX8 cy a o.2) (some (.int o.1)) := by
  refine okM_of (own := RX8) (nme := "count") (cc := cX8_count) (maxL := 2) (ret := (some .int)) (by decide) rfl rfl rfl (Nat.le_of_ble_eq_true rfl) ?_
  intro p e s m args below meth c A F
  have i_X8 : ∀ w ∈ u_ws RX8 TX8 13, w ∈ wsX8_count := fun _ h => List.mem_cons_of_mem _ (List.mem_append_right _ h)
  unfold fX8_count at hf
  refine V.eq rfl (show lv_args 0 [.ref (a 0), .int x1] = [(0, .ref (a 0)), (1, .int x1)] from rfl) rfl ?_
  refine V_aload_n (pc := 0) F dX8_count_0 rfl 0 rfl ?_
  refine V_iload_n (pc := 1) F dX8_count_1 rfl 1 rfl ?_
  refine V_iconst (v := 0) (pc := 2) F dX8_count_2 (by decide) ?_
  refine V_bipush (v := 11) (pc := 3) F dX8_count_3 (by decide) ?_
  obtain ⟨r1, g2, hf⟩ := bind_of hf
  refine V_Sc (rest := [.ref (a 0)]) (st2 := [.int r1, .ref (a 0)]) (pc := 5) F (M_X8_in l D cy N x1 0 11 r1 g2) (va_cwS 3 F.ts gX8_count_X8_in rfl rfl rfl hd_X8_in ⟨Nat.le_of_ble_eq_true rfl, Nat.le_of_ble_eq_true rfl⟩) rfl dX8_count_5 (Nat.le_of_ble_eq_true rfl) (Nat.zero_le _) (Nat.zero_le _) rfl rfl ?_
  refine V_if_eq (pc := 8) (tgt := 15) F dX8_count_8 (by decide) (fun h3 => ?_) (fun h3 => ?_)
  · replace hf := ite_pos hf h3
    refine V_iconst (v := 1) (pc := 15) F dX8_count_15 (by decide) ?_
    refine V_put (w2 := wX8 cy a (1, v.2)) (pc := 16) F 0 8 0 i_X8 tyX8 tyX8_ok nmX8 rfl (by decide) rfl (mm 1 rfl) rfl dX8_count_16 rfl rfl rfl (Nat.le_of_ble_eq_true rfl) rfl ?_
    refine V_aload_n (pc := 19) F dX8_count_19 rfl 0 rfl ?_
    refine V_get (pc := 20) F 0 8 0 i_X8 rfl (by decide) rfl (mm 1 rfl) dX8_count_20 rfl rfl ?_
    refine V_if_le (pc := 23) (tgt := 30) F dX8_count_23 (by decide) (fun h4 => ?_) (fun h4 => ?_)
    · exact absurd h4 (show ¬ ((1 : Int32) ≤ (0 : Int32)) by decide)
    · refine V_iconst (v := 0) (pc := 26) F dX8_count_26 (by decide) ?_
      refine V_goto (pc := 27) (tgt := 35) F dX8_count_27 (by decide) ?_
      obtain rfl := some_of hf
      exact V_ret F rfl rfl dX8_count_35 rfl rfl
  · replace hf := ite_neg hf h3
    refine V_iconst (v := 0) (pc := 11) F dX8_count_11 (by decide) ?_
    refine V_goto (pc := 12) (tgt := 16) F dX8_count_12 (by decide) ?_
    refine V_put (w2 := wX8 cy a (0, v.2)) (pc := 16) F 0 8 0 i_X8 tyX8 tyX8_ok nmX8 rfl (by decide) rfl (mm 1 rfl) rfl dX8_count_16 rfl rfl rfl (Nat.le_of_ble_eq_true rfl) rfl ?_
    refine V_aload_n (pc := 19) F dX8_count_19 rfl 0 rfl ?_
    refine V_get (pc := 20) F 0 8 0 i_X8 rfl (by decide) rfl (mm 1 rfl) dX8_count_20 rfl rfl ?_
    refine V_if_le (pc := 23) (tgt := 30) F dX8_count_23 (by decide) (fun h5 => ?_) (fun h5 => ?_)
    · refine V_aload_n (pc := 30) F dX8_count_30 rfl 0 rfl ?_
      refine V_iload_n (pc := 31) F dX8_count_31 rfl 1 rfl ?_
      obtain ⟨r6, g7, hf⟩ := bind_of hf
      refine V_V (w2 := wX8 cy a (0, v.2)) (rest := []) (st2 := [.int r6]) (pc := 32) F 8 (M_X8_counted l D cy N a (0, v.2) x1 r6 g7) (cwV 1 F.ts gX8_count_X8_counted rfl rfl rfl hd_X8_counted ⟨Nat.le_of_ble_eq_true rfl, Nat.le_of_ble_eq_true rfl⟩) rfl dX8_count_32 Fit.whole rfl rfl rfl (Nat.le_of_ble_eq_true rfl) (Nat.zero_le _) (Nat.zero_le _) rfl rfl rfl ?_
      obtain rfl := some_of hf
      exact V_ret F rfl rfl dX8_count_35 rfl rfl
    · exact absurd h5 (show ¬ (¬ ((0 : Int32) ≤ (0 : Int32))) by decide)
theorem hd_X8_share : yX8_share.cls = RX8 ∧ yX8_share.cls ≠ "java/lang/invoke/MethodHandle" ∧ yX8_share.cls ≠ "java/lang/invoke/VarHandle" ∧ (parseMethodDescriptor yX8_share.desc).map (fun d => d.parameters.length) = some 0 := by decide +kernel
def fX8_share (N : Nat) (v : SX8) : Option (UInt64) :=
  chk 0 143 (
    if (v.2.1 (0 : Int32).toNatClampNeg) = 0 then
      some FP.dconst1
    else
      chk 0 143 (
        (fX8_clashing N v 255).bind fun r4 =>
          chk 0 143 (
            must (decide ((FP.ddiv (FP.i2d ((v.2.1 (0 : Int32).toNatClampNeg) - r4)) (FP.i2d (v.2.1 (0 : Int32).toNatClampNeg))) &&& 0x7fffffffffffffff ≤ 0x7ff0000000000000)) (
              some (FP.ddiv (FP.i2d ((v.2.1 (0 : Int32).toNatClampNeg) - r4)) (FP.i2d (v.2.1 (0 : Int32).toNatClampNeg)))
            )
          )
      )
  )
set_option maxHeartbeats 8000000 in
set_option maxRecDepth 100000 in
theorem M_X8_share (l : Launch) (D : va_G) (cy : Nat → ClassId) (N : Nat) (a : Nat → Nat) (v : SX8) (o : UInt64) (hf : fX8_share N v = some o) : okM l yX8_share wsX8_share (rmz 5 111) D cy [.ref (a 0)] (wX8 cy a v) (wX8 cy a v) (some (.double o)) := by
  refine okM_of (own := RX8) (nme := "share") (cc := cX8_share) (maxL := 1) (ret := (some .double)) (by decide) rfl rfl rfl (Nat.le_of_ble_eq_true rfl) ?_
  intro p e s m args below meth c A F
  have i_X8 : ∀ w ∈ u_ws RX8 TX8 13, w ∈ wsX8_share := fun _ h => List.mem_cons_of_mem _ (List.mem_append_right _ h)
  unfold fX8_share at hf
  refine V.eq rfl (show lv_args 0 [.ref (a 0)] = [(0, .ref (a 0))] from rfl) rfl ?_
  refine V_aload_n (pc := 0) F dX8_share_0 rfl 0 rfl ?_
  refine V_get (pc := 1) F 0 8 1 i_X8 rfl (by decide) rfl (mm 1 rfl) dX8_share_1 rfl rfl ?_
  refine V_iconst (v := 0) (pc := 4) F dX8_share_4 (by decide) ?_
  obtain ⟨c1, hf⟩ := chk_some hf
  refine V_iald (pc := 5) F 1 rfl c1 dX8_share_5 ?_
  refine V_if_ne (pc := 6) (tgt := 13) F dX8_share_6 (by decide) (fun h2 => ?_) (fun h2 => ?_)
  · replace hf := ite_neg hf h2
    refine V_aload_n (pc := 13) F dX8_share_13 rfl 0 rfl ?_
    refine V_get (pc := 14) F 0 8 1 i_X8 rfl (by decide) rfl (mm 1 rfl) dX8_share_14 rfl rfl ?_
    refine V_iconst (v := 0) (pc := 17) F dX8_share_17 (by decide) ?_
    obtain ⟨c3, hf⟩ := chk_some hf
    refine V_iald (pc := 18) F 1 rfl c3 dX8_share_18 ?_
    refine V_aload_n (pc := 19) F dX8_share_19 rfl 0 rfl ?_
    refine V_sipush (v := 255) (pc := 20) F dX8_share_20 (by decide) ?_
    obtain ⟨r4, g5, hf⟩ := bind_of hf
    refine V_V (w2 := wX8 cy a v) (rest := [.int (v.2.1 (0 : Int32).toNatClampNeg)]) (st2 := [.int r4, .int (v.2.1 (0 : Int32).toNatClampNeg)]) (pc := 23) F 8 (M_X8_clashing l D cy N a v 255 r4 g5) (cwV 1 F.ts gX8_share_X8_clashing rfl rfl rfl hd_X8_clashing ⟨Nat.le_of_ble_eq_true rfl, Nat.le_of_ble_eq_true rfl⟩) rfl dX8_share_23 Fit.whole rfl rfl rfl (Nat.le_of_ble_eq_true rfl) (Nat.zero_le _) (Nat.zero_le _) rfl rfl rfl ?_
    refine V_isub (pc := 26) F dX8_share_26 ?_
    refine V_i2d (pc := 27) F dX8_share_27 ?_
    refine V_aload_n (pc := 28) F dX8_share_28 rfl 0 rfl ?_
    refine V_get (pc := 29) F 0 8 1 i_X8 rfl (by decide) rfl (mm 1 rfl) dX8_share_29 rfl rfl ?_
    refine V_iconst (v := 0) (pc := 32) F dX8_share_32 (by decide) ?_
    obtain ⟨c6, hf⟩ := chk_some hf
    refine V_iald (pc := 33) F 1 rfl c6 dX8_share_33 ?_
    refine V_i2d (pc := 34) F dX8_share_34 ?_
    obtain ⟨c7, hf⟩ := must_some hf
    refine V_ddiv (pc := 35) F dX8_share_35 (n64_of c7) ?_
    obtain rfl := some_of hf
    exact V_dret F rfl dX8_share_36 rfl rfl
  · replace hf := ite_pos hf h2
    refine V_dconst1 (pc := 9) F dX8_share_9 ?_
    refine V_goto (pc := 10) (tgt := 36) F dX8_share_10 (by decide) ?_
    obtain rfl := some_of hf
    exact V_dret F rfl dX8_share_36 rfl rfl
theorem hd_X8_safeShare : yX8_safeShare.cls = RX8 ∧ yX8_safeShare.cls ≠ "java/lang/invoke/MethodHandle" ∧ yX8_safeShare.cls ≠ "java/lang/invoke/VarHandle" ∧ (parseMethodDescriptor yX8_safeShare.desc).map (fun d => d.parameters.length) = some 0 := by decide +kernel
def fX8_safeShare (N : Nat) (v : SX8) : Option (UInt64 × SX8) :=
  (fX8_share N (0, v.2)).bind fun r1 =>
    some (r1, (0, v.2))
set_option maxHeartbeats 8000000 in
set_option maxRecDepth 100000 in
theorem M_X8_safeShare (l : Launch) (D : va_G) (cy : Nat → ClassId) (N : Nat) (a : Nat → Nat) (v : SX8) (o : UInt64 × SX8) (hf : fX8_safeShare N v = some o) : okM l yX8_safeShare wsX8_safeShare (rmz 6 131) D cy [.ref (a 0)] (wX8 cy a v) (wX8 cy a o.2) (some (.double o.1)) := by
  refine okM_of (own := RX8) (nme := "safeShare") (cc := cX8_safeShare) (maxL := 1) (ret := (some .double)) (by decide) rfl rfl rfl (Nat.le_of_ble_eq_true rfl) ?_
  intro p e s m args below meth c A F
  have i_X8 : ∀ w ∈ u_ws RX8 TX8 13, w ∈ wsX8_safeShare := fun _ h => List.mem_cons_of_mem _ (List.mem_append_right _ h)
  unfold fX8_safeShare at hf
  refine V.eq rfl (show lv_args 0 [.ref (a 0)] = [(0, .ref (a 0))] from rfl) rfl ?_
  refine V_aload_n (pc := 0) F dX8_safeShare_0 rfl 0 rfl ?_
  refine V_iconst (v := 0) (pc := 1) F dX8_safeShare_1 (by decide) ?_
  refine V_put (w2 := wX8 cy a (0, v.2)) (pc := 2) F 0 8 0 i_X8 tyX8 tyX8_ok nmX8 rfl (by decide) rfl (mm 1 rfl) rfl dX8_safeShare_2 rfl rfl rfl (Nat.le_of_ble_eq_true rfl) rfl ?_
  refine V_aload_n (pc := 5) F dX8_safeShare_5 rfl 0 rfl ?_
  obtain ⟨r1, g2, hf⟩ := bind_of hf
  refine V_V (w2 := wX8 cy a (0, v.2)) (rest := []) (st2 := [.double r1]) (pc := 6) F 8 (M_X8_share l D cy N a (0, v.2) r1 g2) (cwV 0 F.ts gX8_safeShare_X8_share rfl rfl rfl hd_X8_share ⟨Nat.le_of_ble_eq_true rfl, Nat.le_of_ble_eq_true rfl⟩) rfl dX8_safeShare_6 Fit.whole rfl rfl rfl (Nat.le_of_ble_eq_true rfl) (Nat.zero_le _) (Nat.zero_le _) rfl rfl rfl ?_
  obtain rfl := some_of hf
  exact V_dret F rfl dX8_safeShare_9 rfl rfl
theorem hd_X8_bitsOf : yX8_bitsOf.cls ≠ "java/lang/invoke/MethodHandle" ∧ yX8_bitsOf.cls ≠ "java/lang/invoke/VarHandle" ∧ (parseMethodDescriptor yX8_bitsOf.desc).map (fun d => d.parameters.length) = some 1 := by decide +kernel
def fX8_bitsOf_L15 (N : Nat)  : Nat → UInt64 → Int64 → Option (UInt64 × Int64)
  | 0, _, _ => none
  | n + 1, z2, z4 =>
    if (Op.cmpValue (FP.dcmp z2 (4611686018427387904)) .l) < 0 then
      some (z2, z4)
    else
      must (decide ((FP.ddiv z2 (4611686018427387904)) &&& 0x7fffffffffffffff ≤ 0x7ff0000000000000)) (
        fX8_bitsOf_L15 N n (FP.ddiv z2 (4611686018427387904)) (z4 + 1)
      )
def fX8_bitsOf_L38 (N : Nat)  : Nat → UInt64 → Int64 → Option (UInt64 × Int64)
  | 0, _, _ => none
  | n + 1, z2, z4 =>
    if 0 ≤ (Op.cmpValue (FP.dcmp z2 FP.dconst1) .g) then
      some (z2, z4)
    else
      must (decide ((FP.dmul z2 (4611686018427387904)) &&& 0x7fffffffffffffff ≤ 0x7ff0000000000000)) (
        fX8_bitsOf_L38 N n (FP.dmul z2 (4611686018427387904)) (z4 - 1)
      )
def fX8_bitsOf (N : Nat) (x0 : UInt64) : Option (Int64) :=
  if (Op.cmpValue (FP.dcmp x0 FP.dconst0) .l) = 0 then
    some 0
  else
    (fX8_bitsOf_L15 N N x0 (1023)).bind fun u4 =>
      (fX8_bitsOf_L38 N N u4.1 u4.2).bind fun u8 =>
        must (decide ((FP.dmul u8.1 (4841369599423283200)) &&& 0x7fffffffffffffff ≤ 0x7ff0000000000000)) (
          some (((u8.2 <<< ((52 : Int32).toInt64 &&& 63)) + (FP.d2l (FP.dmul u8.1 (4841369599423283200)))) - (4503599627370496))
        )
set_option maxHeartbeats 8000000 in
set_option maxRecDepth 100000 in
theorem M_X8_bitsOf (l : Launch) (D : va_G) (cy : Nat → ClassId) (N : Nat) (x0 : UInt64) (o : Int64) (hf : fX8_bitsOf N x0 = some o) : okM l yX8_bitsOf wsX8_bitsOf (rmz 0 0) D cy [.double x0] ([] : va_W) ([] : va_W) (some (.long o)) := by
  refine okM_of (own := RX8) (nme := "bitsOf") (cc := cX8_bitsOf) (maxL := 6) (ret := (some .long)) (by decide) rfl rfl rfl (Nat.le_of_ble_eq_true rfl) ?_
  intro p e s m args below meth c A F
  have K15 : ∀ (n : Nat) (z2 : UInt64) (z4 : Int64) (u : UInt64 × Int64), fX8_bitsOf_L15 N n z2 z4 = some u → V p l e (rmz 0 0) s m args below meth c 6 D A 0 0 (MQ below (ok_Q D ([] : va_W) (some (.long o)) A) args s 0 0 A) ([] : va_W) [(2, .double u.1), (4, .long u.2)] [] 38 → V p l e (rmz 0 0) s m args below meth c 6 D A 0 0 (MQ below (ok_Q D ([] : va_W) (some (.long o)) A) args s 0 0 A) ([] : va_W) [(2, .double z2), (4, .long z4)] [] 15 := by
    intro n
    induction n with
    | zero =>
      intro z2 z4 u hf hk
      exact nomatch (show (none : Option (UInt64 × Int64)) = some u from hf)
    | succ n ih =>
      intro z2 z4 u hf hk
      rw [fX8_bitsOf_L15] at hf
      refine V_dload_n (pc := 15) F dX8_bitsOf_15 rfl 0 rfl ?_
      refine V_ldc2d (v := (4611686018427387904)) (pc := 16) F dX8_bitsOf_16 (mm 2 rfl) ?_
      refine V_dcmp (pc := 19) F dX8_bitsOf_19 ?_
      refine V_if_lt (pc := 20) (tgt := 38) F dX8_bitsOf_20 (by decide) (fun h2 => ?_) (fun h2 => ?_)
      · replace hf := ite_pos hf h2
        obtain rfl := some_of hf
        exact V.sub [0, 1] rfl hk
      · replace hf := ite_neg hf h2
        refine V_dload_n (pc := 23) F dX8_bitsOf_23 rfl 0 rfl ?_
        refine V_ldc2d (v := (4611686018427387904)) (pc := 24) F dX8_bitsOf_24 (mm 2 rfl) ?_
        obtain ⟨c3, hf⟩ := must_some hf
        refine V_ddiv (pc := 27) F dX8_bitsOf_27 (n64_of c3) ?_
        refine V_dstore_n (L2 := [(2, .double (FP.ddiv z2 (4611686018427387904))), (4, .long z4)]) (pc := 28) F dX8_bitsOf_28 rfl (by decide) rfl ?_
        refine V_lload (pc := 29) F dX8_bitsOf_29 1 rfl ?_
        refine V_lconst (v := 1) (pc := 31) F dX8_bitsOf_31 (by decide) ?_
        refine V_ladd (pc := 32) F dX8_bitsOf_32 ?_
        refine V_lstore (L2 := [(4, .long (z4 + 1)), (2, .double (FP.ddiv z2 (4611686018427387904)))]) (pc := 33) F dX8_bitsOf_33 (by decide) rfl ?_
        refine V_goto (pc := 35) (tgt := 15) F dX8_bitsOf_35 (by decide) ?_
        refine V.sub [1, 0] rfl ?_
        exact ih (FP.ddiv z2 (4611686018427387904)) (z4 + 1) _ hf hk
  have K38 : ∀ (n : Nat) (z2 : UInt64) (z4 : Int64) (u : UInt64 × Int64), fX8_bitsOf_L38 N n z2 z4 = some u → V p l e (rmz 0 0) s m args below meth c 6 D A 0 0 (MQ below (ok_Q D ([] : va_W) (some (.long o)) A) args s 0 0 A) ([] : va_W) [(2, .double u.1), (4, .long u.2)] [] 59 → V p l e (rmz 0 0) s m args below meth c 6 D A 0 0 (MQ below (ok_Q D ([] : va_W) (some (.long o)) A) args s 0 0 A) ([] : va_W) [(2, .double z2), (4, .long z4)] [] 38 := by
    intro n
    induction n with
    | zero =>
      intro z2 z4 u hf hk
      exact nomatch (show (none : Option (UInt64 × Int64)) = some u from hf)
    | succ n ih =>
      intro z2 z4 u hf hk
      rw [fX8_bitsOf_L38] at hf
      refine V_dload_n (pc := 38) F dX8_bitsOf_38 rfl 0 rfl ?_
      refine V_dconst1 (pc := 39) F dX8_bitsOf_39 ?_
      refine V_dcmp (pc := 40) F dX8_bitsOf_40 ?_
      refine V_if_ge (pc := 41) (tgt := 59) F dX8_bitsOf_41 (by decide) (fun h6 => ?_) (fun h6 => ?_)
      · replace hf := ite_pos hf h6
        obtain rfl := some_of hf
        exact V.sub [0, 1] rfl hk
      · replace hf := ite_neg hf h6
        refine V_dload_n (pc := 44) F dX8_bitsOf_44 rfl 0 rfl ?_
        refine V_ldc2d (v := (4611686018427387904)) (pc := 45) F dX8_bitsOf_45 (mm 2 rfl) ?_
        obtain ⟨c7, hf⟩ := must_some hf
        refine V_dmul (pc := 48) F dX8_bitsOf_48 (n64_of c7) ?_
        refine V_dstore_n (L2 := [(2, .double (FP.dmul z2 (4611686018427387904))), (4, .long z4)]) (pc := 49) F dX8_bitsOf_49 rfl (by decide) rfl ?_
        refine V_lload (pc := 50) F dX8_bitsOf_50 1 rfl ?_
        refine V_lconst (v := 1) (pc := 52) F dX8_bitsOf_52 (by decide) ?_
        refine V_lsub (pc := 53) F dX8_bitsOf_53 ?_
        refine V_lstore (L2 := [(4, .long (z4 - 1)), (2, .double (FP.dmul z2 (4611686018427387904)))]) (pc := 54) F dX8_bitsOf_54 (by decide) rfl ?_
        refine V_goto (pc := 56) (tgt := 38) F dX8_bitsOf_56 (by decide) ?_
        refine V.sub [1, 0] rfl ?_
        exact ih (FP.dmul z2 (4611686018427387904)) (z4 - 1) _ hf hk
  unfold fX8_bitsOf at hf
  refine V.eq rfl (show lv_args 0 [.double x0] = [(0, .double x0)] from rfl) rfl ?_
  refine V_dload_n (pc := 0) F dX8_bitsOf_0 rfl 0 rfl ?_
  refine V_dconst0 (pc := 1) F dX8_bitsOf_1 ?_
  refine V_dcmp (pc := 2) F dX8_bitsOf_2 ?_
  refine V_if_ne (pc := 3) (tgt := 8) F dX8_bitsOf_3 (by decide) (fun h1 => ?_) (fun h1 => ?_)
  · replace hf := ite_neg hf h1
    refine V_dload_n (pc := 8) F dX8_bitsOf_8 rfl 0 rfl ?_
    refine V_dstore_n (L2 := [(2, .double x0), (0, .double x0)]) (pc := 9) F dX8_bitsOf_9 rfl (by decide) rfl ?_
    refine V_ldc2 (v := (1023)) (pc := 10) F dX8_bitsOf_10 (mm 1 rfl) ?_
    refine V_lstore (L2 := [(4, .long (1023)), (2, .double x0), (0, .double x0)]) (pc := 13) F dX8_bitsOf_13 (by decide) rfl ?_
    refine V.sub [1, 0] rfl ?_
    obtain ⟨u4, g5, hf⟩ := bind_of hf
    refine K15 N x0 (1023) u4 g5 ?_
    refine V.sub [0, 1] rfl ?_
    obtain ⟨u8, g9, hf⟩ := bind_of hf
    refine K38 N u4.1 u4.2 u8 g9 ?_
    refine V_lload (pc := 59) F dX8_bitsOf_59 1 rfl ?_
    refine V_bipush (v := 52) (pc := 61) F dX8_bitsOf_61 (by decide) ?_
    refine V_lshl (pc := 63) F dX8_bitsOf_63 ?_
    refine V_dload_n (pc := 64) F dX8_bitsOf_64 rfl 0 rfl ?_
    refine V_ldc2d (v := (4841369599423283200)) (pc := 65) F dX8_bitsOf_65 (mm 3 rfl) ?_
    obtain ⟨c10, hf⟩ := must_some hf
    refine V_dmul (pc := 68) F dX8_bitsOf_68 (n64_of c10) ?_
    refine V_d2l (pc := 69) F dX8_bitsOf_69 ?_
    refine V_ladd (pc := 70) F dX8_bitsOf_70 ?_
    refine V_ldc2 (v := (4503599627370496)) (pc := 71) F dX8_bitsOf_71 (mm 4 rfl) ?_
    refine V_lsub (pc := 74) F dX8_bitsOf_74 ?_
    obtain rfl := some_of hf
    exact V_lret F rfl dX8_bitsOf_75 rfl rfl
  · replace hf := ite_pos hf h1
    refine V_lconst (v := 0) (pc := 6) F dX8_bitsOf_6 (by decide) ?_
    obtain rfl := some_of hf
    exact V_lret F rfl dX8_bitsOf_7 rfl rfl
theorem hd_X8_mix : yX8_mix.cls = RX8 ∧ yX8_mix.cls ≠ "java/lang/invoke/MethodHandle" ∧ yX8_mix.cls ≠ "java/lang/invoke/VarHandle" ∧ (parseMethodDescriptor yX8_mix.desc).map (fun d => d.parameters.length) = some 1 := by decide +kernel
def fX8_mix (N : Nat) (v : SX8) (x1 : Int64) : Option (SX8) :=
  some (v.1, v.2.1, v.2.2.1, v.2.2.2.1, v.2.2.2.2.1, v.2.2.2.2.2.1, v.2.2.2.2.2.2.1, v.2.2.2.2.2.2.2.1, v.2.2.2.2.2.2.2.2.1, v.2.2.2.2.2.2.2.2.2.1, v.2.2.2.2.2.2.2.2.2.2.1, v.2.2.2.2.2.2.2.2.2.2.2.1, (((31 : Int64) * v.2.2.2.2.2.2.2.2.2.2.2.2) + x1))
set_option maxHeartbeats 8000000 in
set_option maxRecDepth 100000 in
theorem M_X8_mix (l : Launch) (D : va_G) (cy : Nat → ClassId) (N : Nat) (a : Nat → Nat) (v : SX8) (x1 : Int64) (o : SX8) (hf : fX8_mix N v x1 = some o) : okM l yX8_mix wsX8_mix (rmz 0 0) D cy [.ref (a 0), .long x1] (wX8 cy a v) (wX8 cy a o) none := by
  refine okM_of (own := RX8) (nme := "mix") (cc := cX8_mix) (maxL := 3) (ret := none) (by decide) rfl rfl rfl (Nat.le_of_ble_eq_true rfl) ?_
  intro p e s m args below meth c A F
  have i_X8 : ∀ w ∈ u_ws RX8 TX8 13, w ∈ wsX8_mix := fun _ h => List.mem_cons_of_mem _ (List.mem_append_right _ h)
  unfold fX8_mix at hf
  refine V.eq rfl (show lv_args 0 [.ref (a 0), .long x1] = [(0, .ref (a 0)), (1, .long x1)] from rfl) rfl ?_
  refine V_aload_n (pc := 0) F dX8_mix_0 rfl 0 rfl ?_
  refine V_ldc2 (v := (31)) (pc := 1) F dX8_mix_1 (mm 1 rfl) ?_
  refine V_aload_n (pc := 4) F dX8_mix_4 rfl 0 rfl ?_
  refine V_get (pc := 5) F 0 8 12 i_X8 rfl (by decide) rfl (mm 2 rfl) dX8_mix_5 rfl rfl ?_
  refine V_lmul (pc := 8) F dX8_mix_8 ?_
  refine V_lload_n (pc := 9) F dX8_mix_9 rfl 1 rfl ?_
  refine V_ladd (pc := 10) F dX8_mix_10 ?_
  refine V_put (w2 := wX8 cy a (v.1, v.2.1, v.2.2.1, v.2.2.2.1, v.2.2.2.2.1, v.2.2.2.2.2.1, v.2.2.2.2.2.2.1, v.2.2.2.2.2.2.2.1, v.2.2.2.2.2.2.2.2.1, v.2.2.2.2.2.2.2.2.2.1, v.2.2.2.2.2.2.2.2.2.2.1, v.2.2.2.2.2.2.2.2.2.2.2.1, (((31 : Int64) * v.2.2.2.2.2.2.2.2.2.2.2.2) + x1))) (pc := 11) F 0 8 12 i_X8 tyX8 tyX8_ok nmX8 rfl (by decide) rfl (mm 2 rfl) rfl dX8_mix_11 rfl rfl rfl (Nat.le_of_ble_eq_true rfl) rfl ?_
  obtain rfl := some_of hf
  exact V_vret F rfl dX8_mix_14 rfl
theorem hd_X8_mixPhase : yX8_mixPhase.cls = RX8 ∧ yX8_mixPhase.cls ≠ "java/lang/invoke/MethodHandle" ∧ yX8_mixPhase.cls ≠ "java/lang/invoke/VarHandle" ∧ (parseMethodDescriptor yX8_mixPhase.desc).map (fun d => d.parameters.length) = some 1 := by decide +kernel
def fX8_mixPhase_L2 (N : Nat) (z1 : Int32) : Nat → SX8 → Int32 → Option (SX8)
  | 0, _, _ => none
  | n + 1, v, z2 =>
    if 5 < z2 then
      some v
    else
      (fX8_toldPhase N v z1 z2).bind fun r2 =>
        (fX8_mix N v ((r2).toInt64)).bind fun r4 =>
          fX8_mixPhase_L2 N z1 n r4 (z2 + 1)
def fX8_mixPhase_L37 (N : Nat) (z1 : Int32) (z2 : Int32) : Nat → SX8 → Int32 → Option (SX8)
  | 0, _, _ => none
  | n + 1, v, z3 =>
    if 2 < z3 then
      some v
    else
      (fX8_toldRule N v z1 z2 z3).bind fun r12 =>
        (fX8_mix N v ((r12).toInt64)).bind fun r14 =>
          fX8_mixPhase_L37 N z1 z2 n r14 (z3 + 1)
def fX8_mixPhase_L26 (N : Nat) (z1 : Int32) : Nat → SX8 → Int32 → Option (SX8)
  | 0, _, _ => none
  | n + 1, v, z2 =>
    (fX8_rules N v z1).bind fun r8 =>
      if r8 ≤ z2 then
        some v
      else
        (fX8_mixPhase_L37 N z1 z2 N v 0).bind fun u16 =>
          fX8_mixPhase_L26 N z1 n u16 (z2 + 1)
def fX8_mixPhase_L68 (N : Nat) (z1 : Int32) : Nat → SX8 → Int32 → Option (SX8)
  | 0, _, _ => none
  | n + 1, v, z2 =>
    if 6 ≤ z2 then
      some v
    else
      (fX8_canStarve N v z1 z2).bind fun r21 =>
        if r21 = 0 then
          (fX8_mix N v 0).bind fun r24 =>
            (fX8_longest N r24 z2 z1).bind fun r26 =>
              (fX8_mix N r26.2 ((r26.1).toInt64)).bind fun r28 =>
                (fX8_shortest N r28 z2 z1).bind fun r30 =>
                  (fX8_mix N r30.2 ((r30.1).toInt64)).bind fun r32 =>
                    (fX8_remedyFor N r32 z2 z1).bind fun r34 =>
                      (fX8_mix N r34.2 ((r34.1).toInt64)).bind fun r36 =>
                        fX8_mixPhase_L68 N z1 n r36 (z2 + 1)
        else
          (fX8_mix N v 1).bind fun r38 =>
            (fX8_longest N r38 z2 z1).bind fun r40 =>
              (fX8_mix N r40.2 ((r40.1).toInt64)).bind fun r42 =>
                (fX8_shortest N r42 z2 z1).bind fun r44 =>
                  (fX8_mix N r44.2 ((r44.1).toInt64)).bind fun r46 =>
                    (fX8_remedyFor N r46 z2 z1).bind fun r48 =>
                      (fX8_mix N r48.2 ((r48.1).toInt64)).bind fun r50 =>
                        fX8_mixPhase_L68 N z1 n r50 (z2 + 1)
def fX8_mixPhase (N : Nat) (v : SX8) (x1 : Int32) : Option (SX8) :=
  (fX8_mixPhase_L2 N x1 N v 0).bind fun u6 =>
    (fX8_mixPhase_L26 N x1 N u6 0).bind fun u18 =>
      (fX8_mixPhase_L68 N x1 N u18 0).bind fun u52 =>
        some u52
set_option maxHeartbeats 8000000 in
set_option maxRecDepth 100000 in
theorem M_X8_mixPhase (l : Launch) (D : va_G) (cy : Nat → ClassId) (N : Nat) (a : Nat → Nat) (v : SX8) (x1 : Int32) (o : SX8) (hf : fX8_mixPhase N v x1 = some o) : okM l yX8_mixPhase wsX8_mixPhase (rmz 10 240) D cy [.ref (a 0), .int x1] (wX8 cy a v) (wX8 cy a o) none := by
  refine okM_of (own := RX8) (nme := "mixPhase") (cc := cX8_mixPhase) (maxL := 4) (ret := none) (by decide) rfl rfl rfl (Nat.le_of_ble_eq_true rfl) ?_
  intro p e s m args below meth c A F
  have K2 : ∀ (n : Nat) (z1 : Int32) (v : SX8) (z2 : Int32) (u : SX8), fX8_mixPhase_L2 N z1 n v z2 = some u → V p l e (rmz 10 240) s m args below meth c 4 D A 0 0 (MQ below (ok_Q D (wX8 cy a o) none A) args s 0 0 A) (wX8 cy a u) [(0, .ref (a 0)), (1, .int z1)] [] 24 → V p l e (rmz 10 240) s m args below meth c 4 D A 0 0 (MQ below (ok_Q D (wX8 cy a o) none A) args s 0 0 A) (wX8 cy a v) [(0, .ref (a 0)), (1, .int z1), (2, .int z2)] [] 2 := by
    intro n
    induction n with
    | zero =>
      intro z1 v z2 u hf hk
      exact nomatch (show (none : Option (SX8)) = some u from hf)
    | succ n ih =>
      intro z1 v z2 u hf hk
      rw [fX8_mixPhase_L2] at hf
      refine V_iload_n (pc := 2) F dX8_mixPhase_2 rfl 2 rfl ?_
      refine V_iconst (v := 5) (pc := 3) F dX8_mixPhase_3 (by decide) ?_
      refine V_icmp_gt (pc := 4) (tgt := 24) F dX8_mixPhase_4 (by decide) (fun h1 => ?_) (fun h1 => ?_)
      · replace hf := ite_pos hf h1
        obtain rfl := some_of hf
        exact V.sub [0, 1] rfl hk
      · replace hf := ite_neg hf h1
        refine V_aload_n (pc := 7) F dX8_mixPhase_7 rfl 0 rfl ?_
        refine V_aload_n (pc := 8) F dX8_mixPhase_8 rfl 0 rfl ?_
        refine V_iload_n (pc := 9) F dX8_mixPhase_9 rfl 1 rfl ?_
        refine V_iload_n (pc := 10) F dX8_mixPhase_10 rfl 2 rfl ?_
        obtain ⟨r2, g3, hf⟩ := bind_of hf
        refine V_V (w2 := wX8 cy a v) (rest := [.ref (a 0)]) (st2 := [.int r2, .ref (a 0)]) (pc := 11) F 8 (M_X8_toldPhase l D cy N a v z1 z2 r2 g3) (cwV 2 F.ts gX8_mixPhase_X8_toldPhase rfl rfl rfl hd_X8_toldPhase ⟨Nat.le_of_ble_eq_true rfl, Nat.le_of_ble_eq_true rfl⟩) rfl dX8_mixPhase_11 Fit.whole rfl rfl rfl (Nat.le_of_ble_eq_true rfl) (Nat.zero_le _) (Nat.zero_le _) rfl rfl rfl ?_
        refine V_i2l (pc := 14) F dX8_mixPhase_14 ?_
        obtain ⟨r4, g5, hf⟩ := bind_of hf
        refine V_V (w2 := wX8 cy a r4) (rest := []) (st2 := []) (pc := 15) F 8 (M_X8_mix l D cy N a v ((r2).toInt64) r4 g5) (cwV 1 F.ts gX8_mixPhase_X8_mix rfl rfl rfl hd_X8_mix ⟨Nat.le_of_ble_eq_true rfl, Nat.le_of_ble_eq_true rfl⟩) rfl dX8_mixPhase_15 Fit.whole fstX8 rfl rfl (Nat.le_of_ble_eq_true rfl) (Nat.zero_le _) (Nat.zero_le _) rfl rfl rfl ?_
        refine V_iinc (v := (z2 + 1)) (L2 := [(2, .int (z2 + 1)), (0, .ref (a 0)), (1, .int z1)]) (pc := 18) F dX8_mixPhase_18 2 rfl rfl (by decide) rfl ?_
        refine V_goto (pc := 21) (tgt := 2) F dX8_mixPhase_21 (by decide) ?_
        refine V.sub [1, 2, 0] rfl ?_
        exact ih z1 r4 (z2 + 1) _ hf hk
  have K37 : ∀ (n : Nat) (z1 : Int32) (z2 : Int32) (v : SX8) (z3 : Int32) (u : SX8), fX8_mixPhase_L37 N z1 z2 n v z3 = some u → V p l e (rmz 10 240) s m args below meth c 4 D A 0 0 (MQ below (ok_Q D (wX8 cy a o) none A) args s 0 0 A) (wX8 cy a u) [(0, .ref (a 0)), (1, .int z1), (2, .int z2)] [] 60 → V p l e (rmz 10 240) s m args below meth c 4 D A 0 0 (MQ below (ok_Q D (wX8 cy a o) none A) args s 0 0 A) (wX8 cy a v) [(0, .ref (a 0)), (1, .int z1), (2, .int z2), (3, .int z3)] [] 37 := by
    intro n
    induction n with
    | zero =>
      intro z1 z2 v z3 u hf hk
      exact nomatch (show (none : Option (SX8)) = some u from hf)
    | succ n ih =>
      intro z1 z2 v z3 u hf hk
      rw [fX8_mixPhase_L37] at hf
      refine V_iload_n (pc := 37) F dX8_mixPhase_37 rfl 3 rfl ?_
      refine V_iconst (v := 2) (pc := 38) F dX8_mixPhase_38 (by decide) ?_
      refine V_icmp_gt (pc := 39) (tgt := 60) F dX8_mixPhase_39 (by decide) (fun h11 => ?_) (fun h11 => ?_)
      · replace hf := ite_pos hf h11
        obtain rfl := some_of hf
        exact V.sub [0, 1, 2] rfl hk
      · replace hf := ite_neg hf h11
        refine V_aload_n (pc := 42) F dX8_mixPhase_42 rfl 0 rfl ?_
        refine V_aload_n (pc := 43) F dX8_mixPhase_43 rfl 0 rfl ?_
        refine V_iload_n (pc := 44) F dX8_mixPhase_44 rfl 1 rfl ?_
        refine V_iload_n (pc := 45) F dX8_mixPhase_45 rfl 2 rfl ?_
        refine V_iload_n (pc := 46) F dX8_mixPhase_46 rfl 3 rfl ?_
        obtain ⟨r12, g13, hf⟩ := bind_of hf
        refine V_V (w2 := wX8 cy a v) (rest := [.ref (a 0)]) (st2 := [.int r12, .ref (a 0)]) (pc := 47) F 8 (M_X8_toldRule l D cy N a v z1 z2 z3 r12 g13) (cwV 3 F.ts gX8_mixPhase_X8_toldRule rfl rfl rfl hd_X8_toldRule ⟨Nat.le_of_ble_eq_true rfl, Nat.le_of_ble_eq_true rfl⟩) rfl dX8_mixPhase_47 Fit.whole rfl rfl rfl (Nat.le_of_ble_eq_true rfl) (Nat.zero_le _) (Nat.zero_le _) rfl rfl rfl ?_
        refine V_i2l (pc := 50) F dX8_mixPhase_50 ?_
        obtain ⟨r14, g15, hf⟩ := bind_of hf
        refine V_V (w2 := wX8 cy a r14) (rest := []) (st2 := []) (pc := 51) F 8 (M_X8_mix l D cy N a v ((r12).toInt64) r14 g15) (cwV 1 F.ts gX8_mixPhase_X8_mix rfl rfl rfl hd_X8_mix ⟨Nat.le_of_ble_eq_true rfl, Nat.le_of_ble_eq_true rfl⟩) rfl dX8_mixPhase_51 Fit.whole fstX8 rfl rfl (Nat.le_of_ble_eq_true rfl) (Nat.zero_le _) (Nat.zero_le _) rfl rfl rfl ?_
        refine V_iinc (v := (z3 + 1)) (L2 := [(3, .int (z3 + 1)), (0, .ref (a 0)), (1, .int z1), (2, .int z2)]) (pc := 54) F dX8_mixPhase_54 3 rfl rfl (by decide) rfl ?_
        refine V_goto (pc := 57) (tgt := 37) F dX8_mixPhase_57 (by decide) ?_
        refine V.sub [1, 2, 3, 0] rfl ?_
        exact ih z1 z2 r14 (z3 + 1) _ hf hk
  have K26 : ∀ (n : Nat) (z1 : Int32) (v : SX8) (z2 : Int32) (u : SX8), fX8_mixPhase_L26 N z1 n v z2 = some u → V p l e (rmz 10 240) s m args below meth c 4 D A 0 0 (MQ below (ok_Q D (wX8 cy a o) none A) args s 0 0 A) (wX8 cy a u) [(0, .ref (a 0)), (1, .int z1)] [] 66 → V p l e (rmz 10 240) s m args below meth c 4 D A 0 0 (MQ below (ok_Q D (wX8 cy a o) none A) args s 0 0 A) (wX8 cy a v) [(0, .ref (a 0)), (1, .int z1), (2, .int z2)] [] 26 := by
    intro n
    induction n with
    | zero =>
      intro z1 v z2 u hf hk
      exact nomatch (show (none : Option (SX8)) = some u from hf)
    | succ n ih =>
      intro z1 v z2 u hf hk
      rw [fX8_mixPhase_L26] at hf
      refine V_iload_n (pc := 26) F dX8_mixPhase_26 rfl 2 rfl ?_
      refine V_aload_n (pc := 27) F dX8_mixPhase_27 rfl 0 rfl ?_
      refine V_iload_n (pc := 28) F dX8_mixPhase_28 rfl 1 rfl ?_
      obtain ⟨r8, g9, hf⟩ := bind_of hf
      refine V_V (w2 := wX8 cy a v) (rest := [.int z2]) (st2 := [.int r8, .int z2]) (pc := 29) F 8 (M_X8_rules l D cy N a v z1 r8 g9) (cwV 1 F.ts gX8_mixPhase_X8_rules rfl rfl rfl hd_X8_rules ⟨Nat.le_of_ble_eq_true rfl, Nat.le_of_ble_eq_true rfl⟩) rfl dX8_mixPhase_29 Fit.whole rfl rfl rfl (Nat.le_of_ble_eq_true rfl) (Nat.zero_le _) (Nat.zero_le _) rfl rfl rfl ?_
      refine V_icmp_ge (pc := 32) (tgt := 66) F dX8_mixPhase_32 (by decide) (fun h10 => ?_) (fun h10 => ?_)
      · replace hf := ite_pos hf h10
        obtain rfl := some_of hf
        exact V.sub [0, 1] rfl hk
      · replace hf := ite_neg hf h10
        refine V_iconst (v := 0) (pc := 35) F dX8_mixPhase_35 (by decide) ?_
        refine V_istore_n (L2 := [(3, .int 0), (0, .ref (a 0)), (1, .int z1), (2, .int z2)]) (pc := 36) F dX8_mixPhase_36 rfl (by decide) rfl ?_
        refine V.sub [1, 2, 3, 0] rfl ?_
        obtain ⟨u16, g17, hf⟩ := bind_of hf
        refine K37 N z1 z2 v 0 u16 g17 ?_
        refine V_iinc (v := (z2 + 1)) (L2 := [(2, .int (z2 + 1)), (0, .ref (a 0)), (1, .int z1)]) (pc := 60) F dX8_mixPhase_60 2 rfl rfl (by decide) rfl ?_
        refine V_goto (pc := 63) (tgt := 26) F dX8_mixPhase_63 (by decide) ?_
        refine V.sub [1, 2, 0] rfl ?_
        exact ih z1 u16 (z2 + 1) _ hf hk
  have K68 : ∀ (n : Nat) (z1 : Int32) (v : SX8) (z2 : Int32) (u : SX8), fX8_mixPhase_L68 N z1 n v z2 = some u → V p l e (rmz 10 240) s m args below meth c 4 D A 0 0 (MQ below (ok_Q D (wX8 cy a o) none A) args s 0 0 A) (wX8 cy a u) [] [] 131 → V p l e (rmz 10 240) s m args below meth c 4 D A 0 0 (MQ below (ok_Q D (wX8 cy a o) none A) args s 0 0 A) (wX8 cy a v) [(0, .ref (a 0)), (1, .int z1), (2, .int z2)] [] 68 := by
    intro n
    induction n with
    | zero =>
      intro z1 v z2 u hf hk
      exact nomatch (show (none : Option (SX8)) = some u from hf)
    | succ n ih =>
      intro z1 v z2 u hf hk
      rw [fX8_mixPhase_L68] at hf
      refine V_iload_n (pc := 68) F dX8_mixPhase_68 rfl 2 rfl ?_
      refine V_bipush (v := 6) (pc := 69) F dX8_mixPhase_69 (by decide) ?_
      refine V_icmp_ge (pc := 71) (tgt := 131) F dX8_mixPhase_71 (by decide) (fun h20 => ?_) (fun h20 => ?_)
      · replace hf := ite_pos hf h20
        obtain rfl := some_of hf
        exact V.sub [] rfl hk
      · replace hf := ite_neg hf h20
        refine V_aload_n (pc := 74) F dX8_mixPhase_74 rfl 0 rfl ?_
        refine V_aload_n (pc := 75) F dX8_mixPhase_75 rfl 0 rfl ?_
        refine V_iload_n (pc := 76) F dX8_mixPhase_76 rfl 1 rfl ?_
        refine V_iload_n (pc := 77) F dX8_mixPhase_77 rfl 2 rfl ?_
        obtain ⟨r21, g22, hf⟩ := bind_of hf
        refine V_V (w2 := wX8 cy a v) (rest := [.ref (a 0)]) (st2 := [.int r21, .ref (a 0)]) (pc := 78) F 8 (M_X8_canStarve l D cy N a v z1 z2 r21 g22) (cwV 2 F.ts gX8_mixPhase_X8_canStarve rfl rfl rfl hd_X8_canStarve ⟨Nat.le_of_ble_eq_true rfl, Nat.le_of_ble_eq_true rfl⟩) rfl dX8_mixPhase_78 Fit.whole rfl rfl rfl (Nat.le_of_ble_eq_true rfl) (Nat.zero_le _) (Nat.zero_le _) rfl rfl rfl ?_
        refine V_if_eq (pc := 81) (tgt := 88) F dX8_mixPhase_81 (by decide) (fun h23 => ?_) (fun h23 => ?_)
        · replace hf := ite_pos hf h23
          refine V_lconst (v := 0) (pc := 88) F dX8_mixPhase_88 (by decide) ?_
          obtain ⟨r24, g25, hf⟩ := bind_of hf
          refine V_V (w2 := wX8 cy a r24) (rest := []) (st2 := []) (pc := 89) F 8 (M_X8_mix l D cy N a v 0 r24 g25) (cwV 1 F.ts gX8_mixPhase_X8_mix rfl rfl rfl hd_X8_mix ⟨Nat.le_of_ble_eq_true rfl, Nat.le_of_ble_eq_true rfl⟩) rfl dX8_mixPhase_89 Fit.whole fstX8 rfl rfl (Nat.le_of_ble_eq_true rfl) (Nat.zero_le _) (Nat.zero_le _) rfl rfl rfl ?_
          refine V_aload_n (pc := 92) F dX8_mixPhase_92 rfl 0 rfl ?_
          refine V_aload_n (pc := 93) F dX8_mixPhase_93 rfl 0 rfl ?_
          refine V_iload_n (pc := 94) F dX8_mixPhase_94 rfl 2 rfl ?_
          refine V_iload_n (pc := 95) F dX8_mixPhase_95 rfl 1 rfl ?_
          obtain ⟨r26, g27, hf⟩ := bind_of hf
          refine V_V (w2 := wX8 cy a r26.2) (rest := [.ref (a 0)]) (st2 := [.int r26.1, .ref (a 0)]) (pc := 96) F 8 (M_X8_longest l D cy N a r24 z2 z1 r26 g27) (cwV 2 F.ts gX8_mixPhase_X8_longest rfl rfl rfl hd_X8_longest ⟨Nat.le_of_ble_eq_true rfl, Nat.le_of_ble_eq_true rfl⟩) rfl dX8_mixPhase_96 Fit.whole fstX8 rfl rfl (Nat.le_of_ble_eq_true rfl) (Nat.zero_le _) (Nat.zero_le _) rfl rfl rfl ?_
          refine V_i2l (pc := 99) F dX8_mixPhase_99 ?_
          obtain ⟨r28, g29, hf⟩ := bind_of hf
          refine V_V (w2 := wX8 cy a r28) (rest := []) (st2 := []) (pc := 100) F 8 (M_X8_mix l D cy N a r26.2 ((r26.1).toInt64) r28 g29) (cwV 1 F.ts gX8_mixPhase_X8_mix rfl rfl rfl hd_X8_mix ⟨Nat.le_of_ble_eq_true rfl, Nat.le_of_ble_eq_true rfl⟩) rfl dX8_mixPhase_100 Fit.whole fstX8 rfl rfl (Nat.le_of_ble_eq_true rfl) (Nat.zero_le _) (Nat.zero_le _) rfl rfl rfl ?_
          refine V_aload_n (pc := 103) F dX8_mixPhase_103 rfl 0 rfl ?_
          refine V_aload_n (pc := 104) F dX8_mixPhase_104 rfl 0 rfl ?_
          refine V_iload_n (pc := 105) F dX8_mixPhase_105 rfl 2 rfl ?_
          refine V_iload_n (pc := 106) F dX8_mixPhase_106 rfl 1 rfl ?_
          obtain ⟨r30, g31, hf⟩ := bind_of hf
          refine V_V (w2 := wX8 cy a r30.2) (rest := [.ref (a 0)]) (st2 := [.int r30.1, .ref (a 0)]) (pc := 107) F 8 (M_X8_shortest l D cy N a r28 z2 z1 r30 g31) (cwV 2 F.ts gX8_mixPhase_X8_shortest rfl rfl rfl hd_X8_shortest ⟨Nat.le_of_ble_eq_true rfl, Nat.le_of_ble_eq_true rfl⟩) rfl dX8_mixPhase_107 Fit.whole fstX8 rfl rfl (Nat.le_of_ble_eq_true rfl) (Nat.zero_le _) (Nat.zero_le _) rfl rfl rfl ?_
          refine V_i2l (pc := 110) F dX8_mixPhase_110 ?_
          obtain ⟨r32, g33, hf⟩ := bind_of hf
          refine V_V (w2 := wX8 cy a r32) (rest := []) (st2 := []) (pc := 111) F 8 (M_X8_mix l D cy N a r30.2 ((r30.1).toInt64) r32 g33) (cwV 1 F.ts gX8_mixPhase_X8_mix rfl rfl rfl hd_X8_mix ⟨Nat.le_of_ble_eq_true rfl, Nat.le_of_ble_eq_true rfl⟩) rfl dX8_mixPhase_111 Fit.whole fstX8 rfl rfl (Nat.le_of_ble_eq_true rfl) (Nat.zero_le _) (Nat.zero_le _) rfl rfl rfl ?_
          refine V_aload_n (pc := 114) F dX8_mixPhase_114 rfl 0 rfl ?_
          refine V_aload_n (pc := 115) F dX8_mixPhase_115 rfl 0 rfl ?_
          refine V_iload_n (pc := 116) F dX8_mixPhase_116 rfl 2 rfl ?_
          refine V_iload_n (pc := 117) F dX8_mixPhase_117 rfl 1 rfl ?_
          obtain ⟨r34, g35, hf⟩ := bind_of hf
          refine V_V (w2 := wX8 cy a r34.2) (rest := [.ref (a 0)]) (st2 := [.int r34.1, .ref (a 0)]) (pc := 118) F 8 (M_X8_remedyFor l D cy N a r32 z2 z1 r34 g35) (cwV 2 F.ts gX8_mixPhase_X8_remedyFor rfl rfl rfl hd_X8_remedyFor ⟨Nat.le_of_ble_eq_true rfl, Nat.le_of_ble_eq_true rfl⟩) rfl dX8_mixPhase_118 Fit.whole fstX8 rfl rfl (Nat.le_of_ble_eq_true rfl) (Nat.zero_le _) (Nat.zero_le _) rfl rfl rfl ?_
          refine V_i2l (pc := 121) F dX8_mixPhase_121 ?_
          obtain ⟨r36, g37, hf⟩ := bind_of hf
          refine V_V (w2 := wX8 cy a r36) (rest := []) (st2 := []) (pc := 122) F 8 (M_X8_mix l D cy N a r34.2 ((r34.1).toInt64) r36 g37) (cwV 1 F.ts gX8_mixPhase_X8_mix rfl rfl rfl hd_X8_mix ⟨Nat.le_of_ble_eq_true rfl, Nat.le_of_ble_eq_true rfl⟩) rfl dX8_mixPhase_122 Fit.whole fstX8 rfl rfl (Nat.le_of_ble_eq_true rfl) (Nat.zero_le _) (Nat.zero_le _) rfl rfl rfl ?_
          refine V_iinc (v := (z2 + 1)) (L2 := [(2, .int (z2 + 1)), (0, .ref (a 0)), (1, .int z1)]) (pc := 125) F dX8_mixPhase_125 2 rfl rfl (by decide) rfl ?_
          refine V_goto (pc := 128) (tgt := 68) F dX8_mixPhase_128 (by decide) ?_
          refine V.sub [1, 2, 0] rfl ?_
          exact ih z1 r36 (z2 + 1) _ hf hk
        · replace hf := ite_neg hf h23
          refine V_lconst (v := 1) (pc := 84) F dX8_mixPhase_84 (by decide) ?_
          refine V_goto (pc := 85) (tgt := 89) F dX8_mixPhase_85 (by decide) ?_
          obtain ⟨r38, g39, hf⟩ := bind_of hf
          refine V_V (w2 := wX8 cy a r38) (rest := []) (st2 := []) (pc := 89) F 8 (M_X8_mix l D cy N a v 1 r38 g39) (cwV 1 F.ts gX8_mixPhase_X8_mix rfl rfl rfl hd_X8_mix ⟨Nat.le_of_ble_eq_true rfl, Nat.le_of_ble_eq_true rfl⟩) rfl dX8_mixPhase_89 Fit.whole fstX8 rfl rfl (Nat.le_of_ble_eq_true rfl) (Nat.zero_le _) (Nat.zero_le _) rfl rfl rfl ?_
          refine V_aload_n (pc := 92) F dX8_mixPhase_92 rfl 0 rfl ?_
          refine V_aload_n (pc := 93) F dX8_mixPhase_93 rfl 0 rfl ?_
          refine V_iload_n (pc := 94) F dX8_mixPhase_94 rfl 2 rfl ?_
          refine V_iload_n (pc := 95) F dX8_mixPhase_95 rfl 1 rfl ?_
          obtain ⟨r40, g41, hf⟩ := bind_of hf
          refine V_V (w2 := wX8 cy a r40.2) (rest := [.ref (a 0)]) (st2 := [.int r40.1, .ref (a 0)]) (pc := 96) F 8 (M_X8_longest l D cy N a r38 z2 z1 r40 g41) (cwV 2 F.ts gX8_mixPhase_X8_longest rfl rfl rfl hd_X8_longest ⟨Nat.le_of_ble_eq_true rfl, Nat.le_of_ble_eq_true rfl⟩) rfl dX8_mixPhase_96 Fit.whole fstX8 rfl rfl (Nat.le_of_ble_eq_true rfl) (Nat.zero_le _) (Nat.zero_le _) rfl rfl rfl ?_
          refine V_i2l (pc := 99) F dX8_mixPhase_99 ?_
          obtain ⟨r42, g43, hf⟩ := bind_of hf
          refine V_V (w2 := wX8 cy a r42) (rest := []) (st2 := []) (pc := 100) F 8 (M_X8_mix l D cy N a r40.2 ((r40.1).toInt64) r42 g43) (cwV 1 F.ts gX8_mixPhase_X8_mix rfl rfl rfl hd_X8_mix ⟨Nat.le_of_ble_eq_true rfl, Nat.le_of_ble_eq_true rfl⟩) rfl dX8_mixPhase_100 Fit.whole fstX8 rfl rfl (Nat.le_of_ble_eq_true rfl) (Nat.zero_le _) (Nat.zero_le _) rfl rfl rfl ?_
          refine V_aload_n (pc := 103) F dX8_mixPhase_103 rfl 0 rfl ?_
          refine V_aload_n (pc := 104) F dX8_mixPhase_104 rfl 0 rfl ?_
          refine V_iload_n (pc := 105) F dX8_mixPhase_105 rfl 2 rfl ?_
          refine V_iload_n (pc := 106) F dX8_mixPhase_106 rfl 1 rfl ?_
          obtain ⟨r44, g45, hf⟩ := bind_of hf
          refine V_V (w2 := wX8 cy a r44.2) (rest := [.ref (a 0)]) (st2 := [.int r44.1, .ref (a 0)]) (pc := 107) F 8 (M_X8_shortest l D cy N a r42 z2 z1 r44 g45) (cwV 2 F.ts gX8_mixPhase_X8_shortest rfl rfl rfl hd_X8_shortest ⟨Nat.le_of_ble_eq_true rfl, Nat.le_of_ble_eq_true rfl⟩) rfl dX8_mixPhase_107 Fit.whole fstX8 rfl rfl (Nat.le_of_ble_eq_true rfl) (Nat.zero_le _) (Nat.zero_le _) rfl rfl rfl ?_
          refine V_i2l (pc := 110) F dX8_mixPhase_110 ?_
          obtain ⟨r46, g47, hf⟩ := bind_of hf
          refine V_V (w2 := wX8 cy a r46) (rest := []) (st2 := []) (pc := 111) F 8 (M_X8_mix l D cy N a r44.2 ((r44.1).toInt64) r46 g47) (cwV 1 F.ts gX8_mixPhase_X8_mix rfl rfl rfl hd_X8_mix ⟨Nat.le_of_ble_eq_true rfl, Nat.le_of_ble_eq_true rfl⟩) rfl dX8_mixPhase_111 Fit.whole fstX8 rfl rfl (Nat.le_of_ble_eq_true rfl) (Nat.zero_le _) (Nat.zero_le _) rfl rfl rfl ?_
          refine V_aload_n (pc := 114) F dX8_mixPhase_114 rfl 0 rfl ?_
          refine V_aload_n (pc := 115) F dX8_mixPhase_115 rfl 0 rfl ?_
          refine V_iload_n (pc := 116) F dX8_mixPhase_116 rfl 2 rfl ?_
          refine V_iload_n (pc := 117) F dX8_mixPhase_117 rfl 1 rfl ?_
          obtain ⟨r48, g49, hf⟩ := bind_of hf
          refine V_V (w2 := wX8 cy a r48.2) (rest := [.ref (a 0)]) (st2 := [.int r48.1, .ref (a 0)]) (pc := 118) F 8 (M_X8_remedyFor l D cy N a r46 z2 z1 r48 g49) (cwV 2 F.ts gX8_mixPhase_X8_remedyFor rfl rfl rfl hd_X8_remedyFor ⟨Nat.le_of_ble_eq_true rfl, Nat.le_of_ble_eq_true rfl⟩) rfl dX8_mixPhase_118 Fit.whole fstX8 rfl rfl (Nat.le_of_ble_eq_true rfl) (Nat.zero_le _) (Nat.zero_le _) rfl rfl rfl ?_
          refine V_i2l (pc := 121) F dX8_mixPhase_121 ?_
          obtain ⟨r50, g51, hf⟩ := bind_of hf
          refine V_V (w2 := wX8 cy a r50) (rest := []) (st2 := []) (pc := 122) F 8 (M_X8_mix l D cy N a r48.2 ((r48.1).toInt64) r50 g51) (cwV 1 F.ts gX8_mixPhase_X8_mix rfl rfl rfl hd_X8_mix ⟨Nat.le_of_ble_eq_true rfl, Nat.le_of_ble_eq_true rfl⟩) rfl dX8_mixPhase_122 Fit.whole fstX8 rfl rfl (Nat.le_of_ble_eq_true rfl) (Nat.zero_le _) (Nat.zero_le _) rfl rfl rfl ?_
          refine V_iinc (v := (z2 + 1)) (L2 := [(2, .int (z2 + 1)), (0, .ref (a 0)), (1, .int z1)]) (pc := 125) F dX8_mixPhase_125 2 rfl rfl (by decide) rfl ?_
          refine V_goto (pc := 128) (tgt := 68) F dX8_mixPhase_128 (by decide) ?_
          refine V.sub [1, 2, 0] rfl ?_
          exact ih z1 r50 (z2 + 1) _ hf hk
  unfold fX8_mixPhase at hf
  refine V.eq rfl (show lv_args 0 [.ref (a 0), .int x1] = [(0, .ref (a 0)), (1, .int x1)] from rfl) rfl ?_
  refine V_iconst (v := 0) (pc := 0) F dX8_mixPhase_0 (by decide) ?_
  refine V_istore_n (L2 := [(2, .int 0), (0, .ref (a 0)), (1, .int x1)]) (pc := 1) F dX8_mixPhase_1 rfl (by decide) rfl ?_
  refine V.sub [1, 2, 0] rfl ?_
  obtain ⟨u6, g7, hf⟩ := bind_of hf
  refine K2 N x1 v 0 u6 g7 ?_
  refine V_iconst (v := 0) (pc := 24) F dX8_mixPhase_24 (by decide) ?_
  refine V_istore_n (L2 := [(2, .int 0), (0, .ref (a 0)), (1, .int x1)]) (pc := 25) F dX8_mixPhase_25 rfl (by decide) rfl ?_
  refine V.sub [1, 2, 0] rfl ?_
  obtain ⟨u18, g19, hf⟩ := bind_of hf
  refine K26 N x1 u6 0 u18 g19 ?_
  refine V_iconst (v := 0) (pc := 66) F dX8_mixPhase_66 (by decide) ?_
  refine V_istore_n (L2 := [(2, .int 0), (0, .ref (a 0)), (1, .int x1)]) (pc := 67) F dX8_mixPhase_67 rfl (by decide) rfl ?_
  refine V.sub [1, 2, 0] rfl ?_
  obtain ⟨u52, g53, hf⟩ := bind_of hf
  refine K68 N x1 u18 0 u52 g53 ?_
  obtain rfl := some_of hf
  exact V_vret F rfl dX8_mixPhase_131 rfl
theorem hd_X8_digest : yX8_digest.cls = RX8 ∧ yX8_digest.cls ≠ "java/lang/invoke/MethodHandle" ∧ yX8_digest.cls ≠ "java/lang/invoke/VarHandle" ∧ (parseMethodDescriptor yX8_digest.desc).map (fun d => d.parameters.length) = some 0 := by decide +kernel
def fX8_digest_L14 (N : Nat)  : Nat → SX8 → Int32 → Option (SX8)
  | 0, _, _ => none
  | n + 1, v, z1 =>
    if 11 < z1 then
      some v
    else
      (fX8_counted N v z1).bind fun r2 =>
        (fX8_mix N v ((r2).toInt64)).bind fun r4 =>
          fX8_digest_L14 N n r4 (z1 + 1)
def fX8_digest_L57 (N : Nat) (z1 : Int32) : Nat → SX8 → Int32 → Option (SX8)
  | 0, _, _ => none
  | n + 1, v, z2 =>
    if 5 < z2 then
      some v
    else
      (fX8_toldDirection N v z1 z2).bind fun r13 =>
        (fX8_mix N v ((r13).toInt64)).bind fun r15 =>
          fX8_digest_L57 N z1 n r15 (z2 + 1)
def fX8_digest_L49 (N : Nat)  : Nat → SX8 → Int32 → Option (SX8)
  | 0, _, _ => none
  | n + 1, v, z1 =>
    if 6 ≤ z1 then
      some v
    else
      (fX8_digest_L57 N z1 N v 0).bind fun u17 =>
        (fX8_roundsOf N u17 z1).bind fun r19 =>
          (fX8_mix N u17 ((r19).toInt64)).bind fun r21 =>
            fX8_digest_L49 N n r21 (z1 + 1)
def fX8_digest_L97 (N : Nat)  : Nat → SX8 → Int32 → Option (SX8)
  | 0, _, _ => none
  | n + 1, v, z1 =>
    chk 0 143 (
      if (v.2.1 (0 : Int32).toNatClampNeg) ≤ z1 then
        some v
      else
        (fX8_mixPhase N v z1).bind fun r27 =>
          fX8_digest_L97 N n r27 (z1 + 1)
    )
def fX8_digest_L149 (N : Nat)  : Nat → SX8 → Int32 → Option (SX8)
  | 0, _, _ => none
  | n + 1, v, z1 =>
    if v.2.2.2.2.2.1 ≤ z1 then
      some v
    else
      chk z1 60 (
        (fX8_mix N v (((v.2.2.2.2.1 z1.toNatClampNeg)).toInt64)).bind fun r45 =>
          fX8_digest_L149 N n r45 (z1 + 1)
      )
def fX8_digest (N : Nat) (v : SX8) : Option (Int64 × SX8) :=
  (fX8_digest_L14 N N (0, v.2.1, v.2.2.1, v.2.2.2.1, v.2.2.2.2.1, v.2.2.2.2.2.1, v.2.2.2.2.2.2.1, v.2.2.2.2.2.2.2.1, v.2.2.2.2.2.2.2.2.1, v.2.2.2.2.2.2.2.2.2.1, v.2.2.2.2.2.2.2.2.2.2.1, v.2.2.2.2.2.2.2.2.2.2.2.1, (2803)) 0).bind fun u6 =>
    chk 1 143 (
      (fX8_mix N u6 (((u6.2.1 (1 : Int32).toNatClampNeg)).toInt64)).bind fun r9 =>
        (fX8_digest_L49 N N r9 0).bind fun u23 =>
          (fX8_digest_L97 N N u23 0).bind fun u29 =>
            (fX8_slowestOne N u29).bind fun r31 =>
              (fX8_mix N r31.2 ((r31.1).toInt64)).bind fun r33 =>
                (fX8_share N r33).bind fun r35 =>
                  (fX8_bitsOf N r35).bind fun r37 =>
                    (fX8_mix N r33 r37).bind fun r39 =>
                      (fX8_mix N r39 ((r39.2.2.2.2.2.1).toInt64)).bind fun r41 =>
                        (fX8_digest_L149 N N r41 0).bind fun u47 =>
                          some (u47.2.2.2.2.2.2.2.2.2.2.2.2, u47)
    )
set_option maxHeartbeats 8000000 in
set_option maxRecDepth 100000 in
theorem M_X8_digest (l : Launch) (D : va_G) (cy : Nat → ClassId) (N : Nat) (a : Nat → Nat) (v : SX8) (o : Int64 × SX8) (hf : fX8_digest N v = some o) : okM l yX8_digest wsX8_digest (rmz 11 263) D cy [.ref (a 0)] (wX8 cy a v) (wX8 cy a o.2) (some (.long o.1)) := by
  refine okM_of (own := RX8) (nme := "digest") (cc := cX8_digest) (maxL := 3) (ret := (some .long)) (by decide) rfl rfl rfl (Nat.le_of_ble_eq_true rfl) ?_
  intro p e s m args below meth c A F
  have i_X8 : ∀ w ∈ u_ws RX8 TX8 13, w ∈ wsX8_digest := fun _ h => List.mem_cons_of_mem _ (List.mem_append_right _ h)
  have K14 : ∀ (n : Nat) (v : SX8) (z1 : Int32) (u : SX8), fX8_digest_L14 N n v z1 = some u → V p l e (rmz 11 263) s m args below meth c 3 D A 0 0 (MQ below (ok_Q D (wX8 cy a o.2) (some (.long o.1)) A) args s 0 0 A) (wX8 cy a u) [(0, .ref (a 0))] [] 36 → V p l e (rmz 11 263) s m args below meth c 3 D A 0 0 (MQ below (ok_Q D (wX8 cy a o.2) (some (.long o.1)) A) args s 0 0 A) (wX8 cy a v) [(0, .ref (a 0)), (1, .int z1)] [] 14 := by
    intro n
    induction n with
    | zero =>
      intro v z1 u hf hk
      exact nomatch (show (none : Option (SX8)) = some u from hf)
    | succ n ih =>
      intro v z1 u hf hk
      rw [fX8_digest_L14] at hf
      refine V_iload_n (pc := 14) F dX8_digest_14 rfl 1 rfl ?_
      refine V_bipush (v := 11) (pc := 15) F dX8_digest_15 (by decide) ?_
      refine V_icmp_gt (pc := 17) (tgt := 36) F dX8_digest_17 (by decide) (fun h1 => ?_) (fun h1 => ?_)
      · replace hf := ite_pos hf h1
        obtain rfl := some_of hf
        exact V.sub [0] rfl hk
      · replace hf := ite_neg hf h1
        refine V_aload_n (pc := 20) F dX8_digest_20 rfl 0 rfl ?_
        refine V_aload_n (pc := 21) F dX8_digest_21 rfl 0 rfl ?_
        refine V_iload_n (pc := 22) F dX8_digest_22 rfl 1 rfl ?_
        obtain ⟨r2, g3, hf⟩ := bind_of hf
        refine V_V (w2 := wX8 cy a v) (rest := [.ref (a 0)]) (st2 := [.int r2, .ref (a 0)]) (pc := 23) F 8 (M_X8_counted l D cy N a v z1 r2 g3) (cwV 1 F.ts gX8_digest_X8_counted rfl rfl rfl hd_X8_counted ⟨Nat.le_of_ble_eq_true rfl, Nat.le_of_ble_eq_true rfl⟩) rfl dX8_digest_23 Fit.whole rfl rfl rfl (Nat.le_of_ble_eq_true rfl) (Nat.zero_le _) (Nat.zero_le _) rfl rfl rfl ?_
        refine V_i2l (pc := 26) F dX8_digest_26 ?_
        obtain ⟨r4, g5, hf⟩ := bind_of hf
        refine V_V (w2 := wX8 cy a r4) (rest := []) (st2 := []) (pc := 27) F 8 (M_X8_mix l D cy N a v ((r2).toInt64) r4 g5) (cwV 1 F.ts gX8_digest_X8_mix rfl rfl rfl hd_X8_mix ⟨Nat.le_of_ble_eq_true rfl, Nat.le_of_ble_eq_true rfl⟩) rfl dX8_digest_27 Fit.whole fstX8 rfl rfl (Nat.le_of_ble_eq_true rfl) (Nat.zero_le _) (Nat.zero_le _) rfl rfl rfl ?_
        refine V_iinc (v := (z1 + 1)) (L2 := [(1, .int (z1 + 1)), (0, .ref (a 0))]) (pc := 30) F dX8_digest_30 1 rfl rfl (by decide) rfl ?_
        refine V_goto (pc := 33) (tgt := 14) F dX8_digest_33 (by decide) ?_
        refine V.sub [1, 0] rfl ?_
        exact ih r4 (z1 + 1) _ hf hk
  have K57 : ∀ (n : Nat) (z1 : Int32) (v : SX8) (z2 : Int32) (u : SX8), fX8_digest_L57 N z1 n v z2 = some u → V p l e (rmz 11 263) s m args below meth c 3 D A 0 0 (MQ below (ok_Q D (wX8 cy a o.2) (some (.long o.1)) A) args s 0 0 A) (wX8 cy a u) [(0, .ref (a 0)), (1, .int z1)] [] 79 → V p l e (rmz 11 263) s m args below meth c 3 D A 0 0 (MQ below (ok_Q D (wX8 cy a o.2) (some (.long o.1)) A) args s 0 0 A) (wX8 cy a v) [(0, .ref (a 0)), (1, .int z1), (2, .int z2)] [] 57 := by
    intro n
    induction n with
    | zero =>
      intro z1 v z2 u hf hk
      exact nomatch (show (none : Option (SX8)) = some u from hf)
    | succ n ih =>
      intro z1 v z2 u hf hk
      rw [fX8_digest_L57] at hf
      refine V_iload_n (pc := 57) F dX8_digest_57 rfl 2 rfl ?_
      refine V_iconst (v := 5) (pc := 58) F dX8_digest_58 (by decide) ?_
      refine V_icmp_gt (pc := 59) (tgt := 79) F dX8_digest_59 (by decide) (fun h12 => ?_) (fun h12 => ?_)
      · replace hf := ite_pos hf h12
        obtain rfl := some_of hf
        exact V.sub [0, 1] rfl hk
      · replace hf := ite_neg hf h12
        refine V_aload_n (pc := 62) F dX8_digest_62 rfl 0 rfl ?_
        refine V_aload_n (pc := 63) F dX8_digest_63 rfl 0 rfl ?_
        refine V_iload_n (pc := 64) F dX8_digest_64 rfl 1 rfl ?_
        refine V_iload_n (pc := 65) F dX8_digest_65 rfl 2 rfl ?_
        obtain ⟨r13, g14, hf⟩ := bind_of hf
        refine V_V (w2 := wX8 cy a v) (rest := [.ref (a 0)]) (st2 := [.int r13, .ref (a 0)]) (pc := 66) F 8 (M_X8_toldDirection l D cy N a v z1 z2 r13 g14) (cwV 2 F.ts gX8_digest_X8_toldDirection rfl rfl rfl hd_X8_toldDirection ⟨Nat.le_of_ble_eq_true rfl, Nat.le_of_ble_eq_true rfl⟩) rfl dX8_digest_66 Fit.whole rfl rfl rfl (Nat.le_of_ble_eq_true rfl) (Nat.zero_le _) (Nat.zero_le _) rfl rfl rfl ?_
        refine V_i2l (pc := 69) F dX8_digest_69 ?_
        obtain ⟨r15, g16, hf⟩ := bind_of hf
        refine V_V (w2 := wX8 cy a r15) (rest := []) (st2 := []) (pc := 70) F 8 (M_X8_mix l D cy N a v ((r13).toInt64) r15 g16) (cwV 1 F.ts gX8_digest_X8_mix rfl rfl rfl hd_X8_mix ⟨Nat.le_of_ble_eq_true rfl, Nat.le_of_ble_eq_true rfl⟩) rfl dX8_digest_70 Fit.whole fstX8 rfl rfl (Nat.le_of_ble_eq_true rfl) (Nat.zero_le _) (Nat.zero_le _) rfl rfl rfl ?_
        refine V_iinc (v := (z2 + 1)) (L2 := [(2, .int (z2 + 1)), (0, .ref (a 0)), (1, .int z1)]) (pc := 73) F dX8_digest_73 2 rfl rfl (by decide) rfl ?_
        refine V_goto (pc := 76) (tgt := 57) F dX8_digest_76 (by decide) ?_
        refine V.sub [1, 2, 0] rfl ?_
        exact ih z1 r15 (z2 + 1) _ hf hk
  have K49 : ∀ (n : Nat) (v : SX8) (z1 : Int32) (u : SX8), fX8_digest_L49 N n v z1 = some u → V p l e (rmz 11 263) s m args below meth c 3 D A 0 0 (MQ below (ok_Q D (wX8 cy a o.2) (some (.long o.1)) A) args s 0 0 A) (wX8 cy a u) [(0, .ref (a 0))] [] 95 → V p l e (rmz 11 263) s m args below meth c 3 D A 0 0 (MQ below (ok_Q D (wX8 cy a o.2) (some (.long o.1)) A) args s 0 0 A) (wX8 cy a v) [(0, .ref (a 0)), (1, .int z1)] [] 49 := by
    intro n
    induction n with
    | zero =>
      intro v z1 u hf hk
      exact nomatch (show (none : Option (SX8)) = some u from hf)
    | succ n ih =>
      intro v z1 u hf hk
      rw [fX8_digest_L49] at hf
      refine V_iload_n (pc := 49) F dX8_digest_49 rfl 1 rfl ?_
      refine V_bipush (v := 6) (pc := 50) F dX8_digest_50 (by decide) ?_
      refine V_icmp_ge (pc := 52) (tgt := 95) F dX8_digest_52 (by decide) (fun h11 => ?_) (fun h11 => ?_)
      · replace hf := ite_pos hf h11
        obtain rfl := some_of hf
        exact V.sub [0] rfl hk
      · replace hf := ite_neg hf h11
        refine V_iconst (v := 0) (pc := 55) F dX8_digest_55 (by decide) ?_
        refine V_istore_n (L2 := [(2, .int 0), (0, .ref (a 0)), (1, .int z1)]) (pc := 56) F dX8_digest_56 rfl (by decide) rfl ?_
        refine V.sub [1, 2, 0] rfl ?_
        obtain ⟨u17, g18, hf⟩ := bind_of hf
        refine K57 N z1 v 0 u17 g18 ?_
        refine V_aload_n (pc := 79) F dX8_digest_79 rfl 0 rfl ?_
        refine V_aload_n (pc := 80) F dX8_digest_80 rfl 0 rfl ?_
        refine V_iload_n (pc := 81) F dX8_digest_81 rfl 1 rfl ?_
        obtain ⟨r19, g20, hf⟩ := bind_of hf
        refine V_V (w2 := wX8 cy a u17) (rest := [.ref (a 0)]) (st2 := [.int r19, .ref (a 0)]) (pc := 82) F 8 (M_X8_roundsOf l D cy N a u17 z1 r19 g20) (cwV 1 F.ts gX8_digest_X8_roundsOf rfl rfl rfl hd_X8_roundsOf ⟨Nat.le_of_ble_eq_true rfl, Nat.le_of_ble_eq_true rfl⟩) rfl dX8_digest_82 Fit.whole rfl rfl rfl (Nat.le_of_ble_eq_true rfl) (Nat.zero_le _) (Nat.zero_le _) rfl rfl rfl ?_
        refine V_i2l (pc := 85) F dX8_digest_85 ?_
        obtain ⟨r21, g22, hf⟩ := bind_of hf
        refine V_V (w2 := wX8 cy a r21) (rest := []) (st2 := []) (pc := 86) F 8 (M_X8_mix l D cy N a u17 ((r19).toInt64) r21 g22) (cwV 1 F.ts gX8_digest_X8_mix rfl rfl rfl hd_X8_mix ⟨Nat.le_of_ble_eq_true rfl, Nat.le_of_ble_eq_true rfl⟩) rfl dX8_digest_86 Fit.whole fstX8 rfl rfl (Nat.le_of_ble_eq_true rfl) (Nat.zero_le _) (Nat.zero_le _) rfl rfl rfl ?_
        refine V_iinc (v := (z1 + 1)) (L2 := [(1, .int (z1 + 1)), (0, .ref (a 0))]) (pc := 89) F dX8_digest_89 1 rfl rfl (by decide) rfl ?_
        refine V_goto (pc := 92) (tgt := 49) F dX8_digest_92 (by decide) ?_
        refine V.sub [1, 0] rfl ?_
        exact ih r21 (z1 + 1) _ hf hk
  have K97 : ∀ (n : Nat) (v : SX8) (z1 : Int32) (u : SX8), fX8_digest_L97 N n v z1 = some u → V p l e (rmz 11 263) s m args below meth c 3 D A 0 0 (MQ below (ok_Q D (wX8 cy a o.2) (some (.long o.1)) A) args s 0 0 A) (wX8 cy a u) [(0, .ref (a 0))] [] 118 → V p l e (rmz 11 263) s m args below meth c 3 D A 0 0 (MQ below (ok_Q D (wX8 cy a o.2) (some (.long o.1)) A) args s 0 0 A) (wX8 cy a v) [(0, .ref (a 0)), (1, .int z1)] [] 97 := by
    intro n
    induction n with
    | zero =>
      intro v z1 u hf hk
      exact nomatch (show (none : Option (SX8)) = some u from hf)
    | succ n ih =>
      intro v z1 u hf hk
      rw [fX8_digest_L97] at hf
      refine V_iload_n (pc := 97) F dX8_digest_97 rfl 1 rfl ?_
      refine V_aload_n (pc := 98) F dX8_digest_98 rfl 0 rfl ?_
      refine V_get (pc := 99) F 0 8 1 i_X8 rfl (by decide) rfl (mm 4 rfl) dX8_digest_99 rfl rfl ?_
      refine V_iconst (v := 0) (pc := 102) F dX8_digest_102 (by decide) ?_
      obtain ⟨c25, hf⟩ := chk_some hf
      refine V_iald (pc := 103) F 1 rfl c25 dX8_digest_103 ?_
      refine V_icmp_ge (pc := 104) (tgt := 118) F dX8_digest_104 (by decide) (fun h26 => ?_) (fun h26 => ?_)
      · replace hf := ite_pos hf h26
        obtain rfl := some_of hf
        exact V.sub [0] rfl hk
      · replace hf := ite_neg hf h26
        refine V_aload_n (pc := 107) F dX8_digest_107 rfl 0 rfl ?_
        refine V_iload_n (pc := 108) F dX8_digest_108 rfl 1 rfl ?_
        obtain ⟨r27, g28, hf⟩ := bind_of hf
        refine V_V (w2 := wX8 cy a r27) (rest := []) (st2 := []) (pc := 109) F 8 (M_X8_mixPhase l D cy N a v z1 r27 g28) (cwV 1 F.ts gX8_digest_X8_mixPhase rfl rfl rfl hd_X8_mixPhase ⟨Nat.le_of_ble_eq_true rfl, Nat.le_of_ble_eq_true rfl⟩) rfl dX8_digest_109 Fit.whole fstX8 rfl rfl (Nat.le_of_ble_eq_true rfl) (Nat.zero_le _) (Nat.zero_le _) rfl rfl rfl ?_
        refine V_iinc (v := (z1 + 1)) (L2 := [(1, .int (z1 + 1)), (0, .ref (a 0))]) (pc := 112) F dX8_digest_112 1 rfl rfl (by decide) rfl ?_
        refine V_goto (pc := 115) (tgt := 97) F dX8_digest_115 (by decide) ?_
        refine V.sub [1, 0] rfl ?_
        exact ih r27 (z1 + 1) _ hf hk
  have K149 : ∀ (n : Nat) (v : SX8) (z1 : Int32) (u : SX8), fX8_digest_L149 N n v z1 = some u → V p l e (rmz 11 263) s m args below meth c 3 D A 0 0 (MQ below (ok_Q D (wX8 cy a o.2) (some (.long o.1)) A) args s 0 0 A) (wX8 cy a u) [(0, .ref (a 0))] [] 174 → V p l e (rmz 11 263) s m args below meth c 3 D A 0 0 (MQ below (ok_Q D (wX8 cy a o.2) (some (.long o.1)) A) args s 0 0 A) (wX8 cy a v) [(0, .ref (a 0)), (1, .int z1)] [] 149 := by
    intro n
    induction n with
    | zero =>
      intro v z1 u hf hk
      exact nomatch (show (none : Option (SX8)) = some u from hf)
    | succ n ih =>
      intro v z1 u hf hk
      rw [fX8_digest_L149] at hf
      refine V_iload_n (pc := 149) F dX8_digest_149 rfl 1 rfl ?_
      refine V_aload_n (pc := 150) F dX8_digest_150 rfl 0 rfl ?_
      refine V_get (pc := 151) F 0 8 5 i_X8 rfl (by decide) rfl (mm 5 rfl) dX8_digest_151 rfl rfl ?_
      refine V_icmp_ge (pc := 154) (tgt := 174) F dX8_digest_154 (by decide) (fun h43 => ?_) (fun h43 => ?_)
      · replace hf := ite_pos hf h43
        obtain rfl := some_of hf
        exact V.sub [0] rfl hk
      · replace hf := ite_neg hf h43
        refine V_aload_n (pc := 157) F dX8_digest_157 rfl 0 rfl ?_
        refine V_aload_n (pc := 158) F dX8_digest_158 rfl 0 rfl ?_
        refine V_get (pc := 159) F 0 8 4 i_X8 rfl (by decide) rfl (mm 6 rfl) dX8_digest_159 rfl rfl ?_
        refine V_iload_n (pc := 162) F dX8_digest_162 rfl 1 rfl ?_
        obtain ⟨c44, hf⟩ := chk_some hf
        refine V_iald (pc := 163) F 3 rfl c44 dX8_digest_163 ?_
        refine V_i2l (pc := 164) F dX8_digest_164 ?_
        obtain ⟨r45, g46, hf⟩ := bind_of hf
        refine V_V (w2 := wX8 cy a r45) (rest := []) (st2 := []) (pc := 165) F 8 (M_X8_mix l D cy N a v (((v.2.2.2.2.1 z1.toNatClampNeg)).toInt64) r45 g46) (cwV 1 F.ts gX8_digest_X8_mix rfl rfl rfl hd_X8_mix ⟨Nat.le_of_ble_eq_true rfl, Nat.le_of_ble_eq_true rfl⟩) rfl dX8_digest_165 Fit.whole fstX8 rfl rfl (Nat.le_of_ble_eq_true rfl) (Nat.zero_le _) (Nat.zero_le _) rfl rfl rfl ?_
        refine V_iinc (v := (z1 + 1)) (L2 := [(1, .int (z1 + 1)), (0, .ref (a 0))]) (pc := 168) F dX8_digest_168 1 rfl rfl (by decide) rfl ?_
        refine V_goto (pc := 171) (tgt := 149) F dX8_digest_171 (by decide) ?_
        refine V.sub [1, 0] rfl ?_
        exact ih r45 (z1 + 1) _ hf hk
  unfold fX8_digest at hf
  refine V.eq rfl (show lv_args 0 [.ref (a 0)] = [(0, .ref (a 0))] from rfl) rfl ?_
  refine V_aload_n (pc := 0) F dX8_digest_0 rfl 0 rfl ?_
  refine V_iconst (v := 0) (pc := 1) F dX8_digest_1 (by decide) ?_
  refine V_put (w2 := wX8 cy a (0, v.2)) (pc := 2) F 0 8 0 i_X8 tyX8 tyX8_ok nmX8 rfl (by decide) rfl (mm 1 rfl) rfl dX8_digest_2 rfl rfl rfl (Nat.le_of_ble_eq_true rfl) rfl ?_
  refine V_aload_n (pc := 5) F dX8_digest_5 rfl 0 rfl ?_
  refine V_ldc2 (v := (2803)) (pc := 6) F dX8_digest_6 (mm 2 rfl) ?_
  refine V_put (w2 := wX8 cy a (0, v.2.1, v.2.2.1, v.2.2.2.1, v.2.2.2.2.1, v.2.2.2.2.2.1, v.2.2.2.2.2.2.1, v.2.2.2.2.2.2.2.1, v.2.2.2.2.2.2.2.2.1, v.2.2.2.2.2.2.2.2.2.1, v.2.2.2.2.2.2.2.2.2.2.1, v.2.2.2.2.2.2.2.2.2.2.2.1, (2803))) (pc := 9) F 0 8 12 i_X8 tyX8 tyX8_ok nmX8 rfl (by decide) rfl (mm 3 rfl) rfl dX8_digest_9 rfl rfl rfl (Nat.le_of_ble_eq_true rfl) rfl ?_
  refine V_iconst (v := 0) (pc := 12) F dX8_digest_12 (by decide) ?_
  refine V_istore_n (L2 := [(1, .int 0), (0, .ref (a 0))]) (pc := 13) F dX8_digest_13 rfl (by decide) rfl ?_
  refine V.sub [1, 0] rfl ?_
  obtain ⟨u6, g7, hf⟩ := bind_of hf
  refine K14 N (0, v.2.1, v.2.2.1, v.2.2.2.1, v.2.2.2.2.1, v.2.2.2.2.2.1, v.2.2.2.2.2.2.1, v.2.2.2.2.2.2.2.1, v.2.2.2.2.2.2.2.2.1, v.2.2.2.2.2.2.2.2.2.1, v.2.2.2.2.2.2.2.2.2.2.1, v.2.2.2.2.2.2.2.2.2.2.2.1, (2803)) 0 u6 g7 ?_
  refine V_aload_n (pc := 36) F dX8_digest_36 rfl 0 rfl ?_
  refine V_aload_n (pc := 37) F dX8_digest_37 rfl 0 rfl ?_
  refine V_get (pc := 38) F 0 8 1 i_X8 rfl (by decide) rfl (mm 4 rfl) dX8_digest_38 rfl rfl ?_
  refine V_iconst (v := 1) (pc := 41) F dX8_digest_41 (by decide) ?_
  obtain ⟨c8, hf⟩ := chk_some hf
  refine V_iald (pc := 42) F 1 rfl c8 dX8_digest_42 ?_
  refine V_i2l (pc := 43) F dX8_digest_43 ?_
  obtain ⟨r9, g10, hf⟩ := bind_of hf
  refine V_V (w2 := wX8 cy a r9) (rest := []) (st2 := []) (pc := 44) F 8 (M_X8_mix l D cy N a u6 (((u6.2.1 (1 : Int32).toNatClampNeg)).toInt64) r9 g10) (cwV 1 F.ts gX8_digest_X8_mix rfl rfl rfl hd_X8_mix ⟨Nat.le_of_ble_eq_true rfl, Nat.le_of_ble_eq_true rfl⟩) rfl dX8_digest_44 Fit.whole fstX8 rfl rfl (Nat.le_of_ble_eq_true rfl) (Nat.zero_le _) (Nat.zero_le _) rfl rfl rfl ?_
  refine V_iconst (v := 0) (pc := 47) F dX8_digest_47 (by decide) ?_
  refine V_istore_n (L2 := [(1, .int 0), (0, .ref (a 0))]) (pc := 48) F dX8_digest_48 rfl (by decide) rfl ?_
  refine V.sub [1, 0] rfl ?_
  obtain ⟨u23, g24, hf⟩ := bind_of hf
  refine K49 N r9 0 u23 g24 ?_
  refine V_iconst (v := 0) (pc := 95) F dX8_digest_95 (by decide) ?_
  refine V_istore_n (L2 := [(1, .int 0), (0, .ref (a 0))]) (pc := 96) F dX8_digest_96 rfl (by decide) rfl ?_
  refine V.sub [1, 0] rfl ?_
  obtain ⟨u29, g30, hf⟩ := bind_of hf
  refine K97 N u23 0 u29 g30 ?_
  refine V_aload_n (pc := 118) F dX8_digest_118 rfl 0 rfl ?_
  refine V_aload_n (pc := 119) F dX8_digest_119 rfl 0 rfl ?_
  obtain ⟨r31, g32, hf⟩ := bind_of hf
  refine V_V (w2 := wX8 cy a r31.2) (rest := [.ref (a 0)]) (st2 := [.int r31.1, .ref (a 0)]) (pc := 120) F 8 (M_X8_slowestOne l D cy N a u29 r31 g32) (cwV 0 F.ts gX8_digest_X8_slowestOne rfl rfl rfl hd_X8_slowestOne ⟨Nat.le_of_ble_eq_true rfl, Nat.le_of_ble_eq_true rfl⟩) rfl dX8_digest_120 Fit.whole fstX8 rfl rfl (Nat.le_of_ble_eq_true rfl) (Nat.zero_le _) (Nat.zero_le _) rfl rfl rfl ?_
  refine V_i2l (pc := 123) F dX8_digest_123 ?_
  obtain ⟨r33, g34, hf⟩ := bind_of hf
  refine V_V (w2 := wX8 cy a r33) (rest := []) (st2 := []) (pc := 124) F 8 (M_X8_mix l D cy N a r31.2 ((r31.1).toInt64) r33 g34) (cwV 1 F.ts gX8_digest_X8_mix rfl rfl rfl hd_X8_mix ⟨Nat.le_of_ble_eq_true rfl, Nat.le_of_ble_eq_true rfl⟩) rfl dX8_digest_124 Fit.whole fstX8 rfl rfl (Nat.le_of_ble_eq_true rfl) (Nat.zero_le _) (Nat.zero_le _) rfl rfl rfl ?_
  refine V_aload_n (pc := 127) F dX8_digest_127 rfl 0 rfl ?_
  refine V_aload_n (pc := 128) F dX8_digest_128 rfl 0 rfl ?_
  obtain ⟨r35, g36, hf⟩ := bind_of hf
  refine V_V (w2 := wX8 cy a r33) (rest := [.ref (a 0)]) (st2 := [.double r35, .ref (a 0)]) (pc := 129) F 8 (M_X8_share l D cy N a r33 r35 g36) (cwV 0 F.ts gX8_digest_X8_share rfl rfl rfl hd_X8_share ⟨Nat.le_of_ble_eq_true rfl, Nat.le_of_ble_eq_true rfl⟩) rfl dX8_digest_129 Fit.whole rfl rfl rfl (Nat.le_of_ble_eq_true rfl) (Nat.zero_le _) (Nat.zero_le _) rfl rfl rfl ?_
  obtain ⟨r37, g38, hf⟩ := bind_of hf
  refine V_Sc (rest := [.ref (a 0)]) (st2 := [.long r37, .ref (a 0)]) (pc := 132) F (M_X8_bitsOf l D cy N r35 r37 g38) (va_cwS 1 F.ts gX8_digest_X8_bitsOf rfl rfl rfl hd_X8_bitsOf ⟨Nat.le_of_ble_eq_true rfl, Nat.le_of_ble_eq_true rfl⟩) rfl dX8_digest_132 (Nat.le_of_ble_eq_true rfl) (Nat.zero_le _) (Nat.zero_le _) rfl rfl ?_
  obtain ⟨r39, g40, hf⟩ := bind_of hf
  refine V_V (w2 := wX8 cy a r39) (rest := []) (st2 := []) (pc := 135) F 8 (M_X8_mix l D cy N a r33 r37 r39 g40) (cwV 1 F.ts gX8_digest_X8_mix rfl rfl rfl hd_X8_mix ⟨Nat.le_of_ble_eq_true rfl, Nat.le_of_ble_eq_true rfl⟩) rfl dX8_digest_135 Fit.whole fstX8 rfl rfl (Nat.le_of_ble_eq_true rfl) (Nat.zero_le _) (Nat.zero_le _) rfl rfl rfl ?_
  refine V_aload_n (pc := 138) F dX8_digest_138 rfl 0 rfl ?_
  refine V_aload_n (pc := 139) F dX8_digest_139 rfl 0 rfl ?_
  refine V_get (pc := 140) F 0 8 5 i_X8 rfl (by decide) rfl (mm 5 rfl) dX8_digest_140 rfl rfl ?_
  refine V_i2l (pc := 143) F dX8_digest_143 ?_
  obtain ⟨r41, g42, hf⟩ := bind_of hf
  refine V_V (w2 := wX8 cy a r41) (rest := []) (st2 := []) (pc := 144) F 8 (M_X8_mix l D cy N a r39 ((r39.2.2.2.2.2.1).toInt64) r41 g42) (cwV 1 F.ts gX8_digest_X8_mix rfl rfl rfl hd_X8_mix ⟨Nat.le_of_ble_eq_true rfl, Nat.le_of_ble_eq_true rfl⟩) rfl dX8_digest_144 Fit.whole fstX8 rfl rfl (Nat.le_of_ble_eq_true rfl) (Nat.zero_le _) (Nat.zero_le _) rfl rfl rfl ?_
  refine V_iconst (v := 0) (pc := 147) F dX8_digest_147 (by decide) ?_
  refine V_istore_n (L2 := [(1, .int 0), (0, .ref (a 0))]) (pc := 148) F dX8_digest_148 rfl (by decide) rfl ?_
  refine V.sub [1, 0] rfl ?_
  obtain ⟨u47, g48, hf⟩ := bind_of hf
  refine K149 N r41 0 u47 g48 ?_
  refine V_aload_n (pc := 174) F dX8_digest_174 rfl 0 rfl ?_
  refine V_get (pc := 175) F 0 8 12 i_X8 rfl (by decide) rfl (mm 3 rfl) dX8_digest_175 rfl rfl ?_
  obtain rfl := some_of hf
  exact V_lret F rfl dX8_digest_178 rfl rfl
