theorem hd_X8_mixPhase : yX8_mixPhase.cls = RX8 ∧ yX8_mixPhase.cls ≠ "java/lang/invoke/MethodHandle" ∧ yX8_mixPhase.cls ≠ "java/lang/invoke/VarHandle" ∧ (parseMethodDescriptor yX8_mixPhase.desc).map (fun d => d.parameters.length) = some 1 := by decide +kernel
def fX8_mixPhase_L2 (N : Nat) (z1 : Int32) : Nat → SX8 → Int32 → Option (SX8)
  | 0, _, _ => none
  | n + 1, v, z2 =>
    if 5 < z2 then
      some v
    else
      (fX8_toldPhase N v z1 z2).bind fun r2 =>
        (fX8_mix N v ((r2).toInt64)).bind fun r4 =>
          fX8_mixPhase_L2 N z1 n r4 (z2 + 1)
def fX8_mixPhase_L37 (N : Nat) (z1 : Int32) (z2 : Int32) : Nat → SX8 → Int32 → Option (SX8)
  | 0, _, _ => none
  | n + 1, v, z3 =>
    if 2 < z3 then
      some v
    else
      (fX8_toldRule N v z1 z2 z3).bind fun r12 =>
        (fX8_mix N v ((r12).toInt64)).bind fun r14 =>
          fX8_mixPhase_L37 N z1 z2 n r14 (z3 + 1)
def fX8_mixPhase_L26 (N : Nat) (z1 : Int32) : Nat → SX8 → Int32 → Option (SX8)
  | 0, _, _ => none
  | n + 1, v, z2 =>
    (fX8_rules N v z1).bind fun r8 =>
      if r8 ≤ z2 then
        some v
      else
        (fX8_mixPhase_L37 N z1 z2 N v 0).bind fun u16 =>
          fX8_mixPhase_L26 N z1 n u16 (z2 + 1)
def fX8_mixPhase_L68 (N : Nat) (z1 : Int32) : Nat → SX8 → Int32 → Option (SX8)
  | 0, _, _ => none
  | n + 1, v, z2 =>
    if 6 ≤ z2 then
      some v
    else
      (fX8_canStarve N v z1 z2).bind fun r21 =>
        if r21 = 0 then
          (fX8_mix N v 0).bind fun r24 =>
            (fX8_longest N r24 z2 z1).bind fun r26 =>
              (fX8_mix N r26.2 ((r26.1).toInt64)).bind fun r28 =>
                (fX8_shortest N r28 z2 z1).bind fun r30 =>
                  (fX8_mix N r30.2 ((r30.1).toInt64)).bind fun r32 =>
                    (fX8_remedyFor N r32 z2 z1).bind fun r34 =>
                      (fX8_mix N r34.2 ((r34.1).toInt64)).bind fun r36 =>
                        fX8_mixPhase_L68 N z1 n r36 (z2 + 1)
        else
          (fX8_mix N v 1).bind fun r38 =>
            (fX8_longest N r38 z2 z1).bind fun r40 =>
              (fX8_mix N r40.2 ((r40.1).toInt64)).bind fun r42 =>
                (fX8_shortest N r42 z2 z1).bind fun r44 =>
                  (fX8_mix N r44.2 ((r44.1).toInt64)).bind fun r46 =>
                    (fX8_remedyFor N r46 z2 z1).bind fun r48 =>
                      (fX8_mix N r48.2 ((r48.1).toInt64)).bind fun r50 =>
                        fX8_mixPhase_L68 N z1 n r50 (z2 + 1)
def fX8_mixPhase (N : Nat) (v : SX8) (x1 : Int32) : Option (SX8) :=
  (fX8_mixPhase_L2 N x1 N v 0).bind fun u6 =>
    (fX8_mixPhase_L26 N x1 N u6 0).bind fun u18 =>
      (fX8_mixPhase_L68 N x1 N u18 0).bind fun u52 =>
        some u52
set_option maxHeartbeats 8000000 in
set_option maxRecDepth 100000 in
theorem M_X8_mixPhase (l : Launch) (D : va_G) (cy : Nat → ClassId) (N : Nat) (a : Nat → Nat) (v : SX8) (x1 : Int32) (o : SX8) (hf : fX8_mixPhase N v x1 = some o) : okM l yX8_mixPhase wsX8_mixPhase (rmz 10 240) D cy [.ref (a 0), .int x1] (wX8 cy a v) (wX8 cy a o) none := by
  refine okM_of (own := RX8) (nme := "mixPhase") (cc := cX8_mixPhase) (maxL := 4) (ret := none) (by decide) rfl rfl rfl (Nat.le_of_ble_eq_true rfl) ?_
  intro p e s m args below meth c A F
  have K2 : ∀ (n : Nat) (z1 : Int32) (v : SX8) (z2 : Int32) (u : SX8), fX8_mixPhase_L2 N z1 n v z2 = some u → V p l e (rmz 10 240) s m args below meth c 4 D A 0 0 (MQ below (ok_Q D (wX8 cy a o) none A) args s 0 0 A) (wX8 cy a u) [(0, .ref (a 0)), (1, .int z1)] [] 24 → V p l e (rmz 10 240) s m args below meth c 4 D A 0 0 (MQ below (ok_Q D (wX8 cy a o) none A) args s 0 0 A) (wX8 cy a v) [(0, .ref (a 0)), (1, .int z1), (2, .int z2)] [] 2 := by
    intro n
    induction n with
    | zero =>
      intro z1 v z2 u hf hk
      exact nomatch (show (none : Option (SX8)) = some u from hf)
    | succ n ih =>
      intro z1 v z2 u hf hk
      rw [fX8_mixPhase_L2] at hf
      refine V_iload_n (pc := 2) F dX8_mixPhase_2 rfl 2 rfl ?_
      refine V_iconst (v := 5) (pc := 3) F dX8_mixPhase_3 (by decide) ?_
      refine V_icmp_gt (pc := 4) (tgt := 24) F dX8_mixPhase_4 (by decide) (fun h1 => ?_) (fun h1 => ?_)
      · replace hf := ite_pos hf h1
        obtain rfl := some_of hf
        exact V.sub [0, 1] rfl hk
      · replace hf := ite_neg hf h1
        refine V_aload_n (pc := 7) F dX8_mixPhase_7 rfl 0 rfl ?_
        refine V_aload_n (pc := 8) F dX8_mixPhase_8 rfl 0 rfl ?_
        refine V_iload_n (pc := 9) F dX8_mixPhase_9 rfl 1 rfl ?_
        refine V_iload_n (pc := 10) F dX8_mixPhase_10 rfl 2 rfl ?_
        obtain ⟨r2, g3, hf⟩ := bind_of hf
        refine V_V (w2 := wX8 cy a v) (rest := [.ref (a 0)]) (st2 := [.int r2, .ref (a 0)]) (pc := 11) F 8 (M_X8_toldPhase l D cy N a v z1 z2 r2 g3) (cwV 2 F.ts gX8_mixPhase_X8_toldPhase rfl rfl rfl hd_X8_toldPhase ⟨Nat.le_of_ble_eq_true rfl, Nat.le_of_ble_eq_true rfl⟩) rfl dX8_mixPhase_11 Fit.whole rfl rfl rfl (Nat.le_of_ble_eq_true rfl) (Nat.zero_le _) (Nat.zero_le _) rfl rfl rfl ?_
        refine V_i2l (pc := 14) F dX8_mixPhase_14 ?_
        obtain ⟨r4, g5, hf⟩ := bind_of hf
        refine V_V (w2 := wX8 cy a r4) (rest := []) (st2 := []) (pc := 15) F 8 (M_X8_mix l D cy N a v ((r2).toInt64) r4 g5) (cwV 1 F.ts gX8_mixPhase_X8_mix rfl rfl rfl hd_X8_mix ⟨Nat.le_of_ble_eq_true rfl, Nat.le_of_ble_eq_true rfl⟩) rfl dX8_mixPhase_15 Fit.whole fstX8 rfl rfl (Nat.le_of_ble_eq_true rfl) (Nat.zero_le _) (Nat.zero_le _) rfl rfl rfl ?_
        refine V_iinc (v := (z2 + 1)) (L2 := [(2, .int (z2 + 1)), (0, .ref (a 0)), (1, .int z1)]) (pc := 18) F dX8_mixPhase_18 2 rfl rfl (by decide) rfl ?_
        refine V_goto (pc := 21) (tgt := 2) F dX8_mixPhase_21 (by decide) ?_
        refine V.sub [1, 2, 0] rfl ?_
        exact ih z1 r4 (z2 + 1) _ hf hk
  have K37 : ∀ (n : Nat) (z1 : Int32) (z2 : Int32) (v : SX8) (z3 : Int32) (u : SX8), fX8_mixPhase_L37 N z1 z2 n v z3 = some u → V p l e (rmz 10 240) s m args below meth c 4 D A 0 0 (MQ below (ok_Q D (wX8 cy a o) none A) args s 0 0 A) (wX8 cy a u) [(0, .ref (a 0)), (1, .int z1), (2, .int z2)] [] 60 → V p l e (rmz 10 240) s m args below meth c 4 D A 0 0 (MQ below (ok_Q D (wX8 cy a o) none A) args s 0 0 A) (wX8 cy a v) [(0, .ref (a 0)), (1, .int z1), (2, .int z2), (3, .int z3)] [] 37 := by
    intro n
    induction n with
    | zero =>
      intro z1 z2 v z3 u hf hk
      exact nomatch (show (none : Option (SX8)) = some u from hf)
    | succ n ih =>
      intro z1 z2 v z3 u hf hk
      rw [fX8_mixPhase_L37] at hf
      refine V_iload_n (pc := 37) F dX8_mixPhase_37 rfl 3 rfl ?_
      refine V_iconst (v := 2) (pc := 38) F dX8_mixPhase_38 (by decide) ?_
      refine V_icmp_gt (pc := 39) (tgt := 60) F dX8_mixPhase_39 (by decide) (fun h11 => ?_) (fun h11 => ?_)
      · replace hf := ite_pos hf h11
        obtain rfl := some_of hf
        exact V.sub [0, 1, 2] rfl hk
      · replace hf := ite_neg hf h11
        refine V_aload_n (pc := 42) F dX8_mixPhase_42 rfl 0 rfl ?_
        refine V_aload_n (pc := 43) F dX8_mixPhase_43 rfl 0 rfl ?_
        refine V_iload_n (pc := 44) F dX8_mixPhase_44 rfl 1 rfl ?_
        refine V_iload_n (pc := 45) F dX8_mixPhase_45 rfl 2 rfl ?_
        refine V_iload_n (pc := 46) F dX8_mixPhase_46 rfl 3 rfl ?_
        obtain ⟨r12, g13, hf⟩ := bind_of hf
        refine V_V (w2 := wX8 cy a v) (rest := [.ref (a 0)]) (st2 := [.int r12, .ref (a 0)]) (pc := 47) F 8 (M_X8_toldRule l D cy N a v z1 z2 z3 r12 g13) (cwV 3 F.ts gX8_mixPhase_X8_toldRule rfl rfl rfl hd_X8_toldRule ⟨Nat.le_of_ble_eq_true rfl, Nat.le_of_ble_eq_true rfl⟩) rfl dX8_mixPhase_47 Fit.whole rfl rfl rfl (Nat.le_of_ble_eq_true rfl) (Nat.zero_le _) (Nat.zero_le _) rfl rfl rfl ?_
        refine V_i2l (pc := 50) F dX8_mixPhase_50 ?_
        obtain ⟨r14, g15, hf⟩ := bind_of hf
        refine V_V (w2 := wX8 cy a r14) (rest := []) (st2 := []) (pc := 51) F 8 (M_X8_mix l D cy N a v ((r12).toInt64) r14 g15) (cwV 1 F.ts gX8_mixPhase_X8_mix rfl rfl rfl hd_X8_mix ⟨Nat.le_of_ble_eq_true rfl, Nat.le_of_ble_eq_true rfl⟩) rfl dX8_mixPhase_51 Fit.whole fstX8 rfl rfl (Nat.le_of_ble_eq_true rfl) (Nat.zero_le _) (Nat.zero_le _) rfl rfl rfl ?_
        refine V_iinc (v := (z3 + 1)) (L2 := [(3, .int (z3 + 1)), (0, .ref (a 0)), (1, .int z1), (2, .int z2)]) (pc := 54) F dX8_mixPhase_54 3 rfl rfl (by decide) rfl ?_
        refine V_goto (pc := 57) (tgt := 37) F dX8_mixPhase_57 (by decide) ?_
        refine V.sub [1, 2, 3, 0] rfl ?_
        exact ih z1 z2 r14 (z3 + 1) _ hf hk
  have K26 : ∀ (n : Nat) (z1 : Int32) (v : SX8) (z2 : Int32) (u : SX8), fX8_mixPhase_L26 N z1 n v z2 = some u → V p l e (rmz 10 240) s m args below meth c 4 D A 0 0 (MQ below (ok_Q D (wX8 cy a o) none A) args s 0 0 A) (wX8 cy a u) [(0, .ref (a 0)), (1, .int z1)] [] 66 → V p l e (rmz 10 240) s m args below meth c 4 D A 0 0 (MQ below (ok_Q D (wX8 cy a o) none A) args s 0 0 A) (wX8 cy a v) [(0, .ref (a 0)), (1, .int z1), (2, .int z2)] [] 26 := by
    intro n
    induction n with
    | zero =>
      intro z1 v z2 u hf hk
      exact nomatch (show (none : Option (SX8)) = some u from hf)
    | succ n ih =>
      intro z1 v z2 u hf hk
      rw [fX8_mixPhase_L26] at hf
      refine V_iload_n (pc := 26) F dX8_mixPhase_26 rfl 2 rfl ?_
      refine V_aload_n (pc := 27) F dX8_mixPhase_27 rfl 0 rfl ?_
      refine V_iload_n (pc := 28) F dX8_mixPhase_28 rfl 1 rfl ?_
      obtain ⟨r8, g9, hf⟩ := bind_of hf
      refine V_V (w2 := wX8 cy a v) (rest := [.int z2]) (st2 := [.int r8, .int z2]) (pc := 29) F 8 (M_X8_rules l D cy N a v z1 r8 g9) (cwV 1 F.ts gX8_mixPhase_X8_rules rfl rfl rfl hd_X8_rules ⟨Nat.le_of_ble_eq_true rfl, Nat.le_of_ble_eq_true rfl⟩) rfl dX8_mixPhase_29 Fit.whole rfl rfl rfl (Nat.le_of_ble_eq_true rfl) (Nat.zero_le _) (Nat.zero_le _) rfl rfl rfl ?_
      refine V_icmp_ge (pc := 32) (tgt := 66) F dX8_mixPhase_32 (by decide) (fun h10 => ?_) (fun h10 => ?_)
      · replace hf := ite_pos hf h10
        obtain rfl := some_of hf
        exact V.sub [0, 1] rfl hk
      · replace hf := ite_neg hf h10
        refine V_iconst (v := 0) (pc := 35) F dX8_mixPhase_35 (by decide) ?_
        refine V_istore_n (L2 := [(3, .int 0), (0, .ref (a 0)), (1, .int z1), (2, .int z2)]) (pc := 36) F dX8_mixPhase_36 rfl (by decide) rfl ?_
        refine V.sub [1, 2, 3, 0] rfl ?_
        obtain ⟨u16, g17, hf⟩ := bind_of hf
        refine K37 N z1 z2 v 0 u16 g17 ?_
        refine V_iinc (v := (z2 + 1)) (L2 := [(2, .int (z2 + 1)), (0, .ref (a 0)), (1, .int z1)]) (pc := 60) F dX8_mixPhase_60 2 rfl rfl (by decide) rfl ?_
        refine V_goto (pc := 63) (tgt := 26) F dX8_mixPhase_63 (by decide) ?_
        refine V.sub [1, 2, 0] rfl ?_
        exact ih z1 u16 (z2 + 1) _ hf hk
  have K68 : ∀ (n : Nat) (z1 : Int32) (v : SX8) (z2 : Int32) (u : SX8), fX8_mixPhase_L68 N z1 n v z2 = some u → V p l e (rmz 10 240) s m args below meth c 4 D A 0 0 (MQ below (ok_Q D (wX8 cy a o) none A) args s 0 0 A) (wX8 cy a u) [] [] 131 → V p l e (rmz 10 240) s m args below meth c 4 D A 0 0 (MQ below (ok_Q D (wX8 cy a o) none A) args s 0 0 A) (wX8 cy a v) [(0, .ref (a 0)), (1, .int z1), (2, .int z2)] [] 68 := by
    intro n
    induction n with
    | zero =>
      intro z1 v z2 u hf hk
      exact nomatch (show (none : Option (SX8)) = some u from hf)
    | succ n ih =>
      intro z1 v z2 u hf hk
      rw [fX8_mixPhase_L68] at hf
      refine V_iload_n (pc := 68) F dX8_mixPhase_68 rfl 2 rfl ?_
      refine V_bipush (v := 6) (pc := 69) F dX8_mixPhase_69 (by decide) ?_
      refine V_icmp_ge (pc := 71) (tgt := 131) F dX8_mixPhase_71 (by decide) (fun h20 => ?_) (fun h20 => ?_)
      · replace hf := ite_pos hf h20
        obtain rfl := some_of hf
        exact V.sub [] rfl hk
      · replace hf := ite_neg hf h20
        refine V_aload_n (pc := 74) F dX8_mixPhase_74 rfl 0 rfl ?_
        refine V_aload_n (pc := 75) F dX8_mixPhase_75 rfl 0 rfl ?_
        refine V_iload_n (pc := 76) F dX8_mixPhase_76 rfl 1 rfl ?_
        refine V_iload_n (pc := 77) F dX8_mixPhase_77 rfl 2 rfl ?_
        obtain ⟨r21, g22, hf⟩ := bind_of hf
        refine V_V (w2 := wX8 cy a v) (rest := [.ref (a 0)]) (st2 := [.int r21, .ref (a 0)]) (pc := 78) F 8 (M_X8_canStarve l D cy N a v z1 z2 r21 g22) (cwV 2 F.ts gX8_mixPhase_X8_canStarve rfl rfl rfl hd_X8_canStarve ⟨Nat.le_of_ble_eq_true rfl, Nat.le_of_ble_eq_true rfl⟩) rfl dX8_mixPhase_78 Fit.whole rfl rfl rfl (Nat.le_of_ble_eq_true rfl) (Nat.zero_le _) (Nat.zero_le _) rfl rfl rfl ?_
        refine V_if_eq (pc := 81) (tgt := 88) F dX8_mixPhase_81 (by decide) (fun h23 => ?_) (fun h23 => ?_)
        · replace hf := ite_pos hf h23
          refine V_lconst (v := 0) (pc := 88) F dX8_mixPhase_88 (by decide) ?_
          obtain ⟨r24, g25, hf⟩ := bind_of hf
          refine V_V (w2 := wX8 cy a r24) (rest := []) (st2 := []) (pc := 89) F 8 (M_X8_mix l D cy N a v 0 r24 g25) (cwV 1 F.ts gX8_mixPhase_X8_mix rfl rfl rfl hd_X8_mix ⟨Nat.le_of_ble_eq_true rfl, Nat.le_of_ble_eq_true rfl⟩) rfl dX8_mixPhase_89 Fit.whole fstX8 rfl rfl (Nat.le_of_ble_eq_true rfl) (Nat.zero_le _) (Nat.zero_le _) rfl rfl rfl ?_
          refine V_aload_n (pc := 92) F dX8_mixPhase_92 rfl 0 rfl ?_
          refine V_aload_n (pc := 93) F dX8_mixPhase_93 rfl 0 rfl ?_
          refine V_iload_n (pc := 94) F dX8_mixPhase_94 rfl 2 rfl ?_
          refine V_iload_n (pc := 95) F dX8_mixPhase_95 rfl 1 rfl ?_
          obtain ⟨r26, g27, hf⟩ := bind_of hf
          refine V_V (w2 := wX8 cy a r26.2) (rest := [.ref (a 0)]) (st2 := [.int r26.1, .ref (a 0)]) (pc := 96) F 8 (M_X8_longest l D cy N a r24 z2 z1 r26 g27) (cwV 2 F.ts gX8_mixPhase_X8_longest rfl rfl rfl hd_X8_longest ⟨Nat.le_of_ble_eq_true rfl, Nat.le_of_ble_eq_true rfl⟩) rfl dX8_mixPhase_96 Fit.whole fstX8 rfl rfl (Nat.le_of_ble_eq_true rfl) (Nat.zero_le _) (Nat.zero_le _) rfl rfl rfl ?_
          refine V_i2l (pc := 99) F dX8_mixPhase_99 ?_
          obtain ⟨r28, g29, hf⟩ := bind_of hf
          refine V_V (w2 := wX8 cy a r28) (rest := []) (st2 := []) (pc := 100) F 8 (M_X8_mix l D cy N a r26.2 ((r26.1).toInt64) r28 g29) (cwV 1 F.ts gX8_mixPhase_X8_mix rfl rfl rfl hd_X8_mix ⟨Nat.le_of_ble_eq_true rfl, Nat.le_of_ble_eq_true rfl⟩) rfl dX8_mixPhase_100 Fit.whole fstX8 rfl rfl (Nat.le_of_ble_eq_true rfl) (Nat.zero_le _) (Nat.zero_le _) rfl rfl rfl ?_
          refine V_aload_n (pc := 103) F dX8_mixPhase_103 rfl 0 rfl ?_
          refine V_aload_n (pc := 104) F dX8_mixPhase_104 rfl 0 rfl ?_
          refine V_iload_n (pc := 105) F dX8_mixPhase_105 rfl 2 rfl ?_
          refine V_iload_n (pc := 106) F dX8_mixPhase_106 rfl 1 rfl ?_
          obtain ⟨r30, g31, hf⟩ := bind_of hf
          refine V_V (w2 := wX8 cy a r30.2) (rest := [.ref (a 0)]) (st2 := [.int r30.1, .ref (a 0)]) (pc := 107) F 8 (M_X8_shortest l D cy N a r28 z2 z1 r30 g31) (cwV 2 F.ts gX8_mixPhase_X8_shortest rfl rfl rfl hd_X8_shortest ⟨Nat.le_of_ble_eq_true rfl, Nat.le_of_ble_eq_true rfl⟩) rfl dX8_mixPhase_107 Fit.whole fstX8 rfl rfl (Nat.le_of_ble_eq_true rfl) (Nat.zero_le _) (Nat.zero_le _) rfl rfl rfl ?_
          refine V_i2l (pc := 110) F dX8_mixPhase_110 ?_
          obtain ⟨r32, g33, hf⟩ := bind_of hf
          refine V_V (w2 := wX8 cy a r32) (rest := []) (st2 := []) (pc := 111) F 8 (M_X8_mix l D cy N a r30.2 ((r30.1).toInt64) r32 g33) (cwV 1 F.ts gX8_mixPhase_X8_mix rfl rfl rfl hd_X8_mix ⟨Nat.le_of_ble_eq_true rfl, Nat.le_of_ble_eq_true rfl⟩) rfl dX8_mixPhase_111 Fit.whole fstX8 rfl rfl (Nat.le_of_ble_eq_true rfl) (Nat.zero_le _) (Nat.zero_le _) rfl rfl rfl ?_
          refine V_aload_n (pc := 114) F dX8_mixPhase_114 rfl 0 rfl ?_
          refine V_aload_n (pc := 115) F dX8_mixPhase_115 rfl 0 rfl ?_
          refine V_iload_n (pc := 116) F dX8_mixPhase_116 rfl 2 rfl ?_
          refine V_iload_n (pc := 117) F dX8_mixPhase_117 rfl 1 rfl ?_
          obtain ⟨r34, g35, hf⟩ := bind_of hf
          refine V_V (w2 := wX8 cy a r34.2) (rest := [.ref (a 0)]) (st2 := [.int r34.1, .ref (a 0)]) (pc := 118) F 8 (M_X8_remedyFor l D cy N a r32 z2 z1 r34 g35) (cwV 2 F.ts gX8_mixPhase_X8_remedyFor rfl rfl rfl hd_X8_remedyFor ⟨Nat.le_of_ble_eq_true rfl, Nat.le_of_ble_eq_true rfl⟩) rfl dX8_mixPhase_118 Fit.whole fstX8 rfl rfl (Nat.le_of_ble_eq_true rfl) (Nat.zero_le _) (Nat.zero_le _) rfl rfl rfl ?_
          refine V_i2l (pc := 121) F dX8_mixPhase_121 ?_
          obtain ⟨r36, g37, hf⟩ := bind_of hf
          refine V_V (w2 := wX8 cy a r36) (rest := []) (st2 := []) (pc := 122) F 8 (M_X8_mix l D cy N a r34.2 ((r34.1).toInt64) r36 g37) (cwV 1 F.ts gX8_mixPhase_X8_mix rfl rfl rfl hd_X8_mix ⟨Nat.le_of_ble_eq_true rfl, Nat.le_of_ble_eq_true rfl⟩) rfl dX8_mixPhase_122 Fit.whole fstX8 rfl rfl (Nat.le_of_ble_eq_true rfl) (Nat.zero_le _) (Nat.zero_le _) rfl rfl rfl ?_
          refine V_iinc (v := (z2 + 1)) (L2 := [(2, .int (z2 + 1)), (0, .ref (a 0)), (1, .int z1)]) (pc := 125) F dX8_mixPhase_125 2 rfl rfl (by decide) rfl ?_
          refine V_goto (pc := 128) (tgt := 68) F dX8_mixPhase_128 (by decide) ?_
          refine V.sub [1, 2, 0] rfl ?_
          exact ih z1 r36 (z2 + 1) _ hf hk
        · replace hf := ite_neg hf h23
          refine V_lconst (v := 1) (pc := 84) F dX8_mixPhase_84 (by decide) ?_
          refine V_goto (pc := 85) (tgt := 89) F dX8_mixPhase_85 (by decide) ?_
          obtain ⟨r38, g39, hf⟩ := bind_of hf
          refine V_V (w2 := wX8 cy a r38) (rest := []) (st2 := []) (pc := 89) F 8 (M_X8_mix l D cy N a v 1 r38 g39) (cwV 1 F.ts gX8_mixPhase_X8_mix rfl rfl rfl hd_X8_mix ⟨Nat.le_of_ble_eq_true rfl, Nat.le_of_ble_eq_true rfl⟩) rfl dX8_mixPhase_89 Fit.whole fstX8 rfl rfl (Nat.le_of_ble_eq_true rfl) (Nat.zero_le _) (Nat.zero_le _) rfl rfl rfl ?_
          refine V_aload_n (pc := 92) F dX8_mixPhase_92 rfl 0 rfl ?_
          refine V_aload_n (pc := 93) F dX8_mixPhase_93 rfl 0 rfl ?_
          refine V_iload_n (pc := 94) F dX8_mixPhase_94 rfl 2 rfl ?_
          refine V_iload_n (pc := 95) F dX8_mixPhase_95 rfl 1 rfl ?_
          obtain ⟨r40, g41, hf⟩ := bind_of hf
          refine V_V (w2 := wX8 cy a r40.2) (rest := [.ref (a 0)]) (st2 := [.int r40.1, .ref (a 0)]) (pc := 96) F 8 (M_X8_longest l D cy N a r38 z2 z1 r40 g41) (cwV 2 F.ts gX8_mixPhase_X8_longest rfl rfl rfl hd_X8_longest ⟨Nat.le_of_ble_eq_true rfl, Nat.le_of_ble_eq_true rfl⟩) rfl dX8_mixPhase_96 Fit.whole fstX8 rfl rfl (Nat.le_of_ble_eq_true rfl) (Nat.zero_le _) (Nat.zero_le _) rfl rfl rfl ?_
          refine V_i2l (pc := 99) F dX8_mixPhase_99 ?_
          obtain ⟨r42, g43, hf⟩ := bind_of hf
          refine V_V (w2 := wX8 cy a r42) (rest := []) (st2 := []) (pc := 100) F 8 (M_X8_mix l D cy N a r40.2 ((r40.1).toInt64) r42 g43) (cwV 1 F.ts gX8_mixPhase_X8_mix rfl rfl rfl hd_X8_mix ⟨Nat.le_of_ble_eq_true rfl, Nat.le_of_ble_eq_true rfl⟩) rfl dX8_mixPhase_100 Fit.whole fstX8 rfl rfl (Nat.le_of_ble_eq_true rfl) (Nat.zero_le _) (Nat.zero_le _) rfl rfl rfl ?_
          refine V_aload_n (pc := 103) F dX8_mixPhase_103 rfl 0 rfl ?_
          refine V_aload_n (pc := 104) F dX8_mixPhase_104 rfl 0 rfl ?_
          refine V_iload_n (pc := 105) F dX8_mixPhase_105 rfl 2 rfl ?_
          refine V_iload_n (pc := 106) F dX8_mixPhase_106 rfl 1 rfl ?_
          obtain ⟨r44, g45, hf⟩ := bind_of hf
          refine V_V (w2 := wX8 cy a r44.2) (rest := [.ref (a 0)]) (st2 := [.int r44.1, .ref (a 0)]) (pc := 107) F 8 (M_X8_shortest l D cy N a r42 z2 z1 r44 g45) (cwV 2 F.ts gX8_mixPhase_X8_shortest rfl rfl rfl hd_X8_shortest ⟨Nat.le_of_ble_eq_true rfl, Nat.le_of_ble_eq_true rfl⟩) rfl dX8_mixPhase_107 Fit.whole fstX8 rfl rfl (Nat.le_of_ble_eq_true rfl) (Nat.zero_le _) (Nat.zero_le _) rfl rfl rfl ?_
          refine V_i2l (pc := 110) F dX8_mixPhase_110 ?_
          obtain ⟨r46, g47, hf⟩ := bind_of hf
          refine V_V (w2 := wX8 cy a r46) (rest := []) (st2 := []) (pc := 111) F 8 (M_X8_mix l D cy N a r44.2 ((r44.1).toInt64) r46 g47) (cwV 1 F.ts gX8_mixPhase_X8_mix rfl rfl rfl hd_X8_mix ⟨Nat.le_of_ble_eq_true rfl, Nat.le_of_ble_eq_true rfl⟩) rfl dX8_mixPhase_111 Fit.whole fstX8 rfl rfl (Nat.le_of_ble_eq_true rfl) (Nat.zero_le _) (Nat.zero_le _) rfl rfl rfl ?_
          refine V_aload_n (pc := 114) F dX8_mixPhase_114 rfl 0 rfl ?_
          refine V_aload_n (pc := 115) F dX8_mixPhase_115 rfl 0 rfl ?_
          refine V_iload_n (pc := 116) F dX8_mixPhase_116 rfl 2 rfl ?_
          refine V_iload_n (pc := 117) F dX8_mixPhase_117 rfl 1 rfl ?_
          obtain ⟨r48, g49, hf⟩ := bind_of hf
          refine V_V (w2 := wX8 cy a r48.2) (rest := [.ref (a 0)]) (st2 := [.int r48.1, .ref (a 0)]) (pc := 118) F 8 (M_X8_remedyFor l D cy N a r46 z2 z1 r48 g49) (cwV 2 F.ts gX8_mixPhase_X8_remedyFor rfl rfl rfl hd_X8_remedyFor ⟨Nat.le_of_ble_eq_true rfl, Nat.le_of_ble_eq_true rfl⟩) rfl dX8_mixPhase_118 Fit.whole fstX8 rfl rfl (Nat.le_of_ble_eq_true rfl) (Nat.zero_le _) (Nat.zero_le _) rfl rfl rfl ?_
          refine V_i2l (pc := 121) F dX8_mixPhase_121 ?_
          obtain ⟨r50, g51, hf⟩ := bind_of hf
          refine V_V (w2 := wX8 cy a r50) (rest := []) (st2 := []) (pc := 122) F 8 (M_X8_mix l D cy N a r48.2 ((r48.1).toInt64) r50 g51) (cwV 1 F.ts gX8_mixPhase_X8_mix rfl rfl rfl hd_X8_mix ⟨Nat.le_of_ble_eq_true rfl, Nat.le_of_ble_eq_true rfl⟩) rfl dX8_mixPhase_122 Fit.whole fstX8 rfl rfl (Nat.le_of_ble_eq_true rfl) (Nat.zero_le _) (Nat.zero_le _) rfl rfl rfl ?_
          refine V_iinc (v := (z2 + 1)) (L2 := [(2, .int (z2 + 1)), (0, .ref (a 0)), (1, .int z1)]) (pc := 125) F dX8_mixPhase_125 2 rfl rfl (by decide) rfl ?_
          refine V_goto (pc := 128) (tgt := 68) F dX8_mixPhase_128 (by decide) ?_
          refine V.sub [1, 2, 0] rfl ?_
          exact ih z1 r50 (z2 + 1) _ hf hk
  unfold fX8_mixPhase at hf
  refine V.eq rfl (show lv_args 0 [.ref (a 0), .int x1] = [(0, .ref (a 0)), (1, .int x1)] from rfl) rfl ?_
  refine V_iconst (v := 0) (pc := 0) F dX8_mixPhase_0 (by decide) ?_
  refine V_istore_n (L2 := [(2, .int 0), (0, .ref (a 0)), (1, .int x1)]) (pc := 1) F dX8_mixPhase_1 rfl (by decide) rfl ?_
  refine V.sub [1, 2, 0] rfl ?_
  obtain ⟨u6, g7, hf⟩ := bind_of hf
  refine K2 N x1 v 0 u6 g7 ?_
  refine V_iconst (v := 0) (pc := 24) F dX8_mixPhase_24 (by decide) ?_
  refine V_istore_n (L2 := [(2, .int 0), (0, .ref (a 0)), (1, .int x1)]) (pc := 25) F dX8_mixPhase_25 rfl (by decide) rfl ?_
  refine V.sub [1, 2, 0] rfl ?_
  obtain ⟨u18, g19, hf⟩ := bind_of hf
  refine K26 N x1 u6 0 u18 g19 ?_
  refine V_iconst (v := 0) (pc := 66) F dX8_mixPhase_66 (by decide) ?_
  refine V_istore_n (L2 := [(2, .int 0), (0, .ref (a 0)), (1, .int x1)]) (pc := 67) F dX8_mixPhase_67 rfl (by decide) rfl ?_
  refine V.sub [1, 2, 0] rfl ?_
  obtain ⟨u52, g53, hf⟩ := bind_of hf
  refine K68 N x1 u18 0 u52 g53 ?_
  obtain rfl := some_of hf
  exact V_vret F rfl dX8_mixPhase_131 rfl
