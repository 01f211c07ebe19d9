theorem hd_X8_canFollow : yX8_canFollow.cls = RX8 ∧ yX8_canFollow.cls ≠ "java/lang/invoke/MethodHandle" ∧ yX8_canFollow.cls ≠ "java/lang/invoke/VarHandle" ∧ (parseMethodDescriptor yX8_canFollow.desc).map (fun d => d.parameters.length) = some 3 := by decide +kernel
def fX8_canFollow_L9 (N : Nat) (v : SX8) (z1 : Int32) (z2 : Int32) (z3 : Int32) : Nat → Int32 → Int32 → Int32 → Option (Int32 × Int32)
  | 0, _, _, _ => none
  | n + 1, z4, z5, z6 =>
    if z2 ≤ z6 then
      some (z4, z5)
    else
      if z5 = 0 then
        (fX8_askers N v z1 z6).bind fun r3 =>
          fX8_canFollow_L9 N v z1 z2 z3 n (z4 ||| r3) 0 (z6 + 1)
      else
        (fX8_isSure N v z1 z6 z3).bind fun r5 =>
          if r5 = 0 then
            (fX8_askers N v z1 z6).bind fun r10 =>
              fX8_canFollow_L9 N v z1 z2 z3 n (z4 ||| r10) 1 (z6 + 1)
          else
            (fX8_askers N v z1 z6).bind fun r8 =>
              fX8_canFollow_L9 N v z1 z2 z3 n (z4 ||| r8) 0 (z6 + 1)
def fX8_canFollow (N : Nat) (v : SX8) (x1 : Int32) (x2 : Int32) (x3 : Int32) : Option (Int32) :=
  (fX8_canFollow_L9 N v x1 x2 x3 N 0 1 0).bind fun u12 =>
    if u12.2 = 0 then
      some 0
    else
      (fX8_isSure N v x1 x2 x3).bind fun r15 =>
        if r15 = 0 then
          (fX8_askers N v x1 x2).bind fun r18 =>
            if (r18 &&& (u12.1 ^^^ (-1))) = 0 then
              some 0
            else
              some 1
        else
          some 1
set_option maxHeartbeats 8000000 in
set_option maxRecDepth 100000 in
theorem M_X8_canFollow (l : Launch) (D : va_G) (cy : Nat → ClassId) (N : Nat) (a : Nat → Nat) (v : SX8) (x1 : Int32) (x2 : Int32) (x3 : Int32) (o : Int32) (hf : fX8_canFollow N v x1 x2 x3 = some o) : okM l yX8_canFollow wsX8_canFollow (rmz 3 67) D cy [.ref (a 0), .int x1, .int x2, .int x3] (wX8 cy a v) (wX8 cy a v) (some (.int o)) := by
  refine okM_of (own := RX8) (nme := "canFollow") (cc := cX8_canFollow) (maxL := 7) (ret := (some .boolean)) (by decide) rfl rfl rfl (Nat.le_of_ble_eq_true rfl) ?_
  intro p e s m args below meth c A F
  have K9 : ∀ (n : Nat) (v : SX8) (z1 : Int32) (z2 : Int32) (z3 : Int32) (z4 : Int32) (z5 : Int32) (z6 : Int32) (u : Int32 × Int32), fX8_canFollow_L9 N v z1 z2 z3 n z4 z5 z6 = some u → V p l e (rmz 3 67) s m args below meth c 7 D A 0 0 (MQ below (ok_Q D (wX8 cy a v) (some (.int o)) A) args s 0 0 A) (wX8 cy a v) [(0, .ref (a 0)), (1, .int z1), (2, .int z2), (3, .int z3), (4, .int u.1), (5, .int u.2)] [] 56 → V p l e (rmz 3 67) s m args below meth c 7 D A 0 0 (MQ below (ok_Q D (wX8 cy a v) (some (.int o)) A) args s 0 0 A) (wX8 cy a v) [(0, .ref (a 0)), (1, .int z1), (2, .int z2), (3, .int z3), (4, .int z4), (5, .int z5), (6, .int z6)] [] 9 := by
    intro n
    induction n with
    | zero =>
      intro v z1 z2 z3 z4 z5 z6 u hf hk
      exact nomatch (show (none : Option (Int32 × Int32)) = some u from hf)
    | succ n ih =>
      intro v z1 z2 z3 z4 z5 z6 u hf hk
      rw [fX8_canFollow_L9] at hf
      refine V_iload (pc := 9) F dX8_canFollow_9 6 rfl ?_
      refine V_iload_n (pc := 11) F dX8_canFollow_11 rfl 2 rfl ?_
      refine V_icmp_ge (pc := 12) (tgt := 56) F dX8_canFollow_12 (by decide) (fun h1 => ?_) (fun h1 => ?_)
      · replace hf := ite_pos hf h1
        obtain rfl := some_of hf
        exact V.sub [0, 1, 2, 3, 4, 5] rfl hk
      · replace hf := ite_neg hf h1
        refine V_iload (pc := 15) F dX8_canFollow_15 5 rfl ?_
        refine V_if_eq (pc := 17) (tgt := 35) F dX8_canFollow_17 (by decide) (fun h2 => ?_) (fun h2 => ?_)
        · replace hf := ite_pos hf h2
          refine V_iconst (v := 0) (pc := 35) F dX8_canFollow_35 (by decide) ?_
          refine V_istore (L2 := [(5, .int 0), (0, .ref (a 0)), (1, .int z1), (2, .int z2), (3, .int z3), (4, .int z4), (6, .int z6)]) (pc := 36) F dX8_canFollow_36 (by decide) rfl ?_
          refine V_iload (pc := 38) F dX8_canFollow_38 5 rfl ?_
          refine V_aload_n (pc := 40) F dX8_canFollow_40 rfl 1 rfl ?_
          refine V_iload_n (pc := 41) F dX8_canFollow_41 rfl 2 rfl ?_
          refine V_iload (pc := 42) F dX8_canFollow_42 6 rfl ?_
          obtain ⟨r3, g4, hf⟩ := bind_of hf
          refine V_V (w2 := wX8 cy a v) (rest := [.int z4]) (st2 := [.int r3, .int z4]) (pc := 44) F 8 (M_X8_askers l D cy N a v z1 z6 r3 g4) (cwV 2 F.ts gX8_canFollow_X8_askers rfl rfl rfl hd_X8_askers ⟨Nat.le_of_ble_eq_true rfl, Nat.le_of_ble_eq_true rfl⟩) rfl dX8_canFollow_44 Fit.whole rfl rfl rfl (Nat.le_of_ble_eq_true rfl) (Nat.zero_le _) (Nat.zero_le _) rfl rfl rfl ?_
          refine V_ior (pc := 47) F dX8_canFollow_47 ?_
          refine V_istore (L2 := [(4, .int (z4 ||| r3)), (5, .int 0), (0, .ref (a 0)), (1, .int z1), (2, .int z2), (3, .int z3), (6, .int z6)]) (pc := 48) F dX8_canFollow_48 (by decide) rfl ?_
          refine V_iinc (v := (z6 + 1)) (L2 := [(6, .int (z6 + 1)), (4, .int (z4 ||| r3)), (5, .int 0), (0, .ref (a 0)), (1, .int z1), (2, .int z2), (3, .int z3)]) (pc := 50) F dX8_canFollow_50 6 rfl rfl (by decide) rfl ?_
          refine V_goto (pc := 53) (tgt := 9) F dX8_canFollow_53 (by decide) ?_
          refine V.sub [3, 4, 5, 6, 1, 2, 0] rfl ?_
          exact ih v z1 z2 z3 (z4 ||| r3) 0 (z6 + 1) _ hf hk
        · replace hf := ite_neg hf h2
          refine V_aload_n (pc := 20) F dX8_canFollow_20 rfl 0 rfl ?_
          refine V_iload_n (pc := 21) F dX8_canFollow_21 rfl 1 rfl ?_
          refine V_iload (pc := 22) F dX8_canFollow_22 6 rfl ?_
          refine V_iload_n (pc := 24) F dX8_canFollow_24 rfl 3 rfl ?_
          obtain ⟨r5, g6, hf⟩ := bind_of hf
          refine V_V (w2 := wX8 cy a v) (rest := []) (st2 := [.int r5]) (pc := 25) F 8 (M_X8_isSure l D cy N a v z1 z6 z3 r5 g6) (cwV 3 F.ts gX8_canFollow_X8_isSure rfl rfl rfl hd_X8_isSure ⟨Nat.le_of_ble_eq_true rfl, Nat.le_of_ble_eq_true rfl⟩) rfl dX8_canFollow_25 Fit.whole rfl rfl rfl (Nat.le_of_ble_eq_true rfl) (Nat.zero_le _) (Nat.zero_le _) rfl rfl rfl ?_
          refine V_if_ne (pc := 28) (tgt := 35) F dX8_canFollow_28 (by decide) (fun h7 => ?_) (fun h7 => ?_)
          · replace hf := ite_neg hf h7
            refine V_iconst (v := 0) (pc := 35) F dX8_canFollow_35 (by decide) ?_
            refine V_istore (L2 := [(5, .int 0), (0, .ref (a 0)), (1, .int z1), (2, .int z2), (3, .int z3), (4, .int z4), (6, .int z6)]) (pc := 36) F dX8_canFollow_36 (by decide) rfl ?_
            refine V_iload (pc := 38) F dX8_canFollow_38 5 rfl ?_
            refine V_aload_n (pc := 40) F dX8_canFollow_40 rfl 1 rfl ?_
            refine V_iload_n (pc := 41) F dX8_canFollow_41 rfl 2 rfl ?_
            refine V_iload (pc := 42) F dX8_canFollow_42 6 rfl ?_
            obtain ⟨r8, g9, hf⟩ := bind_of hf
            refine V_V (w2 := wX8 cy a v) (rest := [.int z4]) (st2 := [.int r8, .int z4]) (pc := 44) F 8 (M_X8_askers l D cy N a v z1 z6 r8 g9) (cwV 2 F.ts gX8_canFollow_X8_askers rfl rfl rfl hd_X8_askers ⟨Nat.le_of_ble_eq_true rfl, Nat.le_of_ble_eq_true rfl⟩) rfl dX8_canFollow_44 Fit.whole rfl rfl rfl (Nat.le_of_ble_eq_true rfl) (Nat.zero_le _) (Nat.zero_le _) rfl rfl rfl ?_
            refine V_ior (pc := 47) F dX8_canFollow_47 ?_
            refine V_istore (L2 := [(4, .int (z4 ||| r8)), (5, .int 0), (0, .ref (a 0)), (1, .int z1), (2, .int z2), (3, .int z3), (6, .int z6)]) (pc := 48) F dX8_canFollow_48 (by decide) rfl ?_
            refine V_iinc (v := (z6 + 1)) (L2 := [(6, .int (z6 + 1)), (4, .int (z4 ||| r8)), (5, .int 0), (0, .ref (a 0)), (1, .int z1), (2, .int z2), (3, .int z3)]) (pc := 50) F dX8_canFollow_50 6 rfl rfl (by decide) rfl ?_
            refine V_goto (pc := 53) (tgt := 9) F dX8_canFollow_53 (by decide) ?_
            refine V.sub [3, 4, 5, 6, 1, 2, 0] rfl ?_
            exact ih v z1 z2 z3 (z4 ||| r8) 0 (z6 + 1) _ hf hk
          · replace hf := ite_pos hf h7
            refine V_iconst (v := 1) (pc := 31) F dX8_canFollow_31 (by decide) ?_
            refine V_goto (pc := 32) (tgt := 36) F dX8_canFollow_32 (by decide) ?_
            refine V_istore (L2 := [(5, .int 1), (0, .ref (a 0)), (1, .int z1), (2, .int z2), (3, .int z3), (4, .int z4), (6, .int z6)]) (pc := 36) F dX8_canFollow_36 (by decide) rfl ?_
            refine V_iload (pc := 38) F dX8_canFollow_38 5 rfl ?_
            refine V_aload_n (pc := 40) F dX8_canFollow_40 rfl 1 rfl ?_
            refine V_iload_n (pc := 41) F dX8_canFollow_41 rfl 2 rfl ?_
            refine V_iload (pc := 42) F dX8_canFollow_42 6 rfl ?_
            obtain ⟨r10, g11, hf⟩ := bind_of hf
            refine V_V (w2 := wX8 cy a v) (rest := [.int z4]) (st2 := [.int r10, .int z4]) (pc := 44) F 8 (M_X8_askers l D cy N a v z1 z6 r10 g11) (cwV 2 F.ts gX8_canFollow_X8_askers rfl rfl rfl hd_X8_askers ⟨Nat.le_of_ble_eq_true rfl, Nat.le_of_ble_eq_true rfl⟩) rfl dX8_canFollow_44 Fit.whole rfl rfl rfl (Nat.le_of_ble_eq_true rfl) (Nat.zero_le _) (Nat.zero_le _) rfl rfl rfl ?_
            refine V_ior (pc := 47) F dX8_canFollow_47 ?_
            refine V_istore (L2 := [(4, .int (z4 ||| r10)), (5, .int 1), (0, .ref (a 0)), (1, .int z1), (2, .int z2), (3, .int z3), (6, .int z6)]) (pc := 48) F dX8_canFollow_48 (by decide) rfl ?_
            refine V_iinc (v := (z6 + 1)) (L2 := [(6, .int (z6 + 1)), (4, .int (z4 ||| r10)), (5, .int 1), (0, .ref (a 0)), (1, .int z1), (2, .int z2), (3, .int z3)]) (pc := 50) F dX8_canFollow_50 6 rfl rfl (by decide) rfl ?_
            refine V_goto (pc := 53) (tgt := 9) F dX8_canFollow_53 (by decide) ?_
            refine V.sub [3, 4, 5, 6, 1, 2, 0] rfl ?_
            exact ih v z1 z2 z3 (z4 ||| r10) 1 (z6 + 1) _ hf hk
  unfold fX8_canFollow at hf
  refine V.eq rfl (show lv_args 0 [.ref (a 0), .int x1, .int x2, .int x3] = [(0, .ref (a 0)), (1, .int x1), (2, .int x2), (3, .int x3)] from rfl) rfl ?_
  refine V_iconst (v := 0) (pc := 0) F dX8_canFollow_0 (by decide) ?_
  refine V_istore (L2 := [(4, .int 0), (0, .ref (a 0)), (1, .int x1), (2, .int x2), (3, .int x3)]) (pc := 1) F dX8_canFollow_1 (by decide) rfl ?_
  refine V_iconst (v := 1) (pc := 3) F dX8_canFollow_3 (by decide) ?_
  refine V_istore (L2 := [(5, .int 1), (4, .int 0), (0, .ref (a 0)), (1, .int x1), (2, .int x2), (3, .int x3)]) (pc := 4) F dX8_canFollow_4 (by decide) rfl ?_
  refine V_iconst (v := 0) (pc := 6) F dX8_canFollow_6 (by decide) ?_
  refine V_istore (L2 := [(6, .int 0), (5, .int 1), (4, .int 0), (0, .ref (a 0)), (1, .int x1), (2, .int x2), (3, .int x3)]) (pc := 7) F dX8_canFollow_7 (by decide) rfl ?_
  refine V.sub [3, 4, 5, 6, 2, 1, 0] rfl ?_
  obtain ⟨u12, g13, hf⟩ := bind_of hf
  refine K9 N v x1 x2 x3 0 1 0 u12 g13 ?_
  refine V_iload (pc := 56) F dX8_canFollow_56 5 rfl ?_
  refine V_if_eq (pc := 58) (tgt := 89) F dX8_canFollow_58 (by decide) (fun h14 => ?_) (fun h14 => ?_)
  · replace hf := ite_pos hf h14
    refine V_iconst (v := 0) (pc := 89) F dX8_canFollow_89 (by decide) ?_
    obtain rfl := some_of hf
    exact V_ret F rfl rfl dX8_canFollow_90 rfl rfl
  · replace hf := ite_neg hf h14
    refine V_aload_n (pc := 61) F dX8_canFollow_61 rfl 0 rfl ?_
    refine V_iload_n (pc := 62) F dX8_canFollow_62 rfl 1 rfl ?_
    refine V_iload_n (pc := 63) F dX8_canFollow_63 rfl 2 rfl ?_
    refine V_iload_n (pc := 64) F dX8_canFollow_64 rfl 3 rfl ?_
    obtain ⟨r15, g16, hf⟩ := bind_of hf
    refine V_V (w2 := wX8 cy a v) (rest := []) (st2 := [.int r15]) (pc := 65) F 8 (M_X8_isSure l D cy N a v x1 x2 x3 r15 g16) (cwV 3 F.ts gX8_canFollow_X8_isSure rfl rfl rfl hd_X8_isSure ⟨Nat.le_of_ble_eq_true rfl, Nat.le_of_ble_eq_true rfl⟩) rfl dX8_canFollow_65 Fit.whole rfl rfl rfl (Nat.le_of_ble_eq_true rfl) (Nat.zero_le _) (Nat.zero_le _) rfl rfl rfl ?_
    refine V_if_ne (pc := 68) (tgt := 85) F dX8_canFollow_68 (by decide) (fun h17 => ?_) (fun h17 => ?_)
    · replace hf := ite_neg hf h17
      refine V_iconst (v := 1) (pc := 85) F dX8_canFollow_85 (by decide) ?_
      refine V_goto (pc := 86) (tgt := 90) F dX8_canFollow_86 (by decide) ?_
      obtain rfl := some_of hf
      exact V_ret F rfl rfl dX8_canFollow_90 rfl rfl
    · replace hf := ite_pos hf h17
      refine V_aload_n (pc := 71) F dX8_canFollow_71 rfl 0 rfl ?_
      refine V_iload_n (pc := 72) F dX8_canFollow_72 rfl 1 rfl ?_
      refine V_iload_n (pc := 73) F dX8_canFollow_73 rfl 2 rfl ?_
      obtain ⟨r18, g19, hf⟩ := bind_of hf
      refine V_V (w2 := wX8 cy a v) (rest := []) (st2 := [.int r18]) (pc := 74) F 8 (M_X8_askers l D cy N a v x1 x2 r18 g19) (cwV 2 F.ts gX8_canFollow_X8_askers rfl rfl rfl hd_X8_askers ⟨Nat.le_of_ble_eq_true rfl, Nat.le_of_ble_eq_true rfl⟩) rfl dX8_canFollow_74 Fit.whole rfl rfl rfl (Nat.le_of_ble_eq_true rfl) (Nat.zero_le _) (Nat.zero_le _) rfl rfl rfl ?_
      refine V_iload (pc := 77) F dX8_canFollow_77 4 rfl ?_
      refine V_iconst (v := (-1)) (pc := 79) F dX8_canFollow_79 (by decide) ?_
      refine V_ixor (pc := 80) F dX8_canFollow_80 ?_
      refine V_iand (pc := 81) F dX8_canFollow_81 ?_
      refine V_if_eq (pc := 82) (tgt := 89) F dX8_canFollow_82 (by decide) (fun h20 => ?_) (fun h20 => ?_)
      · replace hf := ite_pos hf h20
        refine V_iconst (v := 0) (pc := 89) F dX8_canFollow_89 (by decide) ?_
        obtain rfl := some_of hf
        exact V_ret F rfl rfl dX8_canFollow_90 rfl rfl
      · replace hf := ite_neg hf h20
        refine V_iconst (v := 1) (pc := 85) F dX8_canFollow_85 (by decide) ?_
        refine V_goto (pc := 86) (tgt := 90) F dX8_canFollow_86 (by decide) ?_
        obtain rfl := some_of hf
        exact V_ret F rfl rfl dX8_canFollow_90 rfl rfl
