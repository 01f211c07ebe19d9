theorem hd_X3_comingWith : yX3_comingWith.cls = RX3 ∧ yX3_comingWith.cls ≠ "java/lang/invoke/MethodHandle" ∧ yX3_comingWith.cls ≠ "java/lang/invoke/VarHandle" ∧ (parseMethodDescriptor yX3_comingWith.desc).map (fun d => d.parameters.length) = some 4 := by decide +kernel
def fX3_comingWith_L44 (N : Nat) (v : SX3) (v1 : SX2) (z3 : Int32) (z4 : Int32) (z7 : Int32) (z8 : Int32) : Nat → Int32 → Int32 → Option (Int32)
  | 0, _, _ => none
  | n + 1, z5, z9 =>
    if v1.2.2.2.2.2.2.1 ≤ z9 then
      some z5
    else
      (fX7_has N z5 z9).bind fun r7 =>
        if r7 = 0 then
          fX3_comingWith_L44 N v v1 z3 z4 z7 z8 n z5 (z9 + 1)
        else
          if z9 = z3 then
            fX3_comingWith_L44 N v v1 z3 z4 z7 z8 n (z5 ||| ((rowAt 8 v.1 z9) ||| ((1 : Int32) <<< (z4 &&& 31)))) (z9 + 1)
          else
            fX3_comingWith_L44 N v v1 z3 z4 z7 z8 n (z5 ||| (rowAt 8 v.1 z9)) (z9 + 1)
def fX3_comingWith_L23 (N : Nat) (v : SX3) (v1 : SX2) (z3 : Int32) (z4 : Int32) : Nat → Int32 → Int32 → Int32 → Option (Int32)
  | 0, _, _, _ => none
  | n + 1, z5, z6, z7 =>
    if v1.2.2.2.2.2.2.1 ≤ z7 then
      some z5
    else
      if z6 = 0 then
        some z5
      else
        (fX3_comingWith_L44 N v v1 z3 z4 z7 z5 N z5 0).bind fun u11 =>
          if u11 = z5 then
            fX3_comingWith_L23 N v v1 z3 z4 n u11 0 (z7 + 1)
          else
            fX3_comingWith_L23 N v v1 z3 z4 n u11 1 (z7 + 1)
def fX3_comingWith (N : Nat) (v : SX3) (v1 : SX2) (x2 : Int32) (x3 : Int32) (x4 : Int32) : Option (Int32) :=
  (fX2_hasPhase N v1 x2).bind fun r1 =>
    if r1 = 0 then
      (fX3_comingWith_L23 N v v1 x3 x4 N 0 1 0).bind fun u14 =>
        some u14
    else
      (fX3_comingWith_L23 N v v1 x3 x4 N ((1 : Int32) <<< (x2 &&& 31)) 1 0).bind fun u16 =>
        some u16
set_option maxHeartbeats 8000000 in
set_option maxRecDepth 100000 in
theorem M_X3_comingWith (l : Launch) (D : va_G) (cy : Nat → ClassId) (N : Nat) (a : Nat → Nat) (a1 : Nat → Nat) (v : SX3) (v1 : SX2) (x2 : Int32) (x3 : Int32) (x4 : Int32) (o : Int32) (hf : fX3_comingWith N v v1 x2 x3 x4 = some o) : okM l yX3_comingWith wsX3_comingWith (rmz 1 21) D cy [.ref (a 0), .ref (a1 0), .int x2, .int x3, .int x4] (wX3 cy a v ++ wX2 cy a1 v1) (wX3 cy a v ++ wX2 cy a1 v1) (some (.int o)) := by
  refine okM_of (own := RX3) (nme := "comingWith") (cc := cX3_comingWith) (maxL := 10) (ret := (some .int)) (by decide) rfl rfl rfl (Nat.le_of_ble_eq_true rfl) ?_
  intro p e s m args below meth c A F
  have i_X2 : ∀ w ∈ u_ws RX2 TX2 8, w ∈ wsX3_comingWith := fun _ h => List.mem_cons_of_mem _ (List.mem_append_left _ (List.mem_append_left _ (List.mem_append_right _ h)))
  have i_X3 : ∀ w ∈ u_ws RX3 TX3 6, w ∈ wsX3_comingWith := fun _ h => List.mem_cons_of_mem _ (List.mem_append_left _ (List.mem_append_right _ h))
  have K44 : ∀ (n : Nat) (v : SX3) (v1 : SX2) (z3 : Int32) (z4 : Int32) (z7 : Int32) (z8 : Int32) (z5 : Int32) (z9 : Int32) (u : Int32), fX3_comingWith_L44 N v v1 z3 z4 z7 z8 n z5 z9 = some u → V p l e (rmz 1 21) s m args below meth c 10 D A 0 0 (MQ below (ok_Q D (wX3 cy a v ++ wX2 cy a1 v1) (some (.int o)) A) args s 0 0 A) (wX3 cy a v ++ wX2 cy a1 v1) [(0, .ref (a 0)), (1, .ref (a1 0)), (3, .int z3), (4, .int z4), (5, .int u), (7, .int z7), (8, .int z8)] [] 106 → V p l e (rmz 1 21) s m args below meth c 10 D A 0 0 (MQ below (ok_Q D (wX3 cy a v ++ wX2 cy a1 v1) (some (.int o)) A) args s 0 0 A) (wX3 cy a v ++ wX2 cy a1 v1) [(0, .ref (a 0)), (1, .ref (a1 0)), (3, .int z3), (4, .int z4), (5, .int z5), (7, .int z7), (8, .int z8), (9, .int z9)] [] 44 := by
    intro n
    induction n with
    | zero =>
      intro v v1 z3 z4 z7 z8 z5 z9 u hf hk
      exact nomatch (show (none : Option (Int32)) = some u from hf)
    | succ n ih =>
      intro v v1 z3 z4 z7 z8 z5 z9 u hf hk
      rw [fX3_comingWith_L44] at hf
      refine V_iload (pc := 44) F dX3_comingWith_44 7 rfl ?_
      refine V_aload_n (pc := 46) F dX3_comingWith_46 rfl 1 rfl ?_
      refine V_get (pc := 47) F 11 2 6 i_X2 rfl (by decide) rfl (mm 1 rfl) dX3_comingWith_47 rfl rfl ?_
      refine V_icmp_ge (pc := 50) (tgt := 106) F dX3_comingWith_50 (by decide) (fun h6 => ?_) (fun h6 => ?_)
      · replace hf := ite_pos hf h6
        obtain rfl := some_of hf
        exact V.sub [0, 1, 2, 3, 4, 5, 6] rfl hk
      · replace hf := ite_neg hf h6
        refine V_iload (pc := 53) F dX3_comingWith_53 4 rfl ?_
        refine V_iload (pc := 55) F dX3_comingWith_55 7 rfl ?_
        obtain ⟨r7, g8, hf⟩ := bind_of hf
        refine V_SN (rest := []) (st2 := [.int r7]) (pc := 57) F (M_X7_has l D cy N z5 z9 r7 g8) ⟨va_cnB 2 F.ts gX3_comingWith_X7_has_n73 rfl rfl rfl F.nest.1 (F.ts _ (mm 10 rfl)) hd_X7_has ⟨Nat.le_of_ble_eq_true rfl, Nat.le_of_ble_eq_true rfl⟩, F.ts _ (mm 9 rfl), trivial⟩ rfl dX3_comingWith_57 (Nat.le_of_ble_eq_true rfl) (Nat.zero_le _) (Nat.zero_le _) rfl rfl ?_
        refine V_if_eq (pc := 60) (tgt := 100) F dX3_comingWith_60 (by decide) (fun h9 => ?_) (fun h9 => ?_)
        · replace hf := ite_pos hf h9
          refine V_iinc (v := (z9 + 1)) (L2 := [(9, .int (z9 + 1)), (0, .ref (a 0)), (1, .ref (a1 0)), (3, .int z3), (4, .int z4), (5, .int z5), (7, .int z7), (8, .int z8)]) (pc := 100) F dX3_comingWith_100 7 rfl rfl (by decide) rfl ?_
          refine V_goto (pc := 103) (tgt := 44) F dX3_comingWith_103 (by decide) ?_
          refine V.sub [1, 2, 3, 4, 5, 6, 7, 0] rfl ?_
          exact ih v v1 z3 z4 z7 z8 z5 (z9 + 1) _ hf hk
        · replace hf := ite_neg hf h9
          refine V_iload (pc := 63) F dX3_comingWith_63 4 rfl ?_
          refine V_iload (pc := 65) F dX3_comingWith_65 7 rfl ?_
          refine V_iload_n (pc := 67) F dX3_comingWith_67 rfl 2 rfl ?_
          refine V_icmp_ne (pc := 68) (tgt := 88) F dX3_comingWith_68 (by decide) (fun h10 => ?_) (fun h10 => ?_)
          · replace hf := ite_neg hf h10
            refine V_aload_n (pc := 88) F dX3_comingWith_88 rfl 0 rfl ?_
            refine V_get (pc := 89) F 0 3 0 i_X3 rfl (by decide) rfl (mm 2 rfl) dX3_comingWith_89 rfl rfl ?_
            refine V_iload (pc := 92) F dX3_comingWith_92 7 rfl ?_
            refine V_V (w2 := wX3 cy a v ++ wX2 cy a1 v1) (rest := [.int z5]) (st2 := [.int (rowAt 8 v.1 z9), .int z5]) (pc := 94) F 5 (R_at l D cy (fun i => a (i + 1)) 8 v.1 z9 (by decide)) (cwV 1 F.ts gX3_comingWith_X5_at rfl rfl rfl hd_X5_at ⟨Nat.le_of_ble_eq_true rfl, Nat.le_of_ble_eq_true rfl⟩) rfl dX3_comingWith_94 (Fit.left (Fit.right (Fit.left Fit.whole))) rfl rfl rfl (Nat.le_of_ble_eq_true rfl) (Nat.zero_le _) (Nat.zero_le _) rfl rfl rfl ?_
            refine V_ior (pc := 97) F dX3_comingWith_97 ?_
            refine V_istore (L2 := [(5, .int (z5 ||| (rowAt 8 v.1 z9))), (0, .ref (a 0)), (1, .ref (a1 0)), (3, .int z3), (4, .int z4), (7, .int z7), (8, .int z8), (9, .int z9)]) (pc := 98) F dX3_comingWith_98 (by decide) rfl ?_
            refine V_iinc (v := (z9 + 1)) (L2 := [(9, .int (z9 + 1)), (5, .int (z5 ||| (rowAt 8 v.1 z9))), (0, .ref (a 0)), (1, .ref (a1 0)), (3, .int z3), (4, .int z4), (7, .int z7), (8, .int z8)]) (pc := 100) F dX3_comingWith_100 7 rfl rfl (by decide) rfl ?_
            refine V_goto (pc := 103) (tgt := 44) F dX3_comingWith_103 (by decide) ?_
            refine V.sub [2, 3, 4, 5, 1, 6, 7, 0] rfl ?_
            exact ih v v1 z3 z4 z7 z8 (z5 ||| (rowAt 8 v.1 z9)) (z9 + 1) _ hf hk
          · replace hf := ite_pos hf h10
            refine V_aload_n (pc := 71) F dX3_comingWith_71 rfl 0 rfl ?_
            refine V_get (pc := 72) F 0 3 0 i_X3 rfl (by decide) rfl (mm 2 rfl) dX3_comingWith_72 rfl rfl ?_
            refine V_iload (pc := 75) F dX3_comingWith_75 7 rfl ?_
            refine V_V (w2 := wX3 cy a v ++ wX2 cy a1 v1) (rest := [.int z5]) (st2 := [.int (rowAt 8 v.1 z9), .int z5]) (pc := 77) F 5 (R_at l D cy (fun i => a (i + 1)) 8 v.1 z9 (by decide)) (cwV 1 F.ts gX3_comingWith_X5_at rfl rfl rfl hd_X5_at ⟨Nat.le_of_ble_eq_true rfl, Nat.le_of_ble_eq_true rfl⟩) rfl dX3_comingWith_77 (Fit.left (Fit.right (Fit.left Fit.whole))) rfl rfl rfl (Nat.le_of_ble_eq_true rfl) (Nat.zero_le _) (Nat.zero_le _) rfl rfl rfl ?_
            refine V_iconst (v := 1) (pc := 80) F dX3_comingWith_80 (by decide) ?_
            refine V_iload (pc := 81) F dX3_comingWith_81 3 rfl ?_
            refine V_ishl (pc := 83) F dX3_comingWith_83 ?_
            refine V_ior (pc := 84) F dX3_comingWith_84 ?_
            refine V_goto (pc := 85) (tgt := 97) F dX3_comingWith_85 (by decide) ?_
            refine V_ior (pc := 97) F dX3_comingWith_97 ?_
            refine V_istore (L2 := [(5, .int (z5 ||| ((rowAt 8 v.1 z9) ||| ((1 : Int32) <<< (z4 &&& 31))))), (0, .ref (a 0)), (1, .ref (a1 0)), (3, .int z3), (4, .int z4), (7, .int z7), (8, .int z8), (9, .int z9)]) (pc := 98) F dX3_comingWith_98 (by decide) rfl ?_
            refine V_iinc (v := (z9 + 1)) (L2 := [(9, .int (z9 + 1)), (5, .int (z5 ||| ((rowAt 8 v.1 z9) ||| ((1 : Int32) <<< (z4 &&& 31))))), (0, .ref (a 0)), (1, .ref (a1 0)), (3, .int z3), (4, .int z4), (7, .int z7), (8, .int z8)]) (pc := 100) F dX3_comingWith_100 7 rfl rfl (by decide) rfl ?_
            refine V_goto (pc := 103) (tgt := 44) F dX3_comingWith_103 (by decide) ?_
            refine V.sub [2, 3, 4, 5, 1, 6, 7, 0] rfl ?_
            exact ih v v1 z3 z4 z7 z8 (z5 ||| ((rowAt 8 v.1 z9) ||| ((1 : Int32) <<< (z4 &&& 31)))) (z9 + 1) _ hf hk
  have K23 : ∀ (n : Nat) (v : SX3) (v1 : SX2) (z3 : Int32) (z4 : Int32) (z5 : Int32) (z6 : Int32) (z7 : Int32) (u : Int32), fX3_comingWith_L23 N v v1 z3 z4 n z5 z6 z7 = some u → V p l e (rmz 1 21) s m args below meth c 10 D A 0 0 (MQ below (ok_Q D (wX3 cy a v ++ wX2 cy a1 v1) (some (.int o)) A) args s 0 0 A) (wX3 cy a v ++ wX2 cy a1 v1) [(5, .int u)] [] 126 → V p l e (rmz 1 21) s m args below meth c 10 D A 0 0 (MQ below (ok_Q D (wX3 cy a v ++ wX2 cy a1 v1) (some (.int o)) A) args s 0 0 A) (wX3 cy a v ++ wX2 cy a1 v1) [(0, .ref (a 0)), (1, .ref (a1 0)), (3, .int z3), (4, .int z4), (5, .int z5), (6, .int z6), (7, .int z7)] [] 23 := by
    intro n
    induction n with
    | zero =>
      intro v v1 z3 z4 z5 z6 z7 u hf hk
      exact nomatch (show (none : Option (Int32)) = some u from hf)
    | succ n ih =>
      intro v v1 z3 z4 z5 z6 z7 u hf hk
      rw [fX3_comingWith_L23] at hf
      refine V_iload (pc := 23) F dX3_comingWith_23 6 rfl ?_
      refine V_aload_n (pc := 25) F dX3_comingWith_25 rfl 1 rfl ?_
      refine V_get (pc := 26) F 11 2 6 i_X2 rfl (by decide) rfl (mm 1 rfl) dX3_comingWith_26 rfl rfl ?_
      refine V_icmp_ge (pc := 29) (tgt := 126) F dX3_comingWith_29 (by decide) (fun h4 => ?_) (fun h4 => ?_)
      · replace hf := ite_pos hf h4
        obtain rfl := some_of hf
        exact V.sub [4] rfl hk
      · replace hf := ite_neg hf h4
        refine V_iload (pc := 32) F dX3_comingWith_32 5 rfl ?_
        refine V_if_eq (pc := 34) (tgt := 126) F dX3_comingWith_34 (by decide) (fun h5 => ?_) (fun h5 => ?_)
        · replace hf := ite_pos hf h5
          obtain rfl := some_of hf
          exact V.sub [4] rfl hk
        · replace hf := ite_neg hf h5
          refine V_iload (pc := 37) F dX3_comingWith_37 4 rfl ?_
          refine V_istore (L2 := [(8, .int z5), (0, .ref (a 0)), (1, .ref (a1 0)), (3, .int z3), (4, .int z4), (5, .int z5), (6, .int z6), (7, .int z7)]) (pc := 39) F dX3_comingWith_39 (by decide) rfl ?_
          refine V_iconst (v := 0) (pc := 41) F dX3_comingWith_41 (by decide) ?_
          refine V_istore (L2 := [(9, .int 0), (8, .int z5), (0, .ref (a 0)), (1, .ref (a1 0)), (3, .int z3), (4, .int z4), (5, .int z5), (6, .int z6), (7, .int z7)]) (pc := 42) F dX3_comingWith_42 (by decide) rfl ?_
          refine V.sub [2, 3, 4, 5, 6, 8, 1, 0] rfl ?_
          obtain ⟨u11, g12, hf⟩ := bind_of hf
          refine K44 N v v1 z3 z4 z7 z5 z5 0 u11 g12 ?_
          refine V_iload (pc := 106) F dX3_comingWith_106 4 rfl ?_
          refine V_iload (pc := 108) F dX3_comingWith_108 6 rfl ?_
          refine V_icmp_eq (pc := 110) (tgt := 117) F dX3_comingWith_110 (by decide) (fun h13 => ?_) (fun h13 => ?_)
          · replace hf := ite_pos hf h13
            refine V_iconst (v := 0) (pc := 117) F dX3_comingWith_117 (by decide) ?_
            refine V_istore (L2 := [(6, .int 0), (0, .ref (a 0)), (1, .ref (a1 0)), (3, .int z3), (4, .int z4), (5, .int u11), (7, .int z7), (8, .int z5)]) (pc := 118) F dX3_comingWith_118 (by decide) rfl ?_
            refine V_iinc (v := (z7 + 1)) (L2 := [(7, .int (z7 + 1)), (6, .int 0), (0, .ref (a 0)), (1, .ref (a1 0)), (3, .int z3), (4, .int z4), (5, .int u11), (8, .int z5)]) (pc := 120) F dX3_comingWith_120 6 rfl rfl (by decide) rfl ?_
            refine V_goto (pc := 123) (tgt := 23) F dX3_comingWith_123 (by decide) ?_
            refine V.sub [2, 3, 4, 5, 6, 1, 0] rfl ?_
            exact ih v v1 z3 z4 u11 0 (z7 + 1) _ hf hk
          · replace hf := ite_neg hf h13
            refine V_iconst (v := 1) (pc := 113) F dX3_comingWith_113 (by decide) ?_
            refine V_goto (pc := 114) (tgt := 118) F dX3_comingWith_114 (by decide) ?_
            refine V_istore (L2 := [(6, .int 1), (0, .ref (a 0)), (1, .ref (a1 0)), (3, .int z3), (4, .int z4), (5, .int u11), (7, .int z7), (8, .int z5)]) (pc := 118) F dX3_comingWith_118 (by decide) rfl ?_
            refine V_iinc (v := (z7 + 1)) (L2 := [(7, .int (z7 + 1)), (6, .int 1), (0, .ref (a 0)), (1, .ref (a1 0)), (3, .int z3), (4, .int z4), (5, .int u11), (8, .int z5)]) (pc := 120) F dX3_comingWith_120 6 rfl rfl (by decide) rfl ?_
            refine V_goto (pc := 123) (tgt := 23) F dX3_comingWith_123 (by decide) ?_
            refine V.sub [2, 3, 4, 5, 6, 1, 0] rfl ?_
            exact ih v v1 z3 z4 u11 1 (z7 + 1) _ hf hk
  unfold fX3_comingWith at hf
  refine V.eq rfl (show lv_args 0 [.ref (a 0), .ref (a1 0), .int x2, .int x3, .int x4] = [(0, .ref (a 0)), (1, .ref (a1 0)), (2, .int x2), (3, .int x3), (4, .int x4)] from rfl) rfl ?_
  refine V_aload_n (pc := 0) F dX3_comingWith_0 rfl 1 rfl ?_
  refine V_iload_n (pc := 1) F dX3_comingWith_1 rfl 2 rfl ?_
  obtain ⟨r1, g2, hf⟩ := bind_of hf
  refine V_V (w2 := wX3 cy a v ++ wX2 cy a1 v1) (rest := []) (st2 := [.int r1]) (pc := 2) F 2 (M_X2_hasPhase l D cy N a1 v1 x2 r1 g2) (cwV 1 F.ts gX3_comingWith_X2_hasPhase rfl rfl rfl hd_X2_hasPhase ⟨Nat.le_of_ble_eq_true rfl, Nat.le_of_ble_eq_true rfl⟩) rfl dX3_comingWith_2 (Fit.right Fit.whole) rfl rfl rfl (Nat.le_of_ble_eq_true rfl) (Nat.zero_le _) (Nat.zero_le _) rfl rfl rfl ?_
  refine V_if_eq (pc := 5) (tgt := 14) F dX3_comingWith_5 (by decide) (fun h3 => ?_) (fun h3 => ?_)
  · replace hf := ite_pos hf h3
    refine V_iconst (v := 0) (pc := 14) F dX3_comingWith_14 (by decide) ?_
    refine V_istore (L2 := [(5, .int 0), (0, .ref (a 0)), (1, .ref (a1 0)), (2, .int x2), (3, .int x3), (4, .int x4)]) (pc := 15) F dX3_comingWith_15 (by decide) rfl ?_
    refine V_iconst (v := 1) (pc := 17) F dX3_comingWith_17 (by decide) ?_
    refine V_istore (L2 := [(6, .int 1), (5, .int 0), (0, .ref (a 0)), (1, .ref (a1 0)), (2, .int x2), (3, .int x3), (4, .int x4)]) (pc := 18) F dX3_comingWith_18 (by decide) rfl ?_
    refine V_iconst (v := 0) (pc := 20) F dX3_comingWith_20 (by decide) ?_
    refine V_istore (L2 := [(7, .int 0), (6, .int 1), (5, .int 0), (0, .ref (a 0)), (1, .ref (a1 0)), (2, .int x2), (3, .int x3), (4, .int x4)]) (pc := 21) F dX3_comingWith_21 (by decide) rfl ?_
    refine V.sub [3, 4, 6, 7, 2, 1, 0] rfl ?_
    obtain ⟨u14, g15, hf⟩ := bind_of hf
    refine K23 N v v1 x3 x4 0 1 0 u14 g15 ?_
    refine V_iload (pc := 126) F dX3_comingWith_126 0 rfl ?_
    obtain rfl := some_of hf
    exact V_ret F rfl rfl dX3_comingWith_128 rfl rfl
  · replace hf := ite_neg hf h3
    refine V_iconst (v := 1) (pc := 8) F dX3_comingWith_8 (by decide) ?_
    refine V_iload_n (pc := 9) F dX3_comingWith_9 rfl 2 rfl ?_
    refine V_ishl (pc := 10) F dX3_comingWith_10 ?_
    refine V_goto (pc := 11) (tgt := 15) F dX3_comingWith_11 (by decide) ?_
    refine V_istore (L2 := [(5, .int ((1 : Int32) <<< (x2 &&& 31))), (0, .ref (a 0)), (1, .ref (a1 0)), (2, .int x2), (3, .int x3), (4, .int x4)]) (pc := 15) F dX3_comingWith_15 (by decide) rfl ?_
    refine V_iconst (v := 1) (pc := 17) F dX3_comingWith_17 (by decide) ?_
    refine V_istore (L2 := [(6, .int 1), (5, .int ((1 : Int32) <<< (x2 &&& 31))), (0, .ref (a 0)), (1, .ref (a1 0)), (2, .int x2), (3, .int x3), (4, .int x4)]) (pc := 18) F dX3_comingWith_18 (by decide) rfl ?_
    refine V_iconst (v := 0) (pc := 20) F dX3_comingWith_20 (by decide) ?_
    refine V_istore (L2 := [(7, .int 0), (6, .int 1), (5, .int ((1 : Int32) <<< (x2 &&& 31))), (0, .ref (a 0)), (1, .ref (a1 0)), (2, .int x2), (3, .int x3), (4, .int x4)]) (pc := 21) F dX3_comingWith_21 (by decide) rfl ?_
    refine V.sub [3, 4, 6, 7, 2, 1, 0] rfl ?_
    obtain ⟨u16, g17, hf⟩ := bind_of hf
    refine K23 N v v1 x3 x4 ((1 : Int32) <<< (x2 &&& 31)) 1 0 u16 g17 ?_
    refine V_iload (pc := 126) F dX3_comingWith_126 0 rfl ?_
    obtain rfl := some_of hf
    exact V_ret F rfl rfl dX3_comingWith_128 rfl rfl
theorem hd_X3_noteComing : yX3_noteComing.cls = RX3 ∧ yX3_noteComing.cls ≠ "java/lang/invoke/MethodHandle" ∧ yX3_noteComing.cls ≠ "java/lang/invoke/VarHandle" ∧ (parseMethodDescriptor yX3_noteComing.desc).map (fun d => d.parameters.length) = some 2 := by decide +kernel
def fX3_noteComing_L26 (N : Nat) (v : SX3) (v1 : SX2) (z2 : Int32) (z3 : Int32) (z5 : Int32) : Nat → Int32 → Int32 → Option (Int32)
  | 0, _, _ => none
  | n + 1, z4, z6 =>
    if z5 ≤ z6 then
      some z4
    else
      (fX2_goalOf N v1 z3 z6).bind fun r3 =>
        fX3_noteComing_L26 N v v1 z2 z3 z5 n (z4 ||| ((1 : Int32) <<< (r3 &&& 31))) (z6 + 1)
def fX3_noteComing_L2 (N : Nat) (v1 : SX2) (z2 : Int32) : Nat → SX3 → Int32 → Option (SX3)
  | 0, _, _ => none
  | n + 1, v, z3 =>
    if v1.2.2.2.2.2.2.1 ≤ z3 then
      some v
    else
      (fX3_noteComing_L26 N v v1 z2 z3 (rowAt 8 v1.2.2.2.1 z3) N 0 0).bind fun u5 =>
        fX3_noteComing_L2 N v1 z2 n ((rowPut 8 v.1 z3 u5), v.2) (z3 + 1)
def fX3_noteComing (N : Nat) (v : SX3) (v1 : SX2) (x2 : Int32) : Option (SX3) :=
  (fX3_noteComing_L2 N v1 x2 N v 0).bind fun u7 =>
    (fX3_comingWith N u7 v1 x2 (-1) (-1)).bind fun r9 =>
      some (u7.1, u7.2.1, u7.2.2.1, u7.2.2.2.1, u7.2.2.2.2.1, r9)
set_option maxHeartbeats 8000000 in
set_option maxRecDepth 100000 in
theorem M_X3_noteComing (l : Launch) (D : va_G) (cy : Nat → ClassId) (N : Nat) (a : Nat → Nat) (a1 : Nat → Nat) (v : SX3) (v1 : SX2) (x2 : Int32) (o : SX3) (hf : fX3_noteComing N v v1 x2 = some o) : okM l yX3_noteComing wsX3_noteComing (rmz 2 50) D cy [.ref (a 0), .ref (a1 0), .int x2] (wX3 cy a v ++ wX2 cy a1 v1) (wX3 cy a o ++ wX2 cy a1 v1) none := by
  refine okM_of (own := RX3) (nme := "noteComing") (cc := cX3_noteComing) (maxL := 7) (ret := none) (by decide) rfl rfl rfl (Nat.le_of_ble_eq_true rfl) ?_
  intro p e s m args below meth c A F
  have i_X2 : ∀ w ∈ u_ws RX2 TX2 8, w ∈ wsX3_noteComing := fun _ h => List.mem_cons_of_mem _ (List.mem_append_left _ (List.mem_append_left _ (List.mem_append_right _ h)))
  have i_X3 : ∀ w ∈ u_ws RX3 TX3 6, w ∈ wsX3_noteComing := fun _ h => List.mem_cons_of_mem _ (List.mem_append_left _ (List.mem_append_right _ h))
  have K26 : ∀ (n : Nat) (v : SX3) (v1 : SX2) (z2 : Int32) (z3 : Int32) (z5 : Int32) (z4 : Int32) (z6 : Int32) (u : Int32), fX3_noteComing_L26 N v v1 z2 z3 z5 n z4 z6 = some u → V p l e (rmz 2 50) s m args below meth c 7 D A 0 0 (MQ below (ok_Q D (wX3 cy a o ++ wX2 cy a1 v1) none A) args s 0 0 A) (wX3 cy a v ++ wX2 cy a1 v1) [(0, .ref (a 0)), (1, .ref (a1 0)), (2, .int z2), (3, .int z3), (4, .int u)] [] 53 → V p l e (rmz 2 50) s m args below meth c 7 D A 0 0 (MQ below (ok_Q D (wX3 cy a o ++ wX2 cy a1 v1) none A) args s 0 0 A) (wX3 cy a v ++ wX2 cy a1 v1) [(0, .ref (a 0)), (1, .ref (a1 0)), (2, .int z2), (3, .int z3), (4, .int z4), (5, .int z5), (6, .int z6)] [] 26 := by
    intro n
    induction n with
    | zero =>
      intro v v1 z2 z3 z5 z4 z6 u hf hk
      exact nomatch (show (none : Option (Int32)) = some u from hf)
    | succ n ih =>
      intro v v1 z2 z3 z5 z4 z6 u hf hk
      rw [fX3_noteComing_L26] at hf
      refine V_iload (pc := 26) F dX3_noteComing_26 6 rfl ?_
      refine V_iload (pc := 28) F dX3_noteComing_28 5 rfl ?_
      refine V_icmp_ge (pc := 30) (tgt := 53) F dX3_noteComing_30 (by decide) (fun h2 => ?_) (fun h2 => ?_)
      · replace hf := ite_pos hf h2
        obtain rfl := some_of hf
        exact V.sub [0, 1, 2, 3, 4] rfl hk
      · replace hf := ite_neg hf h2
        refine V_iload (pc := 33) F dX3_noteComing_33 4 rfl ?_
        refine V_iconst (v := 1) (pc := 35) F dX3_noteComing_35 (by decide) ?_
        refine V_aload_n (pc := 36) F dX3_noteComing_36 rfl 1 rfl ?_
        refine V_iload_n (pc := 37) F dX3_noteComing_37 rfl 3 rfl ?_
        refine V_iload (pc := 38) F dX3_noteComing_38 6 rfl ?_
        obtain ⟨r3, g4, hf⟩ := bind_of hf
        refine V_V (w2 := wX3 cy a v ++ wX2 cy a1 v1) (rest := [.int 1, .int z4]) (st2 := [.int r3, .int 1, .int z4]) (pc := 40) F 2 (M_X2_goalOf l D cy N a1 v1 z3 z6 r3 g4) (cwV 2 F.ts gX3_noteComing_X2_goalOf rfl rfl rfl hd_X2_goalOf ⟨Nat.le_of_ble_eq_true rfl, Nat.le_of_ble_eq_true rfl⟩) rfl dX3_noteComing_40 (Fit.right Fit.whole) rfl rfl rfl (Nat.le_of_ble_eq_true rfl) (Nat.zero_le _) (Nat.zero_le _) rfl rfl rfl ?_
        refine V_ishl (pc := 43) F dX3_noteComing_43 ?_
        refine V_ior (pc := 44) F dX3_noteComing_44 ?_
        refine V_istore (L2 := [(4, .int (z4 ||| ((1 : Int32) <<< (r3 &&& 31)))), (0, .ref (a 0)), (1, .ref (a1 0)), (2, .int z2), (3, .int z3), (5, .int z5), (6, .int z6)]) (pc := 45) F dX3_noteComing_45 (by decide) rfl ?_
        refine V_iinc (v := (z6 + 1)) (L2 := [(6, .int (z6 + 1)), (4, .int (z4 ||| ((1 : Int32) <<< (r3 &&& 31)))), (0, .ref (a 0)), (1, .ref (a1 0)), (2, .int z2), (3, .int z3), (5, .int z5)]) (pc := 47) F dX3_noteComing_47 6 rfl rfl (by decide) rfl ?_
        refine V_goto (pc := 50) (tgt := 26) F dX3_noteComing_50 (by decide) ?_
        refine V.sub [2, 3, 4, 5, 1, 6, 0] rfl ?_
        exact ih v v1 z2 z3 z5 (z4 ||| ((1 : Int32) <<< (r3 &&& 31))) (z6 + 1) _ hf hk
  have K2 : ∀ (n : Nat) (v1 : SX2) (z2 : Int32) (v : SX3) (z3 : Int32) (u : SX3), fX3_noteComing_L2 N v1 z2 n v z3 = some u → V p l e (rmz 2 50) s m args below meth c 7 D A 0 0 (MQ below (ok_Q D (wX3 cy a o ++ wX2 cy a1 v1) none A) args s 0 0 A) (wX3 cy a u ++ wX2 cy a1 v1) [(0, .ref (a 0)), (1, .ref (a1 0)), (2, .int z2)] [] 69 → V p l e (rmz 2 50) s m args below meth c 7 D A 0 0 (MQ below (ok_Q D (wX3 cy a o ++ wX2 cy a1 v1) none A) args s 0 0 A) (wX3 cy a v ++ wX2 cy a1 v1) [(0, .ref (a 0)), (1, .ref (a1 0)), (2, .int z2), (3, .int z3)] [] 2 := by
    intro n
    induction n with
    | zero =>
      intro v1 z2 v z3 u hf hk
      exact nomatch (show (none : Option (SX3)) = some u from hf)
    | succ n ih =>
      intro v1 z2 v z3 u hf hk
      rw [fX3_noteComing_L2] at hf
      refine V_iload_n (pc := 2) F dX3_noteComing_2 rfl 3 rfl ?_
      refine V_aload_n (pc := 3) F dX3_noteComing_3 rfl 1 rfl ?_
      refine V_get (pc := 4) F 11 2 6 i_X2 rfl (by decide) rfl (mm 1 rfl) dX3_noteComing_4 rfl rfl ?_
      refine V_icmp_ge (pc := 7) (tgt := 69) F dX3_noteComing_7 (by decide) (fun h1 => ?_) (fun h1 => ?_)
      · replace hf := ite_pos hf h1
        obtain rfl := some_of hf
        exact V.sub [0, 1, 2] rfl hk
      · replace hf := ite_neg hf h1
        refine V_iconst (v := 0) (pc := 10) F dX3_noteComing_10 (by decide) ?_
        refine V_istore (L2 := [(4, .int 0), (0, .ref (a 0)), (1, .ref (a1 0)), (2, .int z2), (3, .int z3)]) (pc := 11) F dX3_noteComing_11 (by decide) rfl ?_
        refine V_aload_n (pc := 13) F dX3_noteComing_13 rfl 2 rfl ?_
        refine V_get (pc := 14) F 11 2 3 i_X2 rfl (by decide) rfl (mm 2 rfl) dX3_noteComing_14 rfl rfl ?_
        refine V_iload_n (pc := 17) F dX3_noteComing_17 rfl 4 rfl ?_
        refine V_V (w2 := wX3 cy a v ++ wX2 cy a1 v1) (rest := []) (st2 := [.int (rowAt 8 v1.2.2.2.1 z3)]) (pc := 18) F 5 (R_at l D cy (fun i => a1 (i + 7)) 8 v1.2.2.2.1 z3 (by decide)) (cwV 1 F.ts gX3_noteComing_X5_at rfl rfl rfl hd_X5_at ⟨Nat.le_of_ble_eq_true rfl, Nat.le_of_ble_eq_true rfl⟩) rfl dX3_noteComing_18 (Fit.right (Fit.right (Fit.right (Fit.right (Fit.right (Fit.left Fit.whole)))))) rfl rfl rfl (Nat.le_of_ble_eq_true rfl) (Nat.zero_le _) (Nat.zero_le _) rfl rfl rfl ?_
        refine V_istore (L2 := [(5, .int (rowAt 8 v1.2.2.2.1 z3)), (4, .int 0), (0, .ref (a 0)), (1, .ref (a1 0)), (2, .int z2), (3, .int z3)]) (pc := 21) F dX3_noteComing_21 (by decide) rfl ?_
        refine V_iconst (v := 0) (pc := 23) F dX3_noteComing_23 (by decide) ?_
        refine V_istore (L2 := [(6, .int 0), (5, .int (rowAt 8 v1.2.2.2.1 z3)), (4, .int 0), (0, .ref (a 0)), (1, .ref (a1 0)), (2, .int z2), (3, .int z3)]) (pc := 24) F dX3_noteComing_24 (by decide) rfl ?_
        refine V.sub [3, 4, 5, 6, 2, 1, 0] rfl ?_
        obtain ⟨u5, g6, hf⟩ := bind_of hf
        refine K26 N v v1 z2 z3 (rowAt 8 v1.2.2.2.1 z3) 0 0 u5 g6 ?_
        refine V_aload_n (pc := 53) F dX3_noteComing_53 rfl 0 rfl ?_
        refine V_get (pc := 54) F 0 3 0 i_X3 rfl (by decide) rfl (mm 3 rfl) dX3_noteComing_54 rfl rfl ?_
        refine V_iload_n (pc := 57) F dX3_noteComing_57 rfl 3 rfl ?_
        refine V_iload (pc := 58) F dX3_noteComing_58 4 rfl ?_
        refine V_V (w2 := wX3 cy a ((rowPut 8 v.1 z3 u5), v.2) ++ wX2 cy a1 v1) (rest := []) (st2 := []) (pc := 60) F 5 (R_put l D cy (fun i => a (i + 1)) 8 v.1 z3 u5 (by decide)) (cwV 2 F.ts gX3_noteComing_X5_put rfl rfl rfl hd_X5_put ⟨Nat.le_of_ble_eq_true rfl, Nat.le_of_ble_eq_true rfl⟩) rfl dX3_noteComing_60 (Fit.left (Fit.right (Fit.left Fit.whole))) fstX5 rfl rfl (Nat.le_of_ble_eq_true rfl) (Nat.zero_le _) (Nat.zero_le _) rfl rfl rfl ?_
        refine V_iinc (v := (z3 + 1)) (L2 := [(3, .int (z3 + 1)), (0, .ref (a 0)), (1, .ref (a1 0)), (2, .int z2), (4, .int u5)]) (pc := 63) F dX3_noteComing_63 3 rfl rfl (by decide) rfl ?_
        refine V_goto (pc := 66) (tgt := 2) F dX3_noteComing_66 (by decide) ?_
        refine V.sub [1, 2, 3, 0] rfl ?_
        exact ih v1 z2 ((rowPut 8 v.1 z3 u5), v.2) (z3 + 1) _ hf hk
  unfold fX3_noteComing at hf
  refine V.eq rfl (show lv_args 0 [.ref (a 0), .ref (a1 0), .int x2] = [(0, .ref (a 0)), (1, .ref (a1 0)), (2, .int x2)] from rfl) rfl ?_
  refine V_iconst (v := 0) (pc := 0) F dX3_noteComing_0 (by decide) ?_
  refine V_istore_n (L2 := [(3, .int 0), (0, .ref (a 0)), (1, .ref (a1 0)), (2, .int x2)]) (pc := 1) F dX3_noteComing_1 rfl (by decide) rfl ?_
  refine V.sub [1, 2, 3, 0] rfl ?_
  obtain ⟨u7, g8, hf⟩ := bind_of hf
  refine K2 N v1 x2 v 0 u7 g8 ?_
  refine V_aload_n (pc := 69) F dX3_noteComing_69 rfl 0 rfl ?_
  refine V_aload_n (pc := 70) F dX3_noteComing_70 rfl 0 rfl ?_
  refine V_aload_n (pc := 71) F dX3_noteComing_71 rfl 1 rfl ?_
  refine V_iload_n (pc := 72) F dX3_noteComing_72 rfl 2 rfl ?_
  refine V_iconst (v := (-1)) (pc := 73) F dX3_noteComing_73 (by decide) ?_
  refine V_iconst (v := (-1)) (pc := 74) F dX3_noteComing_74 (by decide) ?_
  obtain ⟨r9, g10, hf⟩ := bind_of hf
  refine V_V2 (w2 := wX3 cy a u7 ++ wX2 cy a1 v1) (rest := [.ref (a 0)]) (st2 := [.int r9, .ref (a 0)]) (pc := 75) F 3 (M_X3_comingWith l D cy N a a1 u7 v1 x2 (-1) (-1) r9 g10) (cwV 4 F.ts gX3_noteComing_X3_comingWith rfl rfl rfl hd_X3_comingWith ⟨Nat.le_of_ble_eq_true rfl, Nat.le_of_ble_eq_true rfl⟩) rfl dX3_noteComing_75 (Fit2.both Fit.whole Fit.whole) rfl rfl rfl rfl (Nat.le_of_ble_eq_true rfl) (Nat.zero_le _) (Nat.zero_le _) rfl rfl rfl ?_
  refine V_put (w2 := wX3 cy a (u7.1, u7.2.1, u7.2.2.1, u7.2.2.2.1, u7.2.2.2.2.1, r9) ++ wX2 cy a1 v1) (pc := 78) F 0 3 5 i_X3 tyX3 tyX3_ok nmX3 rfl (by decide) rfl (mm 4 rfl) rfl dX3_noteComing_78 rfl rfl rfl (Nat.le_of_ble_eq_true rfl) rfl ?_
  obtain rfl := some_of hf
  exact V_vret F rfl dX3_noteComing_81 rfl
theorem hd_X3_cell : yX3_cell.cls ≠ "java/lang/invoke/MethodHandle" ∧ yX3_cell.cls ≠ "java/lang/invoke/VarHandle" ∧ (parseMethodDescriptor yX3_cell.desc).map (fun d => d.parameters.length) = some 2 := by decide +kernel
def fX3_cell (N : Nat) (x0 : Int32) (x1 : Int32) : Option (Int32) :=
  some ((x0 * 8) + x1)
set_option maxHeartbeats 8000000 in
set_option maxRecDepth 100000 in
theorem M_X3_cell (l : Launch) (D : va_G) (cy : Nat → ClassId) (N : Nat) (x0 : Int32) (x1 : Int32) (o : Int32) (hf : fX3_cell N x0 x1 = some o) : okM l yX3_cell wsX3_cell (rmz 0 0) D cy [.int x0, .int x1] ([] : va_W) ([] : va_W) (some (.int o)) := by
  refine okM_of (own := RX3) (nme := "cell") (cc := cX3_cell) (maxL := 2) (ret := (some .int)) (by decide) rfl rfl rfl (Nat.le_of_ble_eq_true rfl) ?_
  intro p e s m args below meth c A F
  unfold fX3_cell at hf
  refine V.eq rfl (show lv_args 0 [.int x0, .int x1] = [(0, .int x0), (1, .int x1)] from rfl) rfl ?_
  refine V_iload_n (pc := 0) F dX3_cell_0 rfl 0 rfl ?_
  refine V_bipush (v := 8) (pc := 1) F dX3_cell_1 (by decide) ?_
  refine V_imul (pc := 3) F dX3_cell_3 ?_
  refine V_iload_n (pc := 4) F dX3_cell_4 rfl 1 rfl ?_
  refine V_iadd (pc := 5) F dX3_cell_5 ?_
  obtain rfl := some_of hf
  exact V_ret F rfl rfl dX3_cell_6 rfl rfl
theorem hd_X3_waysFrom : yX3_waysFrom.cls = RX3 ∧ yX3_waysFrom.cls ≠ "java/lang/invoke/MethodHandle" ∧ yX3_waysFrom.cls ≠ "java/lang/invoke/VarHandle" ∧ (parseMethodDescriptor yX3_waysFrom.desc).map (fun d => d.parameters.length) = some 3 := by decide +kernel
def fX3_waysFrom_L19 (N : Nat) (v : SX3) (v1 : SX2) (z2 : Int32) (z3 : Int32) (z6 : Int32) : Nat → Int32 → Int32 → Int32 → Option ((Int32) ⊕ (Int32))
  | 0, _, _, _ => none
  | n + 1, z4, z5, z7 =>
    if z6 ≤ z7 then
      some (.inr z4)
    else
      (fX2_askersOf N v1 z3 z7).bind fun r2 =>
        if r2 = 0 then
          (fX2_goalOf N v1 z3 z7).bind fun r6 =>
            some (.inl (z4 ||| ((1 : Int32) <<< (r6 &&& 31))))
        else
          (fX7_has N r2 z2).bind fun r9 =>
            if r9 = 0 then
              if (r2 &&& (z5 ^^^ (-1))) = 0 then
                fX3_waysFrom_L19 N v v1 z2 z3 z6 n z4 (z5 ||| r2) (z7 + 1)
              else
                (fX2_goalOf N v1 z3 z7).bind fun r15 =>
                  fX3_waysFrom_L19 N v v1 z2 z3 z6 n (z4 ||| ((1 : Int32) <<< (r15 &&& 31))) (z5 ||| r2) (z7 + 1)
            else
              (fX2_goalOf N v1 z3 z7).bind fun r19 =>
                some (.inl (z4 ||| ((1 : Int32) <<< (r19 &&& 31))))
def fX3_waysFrom (N : Nat) (v : SX3) (v1 : SX2) (x2 : Int32) (x3 : Int32) : Option (Int32) :=
  (fX3_waysFrom_L19 N v v1 x2 x3 (rowAt 8 v1.2.2.2.1 x3) N 0 0 0).bind fun u22 => onS u22 (fun r => some r) fun q24 =>
    some (q24 ||| 256)
set_option maxHeartbeats 8000000 in
set_option maxRecDepth 100000 in
theorem M_X3_waysFrom (l : Launch) (D : va_G) (cy : Nat → ClassId) (N : Nat) (a : Nat → Nat) (a1 : Nat → Nat) (v : SX3) (v1 : SX2) (x2 : Int32) (x3 : Int32) (o : Int32) (hf : fX3_waysFrom N v v1 x2 x3 = some o) : okM l yX3_waysFrom wsX3_waysFrom (rmz 2 43) D cy [.ref (a 0), .ref (a1 0), .int x2, .int x3] (wX3 cy a v ++ wX2 cy a1 v1) (wX3 cy a v ++ wX2 cy a1 v1) (some (.int o)) := by
  refine okM_of (own := RX3) (nme := "waysFrom") (cc := cX3_waysFrom) (maxL := 10) (ret := (some .int)) (by decide) rfl rfl rfl (Nat.le_of_ble_eq_true rfl) ?_
  intro p e s m args below meth c A F
  have i_X2 : ∀ w ∈ u_ws RX2 TX2 8, w ∈ wsX3_waysFrom := fun _ h => List.mem_cons_of_mem _ (List.mem_append_left _ (List.mem_append_right _ h))
  have K19 : ∀ (n : Nat) (v : SX3) (v1 : SX2) (z2 : Int32) (z3 : Int32) (z6 : Int32) (z4 : Int32) (z5 : Int32) (z7 : Int32) (u : (Int32) ⊕ (Int32)), fX3_waysFrom_L19 N v v1 z2 z3 z6 n z4 z5 z7 = some u → (∀ r, u = .inl r → r = o) → (∀ q, u = .inr q → V p l e (rmz 2 43) s m args below meth c 10 D A 0 0 (MQ below (ok_Q D (wX3 cy a v ++ wX2 cy a1 v1) (some (.int o)) A) args s 0 0 A) (wX3 cy a v ++ wX2 cy a1 v1) [(4, .int q)] [] 106) → V p l e (rmz 2 43) s m args below meth c 10 D A 0 0 (MQ below (ok_Q D (wX3 cy a v ++ wX2 cy a1 v1) (some (.int o)) A) args s 0 0 A) (wX3 cy a v ++ wX2 cy a1 v1) [(1, .ref (a1 0)), (2, .int z2), (3, .int z3), (4, .int z4), (5, .int z5), (6, .int z6), (7, .int z7)] [] 19 := by
    intro n
    induction n with
    | zero =>
      intro v v1 z2 z3 z6 z4 z5 z7 u hf hr hk
      exact nomatch (show (none : Option ((Int32) ⊕ (Int32))) = some u from hf)
    | succ n ih =>
      intro v v1 z2 z3 z6 z4 z5 z7 u hf hr hk
      rw [fX3_waysFrom_L19] at hf
      refine V_iload (pc := 19) F dX3_waysFrom_19 6 rfl ?_
      refine V_iload (pc := 21) F dX3_waysFrom_21 5 rfl ?_
      refine V_icmp_ge (pc := 23) (tgt := 106) F dX3_waysFrom_23 (by decide) (fun h1 => ?_) (fun h1 => ?_)
      · replace hf := ite_pos hf h1
        exact V.sub [3] rfl (hk _ (some_of hf).symm)
      · replace hf := ite_neg hf h1
        refine V_aload_n (pc := 26) F dX3_waysFrom_26 rfl 0 rfl ?_
        refine V_iload_n (pc := 27) F dX3_waysFrom_27 rfl 2 rfl ?_
        refine V_iload (pc := 28) F dX3_waysFrom_28 6 rfl ?_
        obtain ⟨r2, g3, hf⟩ := bind_of hf
        refine V_V (w2 := wX3 cy a v ++ wX2 cy a1 v1) (rest := []) (st2 := [.int r2]) (pc := 30) F 2 (M_X2_askersOf l D cy N a1 v1 z3 z7 r2 g3) (cwV 2 F.ts gX3_waysFrom_X2_askersOf rfl rfl rfl hd_X2_askersOf ⟨Nat.le_of_ble_eq_true rfl, Nat.le_of_ble_eq_true rfl⟩) rfl dX3_waysFrom_30 (Fit.right Fit.whole) rfl rfl rfl (Nat.le_of_ble_eq_true rfl) (Nat.zero_le _) (Nat.zero_le _) rfl rfl rfl ?_
        refine V_istore (L2 := [(8, .int r2), (1, .ref (a1 0)), (2, .int z2), (3, .int z3), (4, .int z4), (5, .int z5), (6, .int z6), (7, .int z7)]) (pc := 33) F dX3_waysFrom_33 (by decide) rfl ?_
        refine V_iload (pc := 35) F dX3_waysFrom_35 0 rfl ?_
        refine V_if_eq (pc := 37) (tgt := 49) F dX3_waysFrom_37 (by decide) (fun h4 => ?_) (fun h4 => ?_)
        · replace hf := ite_pos hf h4
          refine V_iconst (v := 1) (pc := 49) F dX3_waysFrom_49 (by decide) ?_
          refine V_goto (pc := 50) (tgt := 54) F dX3_waysFrom_50 (by decide) ?_
          refine V_istore (L2 := [(9, .int 1), (8, .int r2), (1, .ref (a1 0)), (2, .int z2), (3, .int z3), (4, .int z4), (5, .int z5), (6, .int z6), (7, .int z7)]) (pc := 54) F dX3_waysFrom_54 (by decide) rfl ?_
          refine V_iload (pc := 56) F dX3_waysFrom_56 0 rfl ?_
          refine V_if_ne (pc := 58) (tgt := 71) F dX3_waysFrom_58 (by decide) (fun h5 => ?_) (fun h5 => ?_)
          · refine V_iload (pc := 71) F dX3_waysFrom_71 5 rfl ?_
            refine V_iconst (v := 1) (pc := 73) F dX3_waysFrom_73 (by decide) ?_
            refine V_aload_n (pc := 74) F dX3_waysFrom_74 rfl 2 rfl ?_
            refine V_iload_n (pc := 75) F dX3_waysFrom_75 rfl 4 rfl ?_
            refine V_iload (pc := 76) F dX3_waysFrom_76 8 rfl ?_
            obtain ⟨r6, g7, hf⟩ := bind_of hf
            refine V_V (w2 := wX3 cy a v ++ wX2 cy a1 v1) (rest := [.int 1, .int z4]) (st2 := [.int r6, .int 1, .int z4]) (pc := 78) F 2 (M_X2_goalOf l D cy N a1 v1 z3 z7 r6 g7) (cwV 2 F.ts gX3_waysFrom_X2_goalOf rfl rfl rfl hd_X2_goalOf ⟨Nat.le_of_ble_eq_true rfl, Nat.le_of_ble_eq_true rfl⟩) rfl dX3_waysFrom_78 (Fit.right Fit.whole) rfl rfl rfl (Nat.le_of_ble_eq_true rfl) (Nat.zero_le _) (Nat.zero_le _) rfl rfl rfl ?_
            refine V_ishl (pc := 81) F dX3_waysFrom_81 ?_
            refine V_ior (pc := 82) F dX3_waysFrom_82 ?_
            refine V_istore (L2 := [(4, .int (z4 ||| ((1 : Int32) <<< (r6 &&& 31)))), (9, .int 1), (8, .int r2), (1, .ref (a1 0)), (2, .int z2), (3, .int z3), (5, .int z5), (6, .int z6), (7, .int z7)]) (pc := 83) F dX3_waysFrom_83 (by decide) rfl ?_
            refine V_iload (pc := 85) F dX3_waysFrom_85 1 rfl ?_
            refine V_if_eq (pc := 87) (tgt := 93) F dX3_waysFrom_87 (by decide) (fun h8 => ?_) (fun h8 => ?_)
            · exact absurd h8 (show ¬ ((1 : Int32) = (0 : Int32)) by decide)
            · refine V_iload (pc := 90) F dX3_waysFrom_90 0 rfl ?_
              obtain rfl := hr _ (some_of hf).symm
              exact V_ret F rfl rfl dX3_waysFrom_92 rfl rfl
          · exact absurd h5 (show ¬ ((1 : Int32) = (0 : Int32)) by decide)
        · replace hf := ite_neg hf h4
          refine V_iload (pc := 40) F dX3_waysFrom_40 0 rfl ?_
          refine V_iload_n (pc := 42) F dX3_waysFrom_42 rfl 2 rfl ?_
          obtain ⟨r9, g10, hf⟩ := bind_of hf
          refine V_SN (rest := []) (st2 := [.int r9]) (pc := 43) F (M_X7_has l D cy N r2 z2 r9 g10) ⟨va_cnB 2 F.ts gX3_waysFrom_X7_has_n73 rfl rfl rfl F.nest.1 (F.ts _ (mm 16 rfl)) hd_X7_has ⟨Nat.le_of_ble_eq_true rfl, Nat.le_of_ble_eq_true rfl⟩, F.ts _ (mm 15 rfl), trivial⟩ rfl dX3_waysFrom_43 (Nat.le_of_ble_eq_true rfl) (Nat.zero_le _) (Nat.zero_le _) rfl rfl ?_
          refine V_if_eq (pc := 46) (tgt := 53) F dX3_waysFrom_46 (by decide) (fun h11 => ?_) (fun h11 => ?_)
          · replace hf := ite_pos hf h11
            refine V_iconst (v := 0) (pc := 53) F dX3_waysFrom_53 (by decide) ?_
            refine V_istore (L2 := [(9, .int 0), (8, .int r2), (1, .ref (a1 0)), (2, .int z2), (3, .int z3), (4, .int z4), (5, .int z5), (6, .int z6), (7, .int z7)]) (pc := 54) F dX3_waysFrom_54 (by decide) rfl ?_
            refine V_iload (pc := 56) F dX3_waysFrom_56 0 rfl ?_
            refine V_if_ne (pc := 58) (tgt := 71) F dX3_waysFrom_58 (by decide) (fun h12 => ?_) (fun h12 => ?_)
            · exact absurd h12 (show ¬ (¬ (0 : Int32) = (0 : Int32)) by decide)
            · refine V_iload (pc := 61) F dX3_waysFrom_61 1 rfl ?_
              refine V_iload (pc := 63) F dX3_waysFrom_63 6 rfl ?_
              refine V_iconst (v := (-1)) (pc := 65) F dX3_waysFrom_65 (by decide) ?_
              refine V_ixor (pc := 66) F dX3_waysFrom_66 ?_
              refine V_iand (pc := 67) F dX3_waysFrom_67 ?_
              refine V_if_eq (pc := 68) (tgt := 85) F dX3_waysFrom_68 (by decide) (fun h13 => ?_) (fun h13 => ?_)
              · replace hf := ite_pos hf h13
                refine V_iload (pc := 85) F dX3_waysFrom_85 0 rfl ?_
                refine V_if_eq (pc := 87) (tgt := 93) F dX3_waysFrom_87 (by decide) (fun h14 => ?_) (fun h14 => ?_)
                · refine V_iload (pc := 93) F dX3_waysFrom_93 6 rfl ?_
                  refine V_iload (pc := 95) F dX3_waysFrom_95 1 rfl ?_
                  refine V_ior (pc := 97) F dX3_waysFrom_97 ?_
                  refine V_istore (L2 := [(5, .int (z5 ||| r2)), (9, .int 0), (8, .int r2), (1, .ref (a1 0)), (2, .int z2), (3, .int z3), (4, .int z4), (6, .int z6), (7, .int z7)]) (pc := 98) F dX3_waysFrom_98 (by decide) rfl ?_
                  refine V_iinc (v := (z7 + 1)) (L2 := [(7, .int (z7 + 1)), (5, .int (z5 ||| r2)), (9, .int 0), (8, .int r2), (1, .ref (a1 0)), (2, .int z2), (3, .int z3), (4, .int z4), (6, .int z6)]) (pc := 100) F dX3_waysFrom_100 8 rfl rfl (by decide) rfl ?_
                  refine V_goto (pc := 103) (tgt := 19) F dX3_waysFrom_103 (by decide) ?_
                  refine V.sub [4, 5, 6, 7, 1, 8, 0] rfl ?_
                  exact ih v v1 z2 z3 z6 z4 (z5 ||| r2) (z7 + 1) _ hf hr hk
                · exact absurd h14 (show ¬ (¬ ((0 : Int32) = (0 : Int32))) by decide)
              · replace hf := ite_neg hf h13
                refine V_iload (pc := 71) F dX3_waysFrom_71 5 rfl ?_
                refine V_iconst (v := 1) (pc := 73) F dX3_waysFrom_73 (by decide) ?_
                refine V_aload_n (pc := 74) F dX3_waysFrom_74 rfl 2 rfl ?_
                refine V_iload_n (pc := 75) F dX3_waysFrom_75 rfl 4 rfl ?_
                refine V_iload (pc := 76) F dX3_waysFrom_76 8 rfl ?_
                obtain ⟨r15, g16, hf⟩ := bind_of hf
                refine V_V (w2 := wX3 cy a v ++ wX2 cy a1 v1) (rest := [.int 1, .int z4]) (st2 := [.int r15, .int 1, .int z4]) (pc := 78) F 2 (M_X2_goalOf l D cy N a1 v1 z3 z7 r15 g16) (cwV 2 F.ts gX3_waysFrom_X2_goalOf rfl rfl rfl hd_X2_goalOf ⟨Nat.le_of_ble_eq_true rfl, Nat.le_of_ble_eq_true rfl⟩) rfl dX3_waysFrom_78 (Fit.right Fit.whole) rfl rfl rfl (Nat.le_of_ble_eq_true rfl) (Nat.zero_le _) (Nat.zero_le _) rfl rfl rfl ?_
                refine V_ishl (pc := 81) F dX3_waysFrom_81 ?_
                refine V_ior (pc := 82) F dX3_waysFrom_82 ?_
                refine V_istore (L2 := [(4, .int (z4 ||| ((1 : Int32) <<< (r15 &&& 31)))), (9, .int 0), (8, .int r2), (1, .ref (a1 0)), (2, .int z2), (3, .int z3), (5, .int z5), (6, .int z6), (7, .int z7)]) (pc := 83) F dX3_waysFrom_83 (by decide) rfl ?_
                refine V_iload (pc := 85) F dX3_waysFrom_85 1 rfl ?_
                refine V_if_eq (pc := 87) (tgt := 93) F dX3_waysFrom_87 (by decide) (fun h17 => ?_) (fun h17 => ?_)
                · refine V_iload (pc := 93) F dX3_waysFrom_93 6 rfl ?_
                  refine V_iload (pc := 95) F dX3_waysFrom_95 2 rfl ?_
                  refine V_ior (pc := 97) F dX3_waysFrom_97 ?_
                  refine V_istore (L2 := [(5, .int (z5 ||| r2)), (4, .int (z4 ||| ((1 : Int32) <<< (r15 &&& 31)))), (9, .int 0), (8, .int r2), (1, .ref (a1 0)), (2, .int z2), (3, .int z3), (6, .int z6), (7, .int z7)]) (pc := 98) F dX3_waysFrom_98 (by decide) rfl ?_
                  refine V_iinc (v := (z7 + 1)) (L2 := [(7, .int (z7 + 1)), (5, .int (z5 ||| r2)), (4, .int (z4 ||| ((1 : Int32) <<< (r15 &&& 31)))), (9, .int 0), (8, .int r2), (1, .ref (a1 0)), (2, .int z2), (3, .int z3), (6, .int z6)]) (pc := 100) F dX3_waysFrom_100 8 rfl rfl (by decide) rfl ?_
                  refine V_goto (pc := 103) (tgt := 19) F dX3_waysFrom_103 (by decide) ?_
                  refine V.sub [5, 6, 7, 2, 1, 8, 0] rfl ?_
                  exact ih v v1 z2 z3 z6 (z4 ||| ((1 : Int32) <<< (r15 &&& 31))) (z5 ||| r2) (z7 + 1) _ hf hr hk
                · exact absurd h17 (show ¬ (¬ ((0 : Int32) = (0 : Int32))) by decide)
          · replace hf := ite_neg hf h11
            refine V_iconst (v := 1) (pc := 49) F dX3_waysFrom_49 (by decide) ?_
            refine V_goto (pc := 50) (tgt := 54) F dX3_waysFrom_50 (by decide) ?_
            refine V_istore (L2 := [(9, .int 1), (8, .int r2), (1, .ref (a1 0)), (2, .int z2), (3, .int z3), (4, .int z4), (5, .int z5), (6, .int z6), (7, .int z7)]) (pc := 54) F dX3_waysFrom_54 (by decide) rfl ?_
            refine V_iload (pc := 56) F dX3_waysFrom_56 0 rfl ?_
            refine V_if_ne (pc := 58) (tgt := 71) F dX3_waysFrom_58 (by decide) (fun h18 => ?_) (fun h18 => ?_)
            · refine V_iload (pc := 71) F dX3_waysFrom_71 5 rfl ?_
              refine V_iconst (v := 1) (pc := 73) F dX3_waysFrom_73 (by decide) ?_
              refine V_aload_n (pc := 74) F dX3_waysFrom_74 rfl 2 rfl ?_
              refine V_iload_n (pc := 75) F dX3_waysFrom_75 rfl 4 rfl ?_
              refine V_iload (pc := 76) F dX3_waysFrom_76 8 rfl ?_
              obtain ⟨r19, g20, hf⟩ := bind_of hf
              refine V_V (w2 := wX3 cy a v ++ wX2 cy a1 v1) (rest := [.int 1, .int z4]) (st2 := [.int r19, .int 1, .int z4]) (pc := 78) F 2 (M_X2_goalOf l D cy N a1 v1 z3 z7 r19 g20) (cwV 2 F.ts gX3_waysFrom_X2_goalOf rfl rfl rfl hd_X2_goalOf ⟨Nat.le_of_ble_eq_true rfl, Nat.le_of_ble_eq_true rfl⟩) rfl dX3_waysFrom_78 (Fit.right Fit.whole) rfl rfl rfl (Nat.le_of_ble_eq_true rfl) (Nat.zero_le _) (Nat.zero_le _) rfl rfl rfl ?_
              refine V_ishl (pc := 81) F dX3_waysFrom_81 ?_
              refine V_ior (pc := 82) F dX3_waysFrom_82 ?_
              refine V_istore (L2 := [(4, .int (z4 ||| ((1 : Int32) <<< (r19 &&& 31)))), (9, .int 1), (8, .int r2), (1, .ref (a1 0)), (2, .int z2), (3, .int z3), (5, .int z5), (6, .int z6), (7, .int z7)]) (pc := 83) F dX3_waysFrom_83 (by decide) rfl ?_
              refine V_iload (pc := 85) F dX3_waysFrom_85 1 rfl ?_
              refine V_if_eq (pc := 87) (tgt := 93) F dX3_waysFrom_87 (by decide) (fun h21 => ?_) (fun h21 => ?_)
              · exact absurd h21 (show ¬ ((1 : Int32) = (0 : Int32)) by decide)
              · refine V_iload (pc := 90) F dX3_waysFrom_90 0 rfl ?_
                obtain rfl := hr _ (some_of hf).symm
                exact V_ret F rfl rfl dX3_waysFrom_92 rfl rfl
            · exact absurd h18 (show ¬ ((1 : Int32) = (0 : Int32)) by decide)
  unfold fX3_waysFrom at hf
  refine V.eq rfl (show lv_args 0 [.ref (a 0), .ref (a1 0), .int x2, .int x3] = [(0, .ref (a 0)), (1, .ref (a1 0)), (2, .int x2), (3, .int x3)] from rfl) rfl ?_
  refine V_iconst (v := 0) (pc := 0) F dX3_waysFrom_0 (by decide) ?_
  refine V_istore (L2 := [(4, .int 0), (0, .ref (a 0)), (1, .ref (a1 0)), (2, .int x2), (3, .int x3)]) (pc := 1) F dX3_waysFrom_1 (by decide) rfl ?_
  refine V_iconst (v := 0) (pc := 3) F dX3_waysFrom_3 (by decide) ?_
  refine V_istore (L2 := [(5, .int 0), (4, .int 0), (0, .ref (a 0)), (1, .ref (a1 0)), (2, .int x2), (3, .int x3)]) (pc := 4) F dX3_waysFrom_4 (by decide) rfl ?_
  refine V_aload_n (pc := 6) F dX3_waysFrom_6 rfl 3 rfl ?_
  refine V_get (pc := 7) F 11 2 3 i_X2 rfl (by decide) rfl (mm 1 rfl) dX3_waysFrom_7 rfl rfl ?_
  refine V_iload_n (pc := 10) F dX3_waysFrom_10 rfl 5 rfl ?_
  refine V_V (w2 := wX3 cy a v ++ wX2 cy a1 v1) (rest := []) (st2 := [.int (rowAt 8 v1.2.2.2.1 x3)]) (pc := 11) F 5 (R_at l D cy (fun i => a1 (i + 7)) 8 v1.2.2.2.1 x3 (by decide)) (cwV 1 F.ts gX3_waysFrom_X5_at rfl rfl rfl hd_X5_at ⟨Nat.le_of_ble_eq_true rfl, Nat.le_of_ble_eq_true rfl⟩) rfl dX3_waysFrom_11 (Fit.right (Fit.right (Fit.right (Fit.right (Fit.right (Fit.left Fit.whole)))))) rfl rfl rfl (Nat.le_of_ble_eq_true rfl) (Nat.zero_le _) (Nat.zero_le _) rfl rfl rfl ?_
  refine V_istore (L2 := [(6, .int (rowAt 8 v1.2.2.2.1 x3)), (5, .int 0), (4, .int 0), (0, .ref (a 0)), (1, .ref (a1 0)), (2, .int x2), (3, .int x3)]) (pc := 14) F dX3_waysFrom_14 (by decide) rfl ?_
  refine V_iconst (v := 0) (pc := 16) F dX3_waysFrom_16 (by decide) ?_
  refine V_istore (L2 := [(7, .int 0), (6, .int (rowAt 8 v1.2.2.2.1 x3)), (5, .int 0), (4, .int 0), (0, .ref (a 0)), (1, .ref (a1 0)), (2, .int x2), (3, .int x3)]) (pc := 17) F dX3_waysFrom_17 (by decide) rfl ?_
  refine V.sub [5, 6, 7, 3, 2, 1, 0] rfl ?_
  obtain ⟨u22, g23, hf⟩ := bind_of hf
  refine K19 N v v1 x2 x3 (rowAt 8 v1.2.2.2.1 x3) 0 0 0 u22 g23 (fun r h25 => ?_) (fun q24 h25 => ?_)
  · subst h25
    replace hf := onS_inl hf
    exact some_of hf
  · subst h25
    replace hf := onS_inr hf
    refine V_iload (pc := 106) F dX3_waysFrom_106 0 rfl ?_
    refine V_sipush (v := 256) (pc := 108) F dX3_waysFrom_108 (by decide) ?_
    refine V_ior (pc := 111) F dX3_waysFrom_111 ?_
    obtain rfl := some_of hf
    exact V_ret F rfl rfl dX3_waysFrom_112 rfl rfl
theorem hd_X3_starvingWith : yX3_starvingWith.cls = RX3 ∧ yX3_starvingWith.cls ≠ "java/lang/invoke/MethodHandle" ∧ yX3_starvingWith.cls ≠ "java/lang/invoke/VarHandle" ∧ (parseMethodDescriptor yX3_starvingWith.desc).map (fun d => d.parameters.length) = some 4 := by decide +kernel
def fX3_starvingWith_L44 (N : Nat) (v : SX3) (v1 : SX2) (z2 : Int32) (z3 : Int32) (z4 : Int32) (z5 : Int32) (z8 : Int32) (z9 : Int32) : Nat → Int32 → Int32 → Option (Int32)
  | 0, _, _ => none
  | n + 1, z6, z10 =>
    if v1.2.2.2.2.2.2.1 ≤ z10 then
      some z6
    else
      if z10 = z3 then
        if (((1 : Int32) <<< (z4 &&& 31)) &&& (z6 ^^^ (-1))) = 0 then
          fX3_starvingWith_L44 N v v1 z2 z3 z4 z5 z8 z9 n (z6 ||| ((1 : Int32) <<< (z10 &&& 31))) (z10 + 1)
        else
          fX3_starvingWith_L44 N v v1 z2 z3 z4 z5 z8 z9 n z6 (z10 + 1)
      else
        (fX3_cell N z2 z10).bind fun r7 =>
          if ((rowAt 48 v.2.1 r7) &&& (z6 ^^^ (-1))) = 0 then
            fX3_starvingWith_L44 N v v1 z2 z3 z4 z5 z8 z9 n (z6 ||| ((1 : Int32) <<< (z10 &&& 31))) (z10 + 1)
          else
            fX3_starvingWith_L44 N v v1 z2 z3 z4 z5 z8 z9 n z6 (z10 + 1)
def fX3_starvingWith_L23 (N : Nat) (v : SX3) (v1 : SX2) (z2 : Int32) (z3 : Int32) (z4 : Int32) (z5 : Int32) : Nat → Int32 → Int32 → Int32 → Option (Int32)
  | 0, _, _, _ => none
  | n + 1, z6, z7, z8 =>
    if v1.2.2.2.2.2.2.1 ≤ z8 then
      some z6
    else
      if z7 = 0 then
        some z6
      else
        (fX3_starvingWith_L44 N v v1 z2 z3 z4 z5 z8 z6 N z6 0).bind fun u11 =>
          if u11 = z6 then
            fX3_starvingWith_L23 N v v1 z2 z3 z4 z5 n u11 0 (z8 + 1)
          else
            fX3_starvingWith_L23 N v v1 z2 z3 z4 z5 n u11 1 (z8 + 1)
def fX3_starvingWith (N : Nat) (v : SX3) (v1 : SX2) (x2 : Int32) (x3 : Int32) (x4 : Int32) : Option (Int32) :=
  (fX2_phasesWith N v1 x2).bind fun r1 =>
    (fX3_starvingWith_L23 N v v1 x2 x3 x4 (((1 : Int32) <<< (v1.2.2.2.2.2.2.1 &&& 31)) - 1) N r1 1 0).bind fun u14 =>
      some ((((1 : Int32) <<< (v1.2.2.2.2.2.2.1 &&& 31)) - 1) &&& (u14 ^^^ (-1)))
set_option maxHeartbeats 8000000 in
set_option maxRecDepth 100000 in
theorem M_X3_starvingWith (l : Launch) (D : va_G) (cy : Nat → ClassId) (N : Nat) (a : Nat → Nat) (a1 : Nat → Nat) (v : SX3) (v1 : SX2) (x2 : Int32) (x3 : Int32) (x4 : Int32) (o : Int32) (hf : fX3_starvingWith N v v1 x2 x3 x4 = some o) : okM l yX3_starvingWith wsX3_starvingWith (rmz 2 44) D cy [.ref (a 0), .ref (a1 0), .int x2, .int x3, .int x4] (wX3 cy a v ++ wX2 cy a1 v1) (wX3 cy a v ++ wX2 cy a1 v1) (some (.int o)) := by
  refine okM_of (own := RX3) (nme := "starvingWith") (cc := cX3_starvingWith) (maxL := 12) (ret := (some .int)) (by decide) rfl rfl rfl (Nat.le_of_ble_eq_true rfl) ?_
  intro p e s m args below meth c A F
  have i_X2 : ∀ w ∈ u_ws RX2 TX2 8, w ∈ wsX3_starvingWith := fun _ h => List.mem_cons_of_mem _ (List.mem_append_left _ (List.mem_append_left _ (List.mem_append_right _ h)))
  have i_X3 : ∀ w ∈ u_ws RX3 TX3 6, w ∈ wsX3_starvingWith := fun _ h => List.mem_cons_of_mem _ (List.mem_append_left _ (List.mem_append_right _ h))
  have K44 : ∀ (n : Nat) (v : SX3) (v1 : SX2) (z2 : Int32) (z3 : Int32) (z4 : Int32) (z5 : Int32) (z8 : Int32) (z9 : Int32) (z6 : Int32) (z10 : Int32) (u : Int32), fX3_starvingWith_L44 N v v1 z2 z3 z4 z5 z8 z9 n z6 z10 = some u → V p l e (rmz 2 44) s m args below meth c 12 D A 0 0 (MQ below (ok_Q D (wX3 cy a v ++ wX2 cy a1 v1) (some (.int o)) A) args s 0 0 A) (wX3 cy a v ++ wX2 cy a1 v1) [(0, .ref (a 0)), (1, .ref (a1 0)), (2, .int z2), (3, .int z3), (4, .int z4), (5, .int z5), (6, .int u), (8, .int z8), (9, .int z9)] [] 106 → V p l e (rmz 2 44) s m args below meth c 12 D A 0 0 (MQ below (ok_Q D (wX3 cy a v ++ wX2 cy a1 v1) (some (.int o)) A) args s 0 0 A) (wX3 cy a v ++ wX2 cy a1 v1) [(0, .ref (a 0)), (1, .ref (a1 0)), (2, .int z2), (3, .int z3), (4, .int z4), (5, .int z5), (6, .int z6), (8, .int z8), (9, .int z9), (10, .int z10)] [] 44 := by
    intro n
    induction n with
    | zero =>
      intro v v1 z2 z3 z4 z5 z8 z9 z6 z10 u hf hk
      exact nomatch (show (none : Option (Int32)) = some u from hf)
    | succ n ih =>
      intro v v1 z2 z3 z4 z5 z8 z9 z6 z10 u hf hk
      rw [fX3_starvingWith_L44] at hf
      refine V_iload (pc := 44) F dX3_starvingWith_44 9 rfl ?_
      refine V_aload_n (pc := 46) F dX3_starvingWith_46 rfl 1 rfl ?_
      refine V_get (pc := 47) F 11 2 6 i_X2 rfl (by decide) rfl (mm 1 rfl) dX3_starvingWith_47 rfl rfl ?_
      refine V_icmp_ge (pc := 50) (tgt := 106) F dX3_starvingWith_50 (by decide) (fun h5 => ?_) (fun h5 => ?_)
      · replace hf := ite_pos hf h5
        obtain rfl := some_of hf
        exact V.sub [0, 1, 2, 3, 4, 5, 6, 7, 8] rfl hk
      · replace hf := ite_neg hf h5
        refine V_iload (pc := 53) F dX3_starvingWith_53 9 rfl ?_
        refine V_iload_n (pc := 55) F dX3_starvingWith_55 rfl 3 rfl ?_
        refine V_icmp_ne (pc := 56) (tgt := 66) F dX3_starvingWith_56 (by decide) (fun h6 => ?_) (fun h6 => ?_)
        · replace hf := ite_neg hf h6
          refine V_aload_n (pc := 66) F dX3_starvingWith_66 rfl 0 rfl ?_
          refine V_get (pc := 67) F 0 3 1 i_X3 rfl (by decide) rfl (mm 2 rfl) dX3_starvingWith_67 rfl rfl ?_
          refine V_iload_n (pc := 70) F dX3_starvingWith_70 rfl 2 rfl ?_
          refine V_iload (pc := 71) F dX3_starvingWith_71 9 rfl ?_
          obtain ⟨r7, g8, hf⟩ := bind_of hf
          refine V_Sc (rest := [.ref (a 3)]) (st2 := [.int r7, .ref (a 3)]) (pc := 73) F (M_X3_cell l D cy N z2 z10 r7 g8) (va_cwS 2 F.ts gX3_starvingWith_X3_cell rfl rfl rfl hd_X3_cell ⟨Nat.le_of_ble_eq_true rfl, Nat.le_of_ble_eq_true rfl⟩) rfl dX3_starvingWith_73 (Nat.le_of_ble_eq_true rfl) (Nat.zero_le _) (Nat.zero_le _) rfl rfl ?_
          refine V_V (w2 := wX3 cy a v ++ wX2 cy a1 v1) (rest := []) (st2 := [.int (rowAt 48 v.2.1 r7)]) (pc := 76) F 5 (R_at l D cy (fun i => a (i + 3)) 48 v.2.1 r7 (by decide)) (cwV 1 F.ts gX3_starvingWith_X5_at rfl rfl rfl hd_X5_at ⟨Nat.le_of_ble_eq_true rfl, Nat.le_of_ble_eq_true rfl⟩) rfl dX3_starvingWith_76 (Fit.left (Fit.right (Fit.right (Fit.left Fit.whole)))) rfl rfl rfl (Nat.le_of_ble_eq_true rfl) (Nat.zero_le _) (Nat.zero_le _) rfl rfl rfl ?_
          refine V_istore (L2 := [(11, .int (rowAt 48 v.2.1 r7)), (0, .ref (a 0)), (1, .ref (a1 0)), (2, .int z2), (3, .int z3), (4, .int z4), (5, .int z5), (6, .int z6), (8, .int z8), (9, .int z9), (10, .int z10)]) (pc := 79) F dX3_starvingWith_79 (by decide) rfl ?_
          refine V_iload (pc := 81) F dX3_starvingWith_81 0 rfl ?_
          refine V_iload (pc := 83) F dX3_starvingWith_83 7 rfl ?_
          refine V_iconst (v := (-1)) (pc := 85) F dX3_starvingWith_85 (by decide) ?_
          refine V_ixor (pc := 86) F dX3_starvingWith_86 ?_
          refine V_iand (pc := 87) F dX3_starvingWith_87 ?_
          refine V_if_ne (pc := 88) (tgt := 100) F dX3_starvingWith_88 (by decide) (fun h9 => ?_) (fun h9 => ?_)
          · replace hf := ite_neg hf h9
            refine V_iinc (v := (z10 + 1)) (L2 := [(10, .int (z10 + 1)), (11, .int (rowAt 48 v.2.1 r7)), (0, .ref (a 0)), (1, .ref (a1 0)), (2, .int z2), (3, .int z3), (4, .int z4), (5, .int z5), (6, .int z6), (8, .int z8), (9, .int z9)]) (pc := 100) F dX3_starvingWith_100 10 rfl rfl (by decide) rfl ?_
            refine V_goto (pc := 103) (tgt := 44) F dX3_starvingWith_103 (by decide) ?_
            refine V.sub [2, 3, 4, 5, 6, 7, 8, 9, 10, 0] rfl ?_
            exact ih v v1 z2 z3 z4 z5 z8 z9 z6 (z10 + 1) _ hf hk
          · replace hf := ite_pos hf h9
            refine V_iload (pc := 91) F dX3_starvingWith_91 7 rfl ?_
            refine V_iconst (v := 1) (pc := 93) F dX3_starvingWith_93 (by decide) ?_
            refine V_iload (pc := 94) F dX3_starvingWith_94 10 rfl ?_
            refine V_ishl (pc := 96) F dX3_starvingWith_96 ?_
            refine V_ior (pc := 97) F dX3_starvingWith_97 ?_
            refine V_istore (L2 := [(6, .int (z6 ||| ((1 : Int32) <<< (z10 &&& 31)))), (11, .int (rowAt 48 v.2.1 r7)), (0, .ref (a 0)), (1, .ref (a1 0)), (2, .int z2), (3, .int z3), (4, .int z4), (5, .int z5), (8, .int z8), (9, .int z9), (10, .int z10)]) (pc := 98) F dX3_starvingWith_98 (by decide) rfl ?_
            refine V_iinc (v := (z10 + 1)) (L2 := [(10, .int (z10 + 1)), (6, .int (z6 ||| ((1 : Int32) <<< (z10 &&& 31)))), (11, .int (rowAt 48 v.2.1 r7)), (0, .ref (a 0)), (1, .ref (a1 0)), (2, .int z2), (3, .int z3), (4, .int z4), (5, .int z5), (8, .int z8), (9, .int z9)]) (pc := 100) F dX3_starvingWith_100 10 rfl rfl (by decide) rfl ?_
            refine V_goto (pc := 103) (tgt := 44) F dX3_starvingWith_103 (by decide) ?_
            refine V.sub [3, 4, 5, 6, 7, 8, 1, 9, 10, 0] rfl ?_
            exact ih v v1 z2 z3 z4 z5 z8 z9 (z6 ||| ((1 : Int32) <<< (z10 &&& 31))) (z10 + 1) _ hf hk
        · replace hf := ite_pos hf h6
          refine V_iconst (v := 1) (pc := 59) F dX3_starvingWith_59 (by decide) ?_
          refine V_iload (pc := 60) F dX3_starvingWith_60 4 rfl ?_
          refine V_ishl (pc := 62) F dX3_starvingWith_62 ?_
          refine V_goto (pc := 63) (tgt := 79) F dX3_starvingWith_63 (by decide) ?_
          refine V_istore (L2 := [(11, .int ((1 : Int32) <<< (z4 &&& 31))), (0, .ref (a 0)), (1, .ref (a1 0)), (2, .int z2), (3, .int z3), (4, .int z4), (5, .int z5), (6, .int z6), (8, .int z8), (9, .int z9), (10, .int z10)]) (pc := 79) F dX3_starvingWith_79 (by decide) rfl ?_
          refine V_iload (pc := 81) F dX3_starvingWith_81 0 rfl ?_
          refine V_iload (pc := 83) F dX3_starvingWith_83 7 rfl ?_
          refine V_iconst (v := (-1)) (pc := 85) F dX3_starvingWith_85 (by decide) ?_
          refine V_ixor (pc := 86) F dX3_starvingWith_86 ?_
          refine V_iand (pc := 87) F dX3_starvingWith_87 ?_
          refine V_if_ne (pc := 88) (tgt := 100) F dX3_starvingWith_88 (by decide) (fun h10 => ?_) (fun h10 => ?_)
          · replace hf := ite_neg hf h10
            refine V_iinc (v := (z10 + 1)) (L2 := [(10, .int (z10 + 1)), (11, .int ((1 : Int32) <<< (z4 &&& 31))), (0, .ref (a 0)), (1, .ref (a1 0)), (2, .int z2), (3, .int z3), (4, .int z4), (5, .int z5), (6, .int z6), (8, .int z8), (9, .int z9)]) (pc := 100) F dX3_starvingWith_100 10 rfl rfl (by decide) rfl ?_
            refine V_goto (pc := 103) (tgt := 44) F dX3_starvingWith_103 (by decide) ?_
            refine V.sub [2, 3, 4, 5, 6, 7, 8, 9, 10, 0] rfl ?_
            exact ih v v1 z2 z3 z4 z5 z8 z9 z6 (z10 + 1) _ hf hk
          · replace hf := ite_pos hf h10
            refine V_iload (pc := 91) F dX3_starvingWith_91 7 rfl ?_
            refine V_iconst (v := 1) (pc := 93) F dX3_starvingWith_93 (by decide) ?_
            refine V_iload (pc := 94) F dX3_starvingWith_94 10 rfl ?_
            refine V_ishl (pc := 96) F dX3_starvingWith_96 ?_
            refine V_ior (pc := 97) F dX3_starvingWith_97 ?_
            refine V_istore (L2 := [(6, .int (z6 ||| ((1 : Int32) <<< (z10 &&& 31)))), (11, .int ((1 : Int32) <<< (z4 &&& 31))), (0, .ref (a 0)), (1, .ref (a1 0)), (2, .int z2), (3, .int z3), (4, .int z4), (5, .int z5), (8, .int z8), (9, .int z9), (10, .int z10)]) (pc := 98) F dX3_starvingWith_98 (by decide) rfl ?_
            refine V_iinc (v := (z10 + 1)) (L2 := [(10, .int (z10 + 1)), (6, .int (z6 ||| ((1 : Int32) <<< (z10 &&& 31)))), (11, .int ((1 : Int32) <<< (z4 &&& 31))), (0, .ref (a 0)), (1, .ref (a1 0)), (2, .int z2), (3, .int z3), (4, .int z4), (5, .int z5), (8, .int z8), (9, .int z9)]) (pc := 100) F dX3_starvingWith_100 10 rfl rfl (by decide) rfl ?_
            refine V_goto (pc := 103) (tgt := 44) F dX3_starvingWith_103 (by decide) ?_
            refine V.sub [3, 4, 5, 6, 7, 8, 1, 9, 10, 0] rfl ?_
            exact ih v v1 z2 z3 z4 z5 z8 z9 (z6 ||| ((1 : Int32) <<< (z10 &&& 31))) (z10 + 1) _ hf hk
  have K23 : ∀ (n : Nat) (v : SX3) (v1 : SX2) (z2 : Int32) (z3 : Int32) (z4 : Int32) (z5 : Int32) (z6 : Int32) (z7 : Int32) (z8 : Int32) (u : Int32), fX3_starvingWith_L23 N v v1 z2 z3 z4 z5 n z6 z7 z8 = some u → V p l e (rmz 2 44) s m args below meth c 12 D A 0 0 (MQ below (ok_Q D (wX3 cy a v ++ wX2 cy a1 v1) (some (.int o)) A) args s 0 0 A) (wX3 cy a v ++ wX2 cy a1 v1) [(5, .int z5), (6, .int u)] [] 126 → V p l e (rmz 2 44) s m args below meth c 12 D A 0 0 (MQ below (ok_Q D (wX3 cy a v ++ wX2 cy a1 v1) (some (.int o)) A) args s 0 0 A) (wX3 cy a v ++ wX2 cy a1 v1) [(0, .ref (a 0)), (1, .ref (a1 0)), (2, .int z2), (3, .int z3), (4, .int z4), (5, .int z5), (6, .int z6), (7, .int z7), (8, .int z8)] [] 23 := by
    intro n
    induction n with
    | zero =>
      intro v v1 z2 z3 z4 z5 z6 z7 z8 u hf hk
      exact nomatch (show (none : Option (Int32)) = some u from hf)
    | succ n ih =>
      intro v v1 z2 z3 z4 z5 z6 z7 z8 u hf hk
      rw [fX3_starvingWith_L23] at hf
      refine V_iload (pc := 23) F dX3_starvingWith_23 8 rfl ?_
      refine V_aload_n (pc := 25) F dX3_starvingWith_25 rfl 1 rfl ?_
      refine V_get (pc := 26) F 11 2 6 i_X2 rfl (by decide) rfl (mm 1 rfl) dX3_starvingWith_26 rfl rfl ?_
      refine V_icmp_ge (pc := 29) (tgt := 126) F dX3_starvingWith_29 (by decide) (fun h3 => ?_) (fun h3 => ?_)
      · replace hf := ite_pos hf h3
        obtain rfl := some_of hf
        exact V.sub [5, 6] rfl hk
      · replace hf := ite_neg hf h3
        refine V_iload (pc := 32) F dX3_starvingWith_32 7 rfl ?_
        refine V_if_eq (pc := 34) (tgt := 126) F dX3_starvingWith_34 (by decide) (fun h4 => ?_) (fun h4 => ?_)
        · replace hf := ite_pos hf h4
          obtain rfl := some_of hf
          exact V.sub [5, 6] rfl hk
        · replace hf := ite_neg hf h4
          refine V_iload (pc := 37) F dX3_starvingWith_37 6 rfl ?_
          refine V_istore (L2 := [(9, .int z6), (0, .ref (a 0)), (1, .ref (a1 0)), (2, .int z2), (3, .int z3), (4, .int z4), (5, .int z5), (6, .int z6), (7, .int z7), (8, .int z8)]) (pc := 39) F dX3_starvingWith_39 (by decide) rfl ?_
          refine V_iconst (v := 0) (pc := 41) F dX3_starvingWith_41 (by decide) ?_
          refine V_istore (L2 := [(10, .int 0), (9, .int z6), (0, .ref (a 0)), (1, .ref (a1 0)), (2, .int z2), (3, .int z3), (4, .int z4), (5, .int z5), (6, .int z6), (7, .int z7), (8, .int z8)]) (pc := 42) F dX3_starvingWith_42 (by decide) rfl ?_
          refine V.sub [2, 3, 4, 5, 6, 7, 8, 10, 1, 0] rfl ?_
          obtain ⟨u11, g12, hf⟩ := bind_of hf
          refine K44 N v v1 z2 z3 z4 z5 z8 z6 z6 0 u11 g12 ?_
          refine V_iload (pc := 106) F dX3_starvingWith_106 6 rfl ?_
          refine V_iload (pc := 108) F dX3_starvingWith_108 8 rfl ?_
          refine V_icmp_eq (pc := 110) (tgt := 117) F dX3_starvingWith_110 (by decide) (fun h13 => ?_) (fun h13 => ?_)
          · replace hf := ite_pos hf h13
            refine V_iconst (v := 0) (pc := 117) F dX3_starvingWith_117 (by decide) ?_
            refine V_istore (L2 := [(7, .int 0), (0, .ref (a 0)), (1, .ref (a1 0)), (2, .int z2), (3, .int z3), (4, .int z4), (5, .int z5), (6, .int u11), (8, .int z8), (9, .int z6)]) (pc := 118) F dX3_starvingWith_118 (by decide) rfl ?_
            refine V_iinc (v := (z8 + 1)) (L2 := [(8, .int (z8 + 1)), (7, .int 0), (0, .ref (a 0)), (1, .ref (a1 0)), (2, .int z2), (3, .int z3), (4, .int z4), (5, .int z5), (6, .int u11), (9, .int z6)]) (pc := 120) F dX3_starvingWith_120 8 rfl rfl (by decide) rfl ?_
            refine V_goto (pc := 123) (tgt := 23) F dX3_starvingWith_123 (by decide) ?_
            refine V.sub [2, 3, 4, 5, 6, 7, 8, 1, 0] rfl ?_
            exact ih v v1 z2 z3 z4 z5 u11 0 (z8 + 1) _ hf hk
          · replace hf := ite_neg hf h13
            refine V_iconst (v := 1) (pc := 113) F dX3_starvingWith_113 (by decide) ?_
            refine V_goto (pc := 114) (tgt := 118) F dX3_starvingWith_114 (by decide) ?_
            refine V_istore (L2 := [(7, .int 1), (0, .ref (a 0)), (1, .ref (a1 0)), (2, .int z2), (3, .int z3), (4, .int z4), (5, .int z5), (6, .int u11), (8, .int z8), (9, .int z6)]) (pc := 118) F dX3_starvingWith_118 (by decide) rfl ?_
            refine V_iinc (v := (z8 + 1)) (L2 := [(8, .int (z8 + 1)), (7, .int 1), (0, .ref (a 0)), (1, .ref (a1 0)), (2, .int z2), (3, .int z3), (4, .int z4), (5, .int z5), (6, .int u11), (9, .int z6)]) (pc := 120) F dX3_starvingWith_120 8 rfl rfl (by decide) rfl ?_
            refine V_goto (pc := 123) (tgt := 23) F dX3_starvingWith_123 (by decide) ?_
            refine V.sub [2, 3, 4, 5, 6, 7, 8, 1, 0] rfl ?_
            exact ih v v1 z2 z3 z4 z5 u11 1 (z8 + 1) _ hf hk
  unfold fX3_starvingWith at hf
  refine V.eq rfl (show lv_args 0 [.ref (a 0), .ref (a1 0), .int x2, .int x3, .int x4] = [(0, .ref (a 0)), (1, .ref (a1 0)), (2, .int x2), (3, .int x3), (4, .int x4)] from rfl) rfl ?_
  refine V_iconst (v := 1) (pc := 0) F dX3_starvingWith_0 (by decide) ?_
  refine V_aload_n (pc := 1) F dX3_starvingWith_1 rfl 1 rfl ?_
  refine V_get (pc := 2) F 11 2 6 i_X2 rfl (by decide) rfl (mm 1 rfl) dX3_starvingWith_2 rfl rfl ?_
  refine V_ishl (pc := 5) F dX3_starvingWith_5 ?_
  refine V_iconst (v := 1) (pc := 6) F dX3_starvingWith_6 (by decide) ?_
  refine V_isub (pc := 7) F dX3_starvingWith_7 ?_
  refine V_istore (L2 := [(5, .int (((1 : Int32) <<< (v1.2.2.2.2.2.2.1 &&& 31)) - 1)), (0, .ref (a 0)), (1, .ref (a1 0)), (2, .int x2), (3, .int x3), (4, .int x4)]) (pc := 8) F dX3_starvingWith_8 (by decide) rfl ?_
  refine V_aload_n (pc := 10) F dX3_starvingWith_10 rfl 2 rfl ?_
  refine V_iload_n (pc := 11) F dX3_starvingWith_11 rfl 3 rfl ?_
  obtain ⟨r1, g2, hf⟩ := bind_of hf
  refine V_V (w2 := wX3 cy a v ++ wX2 cy a1 v1) (rest := []) (st2 := [.int r1]) (pc := 12) F 2 (M_X2_phasesWith l D cy N a1 v1 x2 r1 g2) (cwV 1 F.ts gX3_starvingWith_X2_phasesWith rfl rfl rfl hd_X2_phasesWith ⟨Nat.le_of_ble_eq_true rfl, Nat.le_of_ble_eq_true rfl⟩) rfl dX3_starvingWith_12 (Fit.right Fit.whole) rfl rfl rfl (Nat.le_of_ble_eq_true rfl) (Nat.zero_le _) (Nat.zero_le _) rfl rfl rfl ?_
  refine V_istore (L2 := [(6, .int r1), (5, .int (((1 : Int32) <<< (v1.2.2.2.2.2.2.1 &&& 31)) - 1)), (0, .ref (a 0)), (1, .ref (a1 0)), (2, .int x2), (3, .int x3), (4, .int x4)]) (pc := 15) F dX3_starvingWith_15 (by decide) rfl ?_
  refine V_iconst (v := 1) (pc := 17) F dX3_starvingWith_17 (by decide) ?_
  refine V_istore (L2 := [(7, .int 1), (6, .int r1), (5, .int (((1 : Int32) <<< (v1.2.2.2.2.2.2.1 &&& 31)) - 1)), (0, .ref (a 0)), (1, .ref (a1 0)), (2, .int x2), (3, .int x3), (4, .int x4)]) (pc := 18) F dX3_starvingWith_18 (by decide) rfl ?_
  refine V_iconst (v := 0) (pc := 20) F dX3_starvingWith_20 (by decide) ?_
  refine V_istore (L2 := [(8, .int 0), (7, .int 1), (6, .int r1), (5, .int (((1 : Int32) <<< (v1.2.2.2.2.2.2.1 &&& 31)) - 1)), (0, .ref (a 0)), (1, .ref (a1 0)), (2, .int x2), (3, .int x3), (4, .int x4)]) (pc := 21) F dX3_starvingWith_21 (by decide) rfl ?_
  refine V.sub [4, 5, 6, 7, 8, 3, 2, 1, 0] rfl ?_
  obtain ⟨u14, g15, hf⟩ := bind_of hf
  refine K23 N v v1 x2 x3 x4 (((1 : Int32) <<< (v1.2.2.2.2.2.2.1 &&& 31)) - 1) r1 1 0 u14 g15 ?_
  refine V_iload (pc := 126) F dX3_starvingWith_126 0 rfl ?_
  refine V_iload (pc := 128) F dX3_starvingWith_128 1 rfl ?_
  refine V_iconst (v := (-1)) (pc := 130) F dX3_starvingWith_130 (by decide) ?_
  refine V_ixor (pc := 131) F dX3_starvingWith_131 ?_
  refine V_iand (pc := 132) F dX3_starvingWith_132 ?_
  obtain rfl := some_of hf
  exact V_ret F rfl rfl dX3_starvingWith_133 rfl rfl
theorem hd_X3_noteStarving : yX3_noteStarving.cls = RX3 ∧ yX3_noteStarving.cls ≠ "java/lang/invoke/MethodHandle" ∧ yX3_noteStarving.cls ≠ "java/lang/invoke/VarHandle" ∧ (parseMethodDescriptor yX3_noteStarving.desc).map (fun d => d.parameters.length) = some 2 := by decide +kernel
def fX3_noteStarving_L2 (N : Nat) (v1 : SX2) (z2 : Int32) : Nat → SX3 → Int32 → Option (SX3)
  | 0, _, _ => none
  | n + 1, v, z3 =>
    if v1.2.2.2.2.2.2.1 ≤ z3 then
      some v
    else
      (fX3_cell N z2 z3).bind fun r2 =>
        (fX3_waysFrom N v v1 z2 z3).bind fun r4 =>
          fX3_noteStarving_L2 N v1 z2 n (v.1, (rowPut 48 v.2.1 r2 r4), v.2.2) (z3 + 1)
def fX3_noteStarving (N : Nat) (v : SX3) (v1 : SX2) (x2 : Int32) : Option (SX3) :=
  (fX3_noteStarving_L2 N v1 x2 N v 0).bind fun u6 =>
    (fX3_starvingWith N u6 v1 x2 (-1) (-1)).bind fun r8 =>
      some (u6.1, u6.2.1, u6.2.2.1, u6.2.2.2.1, (rowPut 6 u6.2.2.2.2.1 x2 r8), u6.2.2.2.2.2)
set_option maxHeartbeats 8000000 in
set_option maxRecDepth 100000 in
theorem M_X3_noteStarving (l : Launch) (D : va_G) (cy : Nat → ClassId) (N : Nat) (a : Nat → Nat) (a1 : Nat → Nat) (v : SX3) (v1 : SX2) (x2 : Int32) (o : SX3) (hf : fX3_noteStarving N v v1 x2 = some o) : okM l yX3_noteStarving wsX3_noteStarving (rmz 3 75) D cy [.ref (a 0), .ref (a1 0), .int x2] (wX3 cy a v ++ wX2 cy a1 v1) (wX3 cy a o ++ wX2 cy a1 v1) none := by
  refine okM_of (own := RX3) (nme := "noteStarving") (cc := cX3_noteStarving) (maxL := 4) (ret := none) (by decide) rfl rfl rfl (Nat.le_of_ble_eq_true rfl) ?_
  intro p e s m args below meth c A F
  have i_X2 : ∀ w ∈ u_ws RX2 TX2 8, w ∈ wsX3_noteStarving := fun _ h => List.mem_cons_of_mem _ (List.mem_append_left _ (List.mem_append_left _ (List.mem_append_right _ h)))
  have i_X3 : ∀ w ∈ u_ws RX3 TX3 6, w ∈ wsX3_noteStarving := fun _ h => List.mem_cons_of_mem _ (List.mem_append_left _ (List.mem_append_right _ h))
  have K2 : ∀ (n : Nat) (v1 : SX2) (z2 : Int32) (v : SX3) (z3 : Int32) (u : SX3), fX3_noteStarving_L2 N v1 z2 n v z3 = some u → V p l e (rmz 3 75) s m args below meth c 4 D A 0 0 (MQ below (ok_Q D (wX3 cy a o ++ wX2 cy a1 v1) none A) args s 0 0 A) (wX3 cy a u ++ wX2 cy a1 v1) [(0, .ref (a 0)), (1, .ref (a1 0)), (2, .int z2)] [] 35 → V p l e (rmz 3 75) s m args below meth c 4 D A 0 0 (MQ below (ok_Q D (wX3 cy a o ++ wX2 cy a1 v1) none A) args s 0 0 A) (wX3 cy a v ++ wX2 cy a1 v1) [(0, .ref (a 0)), (1, .ref (a1 0)), (2, .int z2), (3, .int z3)] [] 2 := by
    intro n
    induction n with
    | zero =>
      intro v1 z2 v z3 u hf hk
      exact nomatch (show (none : Option (SX3)) = some u from hf)
    | succ n ih =>
      intro v1 z2 v z3 u hf hk
      rw [fX3_noteStarving_L2] at hf
      refine V_iload_n (pc := 2) F dX3_noteStarving_2 rfl 3 rfl ?_
      refine V_aload_n (pc := 3) F dX3_noteStarving_3 rfl 1 rfl ?_
      refine V_get (pc := 4) F 11 2 6 i_X2 rfl (by decide) rfl (mm 1 rfl) dX3_noteStarving_4 rfl rfl ?_
      refine V_icmp_ge (pc := 7) (tgt := 35) F dX3_noteStarving_7 (by decide) (fun h1 => ?_) (fun h1 => ?_)
      · replace hf := ite_pos hf h1
        obtain rfl := some_of hf
        exact V.sub [0, 1, 2] rfl hk
      · replace hf := ite_neg hf h1
        refine V_aload_n (pc := 10) F dX3_noteStarving_10 rfl 0 rfl ?_
        refine V_get (pc := 11) F 0 3 1 i_X3 rfl (by decide) rfl (mm 2 rfl) dX3_noteStarving_11 rfl rfl ?_
        refine V_iload_n (pc := 14) F dX3_noteStarving_14 rfl 2 rfl ?_
        refine V_iload_n (pc := 15) F dX3_noteStarving_15 rfl 3 rfl ?_
        obtain ⟨r2, g3, hf⟩ := bind_of hf
        refine V_Sc (rest := [.ref (a 3)]) (st2 := [.int r2, .ref (a 3)]) (pc := 16) F (M_X3_cell l D cy N z2 z3 r2 g3) (va_cwS 2 F.ts gX3_noteStarving_X3_cell rfl rfl rfl hd_X3_cell ⟨Nat.le_of_ble_eq_true rfl, Nat.le_of_ble_eq_true rfl⟩) rfl dX3_noteStarving_16 (Nat.le_of_ble_eq_true rfl) (Nat.zero_le _) (Nat.zero_le _) rfl rfl ?_
        refine V_aload_n (pc := 19) F dX3_noteStarving_19 rfl 0 rfl ?_
        refine V_aload_n (pc := 20) F dX3_noteStarving_20 rfl 1 rfl ?_
        refine V_iload_n (pc := 21) F dX3_noteStarving_21 rfl 2 rfl ?_
        refine V_iload_n (pc := 22) F dX3_noteStarving_22 rfl 3 rfl ?_
        obtain ⟨r4, g5, hf⟩ := bind_of hf
        refine V_V2 (w2 := wX3 cy a v ++ wX2 cy a1 v1) (rest := [.int r2, .ref (a 3)]) (st2 := [.int r4, .int r2, .ref (a 3)]) (pc := 23) F 3 (M_X3_waysFrom l D cy N a a1 v v1 z2 z3 r4 g5) (cwV 3 F.ts gX3_noteStarving_X3_waysFrom rfl rfl rfl hd_X3_waysFrom ⟨Nat.le_of_ble_eq_true rfl, Nat.le_of_ble_eq_true rfl⟩) rfl dX3_noteStarving_23 (Fit2.both Fit.whole Fit.whole) rfl rfl rfl rfl (Nat.le_of_ble_eq_true rfl) (Nat.zero_le _) (Nat.zero_le _) rfl rfl rfl ?_
        refine V_V (w2 := wX3 cy a (v.1, (rowPut 48 v.2.1 r2 r4), v.2.2) ++ wX2 cy a1 v1) (rest := []) (st2 := []) (pc := 26) F 5 (R_put l D cy (fun i => a (i + 3)) 48 v.2.1 r2 r4 (by decide)) (cwV 2 F.ts gX3_noteStarving_X5_put rfl rfl rfl hd_X5_put ⟨Nat.le_of_ble_eq_true rfl, Nat.le_of_ble_eq_true rfl⟩) rfl dX3_noteStarving_26 (Fit.left (Fit.right (Fit.right (Fit.left Fit.whole)))) fstX5 rfl rfl (Nat.le_of_ble_eq_true rfl) (Nat.zero_le _) (Nat.zero_le _) rfl rfl rfl ?_
        refine V_iinc (v := (z3 + 1)) (L2 := [(3, .int (z3 + 1)), (0, .ref (a 0)), (1, .ref (a1 0)), (2, .int z2)]) (pc := 29) F dX3_noteStarving_29 3 rfl rfl (by decide) rfl ?_
        refine V_goto (pc := 32) (tgt := 2) F dX3_noteStarving_32 (by decide) ?_
        refine V.sub [1, 2, 3, 0] rfl ?_
        exact ih v1 z2 (v.1, (rowPut 48 v.2.1 r2 r4), v.2.2) (z3 + 1) _ hf hk
  unfold fX3_noteStarving at hf
  refine V.eq rfl (show lv_args 0 [.ref (a 0), .ref (a1 0), .int x2] = [(0, .ref (a 0)), (1, .ref (a1 0)), (2, .int x2)] from rfl) rfl ?_
  refine V_iconst (v := 0) (pc := 0) F dX3_noteStarving_0 (by decide) ?_
  refine V_istore_n (L2 := [(3, .int 0), (0, .ref (a 0)), (1, .ref (a1 0)), (2, .int x2)]) (pc := 1) F dX3_noteStarving_1 rfl (by decide) rfl ?_
  refine V.sub [1, 2, 3, 0] rfl ?_
  obtain ⟨u6, g7, hf⟩ := bind_of hf
  refine K2 N v1 x2 v 0 u6 g7 ?_
  refine V_aload_n (pc := 35) F dX3_noteStarving_35 rfl 0 rfl ?_
  refine V_get (pc := 36) F 0 3 4 i_X3 rfl (by decide) rfl (mm 3 rfl) dX3_noteStarving_36 rfl rfl ?_
  refine V_iload_n (pc := 39) F dX3_noteStarving_39 rfl 2 rfl ?_
  refine V_aload_n (pc := 40) F dX3_noteStarving_40 rfl 0 rfl ?_
  refine V_aload_n (pc := 41) F dX3_noteStarving_41 rfl 1 rfl ?_
  refine V_iload_n (pc := 42) F dX3_noteStarving_42 rfl 2 rfl ?_
  refine V_iconst (v := (-1)) (pc := 43) F dX3_noteStarving_43 (by decide) ?_
  refine V_iconst (v := (-1)) (pc := 44) F dX3_noteStarving_44 (by decide) ?_
  obtain ⟨r8, g9, hf⟩ := bind_of hf
  refine V_V2 (w2 := wX3 cy a u6 ++ wX2 cy a1 v1) (rest := [.int x2, .ref (a 9)]) (st2 := [.int r8, .int x2, .ref (a 9)]) (pc := 45) F 3 (M_X3_starvingWith l D cy N a a1 u6 v1 x2 (-1) (-1) r8 g9) (cwV 4 F.ts gX3_noteStarving_X3_starvingWith rfl rfl rfl hd_X3_starvingWith ⟨Nat.le_of_ble_eq_true rfl, Nat.le_of_ble_eq_true rfl⟩) rfl dX3_noteStarving_45 (Fit2.both Fit.whole Fit.whole) rfl rfl rfl rfl (Nat.le_of_ble_eq_true rfl) (Nat.zero_le _) (Nat.zero_le _) rfl rfl rfl ?_
  refine V_V (w2 := wX3 cy a (u6.1, u6.2.1, u6.2.2.1, u6.2.2.2.1, (rowPut 6 u6.2.2.2.2.1 x2 r8), u6.2.2.2.2.2) ++ wX2 cy a1 v1) (rest := []) (st2 := []) (pc := 48) F 5 (R_put l D cy (fun i => a (i + 9)) 6 u6.2.2.2.2.1 x2 r8 (by decide)) (cwV 2 F.ts gX3_noteStarving_X5_put rfl rfl rfl hd_X5_put ⟨Nat.le_of_ble_eq_true rfl, Nat.le_of_ble_eq_true rfl⟩) rfl dX3_noteStarving_48 (Fit.left (Fit.right (Fit.right (Fit.right (Fit.right (Fit.right Fit.whole)))))) fstX5 rfl rfl (Nat.le_of_ble_eq_true rfl) (Nat.zero_le _) (Nat.zero_le _) rfl rfl rfl ?_
  obtain rfl := some_of hf
  exact V_vret F rfl dX3_noteStarving_51 rfl
theorem hd_X3_noteWait : yX3_noteWait.cls = RX3 ∧ yX3_noteWait.cls ≠ "java/lang/invoke/MethodHandle" ∧ yX3_noteWait.cls ≠ "java/lang/invoke/VarHandle" ∧ (parseMethodDescriptor yX3_noteWait.desc).map (fun d => d.parameters.length) = some 3 := by decide +kernel
def fX3_noteWait_L25 (N : Nat) (v : SX3) (v1 : SX2) (z2 : Int32) (z3 : Int32) (z4 : Int32) : Nat → Int32 → Int32 → Int32 → Option (Int32 × Int32)
  | 0, _, _, _ => none
  | n + 1, z5, z6, z7 =>
    if v1.2.2.2.2.2.2.1 ≤ z7 then
      some (z5, z6)
    else
      (fX7_has N z4 z7).bind fun r4 =>
        if r4 = 0 then
          fX3_noteWait_L25 N v v1 z2 z3 z4 n z5 z6 (z7 + 1)
        else
          (fX2_clearingBetween N v1 z3 z7).bind fun r7 =>
            (fX3_cell N z2 z7).bind fun r9 =>
              (fX3_cell N z2 z7).bind fun r11 =>
                fX3_noteWait_L25 N v v1 z2 z3 z4 n (imax z5 (((rowAt 8 v1.2.2.1 z3) + r7) + (rowAt 48 v.2.2.1 r9))) (imin z6 (((rowAt 8 v1.2.2.1 z3) + r7) + (rowAt 48 v.2.2.2.1 r11))) (z7 + 1)
def fX3_noteWait (N : Nat) (v : SX3) (v1 : SX2) (x2 : Int32) (x3 : Int32) : Option (SX3) :=
  (fX3_cell N x2 x3).bind fun r1 =>
    (fX3_noteWait_L25 N v v1 x2 x3 (rowAt 48 v.2.1 r1) N 0 1000 0).bind fun u13 =>
      (fX3_cell N x2 x3).bind fun r15 =>
        (fX3_cell N x2 x3).bind fun r17 =>
          some (v.1, v.2.1, (rowPut 48 v.2.2.1 r15 u13.1), (rowPut 48 v.2.2.2.1 r17 u13.2), v.2.2.2.2)
set_option maxHeartbeats 8000000 in
set_option maxRecDepth 100000 in
theorem M_X3_noteWait (l : Launch) (D : va_G) (cy : Nat → ClassId) (N : Nat) (a : Nat → Nat) (a1 : Nat → Nat) (v : SX3) (v1 : SX2) (x2 : Int32) (x3 : Int32) (o : SX3) (hf : fX3_noteWait N v v1 x2 x3 = some o) : okM l yX3_noteWait wsX3_noteWait (rmz 2 43) D cy [.ref (a 0), .ref (a1 0), .int x2, .int x3] (wX3 cy a v ++ wX2 cy a1 v1) (wX3 cy a o ++ wX2 cy a1 v1) none := by
  refine okM_of (own := RX3) (nme := "noteWait") (cc := cX3_noteWait) (maxL := 9) (ret := none) (by decide) rfl rfl rfl (Nat.le_of_ble_eq_true rfl) ?_
  intro p e s m args below meth c A F
  have i_X2 : ∀ w ∈ u_ws RX2 TX2 8, w ∈ wsX3_noteWait := fun _ h => List.mem_cons_of_mem _ (List.mem_append_left _ (List.mem_append_right _ h))
  have i_X3 : ∀ w ∈ u_ws RX3 TX3 6, w ∈ wsX3_noteWait := fun _ h => List.mem_cons_of_mem _ (List.mem_append_left _ (List.mem_append_left _ (List.mem_append_right _ h)))
  have K25 : ∀ (n : Nat) (v : SX3) (v1 : SX2) (z2 : Int32) (z3 : Int32) (z4 : Int32) (z5 : Int32) (z6 : Int32) (z7 : Int32) (u : Int32 × Int32), fX3_noteWait_L25 N v v1 z2 z3 z4 n z5 z6 z7 = some u → V p l e (rmz 2 43) s m args below meth c 9 D A 0 0 (MQ below (ok_Q D (wX3 cy a o ++ wX2 cy a1 v1) none A) args s 0 0 A) (wX3 cy a v ++ wX2 cy a1 v1) [(0, .ref (a 0)), (2, .int z2), (3, .int z3), (5, .int u.1), (6, .int u.2)] [] 114 → V p l e (rmz 2 43) s m args below meth c 9 D A 0 0 (MQ below (ok_Q D (wX3 cy a o ++ wX2 cy a1 v1) none A) args s 0 0 A) (wX3 cy a v ++ wX2 cy a1 v1) [(0, .ref (a 0)), (1, .ref (a1 0)), (2, .int z2), (3, .int z3), (4, .int z4), (5, .int z5), (6, .int z6), (7, .int z7)] [] 25 := by
    intro n
    induction n with
    | zero =>
      intro v v1 z2 z3 z4 z5 z6 z7 u hf hk
      exact nomatch (show (none : Option (Int32 × Int32)) = some u from hf)
    | succ n ih =>
      intro v v1 z2 z3 z4 z5 z6 z7 u hf hk
      rw [fX3_noteWait_L25] at hf
      refine V_iload (pc := 25) F dX3_noteWait_25 7 rfl ?_
      refine V_aload_n (pc := 27) F dX3_noteWait_27 rfl 1 rfl ?_
      refine V_get (pc := 28) F 11 2 6 i_X2 rfl (by decide) rfl (mm 2 rfl) dX3_noteWait_28 rfl rfl ?_
      refine V_icmp_ge (pc := 31) (tgt := 114) F dX3_noteWait_31 (by decide) (fun h3 => ?_) (fun h3 => ?_)
      · replace hf := ite_pos hf h3
        obtain rfl := some_of hf
        exact V.sub [0, 2, 3, 5, 6] rfl hk
      · replace hf := ite_neg hf h3
        refine V_iload (pc := 34) F dX3_noteWait_34 4 rfl ?_
        refine V_iload (pc := 36) F dX3_noteWait_36 7 rfl ?_
        obtain ⟨r4, g5, hf⟩ := bind_of hf
        refine V_SN (rest := []) (st2 := [.int r4]) (pc := 38) F (M_X7_has l D cy N z4 z7 r4 g5) ⟨va_cnB 2 F.ts gX3_noteWait_X7_has_n73 rfl rfl rfl F.nest.1 (F.ts _ (mm 24 rfl)) hd_X7_has ⟨Nat.le_of_ble_eq_true rfl, Nat.le_of_ble_eq_true rfl⟩, F.ts _ (mm 23 rfl), trivial⟩ rfl dX3_noteWait_38 (Nat.le_of_ble_eq_true rfl) (Nat.zero_le _) (Nat.zero_le _) rfl rfl ?_
        refine V_if_eq (pc := 41) (tgt := 108) F dX3_noteWait_41 (by decide) (fun h6 => ?_) (fun h6 => ?_)
        · replace hf := ite_pos hf h6
          refine V_iinc (v := (z7 + 1)) (L2 := [(7, .int (z7 + 1)), (0, .ref (a 0)), (1, .ref (a1 0)), (2, .int z2), (3, .int z3), (4, .int z4), (5, .int z5), (6, .int z6)]) (pc := 108) F dX3_noteWait_108 7 rfl rfl (by decide) rfl ?_
          refine V_goto (pc := 111) (tgt := 25) F dX3_noteWait_111 (by decide) ?_
          refine V.sub [1, 2, 3, 4, 5, 6, 7, 0] rfl ?_
          exact ih v v1 z2 z3 z4 z5 z6 (z7 + 1) _ hf hk
        · replace hf := ite_neg hf h6
          refine V_aload_n (pc := 44) F dX3_noteWait_44 rfl 1 rfl ?_
          refine V_get (pc := 45) F 11 2 2 i_X2 rfl (by decide) rfl (mm 3 rfl) dX3_noteWait_45 rfl rfl ?_
          refine V_iload_n (pc := 48) F dX3_noteWait_48 rfl 3 rfl ?_
          refine V_V (w2 := wX3 cy a v ++ wX2 cy a1 v1) (rest := []) (st2 := [.int (rowAt 8 v1.2.2.1 z3)]) (pc := 49) F 5 (R_at l D cy (fun i => a1 (i + 5)) 8 v1.2.2.1 z3 (by decide)) (cwV 1 F.ts gX3_noteWait_X5_at rfl rfl rfl hd_X5_at ⟨Nat.le_of_ble_eq_true rfl, Nat.le_of_ble_eq_true rfl⟩) rfl dX3_noteWait_49 (Fit.right (Fit.right (Fit.right (Fit.right (Fit.left Fit.whole))))) rfl rfl rfl (Nat.le_of_ble_eq_true rfl) (Nat.zero_le _) (Nat.zero_le _) rfl rfl rfl ?_
          refine V_aload_n (pc := 52) F dX3_noteWait_52 rfl 1 rfl ?_
          refine V_iload_n (pc := 53) F dX3_noteWait_53 rfl 3 rfl ?_
          refine V_iload (pc := 54) F dX3_noteWait_54 7 rfl ?_
          obtain ⟨r7, g8, hf⟩ := bind_of hf
          refine V_V (w2 := wX3 cy a v ++ wX2 cy a1 v1) (rest := [.int (rowAt 8 v1.2.2.1 z3)]) (st2 := [.int r7, .int (rowAt 8 v1.2.2.1 z3)]) (pc := 56) F 2 (M_X2_clearingBetween l D cy N a1 v1 z3 z7 r7 g8) (cwV 2 F.ts gX3_noteWait_X2_clearingBetween rfl rfl rfl hd_X2_clearingBetween ⟨Nat.le_of_ble_eq_true rfl, Nat.le_of_ble_eq_true rfl⟩) rfl dX3_noteWait_56 (Fit.right Fit.whole) rfl rfl rfl (Nat.le_of_ble_eq_true rfl) (Nat.zero_le _) (Nat.zero_le _) rfl rfl rfl ?_
          refine V_iadd (pc := 59) F dX3_noteWait_59 ?_
          refine V_istore (L2 := [(8, .int ((rowAt 8 v1.2.2.1 z3) + r7)), (0, .ref (a 0)), (1, .ref (a1 0)), (2, .int z2), (3, .int z3), (4, .int z4), (5, .int z5), (6, .int z6), (7, .int z7)]) (pc := 60) F dX3_noteWait_60 (by decide) rfl ?_
          refine V_iload (pc := 62) F dX3_noteWait_62 6 rfl ?_
          refine V_iload (pc := 64) F dX3_noteWait_64 0 rfl ?_
          refine V_aload_n (pc := 66) F dX3_noteWait_66 rfl 1 rfl ?_
          refine V_get (pc := 67) F 0 3 2 i_X3 rfl (by decide) rfl (mm 4 rfl) dX3_noteWait_67 rfl rfl ?_
          refine V_iload_n (pc := 70) F dX3_noteWait_70 rfl 3 rfl ?_
          refine V_iload (pc := 71) F dX3_noteWait_71 8 rfl ?_
          obtain ⟨r9, g10, hf⟩ := bind_of hf
          refine V_Sc (rest := [.ref (a 5), .int ((rowAt 8 v1.2.2.1 z3) + r7), .int z5]) (st2 := [.int r9, .ref (a 5), .int ((rowAt 8 v1.2.2.1 z3) + r7), .int z5]) (pc := 73) F (M_X3_cell l D cy N z2 z7 r9 g10) (va_cwS 2 F.ts gX3_noteWait_X3_cell rfl rfl rfl hd_X3_cell ⟨Nat.le_of_ble_eq_true rfl, Nat.le_of_ble_eq_true rfl⟩) rfl dX3_noteWait_73 (Nat.le_of_ble_eq_true rfl) (Nat.zero_le _) (Nat.zero_le _) rfl rfl ?_
          refine V_V (w2 := wX3 cy a v ++ wX2 cy a1 v1) (rest := [.int ((rowAt 8 v1.2.2.1 z3) + r7), .int z5]) (st2 := [.int (rowAt 48 v.2.2.1 r9), .int ((rowAt 8 v1.2.2.1 z3) + r7), .int z5]) (pc := 76) F 5 (R_at l D cy (fun i => a (i + 5)) 48 v.2.2.1 r9 (by decide)) (cwV 1 F.ts gX3_noteWait_X5_at rfl rfl rfl hd_X5_at ⟨Nat.le_of_ble_eq_true rfl, Nat.le_of_ble_eq_true rfl⟩) rfl dX3_noteWait_76 (Fit.left (Fit.right (Fit.right (Fit.right (Fit.left Fit.whole))))) rfl rfl rfl (Nat.le_of_ble_eq_true rfl) (Nat.zero_le _) (Nat.zero_le _) rfl rfl rfl ?_
          refine V_iadd (pc := 79) F dX3_noteWait_79 ?_
          refine V_mmax (pc := 80) F (mm 5 rfl) (mm 6 rfl) (mm 7 rfl) (mm 8 rfl) dX3_noteWait_80 (Nat.le_of_ble_eq_true rfl) (Nat.le_of_ble_eq_true rfl) (Nat.zero_le _) (Nat.zero_le _) ?_
          refine V_istore (L2 := [(5, .int (imax z5 (((rowAt 8 v1.2.2.1 z3) + r7) + (rowAt 48 v.2.2.1 r9)))), (8, .int ((rowAt 8 v1.2.2.1 z3) + r7)), (0, .ref (a 0)), (1, .ref (a1 0)), (2, .int z2), (3, .int z3), (4, .int z4), (6, .int z6), (7, .int z7)]) (pc := 83) F dX3_noteWait_83 (by decide) rfl ?_
          refine V_iload (pc := 85) F dX3_noteWait_85 7 rfl ?_
          refine V_iload (pc := 87) F dX3_noteWait_87 1 rfl ?_
          refine V_aload_n (pc := 89) F dX3_noteWait_89 rfl 2 rfl ?_
          refine V_get (pc := 90) F 0 3 3 i_X3 rfl (by decide) rfl (mm 9 rfl) dX3_noteWait_90 rfl rfl ?_
          refine V_iload_n (pc := 93) F dX3_noteWait_93 rfl 4 rfl ?_
          refine V_iload (pc := 94) F dX3_noteWait_94 8 rfl ?_
          obtain ⟨r11, g12, hf⟩ := bind_of hf
          refine V_Sc (rest := [.ref (a 7), .int ((rowAt 8 v1.2.2.1 z3) + r7), .int z6]) (st2 := [.int r11, .ref (a 7), .int ((rowAt 8 v1.2.2.1 z3) + r7), .int z6]) (pc := 96) F (M_X3_cell l D cy N z2 z7 r11 g12) (va_cwS 2 F.ts gX3_noteWait_X3_cell rfl rfl rfl hd_X3_cell ⟨Nat.le_of_ble_eq_true rfl, Nat.le_of_ble_eq_true rfl⟩) rfl dX3_noteWait_96 (Nat.le_of_ble_eq_true rfl) (Nat.zero_le _) (Nat.zero_le _) rfl rfl ?_
          refine V_V (w2 := wX3 cy a v ++ wX2 cy a1 v1) (rest := [.int ((rowAt 8 v1.2.2.1 z3) + r7), .int z6]) (st2 := [.int (rowAt 48 v.2.2.2.1 r11), .int ((rowAt 8 v1.2.2.1 z3) + r7), .int z6]) (pc := 99) F 5 (R_at l D cy (fun i => a (i + 7)) 48 v.2.2.2.1 r11 (by decide)) (cwV 1 F.ts gX3_noteWait_X5_at rfl rfl rfl hd_X5_at ⟨Nat.le_of_ble_eq_true rfl, Nat.le_of_ble_eq_true rfl⟩) rfl dX3_noteWait_99 (Fit.left (Fit.right (Fit.right (Fit.right (Fit.right (Fit.left Fit.whole)))))) rfl rfl rfl (Nat.le_of_ble_eq_true rfl) (Nat.zero_le _) (Nat.zero_le _) rfl rfl rfl ?_
          refine V_iadd (pc := 102) F dX3_noteWait_102 ?_
          refine V_mmin (pc := 103) F (mm 10 rfl) (mm 11 rfl) (mm 7 rfl) (mm 12 rfl) dX3_noteWait_103 (Nat.le_of_ble_eq_true rfl) (Nat.le_of_ble_eq_true rfl) (Nat.zero_le _) (Nat.zero_le _) ?_
          refine V_istore (L2 := [(6, .int (imin z6 (((rowAt 8 v1.2.2.1 z3) + r7) + (rowAt 48 v.2.2.2.1 r11)))), (5, .int (imax z5 (((rowAt 8 v1.2.2.1 z3) + r7) + (rowAt 48 v.2.2.1 r9)))), (8, .int ((rowAt 8 v1.2.2.1 z3) + r7)), (0, .ref (a 0)), (1, .ref (a1 0)), (2, .int z2), (3, .int z3), (4, .int z4), (7, .int z7)]) (pc := 106) F dX3_noteWait_106 (by decide) rfl ?_
          refine V_iinc (v := (z7 + 1)) (L2 := [(7, .int (z7 + 1)), (6, .int (imin z6 (((rowAt 8 v1.2.2.1 z3) + r7) + (rowAt 48 v.2.2.2.1 r11)))), (5, .int (imax z5 (((rowAt 8 v1.2.2.1 z3) + r7) + (rowAt 48 v.2.2.1 r9)))), (8, .int ((rowAt 8 v1.2.2.1 z3) + r7)), (0, .ref (a 0)), (1, .ref (a1 0)), (2, .int z2), (3, .int z3), (4, .int z4)]) (pc := 108) F dX3_noteWait_108 8 rfl rfl (by decide) rfl ?_
          refine V_goto (pc := 111) (tgt := 25) F dX3_noteWait_111 (by decide) ?_
          refine V.sub [4, 5, 6, 7, 8, 2, 1, 0] rfl ?_
          exact ih v v1 z2 z3 z4 (imax z5 (((rowAt 8 v1.2.2.1 z3) + r7) + (rowAt 48 v.2.2.1 r9))) (imin z6 (((rowAt 8 v1.2.2.1 z3) + r7) + (rowAt 48 v.2.2.2.1 r11))) (z7 + 1) _ hf hk
  unfold fX3_noteWait at hf
  refine V.eq rfl (show lv_args 0 [.ref (a 0), .ref (a1 0), .int x2, .int x3] = [(0, .ref (a 0)), (1, .ref (a1 0)), (2, .int x2), (3, .int x3)] from rfl) rfl ?_
  refine V_aload_n (pc := 0) F dX3_noteWait_0 rfl 0 rfl ?_
  refine V_get (pc := 1) F 0 3 1 i_X3 rfl (by decide) rfl (mm 1 rfl) dX3_noteWait_1 rfl rfl ?_
  refine V_iload_n (pc := 4) F dX3_noteWait_4 rfl 2 rfl ?_
  refine V_iload_n (pc := 5) F dX3_noteWait_5 rfl 3 rfl ?_
  obtain ⟨r1, g2, hf⟩ := bind_of hf
  refine V_Sc (rest := [.ref (a 3)]) (st2 := [.int r1, .ref (a 3)]) (pc := 6) F (M_X3_cell l D cy N x2 x3 r1 g2) (va_cwS 2 F.ts gX3_noteWait_X3_cell rfl rfl rfl hd_X3_cell ⟨Nat.le_of_ble_eq_true rfl, Nat.le_of_ble_eq_true rfl⟩) rfl dX3_noteWait_6 (Nat.le_of_ble_eq_true rfl) (Nat.zero_le _) (Nat.zero_le _) rfl rfl ?_
  refine V_V (w2 := wX3 cy a v ++ wX2 cy a1 v1) (rest := []) (st2 := [.int (rowAt 48 v.2.1 r1)]) (pc := 9) F 5 (R_at l D cy (fun i => a (i + 3)) 48 v.2.1 r1 (by decide)) (cwV 1 F.ts gX3_noteWait_X5_at rfl rfl rfl hd_X5_at ⟨Nat.le_of_ble_eq_true rfl, Nat.le_of_ble_eq_true rfl⟩) rfl dX3_noteWait_9 (Fit.left (Fit.right (Fit.right (Fit.left Fit.whole)))) rfl rfl rfl (Nat.le_of_ble_eq_true rfl) (Nat.zero_le _) (Nat.zero_le _) rfl rfl rfl ?_
  refine V_istore (L2 := [(4, .int (rowAt 48 v.2.1 r1)), (0, .ref (a 0)), (1, .ref (a1 0)), (2, .int x2), (3, .int x3)]) (pc := 12) F dX3_noteWait_12 (by decide) rfl ?_
  refine V_iconst (v := 0) (pc := 14) F dX3_noteWait_14 (by decide) ?_
  refine V_istore (L2 := [(5, .int 0), (4, .int (rowAt 48 v.2.1 r1)), (0, .ref (a 0)), (1, .ref (a1 0)), (2, .int x2), (3, .int x3)]) (pc := 15) F dX3_noteWait_15 (by decide) rfl ?_
  refine V_sipush (v := 1000) (pc := 17) F dX3_noteWait_17 (by decide) ?_
  refine V_istore (L2 := [(6, .int 1000), (5, .int 0), (4, .int (rowAt 48 v.2.1 r1)), (0, .ref (a 0)), (1, .ref (a1 0)), (2, .int x2), (3, .int x3)]) (pc := 20) F dX3_noteWait_20 (by decide) rfl ?_
  refine V_iconst (v := 0) (pc := 22) F dX3_noteWait_22 (by decide) ?_
  refine V_istore (L2 := [(7, .int 0), (6, .int 1000), (5, .int 0), (4, .int (rowAt 48 v.2.1 r1)), (0, .ref (a 0)), (1, .ref (a1 0)), (2, .int x2), (3, .int x3)]) (pc := 23) F dX3_noteWait_23 (by decide) rfl ?_
  refine V.sub [4, 5, 6, 7, 3, 2, 1, 0] rfl ?_
  obtain ⟨u13, g14, hf⟩ := bind_of hf
  refine K25 N v v1 x2 x3 (rowAt 48 v.2.1 r1) 0 1000 0 u13 g14 ?_
  refine V_aload_n (pc := 114) F dX3_noteWait_114 rfl 0 rfl ?_
  refine V_get (pc := 115) F 0 3 2 i_X3 rfl (by decide) rfl (mm 4 rfl) dX3_noteWait_115 rfl rfl ?_
  refine V_iload_n (pc := 118) F dX3_noteWait_118 rfl 1 rfl ?_
  refine V_iload_n (pc := 119) F dX3_noteWait_119 rfl 2 rfl ?_
  obtain ⟨r15, g16, hf⟩ := bind_of hf
  refine V_Sc (rest := [.ref (a 5)]) (st2 := [.int r15, .ref (a 5)]) (pc := 120) F (M_X3_cell l D cy N x2 x3 r15 g16) (va_cwS 2 F.ts gX3_noteWait_X3_cell rfl rfl rfl hd_X3_cell ⟨Nat.le_of_ble_eq_true rfl, Nat.le_of_ble_eq_true rfl⟩) rfl dX3_noteWait_120 (Nat.le_of_ble_eq_true rfl) (Nat.zero_le _) (Nat.zero_le _) rfl rfl ?_
  refine V_iload (pc := 123) F dX3_noteWait_123 3 rfl ?_
  refine V_V (w2 := wX3 cy a (v.1, v.2.1, (rowPut 48 v.2.2.1 r15 u13.1), v.2.2.2) ++ wX2 cy a1 v1) (rest := []) (st2 := []) (pc := 125) F 5 (R_put l D cy (fun i => a (i + 5)) 48 v.2.2.1 r15 u13.1 (by decide)) (cwV 2 F.ts gX3_noteWait_X5_put rfl rfl rfl hd_X5_put ⟨Nat.le_of_ble_eq_true rfl, Nat.le_of_ble_eq_true rfl⟩) rfl dX3_noteWait_125 (Fit.left (Fit.right (Fit.right (Fit.right (Fit.left Fit.whole))))) fstX5 rfl rfl (Nat.le_of_ble_eq_true rfl) (Nat.zero_le _) (Nat.zero_le _) rfl rfl rfl ?_
  refine V_aload_n (pc := 128) F dX3_noteWait_128 rfl 0 rfl ?_
  refine V_get (pc := 129) F 0 3 3 i_X3 rfl (by decide) rfl (mm 9 rfl) dX3_noteWait_129 rfl rfl ?_
  refine V_iload_n (pc := 132) F dX3_noteWait_132 rfl 1 rfl ?_
  refine V_iload_n (pc := 133) F dX3_noteWait_133 rfl 2 rfl ?_
  obtain ⟨r17, g18, hf⟩ := bind_of hf
  refine V_Sc (rest := [.ref (a 7)]) (st2 := [.int r17, .ref (a 7)]) (pc := 134) F (M_X3_cell l D cy N x2 x3 r17 g18) (va_cwS 2 F.ts gX3_noteWait_X3_cell rfl rfl rfl hd_X3_cell ⟨Nat.le_of_ble_eq_true rfl, Nat.le_of_ble_eq_true rfl⟩) rfl dX3_noteWait_134 (Nat.le_of_ble_eq_true rfl) (Nat.zero_le _) (Nat.zero_le _) rfl rfl ?_
  refine V_iload (pc := 137) F dX3_noteWait_137 4 rfl ?_
  refine V_V (w2 := wX3 cy a (v.1, v.2.1, (rowPut 48 v.2.2.1 r15 u13.1), (rowPut 48 v.2.2.2.1 r17 u13.2), v.2.2.2.2) ++ wX2 cy a1 v1) (rest := []) (st2 := []) (pc := 139) F 5 (R_put l D cy (fun i => a (i + 7)) 48 v.2.2.2.1 r17 u13.2 (by decide)) (cwV 2 F.ts gX3_noteWait_X5_put rfl rfl rfl hd_X5_put ⟨Nat.le_of_ble_eq_true rfl, Nat.le_of_ble_eq_true rfl⟩) rfl dX3_noteWait_139 (Fit.left (Fit.right (Fit.right (Fit.right (Fit.right (Fit.left Fit.whole)))))) fstX5 rfl rfl (Nat.le_of_ble_eq_true rfl) (Nat.zero_le _) (Nat.zero_le _) rfl rfl rfl ?_
  obtain rfl := some_of hf
  exact V_vret F rfl dX3_noteWait_142 rfl
theorem hd_X3_noteWaits : yX3_noteWaits.cls = RX3 ∧ yX3_noteWaits.cls ≠ "java/lang/invoke/MethodHandle" ∧ yX3_noteWaits.cls ≠ "java/lang/invoke/VarHandle" ∧ (parseMethodDescriptor yX3_noteWaits.desc).map (fun d => d.parameters.length) = some 2 := by decide +kernel
def fX3_noteWaits_L9 (N : Nat) (v1 : SX2) (z2 : Int32) (z3 : Int32) : Nat → SX3 → Int32 → Option (SX3)
  | 0, _, _ => none
  | n + 1, v, z4 =>
    if v1.2.2.2.2.2.2.1 ≤ z4 then
      some v
    else
      (fX3_cell N z2 z4).bind fun r4 =>
        (fX3_cell N z2 z4).bind fun r6 =>
          (fX7_has N z3 z4).bind fun r8 =>
            if r8 = 0 then
              fX3_noteWaits_L9 N v1 z2 z3 n (v.1, v.2.1, (rowPut 48 v.2.2.1 r4 0), (rowPut 48 v.2.2.2.1 r6 1000), v.2.2.2.2) (z4 + 1)
            else
              fX3_noteWaits_L9 N v1 z2 z3 n (v.1, v.2.1, (rowPut 48 v.2.2.1 r4 0), (rowPut 48 v.2.2.2.1 r6 0), v.2.2.2.2) (z4 + 1)
def fX3_noteWaits_L82 (N : Nat) (v1 : SX2) (z2 : Int32) (z3 : Int32) (z4 : Int32) : Nat → SX3 → Int32 → Option (SX3)
  | 0, _, _ => none
  | n + 1, v, z5 =>
    if v1.2.2.2.2.2.2.1 ≤ z5 then
      some v
    else
      (fX7_has N z3 z5).bind fun r15 =>
        if r15 = 0 then
          (fX3_noteWait N v v1 z2 z5).bind fun r18 =>
            fX3_noteWaits_L82 N v1 z2 z3 z4 n r18 (z5 + 1)
        else
          fX3_noteWaits_L82 N v1 z2 z3 z4 n v (z5 + 1)
def fX3_noteWaits_L70 (N : Nat) (v1 : SX2) (z2 : Int32) (z3 : Int32) : Nat → SX3 → Int32 → Option (SX3)
  | 0, _, _ => none
  | n + 1, v, z4 =>
    if v1.2.2.2.2.2.2.1 ≤ z4 then
      some v
    else
      (fX3_noteWaits_L82 N v1 z2 z3 z4 N v 0).bind fun u20 =>
        fX3_noteWaits_L70 N v1 z2 z3 n u20 (z4 + 1)
def fX3_noteWaits (N : Nat) (v : SX3) (v1 : SX2) (x2 : Int32) : Option (SX3) :=
  (fX2_phasesWith N v1 x2).bind fun r1 =>
    (fX3_noteWaits_L9 N v1 x2 r1 N v 0).bind fun u11 =>
      (fX3_noteWaits_L70 N v1 x2 r1 N u11 0).bind fun u22 =>
        some u22
set_option maxHeartbeats 8000000 in
set_option maxRecDepth 100000 in
theorem M_X3_noteWaits (l : Launch) (D : va_G) (cy : Nat → ClassId) (N : Nat) (a : Nat → Nat) (a1 : Nat → Nat) (v : SX3) (v1 : SX2) (x2 : Int32) (o : SX3) (hf : fX3_noteWaits N v v1 x2 = some o) : okM l yX3_noteWaits wsX3_noteWaits (rmz 3 71) D cy [.ref (a 0), .ref (a1 0), .int x2] (wX3 cy a v ++ wX2 cy a1 v1) (wX3 cy a o ++ wX2 cy a1 v1) none := by
  refine okM_of (own := RX3) (nme := "noteWaits") (cc := cX3_noteWaits) (maxL := 6) (ret := none) (by decide) rfl rfl rfl (Nat.le_of_ble_eq_true rfl) ?_
  intro p e s m args below meth c A F
  have i_X2 : ∀ w ∈ u_ws RX2 TX2 8, w ∈ wsX3_noteWaits := fun _ h => List.mem_cons_of_mem _ (List.mem_append_left _ (List.mem_append_left _ (List.mem_append_right _ h)))
  have i_X3 : ∀ w ∈ u_ws RX3 TX3 6, w ∈ wsX3_noteWaits := fun _ h => List.mem_cons_of_mem _ (List.mem_append_left _ (List.mem_append_right _ h))
  have K9 : ∀ (n : Nat) (v1 : SX2) (z2 : Int32) (z3 : Int32) (v : SX3) (z4 : Int32) (u : SX3), fX3_noteWaits_L9 N v1 z2 z3 n v z4 = some u → V p l e (rmz 3 71) s m args below meth c 6 D A 0 0 (MQ below (ok_Q D (wX3 cy a o ++ wX2 cy a1 v1) none A) args s 0 0 A) (wX3 cy a u ++ wX2 cy a1 v1) [(0, .ref (a 0)), (1, .ref (a1 0)), (2, .int z2), (3, .int z3)] [] 67 → V p l e (rmz 3 71) s m args below meth c 6 D A 0 0 (MQ below (ok_Q D (wX3 cy a o ++ wX2 cy a1 v1) none A) args s 0 0 A) (wX3 cy a v ++ wX2 cy a1 v1) [(0, .ref (a 0)), (1, .ref (a1 0)), (2, .int z2), (3, .int z3), (4, .int z4)] [] 9 := by
    intro n
    induction n with
    | zero =>
      intro v1 z2 z3 v z4 u hf hk
      exact nomatch (show (none : Option (SX3)) = some u from hf)
    | succ n ih =>
      intro v1 z2 z3 v z4 u hf hk
      rw [fX3_noteWaits_L9] at hf
      refine V_iload (pc := 9) F dX3_noteWaits_9 4 rfl ?_
      refine V_aload_n (pc := 11) F dX3_noteWaits_11 rfl 1 rfl ?_
      refine V_get (pc := 12) F 11 2 6 i_X2 rfl (by decide) rfl (mm 1 rfl) dX3_noteWaits_12 rfl rfl ?_
      refine V_icmp_ge (pc := 15) (tgt := 67) F dX3_noteWaits_15 (by decide) (fun h3 => ?_) (fun h3 => ?_)
      · replace hf := ite_pos hf h3
        obtain rfl := some_of hf
        exact V.sub [0, 1, 2, 3] rfl hk
      · replace hf := ite_neg hf h3
        refine V_aload_n (pc := 18) F dX3_noteWaits_18 rfl 0 rfl ?_
        refine V_get (pc := 19) F 0 3 2 i_X3 rfl (by decide) rfl (mm 2 rfl) dX3_noteWaits_19 rfl rfl ?_
        refine V_iload_n (pc := 22) F dX3_noteWaits_22 rfl 2 rfl ?_
        refine V_iload (pc := 23) F dX3_noteWaits_23 4 rfl ?_
        obtain ⟨r4, g5, hf⟩ := bind_of hf
        refine V_Sc (rest := [.ref (a 5)]) (st2 := [.int r4, .ref (a 5)]) (pc := 25) F (M_X3_cell l D cy N z2 z4 r4 g5) (va_cwS 2 F.ts gX3_noteWaits_X3_cell rfl rfl rfl hd_X3_cell ⟨Nat.le_of_ble_eq_true rfl, Nat.le_of_ble_eq_true rfl⟩) rfl dX3_noteWaits_25 (Nat.le_of_ble_eq_true rfl) (Nat.zero_le _) (Nat.zero_le _) rfl rfl ?_
        refine V_iconst (v := 0) (pc := 28) F dX3_noteWaits_28 (by decide) ?_
        refine V_V (w2 := wX3 cy a (v.1, v.2.1, (rowPut 48 v.2.2.1 r4 0), v.2.2.2) ++ wX2 cy a1 v1) (rest := []) (st2 := []) (pc := 29) F 5 (R_put l D cy (fun i => a (i + 5)) 48 v.2.2.1 r4 0 (by decide)) (cwV 2 F.ts gX3_noteWaits_X5_put rfl rfl rfl hd_X5_put ⟨Nat.le_of_ble_eq_true rfl, Nat.le_of_ble_eq_true rfl⟩) rfl dX3_noteWaits_29 (Fit.left (Fit.right (Fit.right (Fit.right (Fit.left Fit.whole))))) fstX5 rfl rfl (Nat.le_of_ble_eq_true rfl) (Nat.zero_le _) (Nat.zero_le _) rfl rfl rfl ?_
        refine V_aload_n (pc := 32) F dX3_noteWaits_32 rfl 0 rfl ?_
        refine V_get (pc := 33) F 0 3 3 i_X3 rfl (by decide) rfl (mm 3 rfl) dX3_noteWaits_33 rfl rfl ?_
        refine V_iload_n (pc := 36) F dX3_noteWaits_36 rfl 2 rfl ?_
        refine V_iload (pc := 37) F dX3_noteWaits_37 4 rfl ?_
        obtain ⟨r6, g7, hf⟩ := bind_of hf
        refine V_Sc (rest := [.ref (a 7)]) (st2 := [.int r6, .ref (a 7)]) (pc := 39) F (M_X3_cell l D cy N z2 z4 r6 g7) (va_cwS 2 F.ts gX3_noteWaits_X3_cell rfl rfl rfl hd_X3_cell ⟨Nat.le_of_ble_eq_true rfl, Nat.le_of_ble_eq_true rfl⟩) rfl dX3_noteWaits_39 (Nat.le_of_ble_eq_true rfl) (Nat.zero_le _) (Nat.zero_le _) rfl rfl ?_
        refine V_iload_n (pc := 42) F dX3_noteWaits_42 rfl 3 rfl ?_
        refine V_iload (pc := 43) F dX3_noteWaits_43 4 rfl ?_
        obtain ⟨r8, g9, hf⟩ := bind_of hf
        refine V_SN (rest := [.int r6, .ref (a 7)]) (st2 := [.int r8, .int r6, .ref (a 7)]) (pc := 45) F (M_X7_has l D cy N z3 z4 r8 g9) ⟨va_cnB 2 F.ts gX3_noteWaits_X7_has_n73 rfl rfl rfl F.nest.1 (F.ts _ (mm 18 rfl)) hd_X7_has ⟨Nat.le_of_ble_eq_true rfl, Nat.le_of_ble_eq_true rfl⟩, F.ts _ (mm 17 rfl), trivial⟩ rfl dX3_noteWaits_45 (Nat.le_of_ble_eq_true rfl) (Nat.zero_le _) (Nat.zero_le _) rfl rfl ?_
        refine V_if_eq (pc := 48) (tgt := 55) F dX3_noteWaits_48 (by decide) (fun h10 => ?_) (fun h10 => ?_)
        · replace hf := ite_pos hf h10
          refine V_sipush (v := 1000) (pc := 55) F dX3_noteWaits_55 (by decide) ?_
          refine V_V (w2 := wX3 cy a (v.1, v.2.1, (rowPut 48 v.2.2.1 r4 0), (rowPut 48 v.2.2.2.1 r6 1000), v.2.2.2.2) ++ wX2 cy a1 v1) (rest := []) (st2 := []) (pc := 58) F 5 (R_put l D cy (fun i => a (i + 7)) 48 v.2.2.2.1 r6 1000 (by decide)) (cwV 2 F.ts gX3_noteWaits_X5_put rfl rfl rfl hd_X5_put ⟨Nat.le_of_ble_eq_true rfl, Nat.le_of_ble_eq_true rfl⟩) rfl dX3_noteWaits_58 (Fit.left (Fit.right (Fit.right (Fit.right (Fit.right (Fit.left Fit.whole)))))) fstX5 rfl rfl (Nat.le_of_ble_eq_true rfl) (Nat.zero_le _) (Nat.zero_le _) rfl rfl rfl ?_
          refine V_iinc (v := (z4 + 1)) (L2 := [(4, .int (z4 + 1)), (0, .ref (a 0)), (1, .ref (a1 0)), (2, .int z2), (3, .int z3)]) (pc := 61) F dX3_noteWaits_61 4 rfl rfl (by decide) rfl ?_
          refine V_goto (pc := 64) (tgt := 9) F dX3_noteWaits_64 (by decide) ?_
          refine V.sub [1, 2, 3, 4, 0] rfl ?_
          exact ih v1 z2 z3 (v.1, v.2.1, (rowPut 48 v.2.2.1 r4 0), (rowPut 48 v.2.2.2.1 r6 1000), v.2.2.2.2) (z4 + 1) _ hf hk
        · replace hf := ite_neg hf h10
          refine V_iconst (v := 0) (pc := 51) F dX3_noteWaits_51 (by decide) ?_
          refine V_goto (pc := 52) (tgt := 58) F dX3_noteWaits_52 (by decide) ?_
          refine V_V (w2 := wX3 cy a (v.1, v.2.1, (rowPut 48 v.2.2.1 r4 0), (rowPut 48 v.2.2.2.1 r6 0), v.2.2.2.2) ++ wX2 cy a1 v1) (rest := []) (st2 := []) (pc := 58) F 5 (R_put l D cy (fun i => a (i + 7)) 48 v.2.2.2.1 r6 0 (by decide)) (cwV 2 F.ts gX3_noteWaits_X5_put rfl rfl rfl hd_X5_put ⟨Nat.le_of_ble_eq_true rfl, Nat.le_of_ble_eq_true rfl⟩) rfl dX3_noteWaits_58 (Fit.left (Fit.right (Fit.right (Fit.right (Fit.right (Fit.left Fit.whole)))))) fstX5 rfl rfl (Nat.le_of_ble_eq_true rfl) (Nat.zero_le _) (Nat.zero_le _) rfl rfl rfl ?_
          refine V_iinc (v := (z4 + 1)) (L2 := [(4, .int (z4 + 1)), (0, .ref (a 0)), (1, .ref (a1 0)), (2, .int z2), (3, .int z3)]) (pc := 61) F dX3_noteWaits_61 4 rfl rfl (by decide) rfl ?_
          refine V_goto (pc := 64) (tgt := 9) F dX3_noteWaits_64 (by decide) ?_
          refine V.sub [1, 2, 3, 4, 0] rfl ?_
          exact ih v1 z2 z3 (v.1, v.2.1, (rowPut 48 v.2.2.1 r4 0), (rowPut 48 v.2.2.2.1 r6 0), v.2.2.2.2) (z4 + 1) _ hf hk
  have K82 : ∀ (n : Nat) (v1 : SX2) (z2 : Int32) (z3 : Int32) (z4 : Int32) (v : SX3) (z5 : Int32) (u : SX3), fX3_noteWaits_L82 N v1 z2 z3 z4 n v z5 = some u → V p l e (rmz 3 71) s m args below meth c 6 D A 0 0 (MQ below (ok_Q D (wX3 cy a o ++ wX2 cy a1 v1) none A) args s 0 0 A) (wX3 cy a u ++ wX2 cy a1 v1) [(0, .ref (a 0)), (1, .ref (a1 0)), (2, .int z2), (3, .int z3), (4, .int z4)] [] 114 → V p l e (rmz 3 71) s m args below meth c 6 D A 0 0 (MQ below (ok_Q D (wX3 cy a o ++ wX2 cy a1 v1) none A) args s 0 0 A) (wX3 cy a v ++ wX2 cy a1 v1) [(0, .ref (a 0)), (1, .ref (a1 0)), (2, .int z2), (3, .int z3), (4, .int z4), (5, .int z5)] [] 82 := by
    intro n
    induction n with
    | zero =>
      intro v1 z2 z3 z4 v z5 u hf hk
      exact nomatch (show (none : Option (SX3)) = some u from hf)
    | succ n ih =>
      intro v1 z2 z3 z4 v z5 u hf hk
      rw [fX3_noteWaits_L82] at hf
      refine V_iload (pc := 82) F dX3_noteWaits_82 5 rfl ?_
      refine V_aload_n (pc := 84) F dX3_noteWaits_84 rfl 1 rfl ?_
      refine V_get (pc := 85) F 11 2 6 i_X2 rfl (by decide) rfl (mm 1 rfl) dX3_noteWaits_85 rfl rfl ?_
      refine V_icmp_ge (pc := 88) (tgt := 114) F dX3_noteWaits_88 (by decide) (fun h14 => ?_) (fun h14 => ?_)
      · replace hf := ite_pos hf h14
        obtain rfl := some_of hf
        exact V.sub [0, 1, 2, 3, 4] rfl hk
      · replace hf := ite_neg hf h14
        refine V_iload_n (pc := 91) F dX3_noteWaits_91 rfl 3 rfl ?_
        refine V_iload (pc := 92) F dX3_noteWaits_92 5 rfl ?_
        obtain ⟨r15, g16, hf⟩ := bind_of hf
        refine V_SN (rest := []) (st2 := [.int r15]) (pc := 94) F (M_X7_has l D cy N z3 z5 r15 g16) ⟨va_cnB 2 F.ts gX3_noteWaits_X7_has_n73 rfl rfl rfl F.nest.1 (F.ts _ (mm 18 rfl)) hd_X7_has ⟨Nat.le_of_ble_eq_true rfl, Nat.le_of_ble_eq_true rfl⟩, F.ts _ (mm 17 rfl), trivial⟩ rfl dX3_noteWaits_94 (Nat.le_of_ble_eq_true rfl) (Nat.zero_le _) (Nat.zero_le _) rfl rfl ?_
        refine V_if_ne (pc := 97) (tgt := 108) F dX3_noteWaits_97 (by decide) (fun h17 => ?_) (fun h17 => ?_)
        · replace hf := ite_neg hf h17
          refine V_iinc (v := (z5 + 1)) (L2 := [(5, .int (z5 + 1)), (0, .ref (a 0)), (1, .ref (a1 0)), (2, .int z2), (3, .int z3), (4, .int z4)]) (pc := 108) F dX3_noteWaits_108 5 rfl rfl (by decide) rfl ?_
          refine V_goto (pc := 111) (tgt := 82) F dX3_noteWaits_111 (by decide) ?_
          refine V.sub [1, 2, 3, 4, 5, 0] rfl ?_
          exact ih v1 z2 z3 z4 v (z5 + 1) _ hf hk
        · replace hf := ite_pos hf h17
          refine V_aload_n (pc := 100) F dX3_noteWaits_100 rfl 0 rfl ?_
          refine V_aload_n (pc := 101) F dX3_noteWaits_101 rfl 1 rfl ?_
          refine V_iload_n (pc := 102) F dX3_noteWaits_102 rfl 2 rfl ?_
          refine V_iload (pc := 103) F dX3_noteWaits_103 5 rfl ?_
          obtain ⟨r18, g19, hf⟩ := bind_of hf
          refine V_V2 (w2 := wX3 cy a r18 ++ wX2 cy a1 v1) (rest := []) (st2 := []) (pc := 105) F 3 (M_X3_noteWait l D cy N a a1 v v1 z2 z5 r18 g19) (cwV 3 F.ts gX3_noteWaits_X3_noteWait rfl rfl rfl hd_X3_noteWait ⟨Nat.le_of_ble_eq_true rfl, Nat.le_of_ble_eq_true rfl⟩) rfl dX3_noteWaits_105 (Fit2.both Fit.whole Fit.whole) fstX3 rfl rfl rfl (Nat.le_of_ble_eq_true rfl) (Nat.zero_le _) (Nat.zero_le _) rfl rfl rfl ?_
          refine V_iinc (v := (z5 + 1)) (L2 := [(5, .int (z5 + 1)), (0, .ref (a 0)), (1, .ref (a1 0)), (2, .int z2), (3, .int z3), (4, .int z4)]) (pc := 108) F dX3_noteWaits_108 5 rfl rfl (by decide) rfl ?_
          refine V_goto (pc := 111) (tgt := 82) F dX3_noteWaits_111 (by decide) ?_
          refine V.sub [1, 2, 3, 4, 5, 0] rfl ?_
          exact ih v1 z2 z3 z4 r18 (z5 + 1) _ hf hk
  have K70 : ∀ (n : Nat) (v1 : SX2) (z2 : Int32) (z3 : Int32) (v : SX3) (z4 : Int32) (u : SX3), fX3_noteWaits_L70 N v1 z2 z3 n v z4 = some u → V p l e (rmz 3 71) s m args below meth c 6 D A 0 0 (MQ below (ok_Q D (wX3 cy a o ++ wX2 cy a1 v1) none A) args s 0 0 A) (wX3 cy a u ++ wX2 cy a1 v1) [] [] 120 → V p l e (rmz 3 71) s m args below meth c 6 D A 0 0 (MQ below (ok_Q D (wX3 cy a o ++ wX2 cy a1 v1) none A) args s 0 0 A) (wX3 cy a v ++ wX2 cy a1 v1) [(0, .ref (a 0)), (1, .ref (a1 0)), (2, .int z2), (3, .int z3), (4, .int z4)] [] 70 := by
    intro n
    induction n with
    | zero =>
      intro v1 z2 z3 v z4 u hf hk
      exact nomatch (show (none : Option (SX3)) = some u from hf)
    | succ n ih =>
      intro v1 z2 z3 v z4 u hf hk
      rw [fX3_noteWaits_L70] at hf
      refine V_iload (pc := 70) F dX3_noteWaits_70 4 rfl ?_
      refine V_aload_n (pc := 72) F dX3_noteWaits_72 rfl 1 rfl ?_
      refine V_get (pc := 73) F 11 2 6 i_X2 rfl (by decide) rfl (mm 1 rfl) dX3_noteWaits_73 rfl rfl ?_
      refine V_icmp_ge (pc := 76) (tgt := 120) F dX3_noteWaits_76 (by decide) (fun h13 => ?_) (fun h13 => ?_)
      · replace hf := ite_pos hf h13
        obtain rfl := some_of hf
        exact V.sub [] rfl hk
      · replace hf := ite_neg hf h13
        refine V_iconst (v := 0) (pc := 79) F dX3_noteWaits_79 (by decide) ?_
        refine V_istore (L2 := [(5, .int 0), (0, .ref (a 0)), (1, .ref (a1 0)), (2, .int z2), (3, .int z3), (4, .int z4)]) (pc := 80) F dX3_noteWaits_80 (by decide) rfl ?_
        refine V.sub [1, 2, 3, 4, 5, 0] rfl ?_
        obtain ⟨u20, g21, hf⟩ := bind_of hf
        refine K82 N v1 z2 z3 z4 v 0 u20 g21 ?_
        refine V_iinc (v := (z4 + 1)) (L2 := [(4, .int (z4 + 1)), (0, .ref (a 0)), (1, .ref (a1 0)), (2, .int z2), (3, .int z3)]) (pc := 114) F dX3_noteWaits_114 4 rfl rfl (by decide) rfl ?_
        refine V_goto (pc := 117) (tgt := 70) F dX3_noteWaits_117 (by decide) ?_
        refine V.sub [1, 2, 3, 4, 0] rfl ?_
        exact ih v1 z2 z3 u20 (z4 + 1) _ hf hk
  unfold fX3_noteWaits at hf
  refine V.eq rfl (show lv_args 0 [.ref (a 0), .ref (a1 0), .int x2] = [(0, .ref (a 0)), (1, .ref (a1 0)), (2, .int x2)] from rfl) rfl ?_
  refine V_aload_n (pc := 0) F dX3_noteWaits_0 rfl 1 rfl ?_
  refine V_iload_n (pc := 1) F dX3_noteWaits_1 rfl 2 rfl ?_
  obtain ⟨r1, g2, hf⟩ := bind_of hf
  refine V_V (w2 := wX3 cy a v ++ wX2 cy a1 v1) (rest := []) (st2 := [.int r1]) (pc := 2) F 2 (M_X2_phasesWith l D cy N a1 v1 x2 r1 g2) (cwV 1 F.ts gX3_noteWaits_X2_phasesWith rfl rfl rfl hd_X2_phasesWith ⟨Nat.le_of_ble_eq_true rfl, Nat.le_of_ble_eq_true rfl⟩) rfl dX3_noteWaits_2 (Fit.right Fit.whole) rfl rfl rfl (Nat.le_of_ble_eq_true rfl) (Nat.zero_le _) (Nat.zero_le _) rfl rfl rfl ?_
  refine V_istore_n (L2 := [(3, .int r1), (0, .ref (a 0)), (1, .ref (a1 0)), (2, .int x2)]) (pc := 5) F dX3_noteWaits_5 rfl (by decide) rfl ?_
  refine V_iconst (v := 0) (pc := 6) F dX3_noteWaits_6 (by decide) ?_
  refine V_istore (L2 := [(4, .int 0), (3, .int r1), (0, .ref (a 0)), (1, .ref (a1 0)), (2, .int x2)]) (pc := 7) F dX3_noteWaits_7 (by decide) rfl ?_
  refine V.sub [2, 3, 4, 1, 0] rfl ?_
  obtain ⟨u11, g12, hf⟩ := bind_of hf
  refine K9 N v1 x2 r1 v 0 u11 g12 ?_
  refine V_iconst (v := 0) (pc := 67) F dX3_noteWaits_67 (by decide) ?_
  refine V_istore (L2 := [(4, .int 0), (0, .ref (a 0)), (1, .ref (a1 0)), (2, .int x2), (3, .int r1)]) (pc := 68) F dX3_noteWaits_68 (by decide) rfl ?_
  refine V.sub [1, 2, 3, 4, 0] rfl ?_
  obtain ⟨u22, g23, hf⟩ := bind_of hf
  refine K70 N v1 x2 r1 u11 0 u22 g23 ?_
  obtain rfl := some_of hf
  exact V_vret F rfl dX3_noteWaits_120 rfl
theorem hd_X3_starvesFrom : yX3_starvesFrom.cls = RX3 ∧ yX3_starvesFrom.cls ≠ "java/lang/invoke/MethodHandle" ∧ yX3_starvesFrom.cls ≠ "java/lang/invoke/VarHandle" ∧ (parseMethodDescriptor yX3_starvesFrom.desc).map (fun d => d.parameters.length) = some 2 := by decide +kernel
def fX3_starvesFrom (N : Nat) (v : SX3) (x1 : Int32) (x2 : Int32) : Option (Int32) :=
  (fX7_has N (rowAt 6 v.2.2.2.2.1 x1) x2).bind fun r1 =>
    must (decide (r1 = 0 ∨ r1 = 1)) (
      some r1
    )
set_option maxHeartbeats 8000000 in
set_option maxRecDepth 100000 in
theorem M_X3_starvesFrom (l : Launch) (D : va_G) (cy : Nat → ClassId) (N : Nat) (a : Nat → Nat) (v : SX3) (x1 : Int32) (x2 : Int32) (o : Int32) (hf : fX3_starvesFrom N v x1 x2 = some o) : okM l yX3_starvesFrom wsX3_starvesFrom (rmz 1 21) D cy [.ref (a 0), .int x1, .int x2] (wX3 cy a v) (wX3 cy a v) (some (.int o)) := by
  refine okM_of (own := RX3) (nme := "starvesFrom") (cc := cX3_starvesFrom) (maxL := 3) (ret := (some .boolean)) (by decide) rfl rfl rfl (Nat.le_of_ble_eq_true rfl) ?_
  intro p e s m args below meth c A F
  have i_X3 : ∀ w ∈ u_ws RX3 TX3 6, w ∈ wsX3_starvesFrom := fun _ h => List.mem_cons_of_mem _ (List.mem_append_left _ (List.mem_append_right _ h))
  unfold fX3_starvesFrom at hf
  refine V.eq rfl (show lv_args 0 [.ref (a 0), .int x1, .int x2] = [(0, .ref (a 0)), (1, .int x1), (2, .int x2)] from rfl) rfl ?_
  refine V_aload_n (pc := 0) F dX3_starvesFrom_0 rfl 0 rfl ?_
  refine V_get (pc := 1) F 0 3 4 i_X3 rfl (by decide) rfl (mm 1 rfl) dX3_starvesFrom_1 rfl rfl ?_
  refine V_iload_n (pc := 4) F dX3_starvesFrom_4 rfl 1 rfl ?_
  refine V_V (w2 := wX3 cy a v) (rest := []) (st2 := [.int (rowAt 6 v.2.2.2.2.1 x1)]) (pc := 5) F 5 (R_at l D cy (fun i => a (i + 9)) 6 v.2.2.2.2.1 x1 (by decide)) (cwV 1 F.ts gX3_starvesFrom_X5_at rfl rfl rfl hd_X5_at ⟨Nat.le_of_ble_eq_true rfl, Nat.le_of_ble_eq_true rfl⟩) rfl dX3_starvesFrom_5 (Fit.right (Fit.right (Fit.right (Fit.right (Fit.right Fit.whole))))) rfl rfl rfl (Nat.le_of_ble_eq_true rfl) (Nat.zero_le _) (Nat.zero_le _) rfl rfl rfl ?_
  refine V_iload_n (pc := 8) F dX3_starvesFrom_8 rfl 2 rfl ?_
  obtain ⟨r1, g2, hf⟩ := bind_of hf
  refine V_SN (rest := []) (st2 := [.int r1]) (pc := 9) F (M_X7_has l D cy N (rowAt 6 v.2.2.2.2.1 x1) x2 r1 g2) ⟨va_cnB 2 F.ts gX3_starvesFrom_X7_has_n73 rfl rfl rfl F.nest.1 (F.ts _ (mm 9 rfl)) hd_X7_has ⟨Nat.le_of_ble_eq_true rfl, Nat.le_of_ble_eq_true rfl⟩, F.ts _ (mm 8 rfl), trivial⟩ rfl dX3_starvesFrom_9 (Nat.le_of_ble_eq_true rfl) (Nat.zero_le _) (Nat.zero_le _) rfl rfl ?_
  obtain ⟨c3, hf⟩ := must_some hf
  obtain rfl := some_of hf
  exact V_ret F rfl (nar_bool (of_decide_eq_true c3)) dX3_starvesFrom_12 rfl rfl
theorem hd_X3_canStarve : yX3_canStarve.cls = RX3 ∧ yX3_canStarve.cls ≠ "java/lang/invoke/MethodHandle" ∧ yX3_canStarve.cls ≠ "java/lang/invoke/VarHandle" ∧ (parseMethodDescriptor yX3_canStarve.desc).map (fun d => d.parameters.length) = some 1 := by decide +kernel
def fX3_canStarve (N : Nat) (v : SX3) (x1 : Int32) : Option (Int32) :=
  if ((rowAt 6 v.2.2.2.2.1 x1) &&& v.2.2.2.2.2) = 0 then
    some 0
  else
    some 1
set_option maxHeartbeats 8000000 in
set_option maxRecDepth 100000 in
theorem M_X3_canStarve (l : Launch) (D : va_G) (cy : Nat → ClassId) (N : Nat) (a : Nat → Nat) (v : SX3) (x1 : Int32) (o : Int32) (hf : fX3_canStarve N v x1 = some o) : okM l yX3_canStarve wsX3_canStarve (rmz 1 21) D cy [.ref (a 0), .int x1] (wX3 cy a v) (wX3 cy a v) (some (.int o)) := by
  refine okM_of (own := RX3) (nme := "canStarve") (cc := cX3_canStarve) (maxL := 2) (ret := (some .boolean)) (by decide) rfl rfl rfl (Nat.le_of_ble_eq_true rfl) ?_
  intro p e s m args below meth c A F
  have i_X3 : ∀ w ∈ u_ws RX3 TX3 6, w ∈ wsX3_canStarve := fun _ h => List.mem_cons_of_mem _ (List.mem_append_left _ (List.mem_append_right _ h))
  unfold fX3_canStarve at hf
  refine V.eq rfl (show lv_args 0 [.ref (a 0), .int x1] = [(0, .ref (a 0)), (1, .int x1)] from rfl) rfl ?_
  refine V_aload_n (pc := 0) F dX3_canStarve_0 rfl 0 rfl ?_
  refine V_get (pc := 1) F 0 3 4 i_X3 rfl (by decide) rfl (mm 1 rfl) dX3_canStarve_1 rfl rfl ?_
  refine V_iload_n (pc := 4) F dX3_canStarve_4 rfl 1 rfl ?_
  refine V_V (w2 := wX3 cy a v) (rest := []) (st2 := [.int (rowAt 6 v.2.2.2.2.1 x1)]) (pc := 5) F 5 (R_at l D cy (fun i => a (i + 9)) 6 v.2.2.2.2.1 x1 (by decide)) (cwV 1 F.ts gX3_canStarve_X5_at rfl rfl rfl hd_X5_at ⟨Nat.le_of_ble_eq_true rfl, Nat.le_of_ble_eq_true rfl⟩) rfl dX3_canStarve_5 (Fit.right (Fit.right (Fit.right (Fit.right (Fit.right Fit.whole))))) rfl rfl rfl (Nat.le_of_ble_eq_true rfl) (Nat.zero_le _) (Nat.zero_le _) rfl rfl rfl ?_
  refine V_aload_n (pc := 8) F dX3_canStarve_8 rfl 0 rfl ?_
  refine V_get (pc := 9) F 0 3 5 i_X3 rfl (by decide) rfl (mm 2 rfl) dX3_canStarve_9 rfl rfl ?_
  refine V_iand (pc := 12) F dX3_canStarve_12 ?_
  refine V_if_eq (pc := 13) (tgt := 20) F dX3_canStarve_13 (by decide) (fun h1 => ?_) (fun h1 => ?_)
  · replace hf := ite_pos hf h1
    refine V_iconst (v := 0) (pc := 20) F dX3_canStarve_20 (by decide) ?_
    obtain rfl := some_of hf
    exact V_ret F rfl rfl dX3_canStarve_21 rfl rfl
  · replace hf := ite_neg hf h1
    refine V_iconst (v := 1) (pc := 16) F dX3_canStarve_16 (by decide) ?_
    refine V_goto (pc := 17) (tgt := 21) F dX3_canStarve_17 (by decide) ?_
    obtain rfl := some_of hf
    exact V_ret F rfl rfl dX3_canStarve_21 rfl rfl
theorem hd_X3_starvingDirections : yX3_starvingDirections.cls = RX3 ∧ yX3_starvingDirections.cls ≠ "java/lang/invoke/MethodHandle" ∧ yX3_starvingDirections.cls ≠ "java/lang/invoke/VarHandle" ∧ (parseMethodDescriptor yX3_starvingDirections.desc).map (fun d => d.parameters.length) = some 0 := by decide +kernel
def fX3_starvingDirections_L4 (N : Nat) (v : SX3) : Nat → Int32 → Int32 → Option (Int32)
  | 0, _, _ => none
  | n + 1, z1, z2 =>
    if 6 ≤ z2 then
      some z1
    else
      (fX3_canStarve N v z2).bind fun r2 =>
        if r2 = 0 then
          fX3_starvingDirections_L4 N v n z1 (z2 + 1)
        else
          fX3_starvingDirections_L4 N v n (z1 ||| ((1 : Int32) <<< (z2 &&& 31))) (z2 + 1)
def fX3_starvingDirections (N : Nat) (v : SX3) : Option (Int32) :=
  (fX3_starvingDirections_L4 N v N 0 0).bind fun u5 =>
    some u5
set_option maxHeartbeats 8000000 in
set_option maxRecDepth 100000 in
theorem M_X3_starvingDirections (l : Launch) (D : va_G) (cy : Nat → ClassId) (N : Nat) (a : Nat → Nat) (v : SX3) (o : Int32) (hf : fX3_starvingDirections N v = some o) : okM l yX3_starvingDirections wsX3_starvingDirections (rmz 2 42) D cy [.ref (a 0)] (wX3 cy a v) (wX3 cy a v) (some (.int o)) := by
  refine okM_of (own := RX3) (nme := "starvingDirections") (cc := cX3_starvingDirections) (maxL := 3) (ret := (some .int)) (by decide) rfl rfl rfl (Nat.le_of_ble_eq_true rfl) ?_
  intro p e s m args below meth c A F
  have K4 : ∀ (n : Nat) (v : SX3) (z1 : Int32) (z2 : Int32) (u : Int32), fX3_starvingDirections_L4 N v n z1 z2 = some u → V p l e (rmz 2 42) s m args below meth c 3 D A 0 0 (MQ below (ok_Q D (wX3 cy a v) (some (.int o)) A) args s 0 0 A) (wX3 cy a v) [(1, .int u)] [] 30 → V p l e (rmz 2 42) s m args below meth c 3 D A 0 0 (MQ below (ok_Q D (wX3 cy a v) (some (.int o)) A) args s 0 0 A) (wX3 cy a v) [(0, .ref (a 0)), (1, .int z1), (2, .int z2)] [] 4 := by
    intro n
    induction n with
    | zero =>
      intro v z1 z2 u hf hk
      exact nomatch (show (none : Option (Int32)) = some u from hf)
    | succ n ih =>
      intro v z1 z2 u hf hk
      rw [fX3_starvingDirections_L4] at hf
      refine V_iload_n (pc := 4) F dX3_starvingDirections_4 rfl 2 rfl ?_
      refine V_bipush (v := 6) (pc := 5) F dX3_starvingDirections_5 (by decide) ?_
      refine V_icmp_ge (pc := 7) (tgt := 30) F dX3_starvingDirections_7 (by decide) (fun h1 => ?_) (fun h1 => ?_)
      · replace hf := ite_pos hf h1
        obtain rfl := some_of hf
        exact V.sub [1] rfl hk
      · replace hf := ite_neg hf h1
        refine V_aload_n (pc := 10) F dX3_starvingDirections_10 rfl 0 rfl ?_
        refine V_iload_n (pc := 11) F dX3_starvingDirections_11 rfl 2 rfl ?_
        obtain ⟨r2, g3, hf⟩ := bind_of hf
        refine V_V (w2 := wX3 cy a v) (rest := []) (st2 := [.int r2]) (pc := 12) F 3 (M_X3_canStarve l D cy N a v z2 r2 g3) (cwV 1 F.ts gX3_starvingDirections_X3_canStarve rfl rfl rfl hd_X3_canStarve ⟨Nat.le_of_ble_eq_true rfl, Nat.le_of_ble_eq_true rfl⟩) rfl dX3_starvingDirections_12 Fit.whole rfl rfl rfl (Nat.le_of_ble_eq_true rfl) (Nat.zero_le _) (Nat.zero_le _) rfl rfl rfl ?_
        refine V_if_eq (pc := 15) (tgt := 24) F dX3_starvingDirections_15 (by decide) (fun h4 => ?_) (fun h4 => ?_)
        · replace hf := ite_pos hf h4
          refine V_iinc (v := (z2 + 1)) (L2 := [(2, .int (z2 + 1)), (0, .ref (a 0)), (1, .int z1)]) (pc := 24) F dX3_starvingDirections_24 2 rfl rfl (by decide) rfl ?_
          refine V_goto (pc := 27) (tgt := 4) F dX3_starvingDirections_27 (by decide) ?_
          refine V.sub [1, 2, 0] rfl ?_
          exact ih v z1 (z2 + 1) _ hf hk
        · replace hf := ite_neg hf h4
          refine V_iload_n (pc := 18) F dX3_starvingDirections_18 rfl 1 rfl ?_
          refine V_iconst (v := 1) (pc := 19) F dX3_starvingDirections_19 (by decide) ?_
          refine V_iload_n (pc := 20) F dX3_starvingDirections_20 rfl 2 rfl ?_
          refine V_ishl (pc := 21) F dX3_starvingDirections_21 ?_
          refine V_ior (pc := 22) F dX3_starvingDirections_22 ?_
          refine V_istore_n (L2 := [(1, .int (z1 ||| ((1 : Int32) <<< (z2 &&& 31)))), (0, .ref (a 0)), (2, .int z2)]) (pc := 23) F dX3_starvingDirections_23 rfl (by decide) rfl ?_
          refine V_iinc (v := (z2 + 1)) (L2 := [(2, .int (z2 + 1)), (1, .int (z1 ||| ((1 : Int32) <<< (z2 &&& 31)))), (0, .ref (a 0))]) (pc := 24) F dX3_starvingDirections_24 2 rfl rfl (by decide) rfl ?_
          refine V_goto (pc := 27) (tgt := 4) F dX3_starvingDirections_27 (by decide) ?_
          refine V.sub [2, 1, 0] rfl ?_
          exact ih v (z1 ||| ((1 : Int32) <<< (z2 &&& 31))) (z2 + 1) _ hf hk
  unfold fX3_starvingDirections at hf
  refine V.eq rfl (show lv_args 0 [.ref (a 0)] = [(0, .ref (a 0))] from rfl) rfl ?_
  refine V_iconst (v := 0) (pc := 0) F dX3_starvingDirections_0 (by decide) ?_
  refine V_istore_n (L2 := [(1, .int 0), (0, .ref (a 0))]) (pc := 1) F dX3_starvingDirections_1 rfl (by decide) rfl ?_
  refine V_iconst (v := 0) (pc := 2) F dX3_starvingDirections_2 (by decide) ?_
  refine V_istore_n (L2 := [(2, .int 0), (1, .int 0), (0, .ref (a 0))]) (pc := 3) F dX3_starvingDirections_3 rfl (by decide) rfl ?_
  refine V.sub [2, 1, 0] rfl ?_
  obtain ⟨u5, g6, hf⟩ := bind_of hf
  refine K4 N v 0 0 u5 g6 ?_
  refine V_iload_n (pc := 30) F dX3_starvingDirections_30 rfl 0 rfl ?_
  obtain rfl := some_of hf
  exact V_ret F rfl rfl dX3_starvingDirections_31 rfl rfl
theorem hd_X3_longestFrom : yX3_longestFrom.cls = RX3 ∧ yX3_longestFrom.cls ≠ "java/lang/invoke/MethodHandle" ∧ yX3_longestFrom.cls ≠ "java/lang/invoke/VarHandle" ∧ (parseMethodDescriptor yX3_longestFrom.desc).map (fun d => d.parameters.length) = some 2 := by decide +kernel
def fX3_longestFrom (N : Nat) (v : SX3) (x1 : Int32) (x2 : Int32) : Option (Int32) :=
  (fX3_starvesFrom N v x1 x2).bind fun r1 =>
    if r1 = 0 then
      (fX3_cell N x1 x2).bind fun r4 =>
        some (rowAt 48 v.2.2.1 r4)
    else
      some (-1)
set_option maxHeartbeats 8000000 in
set_option maxRecDepth 100000 in
theorem M_X3_longestFrom (l : Launch) (D : va_G) (cy : Nat → ClassId) (N : Nat) (a : Nat → Nat) (v : SX3) (x1 : Int32) (x2 : Int32) (o : Int32) (hf : fX3_longestFrom N v x1 x2 = some o) : okM l yX3_longestFrom wsX3_longestFrom (rmz 2 43) D cy [.ref (a 0), .int x1, .int x2] (wX3 cy a v) (wX3 cy a v) (some (.int o)) := by
  refine okM_of (own := RX3) (nme := "longestFrom") (cc := cX3_longestFrom) (maxL := 3) (ret := (some .int)) (by decide) rfl rfl rfl (Nat.le_of_ble_eq_true rfl) ?_
  intro p e s m args below meth c A F
  have i_X3 : ∀ w ∈ u_ws RX3 TX3 6, w ∈ wsX3_longestFrom := fun _ h => List.mem_cons_of_mem _ (List.mem_append_left _ (List.mem_append_right _ h))
  unfold fX3_longestFrom at hf
  refine V.eq rfl (show lv_args 0 [.ref (a 0), .int x1, .int x2] = [(0, .ref (a 0)), (1, .int x1), (2, .int x2)] from rfl) rfl ?_
  refine V_aload_n (pc := 0) F dX3_longestFrom_0 rfl 0 rfl ?_
  refine V_iload_n (pc := 1) F dX3_longestFrom_1 rfl 1 rfl ?_
  refine V_iload_n (pc := 2) F dX3_longestFrom_2 rfl 2 rfl ?_
  obtain ⟨r1, g2, hf⟩ := bind_of hf
  refine V_V (w2 := wX3 cy a v) (rest := []) (st2 := [.int r1]) (pc := 3) F 3 (M_X3_starvesFrom l D cy N a v x1 x2 r1 g2) (cwV 2 F.ts gX3_longestFrom_X3_starvesFrom rfl rfl rfl hd_X3_starvesFrom ⟨Nat.le_of_ble_eq_true rfl, Nat.le_of_ble_eq_true rfl⟩) rfl dX3_longestFrom_3 Fit.whole rfl rfl rfl (Nat.le_of_ble_eq_true rfl) (Nat.zero_le _) (Nat.zero_le _) rfl rfl rfl ?_
  refine V_if_eq (pc := 6) (tgt := 13) F dX3_longestFrom_6 (by decide) (fun h3 => ?_) (fun h3 => ?_)
  · replace hf := ite_pos hf h3
    refine V_aload_n (pc := 13) F dX3_longestFrom_13 rfl 0 rfl ?_
    refine V_get (pc := 14) F 0 3 2 i_X3 rfl (by decide) rfl (mm 1 rfl) dX3_longestFrom_14 rfl rfl ?_
    refine V_iload_n (pc := 17) F dX3_longestFrom_17 rfl 1 rfl ?_
    refine V_iload_n (pc := 18) F dX3_longestFrom_18 rfl 2 rfl ?_
    obtain ⟨r4, g5, hf⟩ := bind_of hf
    refine V_Sc (rest := [.ref (a 5)]) (st2 := [.int r4, .ref (a 5)]) (pc := 19) F (M_X3_cell l D cy N x1 x2 r4 g5) (va_cwS 2 F.ts gX3_longestFrom_X3_cell rfl rfl rfl hd_X3_cell ⟨Nat.le_of_ble_eq_true rfl, Nat.le_of_ble_eq_true rfl⟩) rfl dX3_longestFrom_19 (Nat.le_of_ble_eq_true rfl) (Nat.zero_le _) (Nat.zero_le _) rfl rfl ?_
    refine V_V (w2 := wX3 cy a v) (rest := []) (st2 := [.int (rowAt 48 v.2.2.1 r4)]) (pc := 22) F 5 (R_at l D cy (fun i => a (i + 5)) 48 v.2.2.1 r4 (by decide)) (cwV 1 F.ts gX3_longestFrom_X5_at rfl rfl rfl hd_X5_at ⟨Nat.le_of_ble_eq_true rfl, Nat.le_of_ble_eq_true rfl⟩) rfl dX3_longestFrom_22 (Fit.right (Fit.right (Fit.right (Fit.left Fit.whole)))) rfl rfl rfl (Nat.le_of_ble_eq_true rfl) (Nat.zero_le _) (Nat.zero_le _) rfl rfl rfl ?_
    obtain rfl := some_of hf
    exact V_ret F rfl rfl dX3_longestFrom_25 rfl rfl
  · replace hf := ite_neg hf h3
    refine V_iconst (v := (-1)) (pc := 9) F dX3_longestFrom_9 (by decide) ?_
    refine V_goto (pc := 10) (tgt := 25) F dX3_longestFrom_10 (by decide) ?_
    obtain rfl := some_of hf
    exact V_ret F rfl rfl dX3_longestFrom_25 rfl rfl
theorem hd_X3_shortestFrom : yX3_shortestFrom.cls = RX3 ∧ yX3_shortestFrom.cls ≠ "java/lang/invoke/MethodHandle" ∧ yX3_shortestFrom.cls ≠ "java/lang/invoke/VarHandle" ∧ (parseMethodDescriptor yX3_shortestFrom.desc).map (fun d => d.parameters.length) = some 2 := by decide +kernel
def fX3_shortestFrom (N : Nat) (v : SX3) (x1 : Int32) (x2 : Int32) : Option (Int32) :=
  (fX3_cell N x1 x2).bind fun r1 =>
    if (rowAt 48 v.2.2.2.1 r1) < 1000 then
      some (rowAt 48 v.2.2.2.1 r1)
    else
      some (-1)
set_option maxHeartbeats 8000000 in
set_option maxRecDepth 100000 in
theorem M_X3_shortestFrom (l : Launch) (D : va_G) (cy : Nat → ClassId) (N : Nat) (a : Nat → Nat) (v : SX3) (x1 : Int32) (x2 : Int32) (o : Int32) (hf : fX3_shortestFrom N v x1 x2 = some o) : okM l yX3_shortestFrom wsX3_shortestFrom (rmz 1 21) D cy [.ref (a 0), .int x1, .int x2] (wX3 cy a v) (wX3 cy a v) (some (.int o)) := by
  refine okM_of (own := RX3) (nme := "shortestFrom") (cc := cX3_shortestFrom) (maxL := 4) (ret := (some .int)) (by decide) rfl rfl rfl (Nat.le_of_ble_eq_true rfl) ?_
  intro p e s m args below meth c A F
  have i_X3 : ∀ w ∈ u_ws RX3 TX3 6, w ∈ wsX3_shortestFrom := fun _ h => List.mem_cons_of_mem _ (List.mem_append_left _ (List.mem_append_right _ h))
  unfold fX3_shortestFrom at hf
  refine V.eq rfl (show lv_args 0 [.ref (a 0), .int x1, .int x2] = [(0, .ref (a 0)), (1, .int x1), (2, .int x2)] from rfl) rfl ?_
  refine V_aload_n (pc := 0) F dX3_shortestFrom_0 rfl 0 rfl ?_
  refine V_get (pc := 1) F 0 3 3 i_X3 rfl (by decide) rfl (mm 1 rfl) dX3_shortestFrom_1 rfl rfl ?_
  refine V_iload_n (pc := 4) F dX3_shortestFrom_4 rfl 1 rfl ?_
  refine V_iload_n (pc := 5) F dX3_shortestFrom_5 rfl 2 rfl ?_
  obtain ⟨r1, g2, hf⟩ := bind_of hf
  refine V_Sc (rest := [.ref (a 7)]) (st2 := [.int r1, .ref (a 7)]) (pc := 6) F (M_X3_cell l D cy N x1 x2 r1 g2) (va_cwS 2 F.ts gX3_shortestFrom_X3_cell rfl rfl rfl hd_X3_cell ⟨Nat.le_of_ble_eq_true rfl, Nat.le_of_ble_eq_true rfl⟩) rfl dX3_shortestFrom_6 (Nat.le_of_ble_eq_true rfl) (Nat.zero_le _) (Nat.zero_le _) rfl rfl ?_
  refine V_V (w2 := wX3 cy a v) (rest := []) (st2 := [.int (rowAt 48 v.2.2.2.1 r1)]) (pc := 9) F 5 (R_at l D cy (fun i => a (i + 7)) 48 v.2.2.2.1 r1 (by decide)) (cwV 1 F.ts gX3_shortestFrom_X5_at rfl rfl rfl hd_X5_at ⟨Nat.le_of_ble_eq_true rfl, Nat.le_of_ble_eq_true rfl⟩) rfl dX3_shortestFrom_9 (Fit.right (Fit.right (Fit.right (Fit.right (Fit.left Fit.whole))))) rfl rfl rfl (Nat.le_of_ble_eq_true rfl) (Nat.zero_le _) (Nat.zero_le _) rfl rfl rfl ?_
  refine V_istore_n (L2 := [(3, .int (rowAt 48 v.2.2.2.1 r1)), (0, .ref (a 0)), (1, .int x1), (2, .int x2)]) (pc := 12) F dX3_shortestFrom_12 rfl (by decide) rfl ?_
  refine V_iload_n (pc := 13) F dX3_shortestFrom_13 rfl 0 rfl ?_
  refine V_sipush (v := 1000) (pc := 14) F dX3_shortestFrom_14 (by decide) ?_
  refine V_icmp_lt (pc := 17) (tgt := 24) F dX3_shortestFrom_17 (by decide) (fun h3 => ?_) (fun h3 => ?_)
  · replace hf := ite_pos hf h3
    refine V_iload_n (pc := 24) F dX3_shortestFrom_24 rfl 0 rfl ?_
    obtain rfl := some_of hf
    exact V_ret F rfl rfl dX3_shortestFrom_25 rfl rfl
  · replace hf := ite_neg hf h3
    refine V_iconst (v := (-1)) (pc := 20) F dX3_shortestFrom_20 (by decide) ?_
    refine V_goto (pc := 21) (tgt := 25) F dX3_shortestFrom_21 (by decide) ?_
    obtain rfl := some_of hf
    exact V_ret F rfl rfl dX3_shortestFrom_25 rfl rfl
