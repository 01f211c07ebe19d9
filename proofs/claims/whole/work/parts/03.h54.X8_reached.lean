theorem hd_X8_reached : yX8_reached.cls = RX8 ∧ yX8_reached.cls ≠ "java/lang/invoke/MethodHandle" ∧ yX8_reached.cls ≠ "java/lang/invoke/VarHandle" ∧ (parseMethodDescriptor yX8_reached.desc).map (fun d => d.parameters.length) = some 2 := by decide +kernel
def fX8_reached_L32 (N : Nat) (v : SX8) (z2 : Int32) (z3 : Int32) (z4 : Int32) (z6 : Int32) : Nat → Int32 → Int32 → Option (Int32)
  | 0, _, _ => none
  | n + 1, z5, z7 =>
    (fX8_rules N v z6).bind fun r4 =>
      if r4 ≤ z7 then
        some z5
      else
        if ((z4 >>> (z6 &&& 31)) &&& 1) = 1 then
          (fX8_canFollow N v z6 z7 z2).bind fun r8 =>
            if r8 = 0 then
              fX8_reached_L32 N v z2 z3 z4 z6 n (z5 ||| 0) (z7 + 1)
            else
              (fX8_goal N v z6 z7).bind fun r11 =>
                (fX8_hasGreen N v r11 z2).bind fun r13 =>
                  if r13 = 0 then
                    (fX8_goal N v z6 z7).bind fun r16 =>
                      fX8_reached_L32 N v z2 z3 z4 z6 n (z5 ||| ((1 : Int32) <<< (r16 &&& 31))) (z7 + 1)
                  else
                    fX8_reached_L32 N v z2 z3 z4 z6 n (z5 ||| 0) (z7 + 1)
        else
          some z5
def fX8_reached_L18 (N : Nat) (v : SX8) (z2 : Int32) (z3 : Int32) (z4 : Int32) : Nat → Int32 → Int32 → Option (Int32)
  | 0, _, _ => none
  | n + 1, z5, z6 =>
    chk 0 143 (
      if (v.2.1 (0 : Int32).toNatClampNeg) ≤ z6 then
        some z5
      else
        (fX8_reached_L32 N v z2 z3 z4 z6 N z5 0).bind fun u18 =>
          fX8_reached_L18 N v z2 z3 z4 n u18 (z6 + 1)
    )
def fX8_reached_L7 (N : Nat) (v : SX8) (z2 : Int32) : Nat → Int32 → Int32 → Option (Int32)
  | 0, _, _ => none
  | n + 1, z3, z4 =>
    if z4 = 0 then
      some z3
    else
      (fX8_reached_L18 N v z2 z3 z4 N 0 0).bind fun u20 =>
        fX8_reached_L7 N v z2 n (z3 ||| u20) (u20 &&& (z3 ^^^ (-1)))
def fX8_reached (N : Nat) (v : SX8) (x1 : Int32) (x2 : Int32) : Option (Int32) :=
  (fX8_reached_L7 N v x2 N 0 ((1 : Int32) <<< (x1 &&& 31))).bind fun u22 =>
    some u22
set_option maxHeartbeats 8000000 in
set_option maxRecDepth 100000 in
theorem M_X8_reached (l : Launch) (D : va_G) (cy : Nat → ClassId) (N : Nat) (a : Nat → Nat) (v : SX8) (x1 : Int32) (x2 : Int32) (o : Int32) (hf : fX8_reached N v x1 x2 = some o) : okM l yX8_reached wsX8_reached (rmz 4 93) D cy [.ref (a 0), .int x1, .int x2] (wX8 cy a v) (wX8 cy a v) (some (.int o)) := by
  refine okM_of (own := RX8) (nme := "reached") (cc := cX8_reached) (maxL := 8) (ret := (some .int)) (by decide) rfl rfl rfl (Nat.le_of_ble_eq_true rfl) ?_
  intro p e s m args below meth c A F
  have i_X8 : ∀ w ∈ u_ws RX8 TX8 13, w ∈ wsX8_reached := fun _ h => List.mem_cons_of_mem _ (List.mem_append_right _ h)
  have K32 : ∀ (n : Nat) (v : SX8) (z2 : Int32) (z3 : Int32) (z4 : Int32) (z6 : Int32) (z5 : Int32) (z7 : Int32) (u : Int32), fX8_reached_L32 N v z2 z3 z4 z6 n z5 z7 = some u → V p l e (rmz 4 93) s m args below meth c 8 D A 0 0 (MQ below (ok_Q D (wX8 cy a v) (some (.int o)) A) args s 0 0 A) (wX8 cy a v) [(0, .ref (a 0)), (2, .int z2), (3, .int z3), (4, .int z4), (5, .int u), (6, .int z6)] [] 107 → V p l e (rmz 4 93) s m args below meth c 8 D A 0 0 (MQ below (ok_Q D (wX8 cy a v) (some (.int o)) A) args s 0 0 A) (wX8 cy a v) [(0, .ref (a 0)), (2, .int z2), (3, .int z3), (4, .int z4), (5, .int z5), (6, .int z6), (7, .int z7)] [] 32 := by
    intro n
    induction n with
    | zero =>
      intro v z2 z3 z4 z6 z5 z7 u hf hk
      exact nomatch (show (none : Option (Int32)) = some u from hf)
    | succ n ih =>
      intro v z2 z3 z4 z6 z5 z7 u hf hk
      rw [fX8_reached_L32] at hf
      refine V_iload (pc := 32) F dX8_reached_32 6 rfl ?_
      refine V_aload_n (pc := 34) F dX8_reached_34 rfl 0 rfl ?_
      refine V_iload (pc := 35) F dX8_reached_35 5 rfl ?_
      obtain ⟨r4, g5, hf⟩ := bind_of hf
      refine V_V (w2 := wX8 cy a v) (rest := [.int z7]) (st2 := [.int r4, .int z7]) (pc := 37) F 8 (M_X8_rules l D cy N a v z6 r4 g5) (cwV 1 F.ts gX8_reached_X8_rules rfl rfl rfl hd_X8_rules ⟨Nat.le_of_ble_eq_true rfl, Nat.le_of_ble_eq_true rfl⟩) rfl dX8_reached_37 Fit.whole rfl rfl rfl (Nat.le_of_ble_eq_true rfl) (Nat.zero_le _) (Nat.zero_le _) rfl rfl rfl ?_
      refine V_icmp_ge (pc := 40) (tgt := 107) F dX8_reached_40 (by decide) (fun h6 => ?_) (fun h6 => ?_)
      · replace hf := ite_pos hf h6
        obtain rfl := some_of hf
        exact V.sub [0, 1, 2, 3, 4, 5] rfl hk
      · replace hf := ite_neg hf h6
        refine V_iload (pc := 43) F dX8_reached_43 3 rfl ?_
        refine V_iload (pc := 45) F dX8_reached_45 5 rfl ?_
        refine V_ishr (pc := 47) F dX8_reached_47 ?_
        refine V_iconst (v := 1) (pc := 48) F dX8_reached_48 (by decide) ?_
        refine V_iand (pc := 49) F dX8_reached_49 ?_
        refine V_iconst (v := 1) (pc := 50) F dX8_reached_50 (by decide) ?_
        refine V_icmp_ne (pc := 51) (tgt := 107) F dX8_reached_51 (by decide) (fun h7 => ?_) (fun h7 => ?_)
        · replace hf := ite_neg hf h7
          obtain rfl := some_of hf
          exact V.sub [0, 1, 2, 3, 4, 5] rfl hk
        · replace hf := ite_pos hf h7
          refine V_iload (pc := 54) F dX8_reached_54 4 rfl ?_
          refine V_aload_n (pc := 56) F dX8_reached_56 rfl 0 rfl ?_
          refine V_iload (pc := 57) F dX8_reached_57 5 rfl ?_
          refine V_iload (pc := 59) F dX8_reached_59 6 rfl ?_
          refine V_iload_n (pc := 61) F dX8_reached_61 rfl 1 rfl ?_
          obtain ⟨r8, g9, hf⟩ := bind_of hf
          refine V_V (w2 := wX8 cy a v) (rest := [.int z5]) (st2 := [.int r8, .int z5]) (pc := 62) F 8 (M_X8_canFollow l D cy N a v z6 z7 z2 r8 g9) (cwV 3 F.ts gX8_reached_X8_canFollow rfl rfl rfl hd_X8_canFollow ⟨Nat.le_of_ble_eq_true rfl, Nat.le_of_ble_eq_true rfl⟩) rfl dX8_reached_62 Fit.whole rfl rfl rfl (Nat.le_of_ble_eq_true rfl) (Nat.zero_le _) (Nat.zero_le _) rfl rfl rfl ?_
          refine V_if_eq (pc := 65) (tgt := 97) F dX8_reached_65 (by decide) (fun h10 => ?_) (fun h10 => ?_)
          · replace hf := ite_pos hf h10
            refine V_iconst (v := 0) (pc := 97) F dX8_reached_97 (by decide) ?_
            refine V_ior (pc := 98) F dX8_reached_98 ?_
            refine V_istore (L2 := [(5, .int (z5 ||| 0)), (0, .ref (a 0)), (2, .int z2), (3, .int z3), (4, .int z4), (6, .int z6), (7, .int z7)]) (pc := 99) F dX8_reached_99 (by decide) rfl ?_
            refine V_iinc (v := (z7 + 1)) (L2 := [(7, .int (z7 + 1)), (5, .int (z5 ||| 0)), (0, .ref (a 0)), (2, .int z2), (3, .int z3), (4, .int z4), (6, .int z6)]) (pc := 101) F dX8_reached_101 6 rfl rfl (by decide) rfl ?_
            refine V_goto (pc := 104) (tgt := 32) F dX8_reached_104 (by decide) ?_
            refine V.sub [2, 3, 4, 5, 1, 6, 0] rfl ?_
            exact ih v z2 z3 z4 z6 (z5 ||| 0) (z7 + 1) _ hf hk
          · replace hf := ite_neg hf h10
            refine V_aload_n (pc := 68) F dX8_reached_68 rfl 0 rfl ?_
            refine V_aload_n (pc := 69) F dX8_reached_69 rfl 0 rfl ?_
            refine V_iload (pc := 70) F dX8_reached_70 5 rfl ?_
            refine V_iload (pc := 72) F dX8_reached_72 6 rfl ?_
            obtain ⟨r11, g12, hf⟩ := bind_of hf
            refine V_V (w2 := wX8 cy a v) (rest := [.ref (a 0), .int z5]) (st2 := [.int r11, .ref (a 0), .int z5]) (pc := 74) F 8 (M_X8_goal l D cy N a v z6 z7 r11 g12) (cwV 2 F.ts gX8_reached_X8_goal rfl rfl rfl hd_X8_goal ⟨Nat.le_of_ble_eq_true rfl, Nat.le_of_ble_eq_true rfl⟩) rfl dX8_reached_74 Fit.whole rfl rfl rfl (Nat.le_of_ble_eq_true rfl) (Nat.zero_le _) (Nat.zero_le _) rfl rfl rfl ?_
            refine V_iload_n (pc := 77) F dX8_reached_77 rfl 1 rfl ?_
            obtain ⟨r13, g14, hf⟩ := bind_of hf
            refine V_V (w2 := wX8 cy a v) (rest := [.int z5]) (st2 := [.int r13, .int z5]) (pc := 78) F 8 (M_X8_hasGreen l D cy N a v r11 z2 r13 g14) (cwV 2 F.ts gX8_reached_X8_hasGreen rfl rfl rfl hd_X8_hasGreen ⟨Nat.le_of_ble_eq_true rfl, Nat.le_of_ble_eq_true rfl⟩) rfl dX8_reached_78 Fit.whole rfl rfl rfl (Nat.le_of_ble_eq_true rfl) (Nat.zero_le _) (Nat.zero_le _) rfl rfl rfl ?_
            refine V_if_ne (pc := 81) (tgt := 97) F dX8_reached_81 (by decide) (fun h15 => ?_) (fun h15 => ?_)
            · replace hf := ite_neg hf h15
              refine V_iconst (v := 0) (pc := 97) F dX8_reached_97 (by decide) ?_
              refine V_ior (pc := 98) F dX8_reached_98 ?_
              refine V_istore (L2 := [(5, .int (z5 ||| 0)), (0, .ref (a 0)), (2, .int z2), (3, .int z3), (4, .int z4), (6, .int z6), (7, .int z7)]) (pc := 99) F dX8_reached_99 (by decide) rfl ?_
              refine V_iinc (v := (z7 + 1)) (L2 := [(7, .int (z7 + 1)), (5, .int (z5 ||| 0)), (0, .ref (a 0)), (2, .int z2), (3, .int z3), (4, .int z4), (6, .int z6)]) (pc := 101) F dX8_reached_101 6 rfl rfl (by decide) rfl ?_
              refine V_goto (pc := 104) (tgt := 32) F dX8_reached_104 (by decide) ?_
              refine V.sub [2, 3, 4, 5, 1, 6, 0] rfl ?_
              exact ih v z2 z3 z4 z6 (z5 ||| 0) (z7 + 1) _ hf hk
            · replace hf := ite_pos hf h15
              refine V_iconst (v := 1) (pc := 84) F dX8_reached_84 (by decide) ?_
              refine V_aload_n (pc := 85) F dX8_reached_85 rfl 0 rfl ?_
              refine V_iload (pc := 86) F dX8_reached_86 5 rfl ?_
              refine V_iload (pc := 88) F dX8_reached_88 6 rfl ?_
              obtain ⟨r16, g17, hf⟩ := bind_of hf
              refine V_V (w2 := wX8 cy a v) (rest := [.int 1, .int z5]) (st2 := [.int r16, .int 1, .int z5]) (pc := 90) F 8 (M_X8_goal l D cy N a v z6 z7 r16 g17) (cwV 2 F.ts gX8_reached_X8_goal rfl rfl rfl hd_X8_goal ⟨Nat.le_of_ble_eq_true rfl, Nat.le_of_ble_eq_true rfl⟩) rfl dX8_reached_90 Fit.whole rfl rfl rfl (Nat.le_of_ble_eq_true rfl) (Nat.zero_le _) (Nat.zero_le _) rfl rfl rfl ?_
              refine V_ishl (pc := 93) F dX8_reached_93 ?_
              refine V_goto (pc := 94) (tgt := 98) F dX8_reached_94 (by decide) ?_
              refine V_ior (pc := 98) F dX8_reached_98 ?_
              refine V_istore (L2 := [(5, .int (z5 ||| ((1 : Int32) <<< (r16 &&& 31)))), (0, .ref (a 0)), (2, .int z2), (3, .int z3), (4, .int z4), (6, .int z6), (7, .int z7)]) (pc := 99) F dX8_reached_99 (by decide) rfl ?_
              refine V_iinc (v := (z7 + 1)) (L2 := [(7, .int (z7 + 1)), (5, .int (z5 ||| ((1 : Int32) <<< (r16 &&& 31)))), (0, .ref (a 0)), (2, .int z2), (3, .int z3), (4, .int z4), (6, .int z6)]) (pc := 101) F dX8_reached_101 6 rfl rfl (by decide) rfl ?_
              refine V_goto (pc := 104) (tgt := 32) F dX8_reached_104 (by decide) ?_
              refine V.sub [2, 3, 4, 5, 1, 6, 0] rfl ?_
              exact ih v z2 z3 z4 z6 (z5 ||| ((1 : Int32) <<< (r16 &&& 31))) (z7 + 1) _ hf hk
  have K18 : ∀ (n : Nat) (v : SX8) (z2 : Int32) (z3 : Int32) (z4 : Int32) (z5 : Int32) (z6 : Int32) (u : Int32), fX8_reached_L18 N v z2 z3 z4 n z5 z6 = some u → V p l e (rmz 4 93) s m args below meth c 8 D A 0 0 (MQ below (ok_Q D (wX8 cy a v) (some (.int o)) A) args s 0 0 A) (wX8 cy a v) [(0, .ref (a 0)), (2, .int z2), (3, .int z3), (5, .int u)] [] 113 → V p l e (rmz 4 93) s m args below meth c 8 D A 0 0 (MQ below (ok_Q D (wX8 cy a v) (some (.int o)) A) args s 0 0 A) (wX8 cy a v) [(0, .ref (a 0)), (2, .int z2), (3, .int z3), (4, .int z4), (5, .int z5), (6, .int z6)] [] 18 := by
    intro n
    induction n with
    | zero =>
      intro v z2 z3 z4 z5 z6 u hf hk
      exact nomatch (show (none : Option (Int32)) = some u from hf)
    | succ n ih =>
      intro v z2 z3 z4 z5 z6 u hf hk
      rw [fX8_reached_L18] at hf
      refine V_iload (pc := 18) F dX8_reached_18 5 rfl ?_
      refine V_aload_n (pc := 20) F dX8_reached_20 rfl 0 rfl ?_
      refine V_get (pc := 21) F 0 8 1 i_X8 rfl (by decide) rfl (mm 1 rfl) dX8_reached_21 rfl rfl ?_
      refine V_iconst (v := 0) (pc := 24) F dX8_reached_24 (by decide) ?_
      obtain ⟨c2, hf⟩ := chk_some hf
      refine V_iald (pc := 25) F 1 rfl c2 dX8_reached_25 ?_
      refine V_icmp_ge (pc := 26) (tgt := 113) F dX8_reached_26 (by decide) (fun h3 => ?_) (fun h3 => ?_)
      · replace hf := ite_pos hf h3
        obtain rfl := some_of hf
        exact V.sub [0, 1, 2, 4] rfl hk
      · replace hf := ite_neg hf h3
        refine V_iconst (v := 0) (pc := 29) F dX8_reached_29 (by decide) ?_
        refine V_istore (L2 := [(7, .int 0), (0, .ref (a 0)), (2, .int z2), (3, .int z3), (4, .int z4), (5, .int z5), (6, .int z6)]) (pc := 30) F dX8_reached_30 (by decide) rfl ?_
        refine V.sub [1, 2, 3, 4, 5, 6, 0] rfl ?_
        obtain ⟨u18, g19, hf⟩ := bind_of hf
        refine K32 N v z2 z3 z4 z6 z5 0 u18 g19 ?_
        refine V_iinc (v := (z6 + 1)) (L2 := [(6, .int (z6 + 1)), (0, .ref (a 0)), (2, .int z2), (3, .int z3), (4, .int z4), (5, .int u18)]) (pc := 107) F dX8_reached_107 5 rfl rfl (by decide) rfl ?_
        refine V_goto (pc := 110) (tgt := 18) F dX8_reached_110 (by decide) ?_
        refine V.sub [1, 2, 3, 4, 5, 0] rfl ?_
        exact ih v z2 z3 z4 u18 (z6 + 1) _ hf hk
  have K7 : ∀ (n : Nat) (v : SX8) (z2 : Int32) (z3 : Int32) (z4 : Int32) (u : Int32), fX8_reached_L7 N v z2 n z3 z4 = some u → V p l e (rmz 4 93) s m args below meth c 8 D A 0 0 (MQ below (ok_Q D (wX8 cy a v) (some (.int o)) A) args s 0 0 A) (wX8 cy a v) [(3, .int u)] [] 129 → V p l e (rmz 4 93) s m args below meth c 8 D A 0 0 (MQ below (ok_Q D (wX8 cy a v) (some (.int o)) A) args s 0 0 A) (wX8 cy a v) [(0, .ref (a 0)), (2, .int z2), (3, .int z3), (4, .int z4)] [] 7 := by
    intro n
    induction n with
    | zero =>
      intro v z2 z3 z4 u hf hk
      exact nomatch (show (none : Option (Int32)) = some u from hf)
    | succ n ih =>
      intro v z2 z3 z4 u hf hk
      rw [fX8_reached_L7] at hf
      refine V_iload (pc := 7) F dX8_reached_7 3 rfl ?_
      refine V_if_eq (pc := 9) (tgt := 129) F dX8_reached_9 (by decide) (fun h1 => ?_) (fun h1 => ?_)
      · replace hf := ite_pos hf h1
        obtain rfl := some_of hf
        exact V.sub [2] rfl hk
      · replace hf := ite_neg hf h1
        refine V_iconst (v := 0) (pc := 12) F dX8_reached_12 (by decide) ?_
        refine V_istore (L2 := [(5, .int 0), (0, .ref (a 0)), (2, .int z2), (3, .int z3), (4, .int z4)]) (pc := 13) F dX8_reached_13 (by decide) rfl ?_
        refine V_iconst (v := 0) (pc := 15) F dX8_reached_15 (by decide) ?_
        refine V_istore (L2 := [(6, .int 0), (5, .int 0), (0, .ref (a 0)), (2, .int z2), (3, .int z3), (4, .int z4)]) (pc := 16) F dX8_reached_16 (by decide) rfl ?_
        refine V.sub [2, 3, 4, 5, 1, 0] rfl ?_
        obtain ⟨u20, g21, hf⟩ := bind_of hf
        refine K18 N v z2 z3 z4 0 0 u20 g21 ?_
        refine V_iload (pc := 113) F dX8_reached_113 3 rfl ?_
        refine V_iload_n (pc := 115) F dX8_reached_115 rfl 2 rfl ?_
        refine V_iconst (v := (-1)) (pc := 116) F dX8_reached_116 (by decide) ?_
        refine V_ixor (pc := 117) F dX8_reached_117 ?_
        refine V_iand (pc := 118) F dX8_reached_118 ?_
        refine V_istore (L2 := [(4, .int (u20 &&& (z3 ^^^ (-1)))), (0, .ref (a 0)), (2, .int z2), (3, .int z3), (5, .int u20)]) (pc := 119) F dX8_reached_119 (by decide) rfl ?_
        refine V_iload_n (pc := 121) F dX8_reached_121 rfl 3 rfl ?_
        refine V_iload (pc := 122) F dX8_reached_122 4 rfl ?_
        refine V_ior (pc := 124) F dX8_reached_124 ?_
        refine V_istore_n (L2 := [(3, .int (z3 ||| u20)), (4, .int (u20 &&& (z3 ^^^ (-1)))), (0, .ref (a 0)), (2, .int z2), (5, .int u20)]) (pc := 125) F dX8_reached_125 rfl (by decide) rfl ?_
        refine V_goto (pc := 126) (tgt := 7) F dX8_reached_126 (by decide) ?_
        refine V.sub [2, 3, 0, 1] rfl ?_
        exact ih v z2 (z3 ||| u20) (u20 &&& (z3 ^^^ (-1))) _ hf hk
  unfold fX8_reached at hf
  refine V.eq rfl (show lv_args 0 [.ref (a 0), .int x1, .int x2] = [(0, .ref (a 0)), (1, .int x1), (2, .int x2)] from rfl) rfl ?_
  refine V_iconst (v := 0) (pc := 0) F dX8_reached_0 (by decide) ?_
  refine V_istore_n (L2 := [(3, .int 0), (0, .ref (a 0)), (1, .int x1), (2, .int x2)]) (pc := 1) F dX8_reached_1 rfl (by decide) rfl ?_
  refine V_iconst (v := 1) (pc := 2) F dX8_reached_2 (by decide) ?_
  refine V_iload_n (pc := 3) F dX8_reached_3 rfl 2 rfl ?_
  refine V_ishl (pc := 4) F dX8_reached_4 ?_
  refine V_istore (L2 := [(4, .int ((1 : Int32) <<< (x1 &&& 31))), (3, .int 0), (0, .ref (a 0)), (1, .int x1), (2, .int x2)]) (pc := 5) F dX8_reached_5 (by decide) rfl ?_
  refine V.sub [2, 4, 1, 0] rfl ?_
  obtain ⟨u22, g23, hf⟩ := bind_of hf
  refine K7 N v x2 0 ((1 : Int32) <<< (x1 &&& 31)) u22 g23 ?_
  refine V_iload_n (pc := 129) F dX8_reached_129 rfl 0 rfl ?_
  obtain rfl := some_of hf
  exact V_ret F rfl rfl dX8_reached_130 rfl rfl
