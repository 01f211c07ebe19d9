theorem hd_X8_comers : yX8_comers.cls = RX8 ∧ yX8_comers.cls ≠ "java/lang/invoke/MethodHandle" ∧ yX8_comers.cls ≠ "java/lang/invoke/VarHandle" ∧ (parseMethodDescriptor yX8_comers.desc).map (fun d => d.parameters.length) = some 0 := by decide +kernel
def fX8_comers_L46 (N : Nat) (v : SX8) (z2 : Int32) (z3 : Int32) : Nat → Int32 → Int32 → Option (Int32)
  | 0, _, _ => none
  | n + 1, z1, z4 =>
    (fX8_rules N v z3).bind fun r7 =>
      if r7 ≤ z4 then
        some z1
      else
        if ((z1 >>> (z3 &&& 31)) &&& 1) = 1 then
          (fX8_goal N v z3 z4).bind fun r11 =>
            fX8_comers_L46 N v z2 z3 n (z1 ||| ((1 : Int32) <<< (r11 &&& 31))) (z4 + 1)
        else
          some z1
def fX8_comers_L33 (N : Nat) (v : SX8) (z2 : Int32) : Nat → Int32 → Int32 → Option (Int32)
  | 0, _, _ => none
  | n + 1, z1, z3 =>
    chk 0 143 (
      if (v.2.1 (0 : Int32).toNatClampNeg) ≤ z3 then
        some z1
      else
        (fX8_comers_L46 N v z2 z3 N z1 0).bind fun u13 =>
          fX8_comers_L33 N v z2 n u13 (z3 + 1)
    )
def fX8_comers_L25 (N : Nat) (v : SX8) : Nat → Int32 → Int32 → Option (Int32)
  | 0, _, _ => none
  | n + 1, z1, z2 =>
    if 8 ≤ z2 then
      some z1
    else
      (fX8_comers_L33 N v z2 N z1 0).bind fun u15 =>
        fX8_comers_L25 N v n u15 (z2 + 1)
def fX8_comers (N : Nat) (v : SX8) : Option (Int32) :=
  chk 2 143 (
    if (v.2.1 (2 : Int32).toNatClampNeg) = (-1) then
      (fX8_comers_L25 N v N 0 0).bind fun u19 =>
        some u19
    else
      chk 2 143 (
        (fX8_comers_L25 N v N ((1 : Int32) <<< ((v.2.1 (2 : Int32).toNatClampNeg) &&& 31)) 0).bind fun u17 =>
          some u17
      )
  )
set_option maxHeartbeats 8000000 in
set_option maxRecDepth 100000 in
theorem M_X8_comers (l : Launch) (D : va_G) (cy : Nat → ClassId) (N : Nat) (a : Nat → Nat) (v : SX8) (o : Int32) (hf : fX8_comers N v = some o) : okM l yX8_comers wsX8_comers (rmz 2 44) D cy [.ref (a 0)] (wX8 cy a v) (wX8 cy a v) (some (.int o)) := by
  refine okM_of (own := RX8) (nme := "comers") (cc := cX8_comers) (maxL := 5) (ret := (some .int)) (by decide) rfl rfl rfl (Nat.le_of_ble_eq_true rfl) ?_
  intro p e s m args below meth c A F
  have i_X8 : ∀ w ∈ u_ws RX8 TX8 13, w ∈ wsX8_comers := fun _ h => List.mem_cons_of_mem _ (List.mem_append_right _ h)
  have K46 : ∀ (n : Nat) (v : SX8) (z2 : Int32) (z3 : Int32) (z1 : Int32) (z4 : Int32) (u : Int32), fX8_comers_L46 N v z2 z3 n z1 z4 = some u → V p l e (rmz 2 44) s m args below meth c 5 D A 0 0 (MQ below (ok_Q D (wX8 cy a v) (some (.int o)) A) args s 0 0 A) (wX8 cy a v) [(0, .ref (a 0)), (1, .int u), (2, .int z2), (3, .int z3)] [] 83 → V p l e (rmz 2 44) s m args below meth c 5 D A 0 0 (MQ below (ok_Q D (wX8 cy a v) (some (.int o)) A) args s 0 0 A) (wX8 cy a v) [(0, .ref (a 0)), (1, .int z1), (2, .int z2), (3, .int z3), (4, .int z4)] [] 46 := by
    intro n
    induction n with
    | zero =>
      intro v z2 z3 z1 z4 u hf hk
      exact nomatch (show (none : Option (Int32)) = some u from hf)
    | succ n ih =>
      intro v z2 z3 z1 z4 u hf hk
      rw [fX8_comers_L46] at hf
      refine V_iload (pc := 46) F dX8_comers_46 4 rfl ?_
      refine V_aload_n (pc := 48) F dX8_comers_48 rfl 0 rfl ?_
      refine V_iload_n (pc := 49) F dX8_comers_49 rfl 3 rfl ?_
      obtain ⟨r7, g8, hf⟩ := bind_of hf
      refine V_V (w2 := wX8 cy a v) (rest := [.int z4]) (st2 := [.int r7, .int z4]) (pc := 50) F 8 (M_X8_rules l D cy N a v z3 r7 g8) (cwV 1 F.ts gX8_comers_X8_rules rfl rfl rfl hd_X8_rules ⟨Nat.le_of_ble_eq_true rfl, Nat.le_of_ble_eq_true rfl⟩) rfl dX8_comers_50 Fit.whole rfl rfl rfl (Nat.le_of_ble_eq_true rfl) (Nat.zero_le _) (Nat.zero_le _) rfl rfl rfl ?_
      refine V_icmp_ge (pc := 53) (tgt := 83) F dX8_comers_53 (by decide) (fun h9 => ?_) (fun h9 => ?_)
      · replace hf := ite_pos hf h9
        obtain rfl := some_of hf
        exact V.sub [0, 1, 2, 3] rfl hk
      · replace hf := ite_neg hf h9
        refine V_iload_n (pc := 56) F dX8_comers_56 rfl 1 rfl ?_
        refine V_iload_n (pc := 57) F dX8_comers_57 rfl 3 rfl ?_
        refine V_ishr (pc := 58) F dX8_comers_58 ?_
        refine V_iconst (v := 1) (pc := 59) F dX8_comers_59 (by decide) ?_
        refine V_iand (pc := 60) F dX8_comers_60 ?_
        refine V_iconst (v := 1) (pc := 61) F dX8_comers_61 (by decide) ?_
        refine V_icmp_ne (pc := 62) (tgt := 83) F dX8_comers_62 (by decide) (fun h10 => ?_) (fun h10 => ?_)
        · replace hf := ite_neg hf h10
          obtain rfl := some_of hf
          exact V.sub [0, 1, 2, 3] rfl hk
        · replace hf := ite_pos hf h10
          refine V_iload_n (pc := 65) F dX8_comers_65 rfl 1 rfl ?_
          refine V_iconst (v := 1) (pc := 66) F dX8_comers_66 (by decide) ?_
          refine V_aload_n (pc := 67) F dX8_comers_67 rfl 0 rfl ?_
          refine V_iload_n (pc := 68) F dX8_comers_68 rfl 3 rfl ?_
          refine V_iload (pc := 69) F dX8_comers_69 4 rfl ?_
          obtain ⟨r11, g12, hf⟩ := bind_of hf
          refine V_V (w2 := wX8 cy a v) (rest := [.int 1, .int z1]) (st2 := [.int r11, .int 1, .int z1]) (pc := 71) F 8 (M_X8_goal l D cy N a v z3 z4 r11 g12) (cwV 2 F.ts gX8_comers_X8_goal rfl rfl rfl hd_X8_goal ⟨Nat.le_of_ble_eq_true rfl, Nat.le_of_ble_eq_true rfl⟩) rfl dX8_comers_71 Fit.whole rfl rfl rfl (Nat.le_of_ble_eq_true rfl) (Nat.zero_le _) (Nat.zero_le _) rfl rfl rfl ?_
          refine V_ishl (pc := 74) F dX8_comers_74 ?_
          refine V_ior (pc := 75) F dX8_comers_75 ?_
          refine V_istore_n (L2 := [(1, .int (z1 ||| ((1 : Int32) <<< (r11 &&& 31)))), (0, .ref (a 0)), (2, .int z2), (3, .int z3), (4, .int z4)]) (pc := 76) F dX8_comers_76 rfl (by decide) rfl ?_
          refine V_iinc (v := (z4 + 1)) (L2 := [(4, .int (z4 + 1)), (1, .int (z1 ||| ((1 : Int32) <<< (r11 &&& 31)))), (0, .ref (a 0)), (2, .int z2), (3, .int z3)]) (pc := 77) F dX8_comers_77 4 rfl rfl (by decide) rfl ?_
          refine V_goto (pc := 80) (tgt := 46) F dX8_comers_80 (by decide) ?_
          refine V.sub [2, 1, 3, 4, 0] rfl ?_
          exact ih v z2 z3 (z1 ||| ((1 : Int32) <<< (r11 &&& 31))) (z4 + 1) _ hf hk
  have K33 : ∀ (n : Nat) (v : SX8) (z2 : Int32) (z1 : Int32) (z3 : Int32) (u : Int32), fX8_comers_L33 N v z2 n z1 z3 = some u → V p l e (rmz 2 44) s m args below meth c 5 D A 0 0 (MQ below (ok_Q D (wX8 cy a v) (some (.int o)) A) args s 0 0 A) (wX8 cy a v) [(0, .ref (a 0)), (1, .int u), (2, .int z2)] [] 89 → V p l e (rmz 2 44) s m args below meth c 5 D A 0 0 (MQ below (ok_Q D (wX8 cy a v) (some (.int o)) A) args s 0 0 A) (wX8 cy a v) [(0, .ref (a 0)), (1, .int z1), (2, .int z2), (3, .int z3)] [] 33 := by
    intro n
    induction n with
    | zero =>
      intro v z2 z1 z3 u hf hk
      exact nomatch (show (none : Option (Int32)) = some u from hf)
    | succ n ih =>
      intro v z2 z1 z3 u hf hk
      rw [fX8_comers_L33] at hf
      refine V_iload_n (pc := 33) F dX8_comers_33 rfl 3 rfl ?_
      refine V_aload_n (pc := 34) F dX8_comers_34 rfl 0 rfl ?_
      refine V_get (pc := 35) F 0 8 1 i_X8 rfl (by decide) rfl (mm 1 rfl) dX8_comers_35 rfl rfl ?_
      refine V_iconst (v := 0) (pc := 38) F dX8_comers_38 (by decide) ?_
      obtain ⟨c5, hf⟩ := chk_some hf
      refine V_iald (pc := 39) F 1 rfl c5 dX8_comers_39 ?_
      refine V_icmp_ge (pc := 40) (tgt := 89) F dX8_comers_40 (by decide) (fun h6 => ?_) (fun h6 => ?_)
      · replace hf := ite_pos hf h6
        obtain rfl := some_of hf
        exact V.sub [0, 1, 2] rfl hk
      · replace hf := ite_neg hf h6
        refine V_iconst (v := 0) (pc := 43) F dX8_comers_43 (by decide) ?_
        refine V_istore (L2 := [(4, .int 0), (0, .ref (a 0)), (1, .int z1), (2, .int z2), (3, .int z3)]) (pc := 44) F dX8_comers_44 (by decide) rfl ?_
        refine V.sub [1, 2, 3, 4, 0] rfl ?_
        obtain ⟨u13, g14, hf⟩ := bind_of hf
        refine K46 N v z2 z3 z1 0 u13 g14 ?_
        refine V_iinc (v := (z3 + 1)) (L2 := [(3, .int (z3 + 1)), (0, .ref (a 0)), (1, .int u13), (2, .int z2)]) (pc := 83) F dX8_comers_83 3 rfl rfl (by decide) rfl ?_
        refine V_goto (pc := 86) (tgt := 33) F dX8_comers_86 (by decide) ?_
        refine V.sub [1, 2, 3, 0] rfl ?_
        exact ih v z2 u13 (z3 + 1) _ hf hk
  have K25 : ∀ (n : Nat) (v : SX8) (z1 : Int32) (z2 : Int32) (u : Int32), fX8_comers_L25 N v n z1 z2 = some u → V p l e (rmz 2 44) s m args below meth c 5 D A 0 0 (MQ below (ok_Q D (wX8 cy a v) (some (.int o)) A) args s 0 0 A) (wX8 cy a v) [(1, .int u)] [] 95 → V p l e (rmz 2 44) s m args below meth c 5 D A 0 0 (MQ below (ok_Q D (wX8 cy a v) (some (.int o)) A) args s 0 0 A) (wX8 cy a v) [(0, .ref (a 0)), (1, .int z1), (2, .int z2)] [] 25 := by
    intro n
    induction n with
    | zero =>
      intro v z1 z2 u hf hk
      exact nomatch (show (none : Option (Int32)) = some u from hf)
    | succ n ih =>
      intro v z1 z2 u hf hk
      rw [fX8_comers_L25] at hf
      refine V_iload_n (pc := 25) F dX8_comers_25 rfl 2 rfl ?_
      refine V_bipush (v := 8) (pc := 26) F dX8_comers_26 (by decide) ?_
      refine V_icmp_ge (pc := 28) (tgt := 95) F dX8_comers_28 (by decide) (fun h4 => ?_) (fun h4 => ?_)
      · replace hf := ite_pos hf h4
        obtain rfl := some_of hf
        exact V.sub [1] rfl hk
      · replace hf := ite_neg hf h4
        refine V_iconst (v := 0) (pc := 31) F dX8_comers_31 (by decide) ?_
        refine V_istore_n (L2 := [(3, .int 0), (0, .ref (a 0)), (1, .int z1), (2, .int z2)]) (pc := 32) F dX8_comers_32 rfl (by decide) rfl ?_
        refine V.sub [1, 2, 3, 0] rfl ?_
        obtain ⟨u15, g16, hf⟩ := bind_of hf
        refine K33 N v z2 z1 0 u15 g16 ?_
        refine V_iinc (v := (z2 + 1)) (L2 := [(2, .int (z2 + 1)), (0, .ref (a 0)), (1, .int u15)]) (pc := 89) F dX8_comers_89 2 rfl rfl (by decide) rfl ?_
        refine V_goto (pc := 92) (tgt := 25) F dX8_comers_92 (by decide) ?_
        refine V.sub [1, 2, 0] rfl ?_
        exact ih v u15 (z2 + 1) _ hf hk
  unfold fX8_comers at hf
  refine V.eq rfl (show lv_args 0 [.ref (a 0)] = [(0, .ref (a 0))] from rfl) rfl ?_
  refine V_aload_n (pc := 0) F dX8_comers_0 rfl 0 rfl ?_
  refine V_get (pc := 1) F 0 8 1 i_X8 rfl (by decide) rfl (mm 1 rfl) dX8_comers_1 rfl rfl ?_
  refine V_iconst (v := 2) (pc := 4) F dX8_comers_4 (by decide) ?_
  obtain ⟨c1, hf⟩ := chk_some hf
  refine V_iald (pc := 5) F 1 rfl c1 dX8_comers_5 ?_
  refine V_iconst (v := (-1)) (pc := 6) F dX8_comers_6 (by decide) ?_
  refine V_icmp_ne (pc := 7) (tgt := 14) F dX8_comers_7 (by decide) (fun h2 => ?_) (fun h2 => ?_)
  · replace hf := ite_neg hf h2
    refine V_iconst (v := 1) (pc := 14) F dX8_comers_14 (by decide) ?_
    refine V_aload_n (pc := 15) F dX8_comers_15 rfl 0 rfl ?_
    refine V_get (pc := 16) F 0 8 1 i_X8 rfl (by decide) rfl (mm 1 rfl) dX8_comers_16 rfl rfl ?_
    refine V_iconst (v := 2) (pc := 19) F dX8_comers_19 (by decide) ?_
    obtain ⟨c3, hf⟩ := chk_some hf
    refine V_iald (pc := 20) F 1 rfl c3 dX8_comers_20 ?_
    refine V_ishl (pc := 21) F dX8_comers_21 ?_
    refine V_istore_n (L2 := [(1, .int ((1 : Int32) <<< ((v.2.1 (2 : Int32).toNatClampNeg) &&& 31))), (0, .ref (a 0))]) (pc := 22) F dX8_comers_22 rfl (by decide) rfl ?_
    refine V_iconst (v := 0) (pc := 23) F dX8_comers_23 (by decide) ?_
    refine V_istore_n (L2 := [(2, .int 0), (1, .int ((1 : Int32) <<< ((v.2.1 (2 : Int32).toNatClampNeg) &&& 31))), (0, .ref (a 0))]) (pc := 24) F dX8_comers_24 rfl (by decide) rfl ?_
    refine V.sub [2, 1, 0] rfl ?_
    obtain ⟨u17, g18, hf⟩ := bind_of hf
    refine K25 N v ((1 : Int32) <<< ((v.2.1 (2 : Int32).toNatClampNeg) &&& 31)) 0 u17 g18 ?_
    refine V_iload_n (pc := 95) F dX8_comers_95 rfl 0 rfl ?_
    obtain rfl := some_of hf
    exact V_ret F rfl rfl dX8_comers_96 rfl rfl
  · replace hf := ite_pos hf h2
    refine V_iconst (v := 0) (pc := 10) F dX8_comers_10 (by decide) ?_
    refine V_goto (pc := 11) (tgt := 22) F dX8_comers_11 (by decide) ?_
    refine V_istore_n (L2 := [(1, .int 0), (0, .ref (a 0))]) (pc := 22) F dX8_comers_22 rfl (by decide) rfl ?_
    refine V_iconst (v := 0) (pc := 23) F dX8_comers_23 (by decide) ?_
    refine V_istore_n (L2 := [(2, .int 0), (1, .int 0), (0, .ref (a 0))]) (pc := 24) F dX8_comers_24 rfl (by decide) rfl ?_
    refine V.sub [2, 1, 0] rfl ?_
    obtain ⟨u19, g20, hf⟩ := bind_of hf
    refine K25 N v 0 0 u19 g20 ?_
    refine V_iload_n (pc := 95) F dX8_comers_95 rfl 0 rfl ?_
    obtain rfl := some_of hf
    exact V_ret F rfl rfl dX8_comers_96 rfl rfl
