theorem hd_X8_canStarve : yX8_canStarve.cls = RX8 ∧ yX8_canStarve.cls ≠ "java/lang/invoke/MethodHandle" ∧ yX8_canStarve.cls ≠ "java/lang/invoke/VarHandle" ∧ (parseMethodDescriptor yX8_canStarve.desc).map (fun d => d.parameters.length) = some 2 := by decide +kernel
def fX8_canStarve_L28 (N : Nat) (v : SX8) (z2 : Int32) (z3 : Int32) : Nat → Int32 → Int32 → Option (Int32)
  | 0, _, _ => none
  | n + 1, z4, z5 =>
    chk 0 143 (
      if (v.2.1 (0 : Int32).toNatClampNeg) ≤ z5 then
        some z4
      else
        if z4 = 0 then
          if ((z3 >>> (z5 &&& 31)) &&& 1) = 1 then
            (fX8_isRound N v z5 z2).bind fun r10 =>
              if r10 = 0 then
                fX8_canStarve_L28 N v z2 z3 n 0 (z5 + 1)
              else
                fX8_canStarve_L28 N v z2 z3 n 1 (z5 + 1)
          else
            fX8_canStarve_L28 N v z2 z3 n 0 (z5 + 1)
        else
          fX8_canStarve_L28 N v z2 z3 n 1 (z5 + 1)
    )
def fX8_canStarve (N : Nat) (v : SX8) (x1 : Int32) (x2 : Int32) : Option (Int32) :=
  (fX8_hasGreen N v x1 x2).bind fun r1 =>
    if r1 = 0 then
      (fX8_reached N v x1 x2).bind fun r4 =>
        (fX8_canStarve_L28 N v x2 (r4 ||| ((1 : Int32) <<< (x1 &&& 31))) N 0 0).bind fun u13 =>
          must (decide (u13 = 0 ∨ u13 = 1)) (
            some u13
          )
    else
      some 0
set_option maxHeartbeats 8000000 in
set_option maxRecDepth 100000 in
theorem M_X8_canStarve (l : Launch) (D : va_G) (cy : Nat → ClassId) (N : Nat) (a : Nat → Nat) (v : SX8) (x1 : Int32) (x2 : Int32) (o : Int32) (hf : fX8_canStarve N v x1 x2 = some o) : okM l yX8_canStarve wsX8_canStarve (rmz 6 142) D cy [.ref (a 0), .int x1, .int x2] (wX8 cy a v) (wX8 cy a v) (some (.int o)) := by
  refine okM_of (own := RX8) (nme := "canStarve") (cc := cX8_canStarve) (maxL := 6) (ret := (some .boolean)) (by decide) rfl rfl rfl (Nat.le_of_ble_eq_true rfl) ?_
  intro p e s m args below meth c A F
  have i_X8 : ∀ w ∈ u_ws RX8 TX8 13, w ∈ wsX8_canStarve := fun _ h => List.mem_cons_of_mem _ (List.mem_append_right _ h)
  have K28 : ∀ (n : Nat) (v : SX8) (z2 : Int32) (z3 : Int32) (z4 : Int32) (z5 : Int32) (u : Int32), fX8_canStarve_L28 N v z2 z3 n z4 z5 = some u → V p l e (rmz 6 142) s m args below meth c 6 D A 0 0 (MQ below (ok_Q D (wX8 cy a v) (some (.int o)) A) args s 0 0 A) (wX8 cy a v) [(4, .int u)] [] 77 → V p l e (rmz 6 142) s m args below meth c 6 D A 0 0 (MQ below (ok_Q D (wX8 cy a v) (some (.int o)) A) args s 0 0 A) (wX8 cy a v) [(0, .ref (a 0)), (2, .int z2), (3, .int z3), (4, .int z4), (5, .int z5)] [] 28 := by
    intro n
    induction n with
    | zero =>
      intro v z2 z3 z4 z5 u hf hk
      exact nomatch (show (none : Option (Int32)) = some u from hf)
    | succ n ih =>
      intro v z2 z3 z4 z5 u hf hk
      rw [fX8_canStarve_L28] at hf
      refine V_iload (pc := 28) F dX8_canStarve_28 4 rfl ?_
      refine V_aload_n (pc := 30) F dX8_canStarve_30 rfl 0 rfl ?_
      refine V_get (pc := 31) F 0 8 1 i_X8 rfl (by decide) rfl (mm 1 rfl) dX8_canStarve_31 rfl rfl ?_
      refine V_iconst (v := 0) (pc := 34) F dX8_canStarve_34 (by decide) ?_
      obtain ⟨c6, hf⟩ := chk_some hf
      refine V_iald (pc := 35) F 1 rfl c6 dX8_canStarve_35 ?_
      refine V_icmp_ge (pc := 36) (tgt := 77) F dX8_canStarve_36 (by decide) (fun h7 => ?_) (fun h7 => ?_)
      · replace hf := ite_pos hf h7
        obtain rfl := some_of hf
        exact V.sub [3] rfl hk
      · replace hf := ite_neg hf h7
        refine V_iload (pc := 39) F dX8_canStarve_39 3 rfl ?_
        refine V_if_ne (pc := 41) (tgt := 64) F dX8_canStarve_41 (by decide) (fun h8 => ?_) (fun h8 => ?_)
        · replace hf := ite_neg hf h8
          refine V_iconst (v := 1) (pc := 64) F dX8_canStarve_64 (by decide) ?_
          refine V_goto (pc := 65) (tgt := 69) F dX8_canStarve_65 (by decide) ?_
          refine V_istore (L2 := [(4, .int 1), (0, .ref (a 0)), (2, .int z2), (3, .int z3), (5, .int z5)]) (pc := 69) F dX8_canStarve_69 (by decide) rfl ?_
          refine V_iinc (v := (z5 + 1)) (L2 := [(5, .int (z5 + 1)), (4, .int 1), (0, .ref (a 0)), (2, .int z2), (3, .int z3)]) (pc := 71) F dX8_canStarve_71 4 rfl rfl (by decide) rfl ?_
          refine V_goto (pc := 74) (tgt := 28) F dX8_canStarve_74 (by decide) ?_
          refine V.sub [2, 3, 4, 1, 0] rfl ?_
          exact ih v z2 z3 1 (z5 + 1) _ hf hk
        · replace hf := ite_pos hf h8
          refine V_iload_n (pc := 44) F dX8_canStarve_44 rfl 2 rfl ?_
          refine V_iload (pc := 45) F dX8_canStarve_45 4 rfl ?_
          refine V_ishr (pc := 47) F dX8_canStarve_47 ?_
          refine V_iconst (v := 1) (pc := 48) F dX8_canStarve_48 (by decide) ?_
          refine V_iand (pc := 49) F dX8_canStarve_49 ?_
          refine V_iconst (v := 1) (pc := 50) F dX8_canStarve_50 (by decide) ?_
          refine V_icmp_ne (pc := 51) (tgt := 68) F dX8_canStarve_51 (by decide) (fun h9 => ?_) (fun h9 => ?_)
          · replace hf := ite_neg hf h9
            refine V_iconst (v := 0) (pc := 68) F dX8_canStarve_68 (by decide) ?_
            refine V_istore (L2 := [(4, .int 0), (0, .ref (a 0)), (2, .int z2), (3, .int z3), (5, .int z5)]) (pc := 69) F dX8_canStarve_69 (by decide) rfl ?_
            refine V_iinc (v := (z5 + 1)) (L2 := [(5, .int (z5 + 1)), (4, .int 0), (0, .ref (a 0)), (2, .int z2), (3, .int z3)]) (pc := 71) F dX8_canStarve_71 4 rfl rfl (by decide) rfl ?_
            refine V_goto (pc := 74) (tgt := 28) F dX8_canStarve_74 (by decide) ?_
            refine V.sub [2, 3, 4, 1, 0] rfl ?_
            exact ih v z2 z3 0 (z5 + 1) _ hf hk
          · replace hf := ite_pos hf h9
            refine V_aload_n (pc := 54) F dX8_canStarve_54 rfl 0 rfl ?_
            refine V_iload (pc := 55) F dX8_canStarve_55 4 rfl ?_
            refine V_iload_n (pc := 57) F dX8_canStarve_57 rfl 1 rfl ?_
            obtain ⟨r10, g11, hf⟩ := bind_of hf
            refine V_V (w2 := wX8 cy a v) (rest := []) (st2 := [.int r10]) (pc := 58) F 8 (M_X8_isRound l D cy N a v z5 z2 r10 g11) (cwV 2 F.ts gX8_canStarve_X8_isRound rfl rfl rfl hd_X8_isRound ⟨Nat.le_of_ble_eq_true rfl, Nat.le_of_ble_eq_true rfl⟩) rfl dX8_canStarve_58 Fit.whole rfl rfl rfl (Nat.le_of_ble_eq_true rfl) (Nat.zero_le _) (Nat.zero_le _) rfl rfl rfl ?_
            refine V_if_eq (pc := 61) (tgt := 68) F dX8_canStarve_61 (by decide) (fun h12 => ?_) (fun h12 => ?_)
            · replace hf := ite_pos hf h12
              refine V_iconst (v := 0) (pc := 68) F dX8_canStarve_68 (by decide) ?_
              refine V_istore (L2 := [(4, .int 0), (0, .ref (a 0)), (2, .int z2), (3, .int z3), (5, .int z5)]) (pc := 69) F dX8_canStarve_69 (by decide) rfl ?_
              refine V_iinc (v := (z5 + 1)) (L2 := [(5, .int (z5 + 1)), (4, .int 0), (0, .ref (a 0)), (2, .int z2), (3, .int z3)]) (pc := 71) F dX8_canStarve_71 4 rfl rfl (by decide) rfl ?_
              refine V_goto (pc := 74) (tgt := 28) F dX8_canStarve_74 (by decide) ?_
              refine V.sub [2, 3, 4, 1, 0] rfl ?_
              exact ih v z2 z3 0 (z5 + 1) _ hf hk
            · replace hf := ite_neg hf h12
              refine V_iconst (v := 1) (pc := 64) F dX8_canStarve_64 (by decide) ?_
              refine V_goto (pc := 65) (tgt := 69) F dX8_canStarve_65 (by decide) ?_
              refine V_istore (L2 := [(4, .int 1), (0, .ref (a 0)), (2, .int z2), (3, .int z3), (5, .int z5)]) (pc := 69) F dX8_canStarve_69 (by decide) rfl ?_
              refine V_iinc (v := (z5 + 1)) (L2 := [(5, .int (z5 + 1)), (4, .int 1), (0, .ref (a 0)), (2, .int z2), (3, .int z3)]) (pc := 71) F dX8_canStarve_71 4 rfl rfl (by decide) rfl ?_
              refine V_goto (pc := 74) (tgt := 28) F dX8_canStarve_74 (by decide) ?_
              refine V.sub [2, 3, 4, 1, 0] rfl ?_
              exact ih v z2 z3 1 (z5 + 1) _ hf hk
  unfold fX8_canStarve at hf
  refine V.eq rfl (show lv_args 0 [.ref (a 0), .int x1, .int x2] = [(0, .ref (a 0)), (1, .int x1), (2, .int x2)] from rfl) rfl ?_
  refine V_aload_n (pc := 0) F dX8_canStarve_0 rfl 0 rfl ?_
  refine V_iload_n (pc := 1) F dX8_canStarve_1 rfl 1 rfl ?_
  refine V_iload_n (pc := 2) F dX8_canStarve_2 rfl 2 rfl ?_
  obtain ⟨r1, g2, hf⟩ := bind_of hf
  refine V_V (w2 := wX8 cy a v) (rest := []) (st2 := [.int r1]) (pc := 3) F 8 (M_X8_hasGreen l D cy N a v x1 x2 r1 g2) (cwV 2 F.ts gX8_canStarve_X8_hasGreen rfl rfl rfl hd_X8_hasGreen ⟨Nat.le_of_ble_eq_true rfl, Nat.le_of_ble_eq_true rfl⟩) rfl dX8_canStarve_3 Fit.whole rfl rfl rfl (Nat.le_of_ble_eq_true rfl) (Nat.zero_le _) (Nat.zero_le _) rfl rfl rfl ?_
  refine V_if_eq (pc := 6) (tgt := 11) F dX8_canStarve_6 (by decide) (fun h3 => ?_) (fun h3 => ?_)
  · replace hf := ite_pos hf h3
    refine V_aload_n (pc := 11) F dX8_canStarve_11 rfl 0 rfl ?_
    refine V_iload_n (pc := 12) F dX8_canStarve_12 rfl 1 rfl ?_
    refine V_iload_n (pc := 13) F dX8_canStarve_13 rfl 2 rfl ?_
    obtain ⟨r4, g5, hf⟩ := bind_of hf
    refine V_V (w2 := wX8 cy a v) (rest := []) (st2 := [.int r4]) (pc := 14) F 8 (M_X8_reached l D cy N a v x1 x2 r4 g5) (cwV 2 F.ts gX8_canStarve_X8_reached rfl rfl rfl hd_X8_reached ⟨Nat.le_of_ble_eq_true rfl, Nat.le_of_ble_eq_true rfl⟩) rfl dX8_canStarve_14 Fit.whole rfl rfl rfl (Nat.le_of_ble_eq_true rfl) (Nat.zero_le _) (Nat.zero_le _) rfl rfl rfl ?_
    refine V_iconst (v := 1) (pc := 17) F dX8_canStarve_17 (by decide) ?_
    refine V_iload_n (pc := 18) F dX8_canStarve_18 rfl 1 rfl ?_
    refine V_ishl (pc := 19) F dX8_canStarve_19 ?_
    refine V_ior (pc := 20) F dX8_canStarve_20 ?_
    refine V_istore_n (L2 := [(3, .int (r4 ||| ((1 : Int32) <<< (x1 &&& 31)))), (0, .ref (a 0)), (1, .int x1), (2, .int x2)]) (pc := 21) F dX8_canStarve_21 rfl (by decide) rfl ?_
    refine V_iconst (v := 0) (pc := 22) F dX8_canStarve_22 (by decide) ?_
    refine V_istore (L2 := [(4, .int 0), (3, .int (r4 ||| ((1 : Int32) <<< (x1 &&& 31)))), (0, .ref (a 0)), (1, .int x1), (2, .int x2)]) (pc := 23) F dX8_canStarve_23 (by decide) rfl ?_
    refine V_iconst (v := 0) (pc := 25) F dX8_canStarve_25 (by decide) ?_
    refine V_istore (L2 := [(5, .int 0), (4, .int 0), (3, .int (r4 ||| ((1 : Int32) <<< (x1 &&& 31)))), (0, .ref (a 0)), (1, .int x1), (2, .int x2)]) (pc := 26) F dX8_canStarve_26 (by decide) rfl ?_
    refine V.sub [3, 5, 2, 1, 0] rfl ?_
    obtain ⟨u13, g14, hf⟩ := bind_of hf
    refine K28 N v x2 (r4 ||| ((1 : Int32) <<< (x1 &&& 31))) 0 0 u13 g14 ?_
    refine V_iload (pc := 77) F dX8_canStarve_77 0 rfl ?_
    obtain ⟨c15, hf⟩ := must_some hf
    obtain rfl := some_of hf
    exact V_ret F rfl (nar_bool (of_decide_eq_true c15)) dX8_canStarve_79 rfl rfl
  · replace hf := ite_neg hf h3
    refine V_iconst (v := 0) (pc := 9) F dX8_canStarve_9 (by decide) ?_
    obtain rfl := some_of hf
    exact V_ret F rfl rfl dX8_canStarve_10 rfl rfl
