theorem hd_X8_canStarveAnywhere : yX8_canStarveAnywhere.cls = RX8 ∧ yX8_canStarveAnywhere.cls ≠ "java/lang/invoke/MethodHandle" ∧ yX8_canStarveAnywhere.cls ≠ "java/lang/invoke/VarHandle" ∧ (parseMethodDescriptor yX8_canStarveAnywhere.desc).map (fun d => d.parameters.length) = some 1 := by decide +kernel
def fX8_canStarveAnywhere_L10 (N : Nat) (v : SX8) (z1 : Int32) (z2 : Int32) : Nat → Int32 → Int32 → Option (Int32)
  | 0, _, _ => none
  | n + 1, z3, z4 =>
    chk 0 143 (
      if (v.2.1 (0 : Int32).toNatClampNeg) ≤ z4 then
        some z3
      else
        if z3 = 0 then
          if ((z2 >>> (z4 &&& 31)) &&& 1) = 1 then
            (fX8_canStarve N v z4 z1).bind fun r7 =>
              if r7 = 0 then
                fX8_canStarveAnywhere_L10 N v z1 z2 n 0 (z4 + 1)
              else
                fX8_canStarveAnywhere_L10 N v z1 z2 n 1 (z4 + 1)
          else
            fX8_canStarveAnywhere_L10 N v z1 z2 n 0 (z4 + 1)
        else
          fX8_canStarveAnywhere_L10 N v z1 z2 n 1 (z4 + 1)
    )
def fX8_canStarveAnywhere (N : Nat) (v : SX8) (x1 : Int32) : Option (Int32) :=
  (fX8_comers N v).bind fun r1 =>
    (fX8_canStarveAnywhere_L10 N v x1 r1 N 0 0).bind fun u10 =>
      must (decide (u10 = 0 ∨ u10 = 1)) (
        some u10
      )
set_option maxHeartbeats 8000000 in
set_option maxRecDepth 100000 in
theorem M_X8_canStarveAnywhere (l : Launch) (D : va_G) (cy : Nat → ClassId) (N : Nat) (a : Nat → Nat) (v : SX8) (x1 : Int32) (o : Int32) (hf : fX8_canStarveAnywhere N v x1 = some o) : okM l yX8_canStarveAnywhere wsX8_canStarveAnywhere (rmz 7 167) D cy [.ref (a 0), .int x1] (wX8 cy a v) (wX8 cy a v) (some (.int o)) := by
  refine okM_of (own := RX8) (nme := "canStarveAnywhere") (cc := cX8_canStarveAnywhere) (maxL := 5) (ret := (some .boolean)) (by decide) rfl rfl rfl (Nat.le_of_ble_eq_true rfl) ?_
  intro p e s m args below meth c A F
  have i_X8 : ∀ w ∈ u_ws RX8 TX8 13, w ∈ wsX8_canStarveAnywhere := fun _ h => List.mem_cons_of_mem _ (List.mem_append_right _ h)
  have K10 : ∀ (n : Nat) (v : SX8) (z1 : Int32) (z2 : Int32) (z3 : Int32) (z4 : Int32) (u : Int32), fX8_canStarveAnywhere_L10 N v z1 z2 n z3 z4 = some u → V p l e (rmz 7 167) s m args below meth c 5 D A 0 0 (MQ below (ok_Q D (wX8 cy a v) (some (.int o)) A) args s 0 0 A) (wX8 cy a v) [(3, .int u)] [] 57 → V p l e (rmz 7 167) s m args below meth c 5 D A 0 0 (MQ below (ok_Q D (wX8 cy a v) (some (.int o)) A) args s 0 0 A) (wX8 cy a v) [(0, .ref (a 0)), (1, .int z1), (2, .int z2), (3, .int z3), (4, .int z4)] [] 10 := by
    intro n
    induction n with
    | zero =>
      intro v z1 z2 z3 z4 u hf hk
      exact nomatch (show (none : Option (Int32)) = some u from hf)
    | succ n ih =>
      intro v z1 z2 z3 z4 u hf hk
      rw [fX8_canStarveAnywhere_L10] at hf
      refine V_iload (pc := 10) F dX8_canStarveAnywhere_10 4 rfl ?_
      refine V_aload_n (pc := 12) F dX8_canStarveAnywhere_12 rfl 0 rfl ?_
      refine V_get (pc := 13) F 0 8 1 i_X8 rfl (by decide) rfl (mm 1 rfl) dX8_canStarveAnywhere_13 rfl rfl ?_
      refine V_iconst (v := 0) (pc := 16) F dX8_canStarveAnywhere_16 (by decide) ?_
      obtain ⟨c3, hf⟩ := chk_some hf
      refine V_iald (pc := 17) F 1 rfl c3 dX8_canStarveAnywhere_17 ?_
      refine V_icmp_ge (pc := 18) (tgt := 57) F dX8_canStarveAnywhere_18 (by decide) (fun h4 => ?_) (fun h4 => ?_)
      · replace hf := ite_pos hf h4
        obtain rfl := some_of hf
        exact V.sub [3] rfl hk
      · replace hf := ite_neg hf h4
        refine V_iload_n (pc := 21) F dX8_canStarveAnywhere_21 rfl 3 rfl ?_
        refine V_if_ne (pc := 22) (tgt := 45) F dX8_canStarveAnywhere_22 (by decide) (fun h5 => ?_) (fun h5 => ?_)
        · replace hf := ite_neg hf h5
          refine V_iconst (v := 1) (pc := 45) F dX8_canStarveAnywhere_45 (by decide) ?_
          refine V_goto (pc := 46) (tgt := 50) F dX8_canStarveAnywhere_46 (by decide) ?_
          refine V_istore_n (L2 := [(3, .int 1), (0, .ref (a 0)), (1, .int z1), (2, .int z2), (4, .int z4)]) (pc := 50) F dX8_canStarveAnywhere_50 rfl (by decide) rfl ?_
          refine V_iinc (v := (z4 + 1)) (L2 := [(4, .int (z4 + 1)), (3, .int 1), (0, .ref (a 0)), (1, .int z1), (2, .int z2)]) (pc := 51) F dX8_canStarveAnywhere_51 4 rfl rfl (by decide) rfl ?_
          refine V_goto (pc := 54) (tgt := 10) F dX8_canStarveAnywhere_54 (by decide) ?_
          refine V.sub [2, 3, 4, 1, 0] rfl ?_
          exact ih v z1 z2 1 (z4 + 1) _ hf hk
        · replace hf := ite_pos hf h5
          refine V_iload_n (pc := 25) F dX8_canStarveAnywhere_25 rfl 2 rfl ?_
          refine V_iload (pc := 26) F dX8_canStarveAnywhere_26 4 rfl ?_
          refine V_ishr (pc := 28) F dX8_canStarveAnywhere_28 ?_
          refine V_iconst (v := 1) (pc := 29) F dX8_canStarveAnywhere_29 (by decide) ?_
          refine V_iand (pc := 30) F dX8_canStarveAnywhere_30 ?_
          refine V_iconst (v := 1) (pc := 31) F dX8_canStarveAnywhere_31 (by decide) ?_
          refine V_icmp_ne (pc := 32) (tgt := 49) F dX8_canStarveAnywhere_32 (by decide) (fun h6 => ?_) (fun h6 => ?_)
          · replace hf := ite_neg hf h6
            refine V_iconst (v := 0) (pc := 49) F dX8_canStarveAnywhere_49 (by decide) ?_
            refine V_istore_n (L2 := [(3, .int 0), (0, .ref (a 0)), (1, .int z1), (2, .int z2), (4, .int z4)]) (pc := 50) F dX8_canStarveAnywhere_50 rfl (by decide) rfl ?_
            refine V_iinc (v := (z4 + 1)) (L2 := [(4, .int (z4 + 1)), (3, .int 0), (0, .ref (a 0)), (1, .int z1), (2, .int z2)]) (pc := 51) F dX8_canStarveAnywhere_51 4 rfl rfl (by decide) rfl ?_
            refine V_goto (pc := 54) (tgt := 10) F dX8_canStarveAnywhere_54 (by decide) ?_
            refine V.sub [2, 3, 4, 1, 0] rfl ?_
            exact ih v z1 z2 0 (z4 + 1) _ hf hk
          · replace hf := ite_pos hf h6
            refine V_aload_n (pc := 35) F dX8_canStarveAnywhere_35 rfl 0 rfl ?_
            refine V_iload (pc := 36) F dX8_canStarveAnywhere_36 4 rfl ?_
            refine V_iload_n (pc := 38) F dX8_canStarveAnywhere_38 rfl 1 rfl ?_
            obtain ⟨r7, g8, hf⟩ := bind_of hf
            refine V_V (w2 := wX8 cy a v) (rest := []) (st2 := [.int r7]) (pc := 39) F 8 (M_X8_canStarve l D cy N a v z4 z1 r7 g8) (cwV 2 F.ts gX8_canStarveAnywhere_X8_canStarve rfl rfl rfl hd_X8_canStarve ⟨Nat.le_of_ble_eq_true rfl, Nat.le_of_ble_eq_true rfl⟩) rfl dX8_canStarveAnywhere_39 Fit.whole rfl rfl rfl (Nat.le_of_ble_eq_true rfl) (Nat.zero_le _) (Nat.zero_le _) rfl rfl rfl ?_
            refine V_if_eq (pc := 42) (tgt := 49) F dX8_canStarveAnywhere_42 (by decide) (fun h9 => ?_) (fun h9 => ?_)
            · replace hf := ite_pos hf h9
              refine V_iconst (v := 0) (pc := 49) F dX8_canStarveAnywhere_49 (by decide) ?_
              refine V_istore_n (L2 := [(3, .int 0), (0, .ref (a 0)), (1, .int z1), (2, .int z2), (4, .int z4)]) (pc := 50) F dX8_canStarveAnywhere_50 rfl (by decide) rfl ?_
              refine V_iinc (v := (z4 + 1)) (L2 := [(4, .int (z4 + 1)), (3, .int 0), (0, .ref (a 0)), (1, .int z1), (2, .int z2)]) (pc := 51) F dX8_canStarveAnywhere_51 4 rfl rfl (by decide) rfl ?_
              refine V_goto (pc := 54) (tgt := 10) F dX8_canStarveAnywhere_54 (by decide) ?_
              refine V.sub [2, 3, 4, 1, 0] rfl ?_
              exact ih v z1 z2 0 (z4 + 1) _ hf hk
            · replace hf := ite_neg hf h9
              refine V_iconst (v := 1) (pc := 45) F dX8_canStarveAnywhere_45 (by decide) ?_
              refine V_goto (pc := 46) (tgt := 50) F dX8_canStarveAnywhere_46 (by decide) ?_
              refine V_istore_n (L2 := [(3, .int 1), (0, .ref (a 0)), (1, .int z1), (2, .int z2), (4, .int z4)]) (pc := 50) F dX8_canStarveAnywhere_50 rfl (by decide) rfl ?_
              refine V_iinc (v := (z4 + 1)) (L2 := [(4, .int (z4 + 1)), (3, .int 1), (0, .ref (a 0)), (1, .int z1), (2, .int z2)]) (pc := 51) F dX8_canStarveAnywhere_51 4 rfl rfl (by decide) rfl ?_
              refine V_goto (pc := 54) (tgt := 10) F dX8_canStarveAnywhere_54 (by decide) ?_
              refine V.sub [2, 3, 4, 1, 0] rfl ?_
              exact ih v z1 z2 1 (z4 + 1) _ hf hk
  unfold fX8_canStarveAnywhere at hf
  refine V.eq rfl (show lv_args 0 [.ref (a 0), .int x1] = [(0, .ref (a 0)), (1, .int x1)] from rfl) rfl ?_
  refine V_aload_n (pc := 0) F dX8_canStarveAnywhere_0 rfl 0 rfl ?_
  obtain ⟨r1, g2, hf⟩ := bind_of hf
  refine V_V (w2 := wX8 cy a v) (rest := []) (st2 := [.int r1]) (pc := 1) F 8 (M_X8_comers l D cy N a v r1 g2) (cwV 0 F.ts gX8_canStarveAnywhere_X8_comers rfl rfl rfl hd_X8_comers ⟨Nat.le_of_ble_eq_true rfl, Nat.le_of_ble_eq_true rfl⟩) rfl dX8_canStarveAnywhere_1 Fit.whole rfl rfl rfl (Nat.le_of_ble_eq_true rfl) (Nat.zero_le _) (Nat.zero_le _) rfl rfl rfl ?_
  refine V_istore_n (L2 := [(2, .int r1), (0, .ref (a 0)), (1, .int x1)]) (pc := 4) F dX8_canStarveAnywhere_4 rfl (by decide) rfl ?_
  refine V_iconst (v := 0) (pc := 5) F dX8_canStarveAnywhere_5 (by decide) ?_
  refine V_istore_n (L2 := [(3, .int 0), (2, .int r1), (0, .ref (a 0)), (1, .int x1)]) (pc := 6) F dX8_canStarveAnywhere_6 rfl (by decide) rfl ?_
  refine V_iconst (v := 0) (pc := 7) F dX8_canStarveAnywhere_7 (by decide) ?_
  refine V_istore (L2 := [(4, .int 0), (3, .int 0), (2, .int r1), (0, .ref (a 0)), (1, .int x1)]) (pc := 8) F dX8_canStarveAnywhere_8 (by decide) rfl ?_
  refine V.sub [3, 4, 2, 1, 0] rfl ?_
  obtain ⟨u10, g11, hf⟩ := bind_of hf
  refine K10 N v x1 r1 0 0 u10 g11 ?_
  refine V_iload_n (pc := 57) F dX8_canStarveAnywhere_57 rfl 0 rfl ?_
  obtain ⟨c12, hf⟩ := must_some hf
  obtain rfl := some_of hf
  exact V_ret F rfl (nar_bool (of_decide_eq_true c12)) dX8_canStarveAnywhere_58 rfl rfl
