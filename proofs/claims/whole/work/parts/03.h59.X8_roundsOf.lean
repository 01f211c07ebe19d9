theorem hd_X8_roundsOf : yX8_roundsOf.cls = RX8 ∧ yX8_roundsOf.cls ≠ "java/lang/invoke/MethodHandle" ∧ yX8_roundsOf.cls ≠ "java/lang/invoke/VarHandle" ∧ (parseMethodDescriptor yX8_roundsOf.desc).map (fun d => d.parameters.length) = some 1 := by decide +kernel
def fX8_roundsOf_L10 (N : Nat) (v : SX8) (z1 : Int32) (z2 : Int32) : Nat → Int32 → Int32 → Option (Int32)
  | 0, _, _ => none
  | n + 1, z3, z4 =>
    chk 0 143 (
      if (v.2.1 (0 : Int32).toNatClampNeg) ≤ z4 then
        some z3
      else
        if ((z2 >>> (z4 &&& 31)) &&& 1) = 1 then
          (fX8_isRound N v z4 z1).bind fun r6 =>
            if r6 = 0 then
              fX8_roundsOf_L10 N v z1 z2 n (z3 ||| 0) (z4 + 1)
            else
              fX8_roundsOf_L10 N v z1 z2 n (z3 ||| ((1 : Int32) <<< (z4 &&& 31))) (z4 + 1)
        else
          fX8_roundsOf_L10 N v z1 z2 n (z3 ||| 0) (z4 + 1)
    )
def fX8_roundsOf (N : Nat) (v : SX8) (x1 : Int32) : Option (Int32) :=
  (fX8_comers N v).bind fun r1 =>
    (fX8_roundsOf_L10 N v x1 r1 N 0 0).bind fun u9 =>
      some u9
set_option maxHeartbeats 8000000 in
set_option maxRecDepth 100000 in
theorem M_X8_roundsOf (l : Launch) (D : va_G) (cy : Nat → ClassId) (N : Nat) (a : Nat → Nat) (v : SX8) (x1 : Int32) (o : Int32) (hf : fX8_roundsOf N v x1 = some o) : okM l yX8_roundsOf wsX8_roundsOf (rmz 6 142) D cy [.ref (a 0), .int x1] (wX8 cy a v) (wX8 cy a v) (some (.int o)) := by
  refine okM_of (own := RX8) (nme := "roundsOf") (cc := cX8_roundsOf) (maxL := 5) (ret := (some .int)) (by decide) rfl rfl rfl (Nat.le_of_ble_eq_true rfl) ?_
  intro p e s m args below meth c A F
  have i_X8 : ∀ w ∈ u_ws RX8 TX8 13, w ∈ wsX8_roundsOf := fun _ h => List.mem_cons_of_mem _ (List.mem_append_right _ h)
  have K10 : ∀ (n : Nat) (v : SX8) (z1 : Int32) (z2 : Int32) (z3 : Int32) (z4 : Int32) (u : Int32), fX8_roundsOf_L10 N v z1 z2 n z3 z4 = some u → V p l e (rmz 6 142) s m args below meth c 5 D A 0 0 (MQ below (ok_Q D (wX8 cy a v) (some (.int o)) A) args s 0 0 A) (wX8 cy a v) [(3, .int u)] [] 58 → V p l e (rmz 6 142) s m args below meth c 5 D A 0 0 (MQ below (ok_Q D (wX8 cy a v) (some (.int o)) A) args s 0 0 A) (wX8 cy a v) [(0, .ref (a 0)), (1, .int z1), (2, .int z2), (3, .int z3), (4, .int z4)] [] 10 := by
    intro n
    induction n with
    | zero =>
      intro v z1 z2 z3 z4 u hf hk
      exact nomatch (show (none : Option (Int32)) = some u from hf)
    | succ n ih =>
      intro v z1 z2 z3 z4 u hf hk
      rw [fX8_roundsOf_L10] at hf
      refine V_iload (pc := 10) F dX8_roundsOf_10 4 rfl ?_
      refine V_aload_n (pc := 12) F dX8_roundsOf_12 rfl 0 rfl ?_
      refine V_get (pc := 13) F 0 8 1 i_X8 rfl (by decide) rfl (mm 1 rfl) dX8_roundsOf_13 rfl rfl ?_
      refine V_iconst (v := 0) (pc := 16) F dX8_roundsOf_16 (by decide) ?_
      obtain ⟨c3, hf⟩ := chk_some hf
      refine V_iald (pc := 17) F 1 rfl c3 dX8_roundsOf_17 ?_
      refine V_icmp_ge (pc := 18) (tgt := 58) F dX8_roundsOf_18 (by decide) (fun h4 => ?_) (fun h4 => ?_)
      · replace hf := ite_pos hf h4
        obtain rfl := some_of hf
        exact V.sub [3] rfl hk
      · replace hf := ite_neg hf h4
        refine V_iload_n (pc := 21) F dX8_roundsOf_21 rfl 3 rfl ?_
        refine V_iload_n (pc := 22) F dX8_roundsOf_22 rfl 2 rfl ?_
        refine V_iload (pc := 23) F dX8_roundsOf_23 4 rfl ?_
        refine V_ishr (pc := 25) F dX8_roundsOf_25 ?_
        refine V_iconst (v := 1) (pc := 26) F dX8_roundsOf_26 (by decide) ?_
        refine V_iand (pc := 27) F dX8_roundsOf_27 ?_
        refine V_iconst (v := 1) (pc := 28) F dX8_roundsOf_28 (by decide) ?_
        refine V_icmp_ne (pc := 29) (tgt := 49) F dX8_roundsOf_29 (by decide) (fun h5 => ?_) (fun h5 => ?_)
        · replace hf := ite_neg hf h5
          refine V_iconst (v := 0) (pc := 49) F dX8_roundsOf_49 (by decide) ?_
          refine V_ior (pc := 50) F dX8_roundsOf_50 ?_
          refine V_istore_n (L2 := [(3, .int (z3 ||| 0)), (0, .ref (a 0)), (1, .int z1), (2, .int z2), (4, .int z4)]) (pc := 51) F dX8_roundsOf_51 rfl (by decide) rfl ?_
          refine V_iinc (v := (z4 + 1)) (L2 := [(4, .int (z4 + 1)), (3, .int (z3 ||| 0)), (0, .ref (a 0)), (1, .int z1), (2, .int z2)]) (pc := 52) F dX8_roundsOf_52 4 rfl rfl (by decide) rfl ?_
          refine V_goto (pc := 55) (tgt := 10) F dX8_roundsOf_55 (by decide) ?_
          refine V.sub [2, 3, 4, 1, 0] rfl ?_
          exact ih v z1 z2 (z3 ||| 0) (z4 + 1) _ hf hk
        · replace hf := ite_pos hf h5
          refine V_aload_n (pc := 32) F dX8_roundsOf_32 rfl 0 rfl ?_
          refine V_iload (pc := 33) F dX8_roundsOf_33 4 rfl ?_
          refine V_iload_n (pc := 35) F dX8_roundsOf_35 rfl 1 rfl ?_
          obtain ⟨r6, g7, hf⟩ := bind_of hf
          refine V_V (w2 := wX8 cy a v) (rest := [.int z3]) (st2 := [.int r6, .int z3]) (pc := 36) F 8 (M_X8_isRound l D cy N a v z4 z1 r6 g7) (cwV 2 F.ts gX8_roundsOf_X8_isRound rfl rfl rfl hd_X8_isRound ⟨Nat.le_of_ble_eq_true rfl, Nat.le_of_ble_eq_true rfl⟩) rfl dX8_roundsOf_36 Fit.whole rfl rfl rfl (Nat.le_of_ble_eq_true rfl) (Nat.zero_le _) (Nat.zero_le _) rfl rfl rfl ?_
          refine V_if_eq (pc := 39) (tgt := 49) F dX8_roundsOf_39 (by decide) (fun h8 => ?_) (fun h8 => ?_)
          · replace hf := ite_pos hf h8
            refine V_iconst (v := 0) (pc := 49) F dX8_roundsOf_49 (by decide) ?_
            refine V_ior (pc := 50) F dX8_roundsOf_50 ?_
            refine V_istore_n (L2 := [(3, .int (z3 ||| 0)), (0, .ref (a 0)), (1, .int z1), (2, .int z2), (4, .int z4)]) (pc := 51) F dX8_roundsOf_51 rfl (by decide) rfl ?_
            refine V_iinc (v := (z4 + 1)) (L2 := [(4, .int (z4 + 1)), (3, .int (z3 ||| 0)), (0, .ref (a 0)), (1, .int z1), (2, .int z2)]) (pc := 52) F dX8_roundsOf_52 4 rfl rfl (by decide) rfl ?_
            refine V_goto (pc := 55) (tgt := 10) F dX8_roundsOf_55 (by decide) ?_
            refine V.sub [2, 3, 4, 1, 0] rfl ?_
            exact ih v z1 z2 (z3 ||| 0) (z4 + 1) _ hf hk
          · replace hf := ite_neg hf h8
            refine V_iconst (v := 1) (pc := 42) F dX8_roundsOf_42 (by decide) ?_
            refine V_iload (pc := 43) F dX8_roundsOf_43 4 rfl ?_
            refine V_ishl (pc := 45) F dX8_roundsOf_45 ?_
            refine V_goto (pc := 46) (tgt := 50) F dX8_roundsOf_46 (by decide) ?_
            refine V_ior (pc := 50) F dX8_roundsOf_50 ?_
            refine V_istore_n (L2 := [(3, .int (z3 ||| ((1 : Int32) <<< (z4 &&& 31)))), (0, .ref (a 0)), (1, .int z1), (2, .int z2), (4, .int z4)]) (pc := 51) F dX8_roundsOf_51 rfl (by decide) rfl ?_
            refine V_iinc (v := (z4 + 1)) (L2 := [(4, .int (z4 + 1)), (3, .int (z3 ||| ((1 : Int32) <<< (z4 &&& 31)))), (0, .ref (a 0)), (1, .int z1), (2, .int z2)]) (pc := 52) F dX8_roundsOf_52 4 rfl rfl (by decide) rfl ?_
            refine V_goto (pc := 55) (tgt := 10) F dX8_roundsOf_55 (by decide) ?_
            refine V.sub [2, 3, 4, 1, 0] rfl ?_
            exact ih v z1 z2 (z3 ||| ((1 : Int32) <<< (z4 &&& 31))) (z4 + 1) _ hf hk
  unfold fX8_roundsOf at hf
  refine V.eq rfl (show lv_args 0 [.ref (a 0), .int x1] = [(0, .ref (a 0)), (1, .int x1)] from rfl) rfl ?_
  refine V_aload_n (pc := 0) F dX8_roundsOf_0 rfl 0 rfl ?_
  obtain ⟨r1, g2, hf⟩ := bind_of hf
  refine V_V (w2 := wX8 cy a v) (rest := []) (st2 := [.int r1]) (pc := 1) F 8 (M_X8_comers l D cy N a v r1 g2) (cwV 0 F.ts gX8_roundsOf_X8_comers rfl rfl rfl hd_X8_comers ⟨Nat.le_of_ble_eq_true rfl, Nat.le_of_ble_eq_true rfl⟩) rfl dX8_roundsOf_1 Fit.whole rfl rfl rfl (Nat.le_of_ble_eq_true rfl) (Nat.zero_le _) (Nat.zero_le _) rfl rfl rfl ?_
  refine V_istore_n (L2 := [(2, .int r1), (0, .ref (a 0)), (1, .int x1)]) (pc := 4) F dX8_roundsOf_4 rfl (by decide) rfl ?_
  refine V_iconst (v := 0) (pc := 5) F dX8_roundsOf_5 (by decide) ?_
  refine V_istore_n (L2 := [(3, .int 0), (2, .int r1), (0, .ref (a 0)), (1, .int x1)]) (pc := 6) F dX8_roundsOf_6 rfl (by decide) rfl ?_
  refine V_iconst (v := 0) (pc := 7) F dX8_roundsOf_7 (by decide) ?_
  refine V_istore (L2 := [(4, .int 0), (3, .int 0), (2, .int r1), (0, .ref (a 0)), (1, .int x1)]) (pc := 8) F dX8_roundsOf_8 (by decide) rfl ?_
  refine V.sub [3, 4, 2, 1, 0] rfl ?_
  obtain ⟨u9, g10, hf⟩ := bind_of hf
  refine K10 N v x1 r1 0 0 u9 g10 ?_
  refine V_iload_n (pc := 58) F dX8_roundsOf_58 rfl 0 rfl ?_
  obtain rfl := some_of hf
  exact V_ret F rfl rfl dX8_roundsOf_59 rfl rfl
