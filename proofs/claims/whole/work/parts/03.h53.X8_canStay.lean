theorem hd_X8_canStay : yX8_canStay.cls = RX8 ∧ yX8_canStay.cls ≠ "java/lang/invoke/MethodHandle" ∧ yX8_canStay.cls ≠ "java/lang/invoke/VarHandle" ∧ (parseMethodDescriptor yX8_canStay.desc).map (fun d => d.parameters.length) = some 2 := by decide +kernel
def fX8_canStay_L5 (N : Nat) (v : SX8) (z1 : Int32) (z2 : Int32) : Nat → Int32 → Int32 → Option (Int32)
  | 0, _, _ => none
  | n + 1, z3, z4 =>
    (fX8_rules N v z1).bind fun r1 =>
      if r1 ≤ z4 then
        some z3
      else
        if z3 = 0 then
          fX8_canStay_L5 N v z1 z2 n 0 (z4 + 1)
        else
          (fX8_isSure N v z1 z4 z2).bind fun r5 =>
            if r5 = 0 then
              fX8_canStay_L5 N v z1 z2 n 1 (z4 + 1)
            else
              fX8_canStay_L5 N v z1 z2 n 0 (z4 + 1)
def fX8_canStay (N : Nat) (v : SX8) (x1 : Int32) (x2 : Int32) : Option (Int32) :=
  (fX8_canStay_L5 N v x1 x2 N 1 0).bind fun u8 =>
    must (decide (u8 = 0 ∨ u8 = 1)) (
      some u8
    )
set_option maxHeartbeats 8000000 in
set_option maxRecDepth 100000 in
theorem M_X8_canStay (l : Launch) (D : va_G) (cy : Nat → ClassId) (N : Nat) (a : Nat → Nat) (v : SX8) (x1 : Int32) (x2 : Int32) (o : Int32) (hf : fX8_canStay N v x1 x2 = some o) : okM l yX8_canStay wsX8_canStay (rmz 3 67) D cy [.ref (a 0), .int x1, .int x2] (wX8 cy a v) (wX8 cy a v) (some (.int o)) := by
  refine okM_of (own := RX8) (nme := "canStay") (cc := cX8_canStay) (maxL := 5) (ret := (some .boolean)) (by decide) rfl rfl rfl (Nat.le_of_ble_eq_true rfl) ?_
  intro p e s m args below meth c A F
  have K5 : ∀ (n : Nat) (v : SX8) (z1 : Int32) (z2 : Int32) (z3 : Int32) (z4 : Int32) (u : Int32), fX8_canStay_L5 N v z1 z2 n z3 z4 = some u → V p l e (rmz 3 67) s m args below meth c 5 D A 0 0 (MQ below (ok_Q D (wX8 cy a v) (some (.int o)) A) args s 0 0 A) (wX8 cy a v) [(3, .int u)] [] 42 → V p l e (rmz 3 67) s m args below meth c 5 D A 0 0 (MQ below (ok_Q D (wX8 cy a v) (some (.int o)) A) args s 0 0 A) (wX8 cy a v) [(0, .ref (a 0)), (1, .int z1), (2, .int z2), (3, .int z3), (4, .int z4)] [] 5 := by
    intro n
    induction n with
    | zero =>
      intro v z1 z2 z3 z4 u hf hk
      exact nomatch (show (none : Option (Int32)) = some u from hf)
    | succ n ih =>
      intro v z1 z2 z3 z4 u hf hk
      rw [fX8_canStay_L5] at hf
      refine V_iload (pc := 5) F dX8_canStay_5 4 rfl ?_
      refine V_aload_n (pc := 7) F dX8_canStay_7 rfl 0 rfl ?_
      refine V_iload_n (pc := 8) F dX8_canStay_8 rfl 1 rfl ?_
      obtain ⟨r1, g2, hf⟩ := bind_of hf
      refine V_V (w2 := wX8 cy a v) (rest := [.int z4]) (st2 := [.int r1, .int z4]) (pc := 9) F 8 (M_X8_rules l D cy N a v z1 r1 g2) (cwV 1 F.ts gX8_canStay_X8_rules rfl rfl rfl hd_X8_rules ⟨Nat.le_of_ble_eq_true rfl, Nat.le_of_ble_eq_true rfl⟩) rfl dX8_canStay_9 Fit.whole rfl rfl rfl (Nat.le_of_ble_eq_true rfl) (Nat.zero_le _) (Nat.zero_le _) rfl rfl rfl ?_
      refine V_icmp_ge (pc := 12) (tgt := 42) F dX8_canStay_12 (by decide) (fun h3 => ?_) (fun h3 => ?_)
      · replace hf := ite_pos hf h3
        obtain rfl := some_of hf
        exact V.sub [3] rfl hk
      · replace hf := ite_neg hf h3
        refine V_iload_n (pc := 15) F dX8_canStay_15 rfl 3 rfl ?_
        refine V_if_eq (pc := 16) (tgt := 34) F dX8_canStay_16 (by decide) (fun h4 => ?_) (fun h4 => ?_)
        · replace hf := ite_pos hf h4
          refine V_iconst (v := 0) (pc := 34) F dX8_canStay_34 (by decide) ?_
          refine V_istore_n (L2 := [(3, .int 0), (0, .ref (a 0)), (1, .int z1), (2, .int z2), (4, .int z4)]) (pc := 35) F dX8_canStay_35 rfl (by decide) rfl ?_
          refine V_iinc (v := (z4 + 1)) (L2 := [(4, .int (z4 + 1)), (3, .int 0), (0, .ref (a 0)), (1, .int z1), (2, .int z2)]) (pc := 36) F dX8_canStay_36 4 rfl rfl (by decide) rfl ?_
          refine V_goto (pc := 39) (tgt := 5) F dX8_canStay_39 (by decide) ?_
          refine V.sub [2, 3, 4, 1, 0] rfl ?_
          exact ih v z1 z2 0 (z4 + 1) _ hf hk
        · replace hf := ite_neg hf h4
          refine V_aload_n (pc := 19) F dX8_canStay_19 rfl 0 rfl ?_
          refine V_iload_n (pc := 20) F dX8_canStay_20 rfl 1 rfl ?_
          refine V_iload (pc := 21) F dX8_canStay_21 4 rfl ?_
          refine V_iload_n (pc := 23) F dX8_canStay_23 rfl 2 rfl ?_
          obtain ⟨r5, g6, hf⟩ := bind_of hf
          refine V_V (w2 := wX8 cy a v) (rest := []) (st2 := [.int r5]) (pc := 24) F 8 (M_X8_isSure l D cy N a v z1 z4 z2 r5 g6) (cwV 3 F.ts gX8_canStay_X8_isSure rfl rfl rfl hd_X8_isSure ⟨Nat.le_of_ble_eq_true rfl, Nat.le_of_ble_eq_true rfl⟩) rfl dX8_canStay_24 Fit.whole rfl rfl rfl (Nat.le_of_ble_eq_true rfl) (Nat.zero_le _) (Nat.zero_le _) rfl rfl rfl ?_
          refine V_if_ne (pc := 27) (tgt := 34) F dX8_canStay_27 (by decide) (fun h7 => ?_) (fun h7 => ?_)
          · replace hf := ite_neg hf h7
            refine V_iconst (v := 0) (pc := 34) F dX8_canStay_34 (by decide) ?_
            refine V_istore_n (L2 := [(3, .int 0), (0, .ref (a 0)), (1, .int z1), (2, .int z2), (4, .int z4)]) (pc := 35) F dX8_canStay_35 rfl (by decide) rfl ?_
            refine V_iinc (v := (z4 + 1)) (L2 := [(4, .int (z4 + 1)), (3, .int 0), (0, .ref (a 0)), (1, .int z1), (2, .int z2)]) (pc := 36) F dX8_canStay_36 4 rfl rfl (by decide) rfl ?_
            refine V_goto (pc := 39) (tgt := 5) F dX8_canStay_39 (by decide) ?_
            refine V.sub [2, 3, 4, 1, 0] rfl ?_
            exact ih v z1 z2 0 (z4 + 1) _ hf hk
          · replace hf := ite_pos hf h7
            refine V_iconst (v := 1) (pc := 30) F dX8_canStay_30 (by decide) ?_
            refine V_goto (pc := 31) (tgt := 35) F dX8_canStay_31 (by decide) ?_
            refine V_istore_n (L2 := [(3, .int 1), (0, .ref (a 0)), (1, .int z1), (2, .int z2), (4, .int z4)]) (pc := 35) F dX8_canStay_35 rfl (by decide) rfl ?_
            refine V_iinc (v := (z4 + 1)) (L2 := [(4, .int (z4 + 1)), (3, .int 1), (0, .ref (a 0)), (1, .int z1), (2, .int z2)]) (pc := 36) F dX8_canStay_36 4 rfl rfl (by decide) rfl ?_
            refine V_goto (pc := 39) (tgt := 5) F dX8_canStay_39 (by decide) ?_
            refine V.sub [2, 3, 4, 1, 0] rfl ?_
            exact ih v z1 z2 1 (z4 + 1) _ hf hk
  unfold fX8_canStay at hf
  refine V.eq rfl (show lv_args 0 [.ref (a 0), .int x1, .int x2] = [(0, .ref (a 0)), (1, .int x1), (2, .int x2)] from rfl) rfl ?_
  refine V_iconst (v := 1) (pc := 0) F dX8_canStay_0 (by decide) ?_
  refine V_istore_n (L2 := [(3, .int 1), (0, .ref (a 0)), (1, .int x1), (2, .int x2)]) (pc := 1) F dX8_canStay_1 rfl (by decide) rfl ?_
  refine V_iconst (v := 0) (pc := 2) F dX8_canStay_2 (by decide) ?_
  refine V_istore (L2 := [(4, .int 0), (3, .int 1), (0, .ref (a 0)), (1, .int x1), (2, .int x2)]) (pc := 3) F dX8_canStay_3 (by decide) rfl ?_
  refine V.sub [2, 3, 4, 1, 0] rfl ?_
  obtain ⟨u8, g9, hf⟩ := bind_of hf
  refine K5 N v x1 x2 1 0 u8 g9 ?_
  refine V_iload_n (pc := 42) F dX8_canStay_42 rfl 0 rfl ?_
  obtain ⟨c10, hf⟩ := must_some hf
  obtain rfl := some_of hf
  exact V_ret F rfl (nar_bool (of_decide_eq_true c10)) dX8_canStay_43 rfl rfl
