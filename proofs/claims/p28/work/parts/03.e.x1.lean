theorem hd_X1_isClearing : yX1_isClearing.cls = RX1 ∧ yX1_isClearing.cls ≠ "java/lang/invoke/MethodHandle" ∧ yX1_isClearing.cls ≠ "java/lang/invoke/VarHandle" ∧ (parseMethodDescriptor yX1_isClearing.desc).map (fun d => d.parameters.length) = some 0 := by decide +kernel
def fX1_isClearing (N : Nat) (v : SX1) : Option (Int32) :=
  if v.2.2.2.2.2.2.2.2.1 ≤ 0 then
    some 0
  else
    some 1
set_option maxHeartbeats 8000000 in
set_option maxRecDepth 100000 in
theorem M_X1_isClearing (l : Launch) (D : va_G) (cy : Nat → ClassId) (N : Nat) (a : Nat → Nat) (v : SX1) (o : Int32) (hf : fX1_isClearing N v = some o) : okM l yX1_isClearing wsX1_isClearing (rmz 0 0) D cy [.ref (a 0)] (wX1 cy a v) (wX1 cy a v) (some (.int o)) := by
  refine okM_of (own := RX1) (nme := "isClearing") (cc := cX1_isClearing) (maxL := 1) (ret := (some .boolean)) (by decide) rfl rfl rfl (Nat.le_of_ble_eq_true rfl) ?_
  intro p e s m args below meth c A F
  have i_X1 : ∀ w ∈ u_ws RX1 TX1 10, w ∈ wsX1_isClearing := fun _ h => List.mem_cons_of_mem _ (List.mem_append_right _ h)
  unfold fX1_isClearing at hf
  refine V.eq rfl (show lv_args 0 [.ref (a 0)] = [(0, .ref (a 0))] from rfl) rfl ?_
  refine V_aload_n (pc := 0) F dX1_isClearing_0 rfl 0 rfl ?_
  refine V_get (pc := 1) F 0 1 8 i_X1 rfl (by decide) rfl (mm 1 rfl) dX1_isClearing_1 rfl rfl ?_
  refine V_if_le (pc := 4) (tgt := 11) F dX1_isClearing_4 (by decide) (fun h1 => ?_) (fun h1 => ?_)
  · replace hf := ite_pos hf h1
    refine V_iconst (v := 0) (pc := 11) F dX1_isClearing_11 (by decide) ?_
    obtain rfl := some_of hf
    exact V_ret F rfl rfl dX1_isClearing_12 rfl rfl
  · replace hf := ite_neg hf h1
    refine V_iconst (v := 1) (pc := 7) F dX1_isClearing_7 (by decide) ?_
    refine V_goto (pc := 8) (tgt := 12) F dX1_isClearing_8 (by decide) ?_
    obtain rfl := some_of hf
    exact V_ret F rfl rfl dX1_isClearing_12 rfl rfl
theorem hd_X1_greensNow : yX1_greensNow.cls = RX1 ∧ yX1_greensNow.cls ≠ "java/lang/invoke/MethodHandle" ∧ yX1_greensNow.cls ≠ "java/lang/invoke/VarHandle" ∧ (parseMethodDescriptor yX1_greensNow.desc).map (fun d => d.parameters.length) = some 0 := by decide +kernel
def fX1_greensNow (N : Nat) (v : SX1) : Option (Int32) :=
  (fX1_isClearing N v).bind fun r1 =>
    if r1 = 0 then
      some (rowAt 8 v.1.2.1 v.2.2.2.2.2.1)
    else
      some ((rowAt 8 v.1.2.1 v.2.2.2.2.2.1) &&& (rowAt 8 v.1.2.1 v.2.2.2.2.2.2.1))
set_option maxHeartbeats 8000000 in
set_option maxRecDepth 100000 in
theorem M_X1_greensNow (l : Launch) (D : va_G) (cy : Nat → ClassId) (N : Nat) (a : Nat → Nat) (v : SX1) (o : Int32) (hf : fX1_greensNow N v = some o) : okM l yX1_greensNow wsX1_greensNow (rmz 1 21) D cy [.ref (a 0)] (wX1 cy a v) (wX1 cy a v) (some (.int o)) := by
  refine okM_of (own := RX1) (nme := "greensNow") (cc := cX1_greensNow) (maxL := 2) (ret := (some .int)) (by decide) rfl rfl rfl (Nat.le_of_ble_eq_true rfl) ?_
  intro p e s m args below meth c A F
  have i_X1 : ∀ w ∈ u_ws RX1 TX1 10, w ∈ wsX1_greensNow := fun _ h => List.mem_cons_of_mem _ (List.mem_append_left _ (List.mem_append_left _ (List.mem_append_right _ h)))
  have i_X2 : ∀ w ∈ u_ws RX2 TX2 8, w ∈ wsX1_greensNow := fun _ h => List.mem_cons_of_mem _ (List.mem_append_left _ (List.mem_append_right _ h))
  unfold fX1_greensNow at hf
  refine V.eq rfl (show lv_args 0 [.ref (a 0)] = [(0, .ref (a 0))] from rfl) rfl ?_
  refine V_aload_n (pc := 0) F dX1_greensNow_0 rfl 0 rfl ?_
  refine V_get (pc := 1) F 0 1 0 i_X1 rfl (by decide) rfl (mm 1 rfl) dX1_greensNow_1 rfl rfl ?_
  refine V_get (pc := 4) F 1 2 1 i_X2 rfl (by decide) rfl (mm 2 rfl) dX1_greensNow_4 rfl rfl ?_
  refine V_aload_n (pc := 7) F dX1_greensNow_7 rfl 0 rfl ?_
  refine V_get (pc := 8) F 0 1 5 i_X1 rfl (by decide) rfl (mm 3 rfl) dX1_greensNow_8 rfl rfl ?_
  refine V_V (w2 := wX1 cy a v) (rest := []) (st2 := [.int (rowAt 8 v.1.2.1 v.2.2.2.2.2.1)]) (pc := 11) F 5 (R_at l D cy (fun i => a (i + 4)) 8 v.1.2.1 v.2.2.2.2.2.1 (by decide)) (cwV 1 F.ts gX1_greensNow_X5_at rfl rfl rfl hd_X5_at ⟨Nat.le_of_ble_eq_true rfl, Nat.le_of_ble_eq_true rfl⟩) rfl dX1_greensNow_11 (Fit.right (Fit.left (Fit.right (Fit.right (Fit.left Fit.whole))))) rfl rfl rfl (Nat.le_of_ble_eq_true rfl) (Nat.zero_le _) (Nat.zero_le _) rfl rfl rfl ?_
  refine V_istore_n (L2 := [(1, .int (rowAt 8 v.1.2.1 v.2.2.2.2.2.1)), (0, .ref (a 0))]) (pc := 14) F dX1_greensNow_14 rfl (by decide) rfl ?_
  refine V_aload_n (pc := 15) F dX1_greensNow_15 rfl 1 rfl ?_
  obtain ⟨r1, g2, hf⟩ := bind_of hf
  refine V_V (w2 := wX1 cy a v) (rest := []) (st2 := [.int r1]) (pc := 16) F 1 (M_X1_isClearing l D cy N a v r1 g2) (cwV 0 F.ts gX1_greensNow_X1_isClearing rfl rfl rfl hd_X1_isClearing ⟨Nat.le_of_ble_eq_true rfl, Nat.le_of_ble_eq_true rfl⟩) rfl dX1_greensNow_16 Fit.whole rfl rfl rfl (Nat.le_of_ble_eq_true rfl) (Nat.zero_le _) (Nat.zero_le _) rfl rfl rfl ?_
  refine V_if_eq (pc := 19) (tgt := 41) F dX1_greensNow_19 (by decide) (fun h3 => ?_) (fun h3 => ?_)
  · replace hf := ite_pos hf h3
    refine V_iload_n (pc := 41) F dX1_greensNow_41 rfl 0 rfl ?_
    obtain rfl := some_of hf
    exact V_ret F rfl rfl dX1_greensNow_42 rfl rfl
  · replace hf := ite_neg hf h3
    refine V_iload_n (pc := 22) F dX1_greensNow_22 rfl 0 rfl ?_
    refine V_aload_n (pc := 23) F dX1_greensNow_23 rfl 1 rfl ?_
    refine V_get (pc := 24) F 0 1 0 i_X1 rfl (by decide) rfl (mm 1 rfl) dX1_greensNow_24 rfl rfl ?_
    refine V_get (pc := 27) F 1 2 1 i_X2 rfl (by decide) rfl (mm 2 rfl) dX1_greensNow_27 rfl rfl ?_
    refine V_aload_n (pc := 30) F dX1_greensNow_30 rfl 1 rfl ?_
    refine V_get (pc := 31) F 0 1 6 i_X1 rfl (by decide) rfl (mm 4 rfl) dX1_greensNow_31 rfl rfl ?_
    refine V_V (w2 := wX1 cy a v) (rest := [.int (rowAt 8 v.1.2.1 v.2.2.2.2.2.1)]) (st2 := [.int (rowAt 8 v.1.2.1 v.2.2.2.2.2.2.1), .int (rowAt 8 v.1.2.1 v.2.2.2.2.2.1)]) (pc := 34) F 5 (R_at l D cy (fun i => a (i + 4)) 8 v.1.2.1 v.2.2.2.2.2.2.1 (by decide)) (cwV 1 F.ts gX1_greensNow_X5_at rfl rfl rfl hd_X5_at ⟨Nat.le_of_ble_eq_true rfl, Nat.le_of_ble_eq_true rfl⟩) rfl dX1_greensNow_34 (Fit.right (Fit.left (Fit.right (Fit.right (Fit.left Fit.whole))))) rfl rfl rfl (Nat.le_of_ble_eq_true rfl) (Nat.zero_le _) (Nat.zero_le _) rfl rfl rfl ?_
    refine V_iand (pc := 37) F dX1_greensNow_37 ?_
    refine V_goto (pc := 38) (tgt := 42) F dX1_greensNow_38 (by decide) ?_
    obtain rfl := some_of hf
    exact V_ret F rfl rfl dX1_greensNow_42 rfl rfl
theorem hd_X1_waiting : yX1_waiting.cls = RX1 ∧ yX1_waiting.cls ≠ "java/lang/invoke/MethodHandle" ∧ yX1_waiting.cls ≠ "java/lang/invoke/VarHandle" ∧ (parseMethodDescriptor yX1_waiting.desc).map (fun d => d.parameters.length) = some 0 := by decide +kernel
def fX1_waiting_L4 (N : Nat) (v : SX1) : Nat → Int32 → Int32 → Option (Int32)
  | 0, _, _ => none
  | n + 1, z1, z2 =>
    if 6 ≤ z2 then
      some z1
    else
      if (rowAt 6 v.2.1 z2) = (-1) then
        fX1_waiting_L4 N v n z1 (z2 + 1)
      else
        fX1_waiting_L4 N v n (z1 ||| ((1 : Int32) <<< (z2 &&& 31))) (z2 + 1)
def fX1_waiting (N : Nat) (v : SX1) : Option (Int32) :=
  (fX1_waiting_L4 N v N 0 0).bind fun u3 =>
    some u3
set_option maxHeartbeats 8000000 in
set_option maxRecDepth 100000 in
theorem M_X1_waiting (l : Launch) (D : va_G) (cy : Nat → ClassId) (N : Nat) (a : Nat → Nat) (v : SX1) (o : Int32) (hf : fX1_waiting N v = some o) : okM l yX1_waiting wsX1_waiting (rmz 1 21) D cy [.ref (a 0)] (wX1 cy a v) (wX1 cy a v) (some (.int o)) := by
  refine okM_of (own := RX1) (nme := "waiting") (cc := cX1_waiting) (maxL := 3) (ret := (some .int)) (by decide) rfl rfl rfl (Nat.le_of_ble_eq_true rfl) ?_
  intro p e s m args below meth c A F
  have i_X1 : ∀ w ∈ u_ws RX1 TX1 10, w ∈ wsX1_waiting := fun _ h => List.mem_cons_of_mem _ (List.mem_append_left _ (List.mem_append_right _ h))
  have K4 : ∀ (n : Nat) (v : SX1) (z1 : Int32) (z2 : Int32) (u : Int32), fX1_waiting_L4 N v n z1 z2 = some u → V p l e (rmz 1 21) s m args below meth c 3 D A 0 0 (MQ below (ok_Q D (wX1 cy a v) (some (.int o)) A) args s 0 0 A) (wX1 cy a v) [(1, .int u)] [] 34 → V p l e (rmz 1 21) s m args below meth c 3 D A 0 0 (MQ below (ok_Q D (wX1 cy a v) (some (.int o)) A) args s 0 0 A) (wX1 cy a v) [(0, .ref (a 0)), (1, .int z1), (2, .int z2)] [] 4 := by
    intro n
    induction n with
    | zero =>
      intro v z1 z2 u hf hk
      exact nomatch (show (none : Option (Int32)) = some u from hf)
    | succ n ih =>
      intro v z1 z2 u hf hk
      rw [fX1_waiting_L4] at hf
      refine V_iload_n (pc := 4) F dX1_waiting_4 rfl 2 rfl ?_
      refine V_bipush (v := 6) (pc := 5) F dX1_waiting_5 (by decide) ?_
      refine V_icmp_ge (pc := 7) (tgt := 34) F dX1_waiting_7 (by decide) (fun h1 => ?_) (fun h1 => ?_)
      · replace hf := ite_pos hf h1
        obtain rfl := some_of hf
        exact V.sub [1] rfl hk
      · replace hf := ite_neg hf h1
        refine V_aload_n (pc := 10) F dX1_waiting_10 rfl 0 rfl ?_
        refine V_get (pc := 11) F 0 1 1 i_X1 rfl (by decide) rfl (mm 1 rfl) dX1_waiting_11 rfl rfl ?_
        refine V_iload_n (pc := 14) F dX1_waiting_14 rfl 2 rfl ?_
        refine V_V (w2 := wX1 cy a v) (rest := []) (st2 := [.int (rowAt 6 v.2.1 z2)]) (pc := 15) F 5 (R_at l D cy (fun i => a (i + 14)) 6 v.2.1 z2 (by decide)) (cwV 1 F.ts gX1_waiting_X5_at rfl rfl rfl hd_X5_at ⟨Nat.le_of_ble_eq_true rfl, Nat.le_of_ble_eq_true rfl⟩) rfl dX1_waiting_15 (Fit.right (Fit.right (Fit.left Fit.whole))) rfl rfl rfl (Nat.le_of_ble_eq_true rfl) (Nat.zero_le _) (Nat.zero_le _) rfl rfl rfl ?_
        refine V_iconst (v := (-1)) (pc := 18) F dX1_waiting_18 (by decide) ?_
        refine V_icmp_eq (pc := 19) (tgt := 28) F dX1_waiting_19 (by decide) (fun h2 => ?_) (fun h2 => ?_)
        · replace hf := ite_pos hf h2
          refine V_iinc (v := (z2 + 1)) (L2 := [(2, .int (z2 + 1)), (0, .ref (a 0)), (1, .int z1)]) (pc := 28) F dX1_waiting_28 2 rfl rfl (by decide) rfl ?_
          refine V_goto (pc := 31) (tgt := 4) F dX1_waiting_31 (by decide) ?_
          refine V.sub [1, 2, 0] rfl ?_
          exact ih v z1 (z2 + 1) _ hf hk
        · replace hf := ite_neg hf h2
          refine V_iload_n (pc := 22) F dX1_waiting_22 rfl 1 rfl ?_
          refine V_iconst (v := 1) (pc := 23) F dX1_waiting_23 (by decide) ?_
          refine V_iload_n (pc := 24) F dX1_waiting_24 rfl 2 rfl ?_
          refine V_ishl (pc := 25) F dX1_waiting_25 ?_
          refine V_ior (pc := 26) F dX1_waiting_26 ?_
          refine V_istore_n (L2 := [(1, .int (z1 ||| ((1 : Int32) <<< (z2 &&& 31)))), (0, .ref (a 0)), (2, .int z2)]) (pc := 27) F dX1_waiting_27 rfl (by decide) rfl ?_
          refine V_iinc (v := (z2 + 1)) (L2 := [(2, .int (z2 + 1)), (1, .int (z1 ||| ((1 : Int32) <<< (z2 &&& 31)))), (0, .ref (a 0))]) (pc := 28) F dX1_waiting_28 2 rfl rfl (by decide) rfl ?_
          refine V_goto (pc := 31) (tgt := 4) F dX1_waiting_31 (by decide) ?_
          refine V.sub [2, 1, 0] rfl ?_
          exact ih v (z1 ||| ((1 : Int32) <<< (z2 &&& 31))) (z2 + 1) _ hf hk
  unfold fX1_waiting at hf
  refine V.eq rfl (show lv_args 0 [.ref (a 0)] = [(0, .ref (a 0))] from rfl) rfl ?_
  refine V_iconst (v := 0) (pc := 0) F dX1_waiting_0 (by decide) ?_
  refine V_istore_n (L2 := [(1, .int 0), (0, .ref (a 0))]) (pc := 1) F dX1_waiting_1 rfl (by decide) rfl ?_
  refine V_iconst (v := 0) (pc := 2) F dX1_waiting_2 (by decide) ?_
  refine V_istore_n (L2 := [(2, .int 0), (1, .int 0), (0, .ref (a 0))]) (pc := 3) F dX1_waiting_3 rfl (by decide) rfl ?_
  refine V.sub [2, 1, 0] rfl ?_
  obtain ⟨u3, g4, hf⟩ := bind_of hf
  refine K4 N v 0 0 u3 g4 ?_
  refine V_iload_n (pc := 34) F dX1_waiting_34 rfl 0 rfl ?_
  obtain rfl := some_of hf
  exact V_ret F rfl rfl dX1_waiting_35 rfl rfl
theorem hd_X1_ruleHolds : yX1_ruleHolds.cls = RX1 ∧ yX1_ruleHolds.cls ≠ "java/lang/invoke/MethodHandle" ∧ yX1_ruleHolds.cls ≠ "java/lang/invoke/VarHandle" ∧ (parseMethodDescriptor yX1_ruleHolds.desc).map (fun d => d.parameters.length) = some 3 := by decide +kernel
def fX1_ruleHolds (N : Nat) (v : SX1) (x1 : Int32) (x2 : Int32) (x3 : Int32) : Option (Int32) :=
  (fX2_askersOf N v.1 x1 x2).bind fun r1 =>
    if r1 = 0 then
      some 1
    else
      if (r1 &&& x3) = 0 then
        some 0
      else
        some 1
set_option maxHeartbeats 8000000 in
set_option maxRecDepth 100000 in
theorem M_X1_ruleHolds (l : Launch) (D : va_G) (cy : Nat → ClassId) (N : Nat) (a : Nat → Nat) (v : SX1) (x1 : Int32) (x2 : Int32) (x3 : Int32) (o : Int32) (hf : fX1_ruleHolds N v x1 x2 x3 = some o) : okM l yX1_ruleHolds wsX1_ruleHolds (rmz 2 43) D cy [.ref (a 0), .int x1, .int x2, .int x3] (wX1 cy a v) (wX1 cy a v) (some (.int o)) := by
  refine okM_of (own := RX1) (nme := "ruleHolds") (cc := cX1_ruleHolds) (maxL := 5) (ret := (some .boolean)) (by decide) rfl rfl rfl (Nat.le_of_ble_eq_true rfl) ?_
  intro p e s m args below meth c A F
  have i_X1 : ∀ w ∈ u_ws RX1 TX1 10, w ∈ wsX1_ruleHolds := fun _ h => List.mem_cons_of_mem _ (List.mem_append_left _ (List.mem_append_left _ (List.mem_append_right _ h)))
  unfold fX1_ruleHolds at hf
  refine V.eq rfl (show lv_args 0 [.ref (a 0), .int x1, .int x2, .int x3] = [(0, .ref (a 0)), (1, .int x1), (2, .int x2), (3, .int x3)] from rfl) rfl ?_
  refine V_aload_n (pc := 0) F dX1_ruleHolds_0 rfl 0 rfl ?_
  refine V_get (pc := 1) F 0 1 0 i_X1 rfl (by decide) rfl (mm 1 rfl) dX1_ruleHolds_1 rfl rfl ?_
  refine V_iload_n (pc := 4) F dX1_ruleHolds_4 rfl 1 rfl ?_
  refine V_iload_n (pc := 5) F dX1_ruleHolds_5 rfl 2 rfl ?_
  obtain ⟨r1, g2, hf⟩ := bind_of hf
  refine V_V (w2 := wX1 cy a v) (rest := []) (st2 := [.int r1]) (pc := 6) F 2 (M_X2_askersOf l D cy N (fun i => a (i + 1)) v.1 x1 x2 r1 g2) (cwV 2 F.ts gX1_ruleHolds_X2_askersOf rfl rfl rfl hd_X2_askersOf ⟨Nat.le_of_ble_eq_true rfl, Nat.le_of_ble_eq_true rfl⟩) rfl dX1_ruleHolds_6 (Fit.right (Fit.left Fit.whole)) rfl rfl rfl (Nat.le_of_ble_eq_true rfl) (Nat.zero_le _) (Nat.zero_le _) rfl rfl rfl ?_
  refine V_istore (L2 := [(4, .int r1), (0, .ref (a 0)), (1, .int x1), (2, .int x2), (3, .int x3)]) (pc := 9) F dX1_ruleHolds_9 (by decide) rfl ?_
  refine V_iload (pc := 11) F dX1_ruleHolds_11 0 rfl ?_
  refine V_if_eq (pc := 13) (tgt := 23) F dX1_ruleHolds_13 (by decide) (fun h3 => ?_) (fun h3 => ?_)
  · replace hf := ite_pos hf h3
    refine V_iconst (v := 1) (pc := 23) F dX1_ruleHolds_23 (by decide) ?_
    refine V_goto (pc := 24) (tgt := 28) F dX1_ruleHolds_24 (by decide) ?_
    obtain rfl := some_of hf
    exact V_ret F rfl rfl dX1_ruleHolds_28 rfl rfl
  · replace hf := ite_neg hf h3
    refine V_iload (pc := 16) F dX1_ruleHolds_16 0 rfl ?_
    refine V_iload_n (pc := 18) F dX1_ruleHolds_18 rfl 4 rfl ?_
    refine V_iand (pc := 19) F dX1_ruleHolds_19 ?_
    refine V_if_eq (pc := 20) (tgt := 27) F dX1_ruleHolds_20 (by decide) (fun h4 => ?_) (fun h4 => ?_)
    · replace hf := ite_pos hf h4
      refine V_iconst (v := 0) (pc := 27) F dX1_ruleHolds_27 (by decide) ?_
      obtain rfl := some_of hf
      exact V_ret F rfl rfl dX1_ruleHolds_28 rfl rfl
    · replace hf := ite_neg hf h4
      refine V_iconst (v := 1) (pc := 23) F dX1_ruleHolds_23 (by decide) ?_
      refine V_goto (pc := 24) (tgt := 28) F dX1_ruleHolds_24 (by decide) ?_
      obtain rfl := some_of hf
      exact V_ret F rfl rfl dX1_ruleHolds_28 rfl rfl
theorem hd_X1_putInto : yX1_putInto.cls = RX1 ∧ yX1_putInto.cls ≠ "java/lang/invoke/MethodHandle" ∧ yX1_putInto.cls ≠ "java/lang/invoke/VarHandle" ∧ (parseMethodDescriptor yX1_putInto.desc).map (fun d => d.parameters.length) = some 1 := by decide +kernel
def fX1_putInto (N : Nat) (v : SX1) (x1 : Int32) : Option (SX1) :=
  some (v.1, (fun _ => (-1)), v.2.2.1, v.2.2.2.1, v.2.2.2.2.1, x1, v.2.2.2.2.2.2.1, 0, 0, v.2.2.2.2.2.2.2.2.2)
set_option maxHeartbeats 8000000 in
set_option maxRecDepth 100000 in
theorem M_X1_putInto (l : Launch) (D : va_G) (cy : Nat → ClassId) (N : Nat) (a : Nat → Nat) (v : SX1) (x1 : Int32) (o : SX1) (hf : fX1_putInto N v x1 = some o) : okM l yX1_putInto wsX1_putInto (rmz 1 22) D cy [.ref (a 0), .int x1] (wX1 cy a v) (wX1 cy a o) none := by
  refine okM_of (own := RX1) (nme := "putInto") (cc := cX1_putInto) (maxL := 2) (ret := none) (by decide) rfl rfl rfl (Nat.le_of_ble_eq_true rfl) ?_
  intro p e s m args below meth c A F
  have i_X1 : ∀ w ∈ u_ws RX1 TX1 10, w ∈ wsX1_putInto := fun _ h => List.mem_cons_of_mem _ (List.mem_append_left _ (List.mem_append_right _ h))
  unfold fX1_putInto at hf
  refine V.eq rfl (show lv_args 0 [.ref (a 0), .int x1] = [(0, .ref (a 0)), (1, .int x1)] from rfl) rfl ?_
  refine V_aload_n (pc := 0) F dX1_putInto_0 rfl 0 rfl ?_
  refine V_iload_n (pc := 1) F dX1_putInto_1 rfl 1 rfl ?_
  refine V_put (w2 := wX1 cy a (v.1, v.2.1, v.2.2.1, v.2.2.2.1, v.2.2.2.2.1, x1, v.2.2.2.2.2.2)) (pc := 2) F 0 1 5 i_X1 tyX1 tyX1_ok nmX1 rfl (by decide) rfl (mm 1 rfl) rfl dX1_putInto_2 rfl rfl rfl (Nat.le_of_ble_eq_true rfl) rfl ?_
  refine V_aload_n (pc := 5) F dX1_putInto_5 rfl 0 rfl ?_
  refine V_iconst (v := 0) (pc := 6) F dX1_putInto_6 (by decide) ?_
  refine V_put (w2 := wX1 cy a (v.1, v.2.1, v.2.2.1, v.2.2.2.1, v.2.2.2.2.1, x1, v.2.2.2.2.2.2.1, 0, v.2.2.2.2.2.2.2.2)) (pc := 7) F 0 1 7 i_X1 tyX1 tyX1_ok nmX1 rfl (by decide) rfl (mm 2 rfl) rfl dX1_putInto_7 rfl rfl rfl (Nat.le_of_ble_eq_true rfl) rfl ?_
  refine V_aload_n (pc := 10) F dX1_putInto_10 rfl 0 rfl ?_
  refine V_iconst (v := 0) (pc := 11) F dX1_putInto_11 (by decide) ?_
  refine V_put (w2 := wX1 cy a (v.1, v.2.1, v.2.2.1, v.2.2.2.1, v.2.2.2.2.1, x1, v.2.2.2.2.2.2.1, 0, 0, v.2.2.2.2.2.2.2.2.2)) (pc := 12) F 0 1 8 i_X1 tyX1 tyX1_ok nmX1 rfl (by decide) rfl (mm 3 rfl) rfl dX1_putInto_12 rfl rfl rfl (Nat.le_of_ble_eq_true rfl) rfl ?_
  refine V_aload_n (pc := 15) F dX1_putInto_15 rfl 0 rfl ?_
  refine V_get (pc := 16) F 0 1 1 i_X1 rfl (by decide) rfl (mm 4 rfl) dX1_putInto_16 rfl rfl ?_
  refine V_iconst (v := (-1)) (pc := 19) F dX1_putInto_19 (by decide) ?_
  refine V_V (w2 := wX1 cy a (v.1, (fun _ => (-1)), v.2.2.1, v.2.2.2.1, v.2.2.2.2.1, x1, v.2.2.2.2.2.2.1, 0, 0, v.2.2.2.2.2.2.2.2.2)) (rest := []) (st2 := []) (pc := 20) F 5 (R_fill l D cy (fun i => a (i + 14)) 6 v.2.1 (-1) (by decide)) (cwV 1 F.ts gX1_putInto_X5_fill rfl rfl rfl hd_X5_fill ⟨Nat.le_of_ble_eq_true rfl, Nat.le_of_ble_eq_true rfl⟩) rfl dX1_putInto_20 (Fit.right (Fit.right (Fit.left Fit.whole))) fstX5 rfl rfl (Nat.le_of_ble_eq_true rfl) (Nat.zero_le _) (Nat.zero_le _) rfl rfl rfl ?_
  obtain rfl := some_of hf
  exact V_vret F rfl dX1_putInto_23 rfl
theorem hd_X1_passWaits : yX1_passWaits.cls = RX1 ∧ yX1_passWaits.cls ≠ "java/lang/invoke/MethodHandle" ∧ yX1_passWaits.cls ≠ "java/lang/invoke/VarHandle" ∧ (parseMethodDescriptor yX1_passWaits.desc).map (fun d => d.parameters.length) = some 0 := by decide +kernel
def fX1_passWaits_L7 (N : Nat) (z1 : Int32) : Nat → SX1 → Int32 → Option (SX1)
  | 0, _, _ => none
  | n + 1, v, z2 =>
    if 6 ≤ z2 then
      some v
    else
      if (rowAt 6 v.2.1 z2) = (-1) then
        fX1_passWaits_L7 N z1 n v (z2 + 1)
      else
        (fX7_has N z1 z2).bind fun r5 =>
          if r5 = 0 then
            fX1_passWaits_L7 N z1 n (v.1, (rowPut 6 v.2.1 z2 ((rowAt 6 v.2.1 z2) + 1)), v.2.2) (z2 + 1)
          else
            fX1_passWaits_L7 N z1 n (v.1, (rowPut 6 v.2.1 z2 (-1)), (rowPut 6 v.2.2.1 z2 ((rowAt 6 v.2.2.1 z2) + 1)), (rowPut 6 v.2.2.2.1 z2 (imax (rowAt 6 v.2.2.2.1 z2) (rowAt 6 v.2.1 z2))), v.2.2.2.2) (z2 + 1)
def fX1_passWaits (N : Nat) (v : SX1) : Option (SX1) :=
  (fX1_greensNow N v).bind fun r1 =>
    (fX1_passWaits_L7 N r1 N v 0).bind fun u8 =>
      some u8
set_option maxHeartbeats 8000000 in
set_option maxRecDepth 100000 in
theorem M_X1_passWaits (l : Launch) (D : va_G) (cy : Nat → ClassId) (N : Nat) (a : Nat → Nat) (v : SX1) (o : SX1) (hf : fX1_passWaits N v = some o) : okM l yX1_passWaits wsX1_passWaits (rmz 2 42) D cy [.ref (a 0)] (wX1 cy a v) (wX1 cy a o) none := by
  refine okM_of (own := RX1) (nme := "passWaits") (cc := cX1_passWaits) (maxL := 4) (ret := none) (by decide) rfl rfl rfl (Nat.le_of_ble_eq_true rfl) ?_
  intro p e s m args below meth c A F
  have i_X1 : ∀ w ∈ u_ws RX1 TX1 10, w ∈ wsX1_passWaits := fun _ h => List.mem_cons_of_mem _ (List.mem_append_left _ (List.mem_append_left _ (List.mem_append_right _ h)))
  have K7 : ∀ (n : Nat) (z1 : Int32) (v : SX1) (z2 : Int32) (u : SX1), fX1_passWaits_L7 N z1 n v z2 = some u → V p l e (rmz 2 42) s m args below meth c 4 D A 0 0 (MQ below (ok_Q D (wX1 cy a o) none A) args s 0 0 A) (wX1 cy a u) [] [] 105 → V p l e (rmz 2 42) s m args below meth c 4 D A 0 0 (MQ below (ok_Q D (wX1 cy a o) none A) args s 0 0 A) (wX1 cy a v) [(0, .ref (a 0)), (1, .int z1), (2, .int z2)] [] 7 := by
    intro n
    induction n with
    | zero =>
      intro z1 v z2 u hf hk
      exact nomatch (show (none : Option (SX1)) = some u from hf)
    | succ n ih =>
      intro z1 v z2 u hf hk
      rw [fX1_passWaits_L7] at hf
      refine V_iload_n (pc := 7) F dX1_passWaits_7 rfl 2 rfl ?_
      refine V_bipush (v := 6) (pc := 8) F dX1_passWaits_8 (by decide) ?_
      refine V_icmp_ge (pc := 10) (tgt := 105) F dX1_passWaits_10 (by decide) (fun h3 => ?_) (fun h3 => ?_)
      · replace hf := ite_pos hf h3
        obtain rfl := some_of hf
        exact V.sub [] rfl hk
      · replace hf := ite_neg hf h3
        refine V_aload_n (pc := 13) F dX1_passWaits_13 rfl 0 rfl ?_
        refine V_get (pc := 14) F 0 1 1 i_X1 rfl (by decide) rfl (mm 1 rfl) dX1_passWaits_14 rfl rfl ?_
        refine V_iload_n (pc := 17) F dX1_passWaits_17 rfl 2 rfl ?_
        refine V_V (w2 := wX1 cy a v) (rest := []) (st2 := [.int (rowAt 6 v.2.1 z2)]) (pc := 18) F 5 (R_at l D cy (fun i => a (i + 14)) 6 v.2.1 z2 (by decide)) (cwV 1 F.ts gX1_passWaits_X5_at rfl rfl rfl hd_X5_at ⟨Nat.le_of_ble_eq_true rfl, Nat.le_of_ble_eq_true rfl⟩) rfl dX1_passWaits_18 (Fit.right (Fit.right (Fit.left Fit.whole))) rfl rfl rfl (Nat.le_of_ble_eq_true rfl) (Nat.zero_le _) (Nat.zero_le _) rfl rfl rfl ?_
        refine V_istore_n (L2 := [(3, .int (rowAt 6 v.2.1 z2)), (0, .ref (a 0)), (1, .int z1), (2, .int z2)]) (pc := 21) F dX1_passWaits_21 rfl (by decide) rfl ?_
        refine V_iload_n (pc := 22) F dX1_passWaits_22 rfl 0 rfl ?_
        refine V_iconst (v := (-1)) (pc := 23) F dX1_passWaits_23 (by decide) ?_
        refine V_icmp_ne (pc := 24) (tgt := 30) F dX1_passWaits_24 (by decide) (fun h4 => ?_) (fun h4 => ?_)
        · replace hf := ite_neg hf h4
          refine V_iload_n (pc := 30) F dX1_passWaits_30 rfl 2 rfl ?_
          refine V_iload_n (pc := 31) F dX1_passWaits_31 rfl 3 rfl ?_
          obtain ⟨r5, g6, hf⟩ := bind_of hf
          refine V_SN (rest := []) (st2 := [.int r5]) (pc := 32) F (M_X7_has l D cy N z1 z2 r5 g6) ⟨va_cnB 2 F.ts gX1_passWaits_X7_has_n89 rfl rfl rfl F.nest.2.2.2 (F.ts _ (mm 29 rfl)) hd_X7_has ⟨Nat.le_of_ble_eq_true rfl, Nat.le_of_ble_eq_true rfl⟩, F.ts _ (mm 28 rfl), trivial⟩ rfl dX1_passWaits_32 (Nat.le_of_ble_eq_true rfl) (Nat.zero_le _) (Nat.zero_le _) rfl rfl ?_
          refine V_if_eq (pc := 35) (tgt := 88) F dX1_passWaits_35 (by decide) (fun h7 => ?_) (fun h7 => ?_)
          · replace hf := ite_pos hf h7
            refine V_aload_n (pc := 88) F dX1_passWaits_88 rfl 1 rfl ?_
            refine V_get (pc := 89) F 0 1 1 i_X1 rfl (by decide) rfl (mm 1 rfl) dX1_passWaits_89 rfl rfl ?_
            refine V_iload_n (pc := 92) F dX1_passWaits_92 rfl 3 rfl ?_
            refine V_iload_n (pc := 93) F dX1_passWaits_93 rfl 0 rfl ?_
            refine V_iconst (v := 1) (pc := 94) F dX1_passWaits_94 (by decide) ?_
            refine V_iadd (pc := 95) F dX1_passWaits_95 ?_
            refine V_V (w2 := wX1 cy a (v.1, (rowPut 6 v.2.1 z2 ((rowAt 6 v.2.1 z2) + 1)), v.2.2)) (rest := []) (st2 := []) (pc := 96) F 5 (R_put l D cy (fun i => a (i + 14)) 6 v.2.1 z2 ((rowAt 6 v.2.1 z2) + 1) (by decide)) (cwV 2 F.ts gX1_passWaits_X5_put rfl rfl rfl hd_X5_put ⟨Nat.le_of_ble_eq_true rfl, Nat.le_of_ble_eq_true rfl⟩) rfl dX1_passWaits_96 (Fit.right (Fit.right (Fit.left Fit.whole))) fstX5 rfl rfl (Nat.le_of_ble_eq_true rfl) (Nat.zero_le _) (Nat.zero_le _) rfl rfl rfl ?_
            refine V_iinc (v := (z2 + 1)) (L2 := [(2, .int (z2 + 1)), (3, .int (rowAt 6 v.2.1 z2)), (0, .ref (a 0)), (1, .int z1)]) (pc := 99) F dX1_passWaits_99 3 rfl rfl (by decide) rfl ?_
            refine V_goto (pc := 102) (tgt := 7) F dX1_passWaits_102 (by decide) ?_
            refine V.sub [2, 3, 0] rfl ?_
            exact ih z1 (v.1, (rowPut 6 v.2.1 z2 ((rowAt 6 v.2.1 z2) + 1)), v.2.2) (z2 + 1) _ hf hk
          · replace hf := ite_neg hf h7
            refine V_aload_n (pc := 38) F dX1_passWaits_38 rfl 1 rfl ?_
            refine V_get (pc := 39) F 0 1 1 i_X1 rfl (by decide) rfl (mm 1 rfl) dX1_passWaits_39 rfl rfl ?_
            refine V_iload_n (pc := 42) F dX1_passWaits_42 rfl 3 rfl ?_
            refine V_iconst (v := (-1)) (pc := 43) F dX1_passWaits_43 (by decide) ?_
            refine V_V (w2 := wX1 cy a (v.1, (rowPut 6 v.2.1 z2 (-1)), v.2.2)) (rest := []) (st2 := []) (pc := 44) F 5 (R_put l D cy (fun i => a (i + 14)) 6 v.2.1 z2 (-1) (by decide)) (cwV 2 F.ts gX1_passWaits_X5_put rfl rfl rfl hd_X5_put ⟨Nat.le_of_ble_eq_true rfl, Nat.le_of_ble_eq_true rfl⟩) rfl dX1_passWaits_44 (Fit.right (Fit.right (Fit.left Fit.whole))) fstX5 rfl rfl (Nat.le_of_ble_eq_true rfl) (Nat.zero_le _) (Nat.zero_le _) rfl rfl rfl ?_
            refine V_aload_n (pc := 47) F dX1_passWaits_47 rfl 1 rfl ?_
            refine V_get (pc := 48) F 0 1 2 i_X1 rfl (by decide) rfl (mm 2 rfl) dX1_passWaits_48 rfl rfl ?_
            refine V_iload_n (pc := 51) F dX1_passWaits_51 rfl 3 rfl ?_
            refine V_aload_n (pc := 52) F dX1_passWaits_52 rfl 1 rfl ?_
            refine V_get (pc := 53) F 0 1 2 i_X1 rfl (by decide) rfl (mm 2 rfl) dX1_passWaits_53 rfl rfl ?_
            refine V_iload_n (pc := 56) F dX1_passWaits_56 rfl 3 rfl ?_
            refine V_V (w2 := wX1 cy a (v.1, (rowPut 6 v.2.1 z2 (-1)), v.2.2)) (rest := [.int z2, .ref (a 16)]) (st2 := [.int (rowAt 6 v.2.2.1 z2), .int z2, .ref (a 16)]) (pc := 57) F 5 (R_at l D cy (fun i => a (i + 16)) 6 v.2.2.1 z2 (by decide)) (cwV 1 F.ts gX1_passWaits_X5_at rfl rfl rfl hd_X5_at ⟨Nat.le_of_ble_eq_true rfl, Nat.le_of_ble_eq_true rfl⟩) rfl dX1_passWaits_57 (Fit.right (Fit.right (Fit.right (Fit.left Fit.whole)))) rfl rfl rfl (Nat.le_of_ble_eq_true rfl) (Nat.zero_le _) (Nat.zero_le _) rfl rfl rfl ?_
            refine V_iconst (v := 1) (pc := 60) F dX1_passWaits_60 (by decide) ?_
            refine V_iadd (pc := 61) F dX1_passWaits_61 ?_
            refine V_V (w2 := wX1 cy a (v.1, (rowPut 6 v.2.1 z2 (-1)), (rowPut 6 v.2.2.1 z2 ((rowAt 6 v.2.2.1 z2) + 1)), v.2.2.2)) (rest := []) (st2 := []) (pc := 62) F 5 (R_put l D cy (fun i => a (i + 16)) 6 v.2.2.1 z2 ((rowAt 6 v.2.2.1 z2) + 1) (by decide)) (cwV 2 F.ts gX1_passWaits_X5_put rfl rfl rfl hd_X5_put ⟨Nat.le_of_ble_eq_true rfl, Nat.le_of_ble_eq_true rfl⟩) rfl dX1_passWaits_62 (Fit.right (Fit.right (Fit.right (Fit.left Fit.whole)))) fstX5 rfl rfl (Nat.le_of_ble_eq_true rfl) (Nat.zero_le _) (Nat.zero_le _) rfl rfl rfl ?_
            refine V_aload_n (pc := 65) F dX1_passWaits_65 rfl 1 rfl ?_
            refine V_get (pc := 66) F 0 1 3 i_X1 rfl (by decide) rfl (mm 3 rfl) dX1_passWaits_66 rfl rfl ?_
            refine V_iload_n (pc := 69) F dX1_passWaits_69 rfl 3 rfl ?_
            refine V_aload_n (pc := 70) F dX1_passWaits_70 rfl 1 rfl ?_
            refine V_get (pc := 71) F 0 1 3 i_X1 rfl (by decide) rfl (mm 3 rfl) dX1_passWaits_71 rfl rfl ?_
            refine V_iload_n (pc := 74) F dX1_passWaits_74 rfl 3 rfl ?_
            refine V_V (w2 := wX1 cy a (v.1, (rowPut 6 v.2.1 z2 (-1)), (rowPut 6 v.2.2.1 z2 ((rowAt 6 v.2.2.1 z2) + 1)), v.2.2.2)) (rest := [.int z2, .ref (a 18)]) (st2 := [.int (rowAt 6 v.2.2.2.1 z2), .int z2, .ref (a 18)]) (pc := 75) F 5 (R_at l D cy (fun i => a (i + 18)) 6 v.2.2.2.1 z2 (by decide)) (cwV 1 F.ts gX1_passWaits_X5_at rfl rfl rfl hd_X5_at ⟨Nat.le_of_ble_eq_true rfl, Nat.le_of_ble_eq_true rfl⟩) rfl dX1_passWaits_75 (Fit.right (Fit.right (Fit.right (Fit.right (Fit.left Fit.whole))))) rfl rfl rfl (Nat.le_of_ble_eq_true rfl) (Nat.zero_le _) (Nat.zero_le _) rfl rfl rfl ?_
            refine V_iload_n (pc := 78) F dX1_passWaits_78 rfl 0 rfl ?_
            refine V_mmax (pc := 79) F (mm 4 rfl) (mm 5 rfl) (mm 6 rfl) (mm 7 rfl) dX1_passWaits_79 (Nat.le_of_ble_eq_true rfl) (Nat.le_of_ble_eq_true rfl) (Nat.zero_le _) (Nat.zero_le _) ?_
            refine V_V (w2 := wX1 cy a (v.1, (rowPut 6 v.2.1 z2 (-1)), (rowPut 6 v.2.2.1 z2 ((rowAt 6 v.2.2.1 z2) + 1)), (rowPut 6 v.2.2.2.1 z2 (imax (rowAt 6 v.2.2.2.1 z2) (rowAt 6 v.2.1 z2))), v.2.2.2.2)) (rest := []) (st2 := []) (pc := 82) F 5 (R_put l D cy (fun i => a (i + 18)) 6 v.2.2.2.1 z2 (imax (rowAt 6 v.2.2.2.1 z2) (rowAt 6 v.2.1 z2)) (by decide)) (cwV 2 F.ts gX1_passWaits_X5_put rfl rfl rfl hd_X5_put ⟨Nat.le_of_ble_eq_true rfl, Nat.le_of_ble_eq_true rfl⟩) rfl dX1_passWaits_82 (Fit.right (Fit.right (Fit.right (Fit.right (Fit.left Fit.whole))))) fstX5 rfl rfl (Nat.le_of_ble_eq_true rfl) (Nat.zero_le _) (Nat.zero_le _) rfl rfl rfl ?_
            refine V_goto (pc := 85) (tgt := 99) F dX1_passWaits_85 (by decide) ?_
            refine V_iinc (v := (z2 + 1)) (L2 := [(2, .int (z2 + 1)), (3, .int (rowAt 6 v.2.1 z2)), (0, .ref (a 0)), (1, .int z1)]) (pc := 99) F dX1_passWaits_99 3 rfl rfl (by decide) rfl ?_
            refine V_goto (pc := 102) (tgt := 7) F dX1_passWaits_102 (by decide) ?_
            refine V.sub [2, 3, 0] rfl ?_
            exact ih z1 (v.1, (rowPut 6 v.2.1 z2 (-1)), (rowPut 6 v.2.2.1 z2 ((rowAt 6 v.2.2.1 z2) + 1)), (rowPut 6 v.2.2.2.1 z2 (imax (rowAt 6 v.2.2.2.1 z2) (rowAt 6 v.2.1 z2))), v.2.2.2.2) (z2 + 1) _ hf hk
        · replace hf := ite_pos hf h4
          refine V_goto (pc := 27) (tgt := 99) F dX1_passWaits_27 (by decide) ?_
          refine V_iinc (v := (z2 + 1)) (L2 := [(2, .int (z2 + 1)), (3, .int (rowAt 6 v.2.1 z2)), (0, .ref (a 0)), (1, .int z1)]) (pc := 99) F dX1_passWaits_99 3 rfl rfl (by decide) rfl ?_
          refine V_goto (pc := 102) (tgt := 7) F dX1_passWaits_102 (by decide) ?_
          refine V.sub [2, 3, 0] rfl ?_
          exact ih z1 v (z2 + 1) _ hf hk
  unfold fX1_passWaits at hf
  refine V.eq rfl (show lv_args 0 [.ref (a 0)] = [(0, .ref (a 0))] from rfl) rfl ?_
  refine V_aload_n (pc := 0) F dX1_passWaits_0 rfl 0 rfl ?_
  obtain ⟨r1, g2, hf⟩ := bind_of hf
  refine V_V (w2 := wX1 cy a v) (rest := []) (st2 := [.int r1]) (pc := 1) F 1 (M_X1_greensNow l D cy N a v r1 g2) (cwV 0 F.ts gX1_passWaits_X1_greensNow rfl rfl rfl hd_X1_greensNow ⟨Nat.le_of_ble_eq_true rfl, Nat.le_of_ble_eq_true rfl⟩) rfl dX1_passWaits_1 Fit.whole rfl rfl rfl (Nat.le_of_ble_eq_true rfl) (Nat.zero_le _) (Nat.zero_le _) rfl rfl rfl ?_
  refine V_istore_n (L2 := [(1, .int r1), (0, .ref (a 0))]) (pc := 4) F dX1_passWaits_4 rfl (by decide) rfl ?_
  refine V_iconst (v := 0) (pc := 5) F dX1_passWaits_5 (by decide) ?_
  refine V_istore_n (L2 := [(2, .int 0), (1, .int r1), (0, .ref (a 0))]) (pc := 6) F dX1_passWaits_6 rfl (by decide) rfl ?_
  refine V.sub [2, 1, 0] rfl ?_
  obtain ⟨u8, g9, hf⟩ := bind_of hf
  refine K7 N r1 v 0 u8 g9 ?_
  obtain rfl := some_of hf
  exact V_vret F rfl dX1_passWaits_105 rfl
theorem hd_X1_arrive : yX1_arrive.cls = RX1 ∧ yX1_arrive.cls ≠ "java/lang/invoke/MethodHandle" ∧ yX1_arrive.cls ≠ "java/lang/invoke/VarHandle" ∧ (parseMethodDescriptor yX1_arrive.desc).map (fun d => d.parameters.length) = some 0 := by decide +kernel
def fX1_arrive (N : Nat) (v : SX1) : Option (SX1) :=
  some (v.1, v.2.1, v.2.2.1, v.2.2.2.1, (rowPut 8 v.2.2.2.2.1 v.2.2.2.2.2.1 ((rowAt 8 v.2.2.2.2.1 v.2.2.2.2.2.1) + 1)), v.2.2.2.2.2.1, v.2.2.2.2.2.2.1, 0, v.2.2.2.2.2.2.2.2)
set_option maxHeartbeats 8000000 in
set_option maxRecDepth 100000 in
theorem M_X1_arrive (l : Launch) (D : va_G) (cy : Nat → ClassId) (N : Nat) (a : Nat → Nat) (v : SX1) (o : SX1) (hf : fX1_arrive N v = some o) : okM l yX1_arrive wsX1_arrive (rmz 1 22) D cy [.ref (a 0)] (wX1 cy a v) (wX1 cy a o) none := by
  refine okM_of (own := RX1) (nme := "arrive") (cc := cX1_arrive) (maxL := 1) (ret := none) (by decide) rfl rfl rfl (Nat.le_of_ble_eq_true rfl) ?_
  intro p e s m args below meth c A F
  have i_X1 : ∀ w ∈ u_ws RX1 TX1 10, w ∈ wsX1_arrive := fun _ h => List.mem_cons_of_mem _ (List.mem_append_left _ (List.mem_append_right _ h))
  unfold fX1_arrive at hf
  refine V.eq rfl (show lv_args 0 [.ref (a 0)] = [(0, .ref (a 0))] from rfl) rfl ?_
  refine V_aload_n (pc := 0) F dX1_arrive_0 rfl 0 rfl ?_
  refine V_iconst (v := 0) (pc := 1) F dX1_arrive_1 (by decide) ?_
  refine V_put (w2 := wX1 cy a (v.1, v.2.1, v.2.2.1, v.2.2.2.1, v.2.2.2.2.1, v.2.2.2.2.2.1, v.2.2.2.2.2.2.1, 0, v.2.2.2.2.2.2.2.2)) (pc := 2) F 0 1 7 i_X1 tyX1 tyX1_ok nmX1 rfl (by decide) rfl (mm 1 rfl) rfl dX1_arrive_2 rfl rfl rfl (Nat.le_of_ble_eq_true rfl) rfl ?_
  refine V_aload_n (pc := 5) F dX1_arrive_5 rfl 0 rfl ?_
  refine V_get (pc := 6) F 0 1 4 i_X1 rfl (by decide) rfl (mm 2 rfl) dX1_arrive_6 rfl rfl ?_
  refine V_aload_n (pc := 9) F dX1_arrive_9 rfl 0 rfl ?_
  refine V_get (pc := 10) F 0 1 5 i_X1 rfl (by decide) rfl (mm 3 rfl) dX1_arrive_10 rfl rfl ?_
  refine V_aload_n (pc := 13) F dX1_arrive_13 rfl 0 rfl ?_
  refine V_get (pc := 14) F 0 1 4 i_X1 rfl (by decide) rfl (mm 2 rfl) dX1_arrive_14 rfl rfl ?_
  refine V_aload_n (pc := 17) F dX1_arrive_17 rfl 0 rfl ?_
  refine V_get (pc := 18) F 0 1 5 i_X1 rfl (by decide) rfl (mm 3 rfl) dX1_arrive_18 rfl rfl ?_
  refine V_V (w2 := wX1 cy a (v.1, v.2.1, v.2.2.1, v.2.2.2.1, v.2.2.2.2.1, v.2.2.2.2.2.1, v.2.2.2.2.2.2.1, 0, v.2.2.2.2.2.2.2.2)) (rest := [.int v.2.2.2.2.2.1, .ref (a 20)]) (st2 := [.int (rowAt 8 v.2.2.2.2.1 v.2.2.2.2.2.1), .int v.2.2.2.2.2.1, .ref (a 20)]) (pc := 21) F 5 (R_at l D cy (fun i => a (i + 20)) 8 v.2.2.2.2.1 v.2.2.2.2.2.1 (by decide)) (cwV 1 F.ts gX1_arrive_X5_at rfl rfl rfl hd_X5_at ⟨Nat.le_of_ble_eq_true rfl, Nat.le_of_ble_eq_true rfl⟩) rfl dX1_arrive_21 (Fit.right (Fit.right (Fit.right (Fit.right (Fit.right Fit.whole))))) rfl rfl rfl (Nat.le_of_ble_eq_true rfl) (Nat.zero_le _) (Nat.zero_le _) rfl rfl rfl ?_
  refine V_iconst (v := 1) (pc := 24) F dX1_arrive_24 (by decide) ?_
  refine V_iadd (pc := 25) F dX1_arrive_25 ?_
  refine V_V (w2 := wX1 cy a (v.1, v.2.1, v.2.2.1, v.2.2.2.1, (rowPut 8 v.2.2.2.2.1 v.2.2.2.2.2.1 ((rowAt 8 v.2.2.2.2.1 v.2.2.2.2.2.1) + 1)), v.2.2.2.2.2.1, v.2.2.2.2.2.2.1, 0, v.2.2.2.2.2.2.2.2)) (rest := []) (st2 := []) (pc := 26) F 5 (R_put l D cy (fun i => a (i + 20)) 8 v.2.2.2.2.1 v.2.2.2.2.2.1 ((rowAt 8 v.2.2.2.2.1 v.2.2.2.2.2.1) + 1) (by decide)) (cwV 2 F.ts gX1_arrive_X5_put rfl rfl rfl hd_X5_put ⟨Nat.le_of_ble_eq_true rfl, Nat.le_of_ble_eq_true rfl⟩) rfl dX1_arrive_26 (Fit.right (Fit.right (Fit.right (Fit.right (Fit.right Fit.whole))))) fstX5 rfl rfl (Nat.le_of_ble_eq_true rfl) (Nat.zero_le _) (Nat.zero_le _) rfl rfl rfl ?_
  obtain rfl := some_of hf
  exact V_vret F rfl dX1_arrive_29 rfl
theorem hd_X1_leaveFor : yX1_leaveFor.cls = RX1 ∧ yX1_leaveFor.cls ≠ "java/lang/invoke/MethodHandle" ∧ yX1_leaveFor.cls ≠ "java/lang/invoke/VarHandle" ∧ (parseMethodDescriptor yX1_leaveFor.desc).map (fun d => d.parameters.length) = some 1 := by decide +kernel
def fX1_leaveFor (N : Nat) (v : SX1) (x1 : Int32) : Option (SX1) :=
  (fX2_clearingBetween N v.1 v.2.2.2.2.2.1 x1).bind fun r1 =>
    if r1 = 0 then
      (fX1_arrive N (v.1, v.2.1, v.2.2.1, v.2.2.2.1, v.2.2.2.2.1, x1, v.2.2.2.2.2.1, v.2.2.2.2.2.2.2.1, r1, v.2.2.2.2.2.2.2.2.2)).bind fun r4 =>
        some r4
    else
      some (v.1, v.2.1, v.2.2.1, v.2.2.2.1, v.2.2.2.2.1, x1, v.2.2.2.2.2.1, v.2.2.2.2.2.2.2.1, r1, v.2.2.2.2.2.2.2.2.2)
set_option maxHeartbeats 8000000 in
set_option maxRecDepth 100000 in
theorem M_X1_leaveFor (l : Launch) (D : va_G) (cy : Nat → ClassId) (N : Nat) (a : Nat → Nat) (v : SX1) (x1 : Int32) (o : SX1) (hf : fX1_leaveFor N v x1 = some o) : okM l yX1_leaveFor wsX1_leaveFor (rmz 2 43) D cy [.ref (a 0), .int x1] (wX1 cy a v) (wX1 cy a o) none := by
  refine okM_of (own := RX1) (nme := "leaveFor") (cc := cX1_leaveFor) (maxL := 2) (ret := none) (by decide) rfl rfl rfl (Nat.le_of_ble_eq_true rfl) ?_
  intro p e s m args below meth c A F
  have i_X1 : ∀ w ∈ u_ws RX1 TX1 10, w ∈ wsX1_leaveFor := fun _ h => List.mem_cons_of_mem _ (List.mem_append_left _ (List.mem_append_left _ (List.mem_append_right _ h)))
  unfold fX1_leaveFor at hf
  refine V.eq rfl (show lv_args 0 [.ref (a 0), .int x1] = [(0, .ref (a 0)), (1, .int x1)] from rfl) rfl ?_
  refine V_aload_n (pc := 0) F dX1_leaveFor_0 rfl 0 rfl ?_
  refine V_aload_n (pc := 1) F dX1_leaveFor_1 rfl 0 rfl ?_
  refine V_get (pc := 2) F 0 1 5 i_X1 rfl (by decide) rfl (mm 1 rfl) dX1_leaveFor_2 rfl rfl ?_
  refine V_put (w2 := wX1 cy a (v.1, v.2.1, v.2.2.1, v.2.2.2.1, v.2.2.2.2.1, v.2.2.2.2.2.1, v.2.2.2.2.2.1, v.2.2.2.2.2.2.2)) (pc := 5) F 0 1 6 i_X1 tyX1 tyX1_ok nmX1 rfl (by decide) rfl (mm 2 rfl) rfl dX1_leaveFor_5 rfl rfl rfl (Nat.le_of_ble_eq_true rfl) rfl ?_
  refine V_aload_n (pc := 8) F dX1_leaveFor_8 rfl 0 rfl ?_
  refine V_iload_n (pc := 9) F dX1_leaveFor_9 rfl 1 rfl ?_
  refine V_put (w2 := wX1 cy a (v.1, v.2.1, v.2.2.1, v.2.2.2.1, v.2.2.2.2.1, x1, v.2.2.2.2.2.1, v.2.2.2.2.2.2.2)) (pc := 10) F 0 1 5 i_X1 tyX1 tyX1_ok nmX1 rfl (by decide) rfl (mm 1 rfl) rfl dX1_leaveFor_10 rfl rfl rfl (Nat.le_of_ble_eq_true rfl) rfl ?_
  refine V_aload_n (pc := 13) F dX1_leaveFor_13 rfl 0 rfl ?_
  refine V_aload_n (pc := 14) F dX1_leaveFor_14 rfl 0 rfl ?_
  refine V_get (pc := 15) F 0 1 0 i_X1 rfl (by decide) rfl (mm 3 rfl) dX1_leaveFor_15 rfl rfl ?_
  refine V_aload_n (pc := 18) F dX1_leaveFor_18 rfl 0 rfl ?_
  refine V_get (pc := 19) F 0 1 6 i_X1 rfl (by decide) rfl (mm 2 rfl) dX1_leaveFor_19 rfl rfl ?_
  refine V_iload_n (pc := 22) F dX1_leaveFor_22 rfl 1 rfl ?_
  obtain ⟨r1, g2, hf⟩ := bind_of hf
  refine V_V (w2 := wX1 cy a (v.1, v.2.1, v.2.2.1, v.2.2.2.1, v.2.2.2.2.1, x1, v.2.2.2.2.2.1, v.2.2.2.2.2.2.2)) (rest := [.ref (a 0)]) (st2 := [.int r1, .ref (a 0)]) (pc := 23) F 2 (M_X2_clearingBetween l D cy N (fun i => a (i + 1)) v.1 v.2.2.2.2.2.1 x1 r1 g2) (cwV 2 F.ts gX1_leaveFor_X2_clearingBetween rfl rfl rfl hd_X2_clearingBetween ⟨Nat.le_of_ble_eq_true rfl, Nat.le_of_ble_eq_true rfl⟩) rfl dX1_leaveFor_23 (Fit.right (Fit.left Fit.whole)) rfl rfl rfl (Nat.le_of_ble_eq_true rfl) (Nat.zero_le _) (Nat.zero_le _) rfl rfl rfl ?_
  refine V_put (w2 := wX1 cy a (v.1, v.2.1, v.2.2.1, v.2.2.2.1, v.2.2.2.2.1, x1, v.2.2.2.2.2.1, v.2.2.2.2.2.2.2.1, r1, v.2.2.2.2.2.2.2.2.2)) (pc := 26) F 0 1 8 i_X1 tyX1 tyX1_ok nmX1 rfl (by decide) rfl (mm 4 rfl) rfl dX1_leaveFor_26 rfl rfl rfl (Nat.le_of_ble_eq_true rfl) rfl ?_
  refine V_aload_n (pc := 29) F dX1_leaveFor_29 rfl 0 rfl ?_
  refine V_get (pc := 30) F 0 1 8 i_X1 rfl (by decide) rfl (mm 4 rfl) dX1_leaveFor_30 rfl rfl ?_
  refine V_if_ne (pc := 33) (tgt := 40) F dX1_leaveFor_33 (by decide) (fun h3 => ?_) (fun h3 => ?_)
  · replace hf := ite_neg hf h3
    obtain rfl := some_of hf
    exact V_vret F rfl dX1_leaveFor_40 rfl
  · replace hf := ite_pos hf h3
    refine V_aload_n (pc := 36) F dX1_leaveFor_36 rfl 0 rfl ?_
    obtain ⟨r4, g5, hf⟩ := bind_of hf
    refine V_V (w2 := wX1 cy a r4) (rest := []) (st2 := []) (pc := 37) F 1 (M_X1_arrive l D cy N a (v.1, v.2.1, v.2.2.1, v.2.2.2.1, v.2.2.2.2.1, x1, v.2.2.2.2.2.1, v.2.2.2.2.2.2.2.1, r1, v.2.2.2.2.2.2.2.2.2) r4 g5) (cwV 0 F.ts gX1_leaveFor_X1_arrive rfl rfl rfl hd_X1_arrive ⟨Nat.le_of_ble_eq_true rfl, Nat.le_of_ble_eq_true rfl⟩) rfl dX1_leaveFor_37 Fit.whole fstX1 rfl rfl (Nat.le_of_ble_eq_true rfl) (Nat.zero_le _) (Nat.zero_le _) rfl rfl rfl ?_
    obtain rfl := some_of hf
    exact V_vret F rfl dX1_leaveFor_40 rfl
theorem hd_X1_followRule : yX1_followRule.cls = RX1 ∧ yX1_followRule.cls ≠ "java/lang/invoke/MethodHandle" ∧ yX1_followRule.cls ≠ "java/lang/invoke/VarHandle" ∧ (parseMethodDescriptor yX1_followRule.desc).map (fun d => d.parameters.length) = some 0 := by decide +kernel
def fX1_followRule_L22 (N : Nat) (z1 : Int32) (z2 : Int32) : Nat → SX1 → Int32 → Option ((SX1) ⊕ (SX1))
  | 0, _, _ => none
  | n + 1, v, z3 =>
    if z2 ≤ z3 then
      some (.inr v)
    else
      (fX1_ruleHolds N v v.2.2.2.2.2.1 z3 z1).bind fun r4 =>
        if r4 = 0 then
          fX1_followRule_L22 N z1 z2 n v (z3 + 1)
        else
          (fX2_goalOf N v.1 v.2.2.2.2.2.1 z3).bind fun r7 =>
            (fX1_leaveFor N v r7).bind fun r9 =>
              some (.inl r9)
def fX1_followRule (N : Nat) (v : SX1) : Option (SX1) :=
  (fX1_waiting N v).bind fun r1 =>
    (fX1_followRule_L22 N r1 (rowAt 8 v.1.2.2.2.1 v.2.2.2.2.2.1) N v 0).bind fun u11 => onS u11 (fun r => some r) fun q13 =>
      some q13
set_option maxHeartbeats 8000000 in
set_option maxRecDepth 100000 in
theorem M_X1_followRule (l : Launch) (D : va_G) (cy : Nat → ClassId) (N : Nat) (a : Nat → Nat) (v : SX1) (o : SX1) (hf : fX1_followRule N v = some o) : okM l yX1_followRule wsX1_followRule (rmz 3 67) D cy [.ref (a 0)] (wX1 cy a v) (wX1 cy a o) none := by
  refine okM_of (own := RX1) (nme := "followRule") (cc := cX1_followRule) (maxL := 4) (ret := none) (by decide) rfl rfl rfl (Nat.le_of_ble_eq_true rfl) ?_
  intro p e s m args below meth c A F
  have i_X1 : ∀ w ∈ u_ws RX1 TX1 10, w ∈ wsX1_followRule := fun _ h => List.mem_cons_of_mem _ (List.mem_append_left _ (List.mem_append_left _ (List.mem_append_right _ h)))
  have i_X2 : ∀ w ∈ u_ws RX2 TX2 8, w ∈ wsX1_followRule := fun _ h => List.mem_cons_of_mem _ (List.mem_append_left _ (List.mem_append_right _ h))
  have K22 : ∀ (n : Nat) (z1 : Int32) (z2 : Int32) (v : SX1) (z3 : Int32) (u : (SX1) ⊕ (SX1)), fX1_followRule_L22 N z1 z2 n v z3 = some u → (∀ r, u = .inl r → r = o) → (∀ q, u = .inr q → V p l e (rmz 3 67) s m args below meth c 4 D A 0 0 (MQ below (ok_Q D (wX1 cy a o) none A) args s 0 0 A) (wX1 cy a q) [] [] 63) → V p l e (rmz 3 67) s m args below meth c 4 D A 0 0 (MQ below (ok_Q D (wX1 cy a o) none A) args s 0 0 A) (wX1 cy a v) [(0, .ref (a 0)), (1, .int z1), (2, .int z2), (3, .int z3)] [] 22 := by
    intro n
    induction n with
    | zero =>
      intro z1 z2 v z3 u hf hr hk
      exact nomatch (show (none : Option ((SX1) ⊕ (SX1))) = some u from hf)
    | succ n ih =>
      intro z1 z2 v z3 u hf hr hk
      rw [fX1_followRule_L22] at hf
      refine V_iload_n (pc := 22) F dX1_followRule_22 rfl 3 rfl ?_
      refine V_iload_n (pc := 23) F dX1_followRule_23 rfl 2 rfl ?_
      refine V_icmp_ge (pc := 24) (tgt := 63) F dX1_followRule_24 (by decide) (fun h3 => ?_) (fun h3 => ?_)
      · replace hf := ite_pos hf h3
        exact V.sub [] rfl (hk _ (some_of hf).symm)
      · replace hf := ite_neg hf h3
        refine V_aload_n (pc := 27) F dX1_followRule_27 rfl 0 rfl ?_
        refine V_aload_n (pc := 28) F dX1_followRule_28 rfl 0 rfl ?_
        refine V_get (pc := 29) F 0 1 5 i_X1 rfl (by decide) rfl (mm 3 rfl) dX1_followRule_29 rfl rfl ?_
        refine V_iload_n (pc := 32) F dX1_followRule_32 rfl 3 rfl ?_
        refine V_iload_n (pc := 33) F dX1_followRule_33 rfl 1 rfl ?_
        obtain ⟨r4, g5, hf⟩ := bind_of hf
        refine V_V (w2 := wX1 cy a v) (rest := []) (st2 := [.int r4]) (pc := 34) F 1 (M_X1_ruleHolds l D cy N a v v.2.2.2.2.2.1 z3 z1 r4 g5) (cwV 3 F.ts gX1_followRule_X1_ruleHolds rfl rfl rfl hd_X1_ruleHolds ⟨Nat.le_of_ble_eq_true rfl, Nat.le_of_ble_eq_true rfl⟩) rfl dX1_followRule_34 Fit.whole rfl rfl rfl (Nat.le_of_ble_eq_true rfl) (Nat.zero_le _) (Nat.zero_le _) rfl rfl rfl ?_
        refine V_if_eq (pc := 37) (tgt := 57) F dX1_followRule_37 (by decide) (fun h6 => ?_) (fun h6 => ?_)
        · replace hf := ite_pos hf h6
          refine V_iinc (v := (z3 + 1)) (L2 := [(3, .int (z3 + 1)), (0, .ref (a 0)), (1, .int z1), (2, .int z2)]) (pc := 57) F dX1_followRule_57 3 rfl rfl (by decide) rfl ?_
          refine V_goto (pc := 60) (tgt := 22) F dX1_followRule_60 (by decide) ?_
          refine V.sub [1, 2, 3, 0] rfl ?_
          exact ih z1 z2 v (z3 + 1) _ hf hr hk
        · replace hf := ite_neg hf h6
          refine V_aload_n (pc := 40) F dX1_followRule_40 rfl 0 rfl ?_
          refine V_aload_n (pc := 41) F dX1_followRule_41 rfl 0 rfl ?_
          refine V_get (pc := 42) F 0 1 0 i_X1 rfl (by decide) rfl (mm 1 rfl) dX1_followRule_42 rfl rfl ?_
          refine V_aload_n (pc := 45) F dX1_followRule_45 rfl 0 rfl ?_
          refine V_get (pc := 46) F 0 1 5 i_X1 rfl (by decide) rfl (mm 3 rfl) dX1_followRule_46 rfl rfl ?_
          refine V_iload_n (pc := 49) F dX1_followRule_49 rfl 3 rfl ?_
          obtain ⟨r7, g8, hf⟩ := bind_of hf
          refine V_V (w2 := wX1 cy a v) (rest := [.ref (a 0)]) (st2 := [.int r7, .ref (a 0)]) (pc := 50) F 2 (M_X2_goalOf l D cy N (fun i => a (i + 1)) v.1 v.2.2.2.2.2.1 z3 r7 g8) (cwV 2 F.ts gX1_followRule_X2_goalOf rfl rfl rfl hd_X2_goalOf ⟨Nat.le_of_ble_eq_true rfl, Nat.le_of_ble_eq_true rfl⟩) rfl dX1_followRule_50 (Fit.right (Fit.left Fit.whole)) rfl rfl rfl (Nat.le_of_ble_eq_true rfl) (Nat.zero_le _) (Nat.zero_le _) rfl rfl rfl ?_
          obtain ⟨r9, g10, hf⟩ := bind_of hf
          refine V_V (w2 := wX1 cy a r9) (rest := []) (st2 := []) (pc := 53) F 1 (M_X1_leaveFor l D cy N a v r7 r9 g10) (cwV 1 F.ts gX1_followRule_X1_leaveFor rfl rfl rfl hd_X1_leaveFor ⟨Nat.le_of_ble_eq_true rfl, Nat.le_of_ble_eq_true rfl⟩) rfl dX1_followRule_53 Fit.whole fstX1 rfl rfl (Nat.le_of_ble_eq_true rfl) (Nat.zero_le _) (Nat.zero_le _) rfl rfl rfl ?_
          obtain rfl := hr _ (some_of hf).symm
          exact V_vret F rfl dX1_followRule_56 rfl
  unfold fX1_followRule at hf
  refine V.eq rfl (show lv_args 0 [.ref (a 0)] = [(0, .ref (a 0))] from rfl) rfl ?_
  refine V_aload_n (pc := 0) F dX1_followRule_0 rfl 0 rfl ?_
  obtain ⟨r1, g2, hf⟩ := bind_of hf
  refine V_V (w2 := wX1 cy a v) (rest := []) (st2 := [.int r1]) (pc := 1) F 1 (M_X1_waiting l D cy N a v r1 g2) (cwV 0 F.ts gX1_followRule_X1_waiting rfl rfl rfl hd_X1_waiting ⟨Nat.le_of_ble_eq_true rfl, Nat.le_of_ble_eq_true rfl⟩) rfl dX1_followRule_1 Fit.whole rfl rfl rfl (Nat.le_of_ble_eq_true rfl) (Nat.zero_le _) (Nat.zero_le _) rfl rfl rfl ?_
  refine V_istore_n (L2 := [(1, .int r1), (0, .ref (a 0))]) (pc := 4) F dX1_followRule_4 rfl (by decide) rfl ?_
  refine V_aload_n (pc := 5) F dX1_followRule_5 rfl 1 rfl ?_
  refine V_get (pc := 6) F 0 1 0 i_X1 rfl (by decide) rfl (mm 1 rfl) dX1_followRule_6 rfl rfl ?_
  refine V_get (pc := 9) F 1 2 3 i_X2 rfl (by decide) rfl (mm 2 rfl) dX1_followRule_9 rfl rfl ?_
  refine V_aload_n (pc := 12) F dX1_followRule_12 rfl 1 rfl ?_
  refine V_get (pc := 13) F 0 1 5 i_X1 rfl (by decide) rfl (mm 3 rfl) dX1_followRule_13 rfl rfl ?_
  refine V_V (w2 := wX1 cy a v) (rest := []) (st2 := [.int (rowAt 8 v.1.2.2.2.1 v.2.2.2.2.2.1)]) (pc := 16) F 5 (R_at l D cy (fun i => a (i + 8)) 8 v.1.2.2.2.1 v.2.2.2.2.2.1 (by decide)) (cwV 1 F.ts gX1_followRule_X5_at rfl rfl rfl hd_X5_at ⟨Nat.le_of_ble_eq_true rfl, Nat.le_of_ble_eq_true rfl⟩) rfl dX1_followRule_16 (Fit.right (Fit.left (Fit.right (Fit.right (Fit.right (Fit.right (Fit.left Fit.whole))))))) rfl rfl rfl (Nat.le_of_ble_eq_true rfl) (Nat.zero_le _) (Nat.zero_le _) rfl rfl rfl ?_
  refine V_istore_n (L2 := [(2, .int (rowAt 8 v.1.2.2.2.1 v.2.2.2.2.2.1)), (1, .int r1), (0, .ref (a 0))]) (pc := 19) F dX1_followRule_19 rfl (by decide) rfl ?_
  refine V_iconst (v := 0) (pc := 20) F dX1_followRule_20 (by decide) ?_
  refine V_istore_n (L2 := [(3, .int 0), (2, .int (rowAt 8 v.1.2.2.2.1 v.2.2.2.2.2.1)), (1, .int r1), (0, .ref (a 0))]) (pc := 21) F dX1_followRule_21 rfl (by decide) rfl ?_
  refine V.sub [3, 2, 1, 0] rfl ?_
  obtain ⟨u11, g12, hf⟩ := bind_of hf
  refine K22 N r1 (rowAt 8 v.1.2.2.2.1 v.2.2.2.2.2.1) v 0 u11 g12 (fun r h14 => ?_) (fun q13 h14 => ?_)
  · subst h14
    replace hf := onS_inl hf
    exact some_of hf
  · subst h14
    replace hf := onS_inr hf
    obtain rfl := some_of hf
    exact V_vret F rfl dX1_followRule_63 rfl
theorem hd_X1_passTick : yX1_passTick.cls = RX1 ∧ yX1_passTick.cls ≠ "java/lang/invoke/MethodHandle" ∧ yX1_passTick.cls ≠ "java/lang/invoke/VarHandle" ∧ (parseMethodDescriptor yX1_passTick.desc).map (fun d => d.parameters.length) = some 0 := by decide +kernel
def fX1_passTick (N : Nat) (v : SX1) : Option (SX1) :=
  (fX1_passWaits N (v.1, v.2.1, v.2.2.1, v.2.2.2.1, v.2.2.2.2.1, v.2.2.2.2.2.1, v.2.2.2.2.2.2.1, v.2.2.2.2.2.2.2.1, v.2.2.2.2.2.2.2.2.1, (v.2.2.2.2.2.2.2.2.2 + 1))).bind fun r1 =>
    if r1.1.2.2.2.2.2.2.1 = 0 then
      some r1
    else
      (fX1_isClearing N r1).bind fun r4 =>
        if r4 = 0 then
          if (r1.2.2.2.2.2.2.2.1 + 1) < (rowAt 8 r1.1.2.2.1 r1.2.2.2.2.2.1) then
            some (r1.1, r1.2.1, r1.2.2.1, r1.2.2.2.1, r1.2.2.2.2.1, r1.2.2.2.2.2.1, r1.2.2.2.2.2.2.1, (r1.2.2.2.2.2.2.2.1 + 1), r1.2.2.2.2.2.2.2.2)
          else
            (fX1_followRule N (r1.1, r1.2.1, r1.2.2.1, r1.2.2.2.1, r1.2.2.2.2.1, r1.2.2.2.2.2.1, r1.2.2.2.2.2.2.1, (r1.2.2.2.2.2.2.2.1 + 1), r1.2.2.2.2.2.2.2.2)).bind fun r8 =>
              some r8
        else
          if (r1.2.2.2.2.2.2.2.2.1 - 1) = 0 then
            (fX1_arrive N (r1.1, r1.2.1, r1.2.2.1, r1.2.2.2.1, r1.2.2.2.2.1, r1.2.2.2.2.2.1, r1.2.2.2.2.2.2.1, r1.2.2.2.2.2.2.2.1, (r1.2.2.2.2.2.2.2.2.1 - 1), r1.2.2.2.2.2.2.2.2.2)).bind fun r11 =>
              some r11
          else
            some (r1.1, r1.2.1, r1.2.2.1, r1.2.2.2.1, r1.2.2.2.2.1, r1.2.2.2.2.2.1, r1.2.2.2.2.2.2.1, r1.2.2.2.2.2.2.2.1, (r1.2.2.2.2.2.2.2.2.1 - 1), r1.2.2.2.2.2.2.2.2.2)
set_option maxHeartbeats 8000000 in
set_option maxRecDepth 100000 in
theorem M_X1_passTick (l : Launch) (D : va_G) (cy : Nat → ClassId) (N : Nat) (a : Nat → Nat) (v : SX1) (o : SX1) (hf : fX1_passTick N v = some o) : okM l yX1_passTick wsX1_passTick (rmz 4 90) D cy [.ref (a 0)] (wX1 cy a v) (wX1 cy a o) none := by
  refine okM_of (own := RX1) (nme := "passTick") (cc := cX1_passTick) (maxL := 1) (ret := none) (by decide) rfl rfl rfl (Nat.le_of_ble_eq_true rfl) ?_
  intro p e s m args below meth c A F
  have i_X1 : ∀ w ∈ u_ws RX1 TX1 10, w ∈ wsX1_passTick := fun _ h => List.mem_cons_of_mem _ (List.mem_append_left _ (List.mem_append_left _ (List.mem_append_right _ h)))
  have i_X2 : ∀ w ∈ u_ws RX2 TX2 8, w ∈ wsX1_passTick := fun _ h => List.mem_cons_of_mem _ (List.mem_append_left _ (List.mem_append_right _ h))
  unfold fX1_passTick at hf
  refine V.eq rfl (show lv_args 0 [.ref (a 0)] = [(0, .ref (a 0))] from rfl) rfl ?_
  refine V_aload_n (pc := 0) F dX1_passTick_0 rfl 0 rfl ?_
  refine V_dup (pc := 1) F dX1_passTick_1 rfl ?_
  refine V_get (pc := 2) F 0 1 9 i_X1 rfl (by decide) rfl (mm 1 rfl) dX1_passTick_2 rfl rfl ?_
  refine V_iconst (v := 1) (pc := 5) F dX1_passTick_5 (by decide) ?_
  refine V_iadd (pc := 6) F dX1_passTick_6 ?_
  refine V_put (w2 := wX1 cy a (v.1, v.2.1, v.2.2.1, v.2.2.2.1, v.2.2.2.2.1, v.2.2.2.2.2.1, v.2.2.2.2.2.2.1, v.2.2.2.2.2.2.2.1, v.2.2.2.2.2.2.2.2.1, (v.2.2.2.2.2.2.2.2.2 + 1))) (pc := 7) F 0 1 9 i_X1 tyX1 tyX1_ok nmX1 rfl (by decide) rfl (mm 1 rfl) rfl dX1_passTick_7 rfl rfl rfl (Nat.le_of_ble_eq_true rfl) rfl ?_
  refine V_aload_n (pc := 10) F dX1_passTick_10 rfl 0 rfl ?_
  obtain ⟨r1, g2, hf⟩ := bind_of hf
  refine V_V (w2 := wX1 cy a r1) (rest := []) (st2 := []) (pc := 11) F 1 (M_X1_passWaits l D cy N a (v.1, v.2.1, v.2.2.1, v.2.2.2.1, v.2.2.2.2.1, v.2.2.2.2.2.1, v.2.2.2.2.2.2.1, v.2.2.2.2.2.2.2.1, v.2.2.2.2.2.2.2.2.1, (v.2.2.2.2.2.2.2.2.2 + 1)) r1 g2) (cwV 0 F.ts gX1_passTick_X1_passWaits rfl rfl rfl hd_X1_passWaits ⟨Nat.le_of_ble_eq_true rfl, Nat.le_of_ble_eq_true rfl⟩) rfl dX1_passTick_11 Fit.whole fstX1 rfl rfl (Nat.le_of_ble_eq_true rfl) (Nat.zero_le _) (Nat.zero_le _) rfl rfl rfl ?_
  refine V_aload_n (pc := 14) F dX1_passTick_14 rfl 0 rfl ?_
  refine V_get (pc := 15) F 0 1 0 i_X1 rfl (by decide) rfl (mm 2 rfl) dX1_passTick_15 rfl rfl ?_
  refine V_get (pc := 18) F 1 2 6 i_X2 rfl (by decide) rfl (mm 3 rfl) dX1_passTick_18 rfl rfl ?_
  refine V_if_ne (pc := 21) (tgt := 25) F dX1_passTick_21 (by decide) (fun h3 => ?_) (fun h3 => ?_)
  · replace hf := ite_neg hf h3
    refine V_aload_n (pc := 25) F dX1_passTick_25 rfl 0 rfl ?_
    obtain ⟨r4, g5, hf⟩ := bind_of hf
    refine V_V (w2 := wX1 cy a r1) (rest := []) (st2 := [.int r4]) (pc := 26) F 1 (M_X1_isClearing l D cy N a r1 r4 g5) (cwV 0 F.ts gX1_passTick_X1_isClearing rfl rfl rfl hd_X1_isClearing ⟨Nat.le_of_ble_eq_true rfl, Nat.le_of_ble_eq_true rfl⟩) rfl dX1_passTick_26 Fit.whole rfl rfl rfl (Nat.le_of_ble_eq_true rfl) (Nat.zero_le _) (Nat.zero_le _) rfl rfl rfl ?_
    refine V_if_eq (pc := 29) (tgt := 54) F dX1_passTick_29 (by decide) (fun h6 => ?_) (fun h6 => ?_)
    · replace hf := ite_pos hf h6
      refine V_aload_n (pc := 54) F dX1_passTick_54 rfl 0 rfl ?_
      refine V_dup (pc := 55) F dX1_passTick_55 rfl ?_
      refine V_get (pc := 56) F 0 1 7 i_X1 rfl (by decide) rfl (mm 5 rfl) dX1_passTick_56 rfl rfl ?_
      refine V_iconst (v := 1) (pc := 59) F dX1_passTick_59 (by decide) ?_
      refine V_iadd (pc := 60) F dX1_passTick_60 ?_
      refine V_put (w2 := wX1 cy a (r1.1, r1.2.1, r1.2.2.1, r1.2.2.2.1, r1.2.2.2.2.1, r1.2.2.2.2.2.1, r1.2.2.2.2.2.2.1, (r1.2.2.2.2.2.2.2.1 + 1), r1.2.2.2.2.2.2.2.2)) (pc := 61) F 0 1 7 i_X1 tyX1 tyX1_ok nmX1 rfl (by decide) rfl (mm 5 rfl) rfl dX1_passTick_61 rfl rfl rfl (Nat.le_of_ble_eq_true rfl) rfl ?_
      refine V_aload_n (pc := 64) F dX1_passTick_64 rfl 0 rfl ?_
      refine V_get (pc := 65) F 0 1 7 i_X1 rfl (by decide) rfl (mm 5 rfl) dX1_passTick_65 rfl rfl ?_
      refine V_aload_n (pc := 68) F dX1_passTick_68 rfl 0 rfl ?_
      refine V_get (pc := 69) F 0 1 0 i_X1 rfl (by decide) rfl (mm 2 rfl) dX1_passTick_69 rfl rfl ?_
      refine V_get (pc := 72) F 1 2 2 i_X2 rfl (by decide) rfl (mm 6 rfl) dX1_passTick_72 rfl rfl ?_
      refine V_aload_n (pc := 75) F dX1_passTick_75 rfl 0 rfl ?_
      refine V_get (pc := 76) F 0 1 5 i_X1 rfl (by decide) rfl (mm 7 rfl) dX1_passTick_76 rfl rfl ?_
      refine V_V (w2 := wX1 cy a (r1.1, r1.2.1, r1.2.2.1, r1.2.2.2.1, r1.2.2.2.2.1, r1.2.2.2.2.2.1, r1.2.2.2.2.2.2.1, (r1.2.2.2.2.2.2.2.1 + 1), r1.2.2.2.2.2.2.2.2)) (rest := [.int (r1.2.2.2.2.2.2.2.1 + 1)]) (st2 := [.int (rowAt 8 r1.1.2.2.1 r1.2.2.2.2.2.1), .int (r1.2.2.2.2.2.2.2.1 + 1)]) (pc := 79) F 5 (R_at l D cy (fun i => a (i + 6)) 8 r1.1.2.2.1 r1.2.2.2.2.2.1 (by decide)) (cwV 1 F.ts gX1_passTick_X5_at rfl rfl rfl hd_X5_at ⟨Nat.le_of_ble_eq_true rfl, Nat.le_of_ble_eq_true rfl⟩) rfl dX1_passTick_79 (Fit.right (Fit.left (Fit.right (Fit.right (Fit.right (Fit.left Fit.whole)))))) rfl rfl rfl (Nat.le_of_ble_eq_true rfl) (Nat.zero_le _) (Nat.zero_le _) rfl rfl rfl ?_
      refine V_icmp_lt (pc := 82) (tgt := 89) F dX1_passTick_82 (by decide) (fun h7 => ?_) (fun h7 => ?_)
      · replace hf := ite_pos hf h7
        obtain rfl := some_of hf
        exact V_vret F rfl dX1_passTick_89 rfl
      · replace hf := ite_neg hf h7
        refine V_aload_n (pc := 85) F dX1_passTick_85 rfl 0 rfl ?_
        obtain ⟨r8, g9, hf⟩ := bind_of hf
        refine V_V (w2 := wX1 cy a r8) (rest := []) (st2 := []) (pc := 86) F 1 (M_X1_followRule l D cy N a (r1.1, r1.2.1, r1.2.2.1, r1.2.2.2.1, r1.2.2.2.2.1, r1.2.2.2.2.2.1, r1.2.2.2.2.2.2.1, (r1.2.2.2.2.2.2.2.1 + 1), r1.2.2.2.2.2.2.2.2) r8 g9) (cwV 0 F.ts gX1_passTick_X1_followRule rfl rfl rfl hd_X1_followRule ⟨Nat.le_of_ble_eq_true rfl, Nat.le_of_ble_eq_true rfl⟩) rfl dX1_passTick_86 Fit.whole fstX1 rfl rfl (Nat.le_of_ble_eq_true rfl) (Nat.zero_le _) (Nat.zero_le _) rfl rfl rfl ?_
        obtain rfl := some_of hf
        exact V_vret F rfl dX1_passTick_89 rfl
    · replace hf := ite_neg hf h6
      refine V_aload_n (pc := 32) F dX1_passTick_32 rfl 0 rfl ?_
      refine V_dup (pc := 33) F dX1_passTick_33 rfl ?_
      refine V_get (pc := 34) F 0 1 8 i_X1 rfl (by decide) rfl (mm 4 rfl) dX1_passTick_34 rfl rfl ?_
      refine V_iconst (v := 1) (pc := 37) F dX1_passTick_37 (by decide) ?_
      refine V_isub (pc := 38) F dX1_passTick_38 ?_
      refine V_put (w2 := wX1 cy a (r1.1, r1.2.1, r1.2.2.1, r1.2.2.2.1, r1.2.2.2.2.1, r1.2.2.2.2.2.1, r1.2.2.2.2.2.2.1, r1.2.2.2.2.2.2.2.1, (r1.2.2.2.2.2.2.2.2.1 - 1), r1.2.2.2.2.2.2.2.2.2)) (pc := 39) F 0 1 8 i_X1 tyX1 tyX1_ok nmX1 rfl (by decide) rfl (mm 4 rfl) rfl dX1_passTick_39 rfl rfl rfl (Nat.le_of_ble_eq_true rfl) rfl ?_
      refine V_aload_n (pc := 42) F dX1_passTick_42 rfl 0 rfl ?_
      refine V_get (pc := 43) F 0 1 8 i_X1 rfl (by decide) rfl (mm 4 rfl) dX1_passTick_43 rfl rfl ?_
      refine V_if_ne (pc := 46) (tgt := 53) F dX1_passTick_46 (by decide) (fun h10 => ?_) (fun h10 => ?_)
      · replace hf := ite_neg hf h10
        obtain rfl := some_of hf
        exact V_vret F rfl dX1_passTick_53 rfl
      · replace hf := ite_pos hf h10
        refine V_aload_n (pc := 49) F dX1_passTick_49 rfl 0 rfl ?_
        obtain ⟨r11, g12, hf⟩ := bind_of hf
        refine V_V (w2 := wX1 cy a r11) (rest := []) (st2 := []) (pc := 50) F 1 (M_X1_arrive l D cy N a (r1.1, r1.2.1, r1.2.2.1, r1.2.2.2.1, r1.2.2.2.2.1, r1.2.2.2.2.2.1, r1.2.2.2.2.2.2.1, r1.2.2.2.2.2.2.2.1, (r1.2.2.2.2.2.2.2.2.1 - 1), r1.2.2.2.2.2.2.2.2.2) r11 g12) (cwV 0 F.ts gX1_passTick_X1_arrive rfl rfl rfl hd_X1_arrive ⟨Nat.le_of_ble_eq_true rfl, Nat.le_of_ble_eq_true rfl⟩) rfl dX1_passTick_50 Fit.whole fstX1 rfl rfl (Nat.le_of_ble_eq_true rfl) (Nat.zero_le _) (Nat.zero_le _) rfl rfl rfl ?_
        obtain rfl := some_of hf
        exact V_vret F rfl dX1_passTick_53 rfl
  · replace hf := ite_pos hf h3
    obtain rfl := some_of hf
    exact V_vret F rfl dX1_passTick_24 rfl
theorem hd_X1_copyFrom : yX1_copyFrom.cls = RX1 ∧ yX1_copyFrom.cls ≠ "java/lang/invoke/MethodHandle" ∧ yX1_copyFrom.cls ≠ "java/lang/invoke/VarHandle" ∧ (parseMethodDescriptor yX1_copyFrom.desc).map (fun d => d.parameters.length) = some 1 := by decide +kernel
def fX1_copyFrom (N : Nat) (v : SX1) (v1 : SX1) : Option (SX1) :=
  (fX2_copyFrom N v.1 v1.1).bind fun r1 =>
    some (r1, v1.2)
set_option maxHeartbeats 8000000 in
set_option maxRecDepth 100000 in
theorem M_X1_copyFrom (l : Launch) (D : va_G) (cy : Nat → ClassId) (N : Nat) (a : Nat → Nat) (a1 : Nat → Nat) (v : SX1) (v1 : SX1) (o : SX1) (hf : fX1_copyFrom N v v1 = some o) : okM l yX1_copyFrom wsX1_copyFrom (rmz 3 64) D cy [.ref (a 0), .ref (a1 0)] (wX1 cy a v ++ wX1 cy a1 v1) (wX1 cy a o ++ wX1 cy a1 v1) none := by
  refine okM_of (own := RX1) (nme := "copyFrom") (cc := cX1_copyFrom) (maxL := 2) (ret := none) (by decide) rfl rfl rfl (Nat.le_of_ble_eq_true rfl) ?_
  intro p e s m args below meth c A F
  have i_X1 : ∀ w ∈ u_ws RX1 TX1 10, w ∈ wsX1_copyFrom := fun _ h => List.mem_cons_of_mem _ (List.mem_append_left _ (List.mem_append_left _ (List.mem_append_right _ h)))
  unfold fX1_copyFrom at hf
  refine V.eq rfl (show lv_args 0 [.ref (a 0), .ref (a1 0)] = [(0, .ref (a 0)), (1, .ref (a1 0))] from rfl) rfl ?_
  refine V_aload_n (pc := 0) F dX1_copyFrom_0 rfl 0 rfl ?_
  refine V_get (pc := 1) F 0 1 0 i_X1 rfl (by decide) rfl (mm 1 rfl) dX1_copyFrom_1 rfl rfl ?_
  refine V_aload_n (pc := 4) F dX1_copyFrom_4 rfl 1 rfl ?_
  refine V_get (pc := 5) F 22 1 0 i_X1 rfl (by decide) rfl (mm 1 rfl) dX1_copyFrom_5 rfl rfl ?_
  obtain ⟨r1, g2, hf⟩ := bind_of hf
  refine V_V2 (w2 := wX1 cy a (r1, v.2) ++ wX1 cy a1 v1) (rest := []) (st2 := []) (pc := 8) F 2 (M_X2_copyFrom l D cy N (fun i => a (i + 1)) (fun i => a1 (i + 1)) v.1 v1.1 r1 g2) (cwV 1 F.ts gX1_copyFrom_X2_copyFrom rfl rfl rfl hd_X2_copyFrom ⟨Nat.le_of_ble_eq_true rfl, Nat.le_of_ble_eq_true rfl⟩) rfl dX1_copyFrom_8 (Fit2.both (Fit.right (Fit.left Fit.whole)) (Fit.right (Fit.left Fit.whole))) fstX2 rfl rfl rfl (Nat.le_of_ble_eq_true rfl) (Nat.zero_le _) (Nat.zero_le _) rfl rfl rfl ?_
  refine V_aload_n (pc := 11) F dX1_copyFrom_11 rfl 0 rfl ?_
  refine V_get (pc := 12) F 0 1 1 i_X1 rfl (by decide) rfl (mm 2 rfl) dX1_copyFrom_12 rfl rfl ?_
  refine V_aload_n (pc := 15) F dX1_copyFrom_15 rfl 1 rfl ?_
  refine V_get (pc := 16) F 22 1 1 i_X1 rfl (by decide) rfl (mm 2 rfl) dX1_copyFrom_16 rfl rfl ?_
  refine V_V2 (w2 := wX1 cy a (r1, v1.2.1, v.2.2) ++ wX1 cy a1 v1) (rest := []) (st2 := []) (pc := 19) F 5 (R_copyFrom l D cy (fun i => a (i + 14)) (fun i => a1 (i + 14)) 6 v.2.1 v1.2.1 (by decide)) (cwV 1 F.ts gX1_copyFrom_X5_copyFrom rfl rfl rfl hd_X5_copyFrom ⟨Nat.le_of_ble_eq_true rfl, Nat.le_of_ble_eq_true rfl⟩) rfl dX1_copyFrom_19 (Fit2.both (Fit.right (Fit.right (Fit.left Fit.whole))) (Fit.right (Fit.right (Fit.left Fit.whole)))) fstX5 rfl rfl rfl (Nat.le_of_ble_eq_true rfl) (Nat.zero_le _) (Nat.zero_le _) rfl rfl rfl ?_
  refine V_aload_n (pc := 22) F dX1_copyFrom_22 rfl 0 rfl ?_
  refine V_get (pc := 23) F 0 1 2 i_X1 rfl (by decide) rfl (mm 3 rfl) dX1_copyFrom_23 rfl rfl ?_
  refine V_aload_n (pc := 26) F dX1_copyFrom_26 rfl 1 rfl ?_
  refine V_get (pc := 27) F 22 1 2 i_X1 rfl (by decide) rfl (mm 3 rfl) dX1_copyFrom_27 rfl rfl ?_
  refine V_V2 (w2 := wX1 cy a (r1, v1.2.1, v1.2.2.1, v.2.2.2) ++ wX1 cy a1 v1) (rest := []) (st2 := []) (pc := 30) F 5 (R_copyFrom l D cy (fun i => a (i + 16)) (fun i => a1 (i + 16)) 6 v.2.2.1 v1.2.2.1 (by decide)) (cwV 1 F.ts gX1_copyFrom_X5_copyFrom rfl rfl rfl hd_X5_copyFrom ⟨Nat.le_of_ble_eq_true rfl, Nat.le_of_ble_eq_true rfl⟩) rfl dX1_copyFrom_30 (Fit2.both (Fit.right (Fit.right (Fit.right (Fit.left Fit.whole)))) (Fit.right (Fit.right (Fit.right (Fit.left Fit.whole))))) fstX5 rfl rfl rfl (Nat.le_of_ble_eq_true rfl) (Nat.zero_le _) (Nat.zero_le _) rfl rfl rfl ?_
  refine V_aload_n (pc := 33) F dX1_copyFrom_33 rfl 0 rfl ?_
  refine V_get (pc := 34) F 0 1 3 i_X1 rfl (by decide) rfl (mm 4 rfl) dX1_copyFrom_34 rfl rfl ?_
  refine V_aload_n (pc := 37) F dX1_copyFrom_37 rfl 1 rfl ?_
  refine V_get (pc := 38) F 22 1 3 i_X1 rfl (by decide) rfl (mm 4 rfl) dX1_copyFrom_38 rfl rfl ?_
  refine V_V2 (w2 := wX1 cy a (r1, v1.2.1, v1.2.2.1, v1.2.2.2.1, v.2.2.2.2) ++ wX1 cy a1 v1) (rest := []) (st2 := []) (pc := 41) F 5 (R_copyFrom l D cy (fun i => a (i + 18)) (fun i => a1 (i + 18)) 6 v.2.2.2.1 v1.2.2.2.1 (by decide)) (cwV 1 F.ts gX1_copyFrom_X5_copyFrom rfl rfl rfl hd_X5_copyFrom ⟨Nat.le_of_ble_eq_true rfl, Nat.le_of_ble_eq_true rfl⟩) rfl dX1_copyFrom_41 (Fit2.both (Fit.right (Fit.right (Fit.right (Fit.right (Fit.left Fit.whole))))) (Fit.right (Fit.right (Fit.right (Fit.right (Fit.left Fit.whole)))))) fstX5 rfl rfl rfl (Nat.le_of_ble_eq_true rfl) (Nat.zero_le _) (Nat.zero_le _) rfl rfl rfl ?_
  refine V_aload_n (pc := 44) F dX1_copyFrom_44 rfl 0 rfl ?_
  refine V_get (pc := 45) F 0 1 4 i_X1 rfl (by decide) rfl (mm 5 rfl) dX1_copyFrom_45 rfl rfl ?_
  refine V_aload_n (pc := 48) F dX1_copyFrom_48 rfl 1 rfl ?_
  refine V_get (pc := 49) F 22 1 4 i_X1 rfl (by decide) rfl (mm 5 rfl) dX1_copyFrom_49 rfl rfl ?_
  refine V_V2 (w2 := wX1 cy a (r1, v1.2.1, v1.2.2.1, v1.2.2.2.1, v1.2.2.2.2.1, v.2.2.2.2.2) ++ wX1 cy a1 v1) (rest := []) (st2 := []) (pc := 52) F 5 (R_copyFrom l D cy (fun i => a (i + 20)) (fun i => a1 (i + 20)) 8 v.2.2.2.2.1 v1.2.2.2.2.1 (by decide)) (cwV 1 F.ts gX1_copyFrom_X5_copyFrom rfl rfl rfl hd_X5_copyFrom ⟨Nat.le_of_ble_eq_true rfl, Nat.le_of_ble_eq_true rfl⟩) rfl dX1_copyFrom_52 (Fit2.both (Fit.right (Fit.right (Fit.right (Fit.right (Fit.right Fit.whole))))) (Fit.right (Fit.right (Fit.right (Fit.right (Fit.right Fit.whole)))))) fstX5 rfl rfl rfl (Nat.le_of_ble_eq_true rfl) (Nat.zero_le _) (Nat.zero_le _) rfl rfl rfl ?_
  refine V_aload_n (pc := 55) F dX1_copyFrom_55 rfl 0 rfl ?_
  refine V_aload_n (pc := 56) F dX1_copyFrom_56 rfl 1 rfl ?_
  refine V_get (pc := 57) F 22 1 5 i_X1 rfl (by decide) rfl (mm 6 rfl) dX1_copyFrom_57 rfl rfl ?_
  refine V_put (w2 := wX1 cy a (r1, v1.2.1, v1.2.2.1, v1.2.2.2.1, v1.2.2.2.2.1, v1.2.2.2.2.2.1, v.2.2.2.2.2.2) ++ wX1 cy a1 v1) (pc := 60) F 0 1 5 i_X1 tyX1 tyX1_ok nmX1 rfl (by decide) rfl (mm 6 rfl) rfl dX1_copyFrom_60 rfl rfl rfl (Nat.le_of_ble_eq_true rfl) rfl ?_
  refine V_aload_n (pc := 63) F dX1_copyFrom_63 rfl 0 rfl ?_
  refine V_aload_n (pc := 64) F dX1_copyFrom_64 rfl 1 rfl ?_
  refine V_get (pc := 65) F 22 1 6 i_X1 rfl (by decide) rfl (mm 7 rfl) dX1_copyFrom_65 rfl rfl ?_
  refine V_put (w2 := wX1 cy a (r1, v1.2.1, v1.2.2.1, v1.2.2.2.1, v1.2.2.2.2.1, v1.2.2.2.2.2.1, v1.2.2.2.2.2.2.1, v.2.2.2.2.2.2.2) ++ wX1 cy a1 v1) (pc := 68) F 0 1 6 i_X1 tyX1 tyX1_ok nmX1 rfl (by decide) rfl (mm 7 rfl) rfl dX1_copyFrom_68 rfl rfl rfl (Nat.le_of_ble_eq_true rfl) rfl ?_
  refine V_aload_n (pc := 71) F dX1_copyFrom_71 rfl 0 rfl ?_
  refine V_aload_n (pc := 72) F dX1_copyFrom_72 rfl 1 rfl ?_
  refine V_get (pc := 73) F 22 1 7 i_X1 rfl (by decide) rfl (mm 8 rfl) dX1_copyFrom_73 rfl rfl ?_
  refine V_put (w2 := wX1 cy a (r1, v1.2.1, v1.2.2.1, v1.2.2.2.1, v1.2.2.2.2.1, v1.2.2.2.2.2.1, v1.2.2.2.2.2.2.1, v1.2.2.2.2.2.2.2.1, v.2.2.2.2.2.2.2.2) ++ wX1 cy a1 v1) (pc := 76) F 0 1 7 i_X1 tyX1 tyX1_ok nmX1 rfl (by decide) rfl (mm 8 rfl) rfl dX1_copyFrom_76 rfl rfl rfl (Nat.le_of_ble_eq_true rfl) rfl ?_
  refine V_aload_n (pc := 79) F dX1_copyFrom_79 rfl 0 rfl ?_
  refine V_aload_n (pc := 80) F dX1_copyFrom_80 rfl 1 rfl ?_
  refine V_get (pc := 81) F 22 1 8 i_X1 rfl (by decide) rfl (mm 9 rfl) dX1_copyFrom_81 rfl rfl ?_
  refine V_put (w2 := wX1 cy a (r1, v1.2.1, v1.2.2.1, v1.2.2.2.1, v1.2.2.2.2.1, v1.2.2.2.2.2.1, v1.2.2.2.2.2.2.1, v1.2.2.2.2.2.2.2.1, v1.2.2.2.2.2.2.2.2.1, v.2.2.2.2.2.2.2.2.2) ++ wX1 cy a1 v1) (pc := 84) F 0 1 8 i_X1 tyX1 tyX1_ok nmX1 rfl (by decide) rfl (mm 9 rfl) rfl dX1_copyFrom_84 rfl rfl rfl (Nat.le_of_ble_eq_true rfl) rfl ?_
  refine V_aload_n (pc := 87) F dX1_copyFrom_87 rfl 0 rfl ?_
  refine V_aload_n (pc := 88) F dX1_copyFrom_88 rfl 1 rfl ?_
  refine V_get (pc := 89) F 22 1 9 i_X1 rfl (by decide) rfl (mm 10 rfl) dX1_copyFrom_89 rfl rfl ?_
  refine V_put (w2 := wX1 cy a (r1, v1.2) ++ wX1 cy a1 v1) (pc := 92) F 0 1 9 i_X1 tyX1 tyX1_ok nmX1 rfl (by decide) rfl (mm 10 rfl) rfl dX1_copyFrom_92 rfl rfl rfl (Nat.le_of_ble_eq_true rfl) rfl ?_
  obtain rfl := some_of hf
  exact V_vret F rfl dX1_copyFrom_95 rfl
