theorem n64_of {r : UInt64} (h : decide (r &&& 0x7fffffffffffffff ≤ 0x7ff0000000000000) = true) : vf_n64 r := by
  unfold vf_n64
  exact of_decide_eq_true h
theorem hd_X8_thrown : yX8_thrown.cls = RX8 ∧ yX8_thrown.cls ≠ "java/lang/invoke/MethodHandle" ∧ yX8_thrown.cls ≠ "java/lang/invoke/VarHandle" ∧ (parseMethodDescriptor yX8_thrown.desc).map (fun d => d.parameters.length) = some 0 := by decide +kernel
def fX8_thrown (N : Nat) (v : SX8) : Option (Int32) :=
  some v.1
set_option maxHeartbeats 8000000 in
set_option maxRecDepth 100000 in
theorem M_X8_thrown (l : Launch) (D : va_G) (cy : Nat → ClassId) (N : Nat) (a : Nat → Nat) (v : SX8) (o : Int32) (hf : fX8_thrown N v = some o) : okM l yX8_thrown wsX8_thrown (rmz 0 0) D cy [.ref (a 0)] (wX8 cy a v) (wX8 cy a v) (some (.int o)) := by
  refine okM_of (own := RX8) (nme := "thrown") (cc := cX8_thrown) (maxL := 1) (ret := (some .int)) (by decide) rfl rfl rfl (Nat.le_of_ble_eq_true rfl) ?_
  intro p e s m args below meth c A F
  have i_X8 : ∀ w ∈ u_ws RX8 TX8 13, w ∈ wsX8_thrown := fun _ h => List.mem_cons_of_mem _ (List.mem_append_right _ h)
  unfold fX8_thrown at hf
  refine V.eq rfl (show lv_args 0 [.ref (a 0)] = [(0, .ref (a 0))] from rfl) rfl ?_
  refine V_aload_n (pc := 0) F dX8_thrown_0 rfl 0 rfl ?_
  refine V_get (pc := 1) F 0 8 0 i_X8 rfl (by decide) rfl (mm 1 rfl) dX8_thrown_1 rfl rfl ?_
  obtain rfl := some_of hf
  exact V_ret F rfl rfl dX8_thrown_4 rfl rfl
theorem hd_X8_in : yX8_in.cls ≠ "java/lang/invoke/MethodHandle" ∧ yX8_in.cls ≠ "java/lang/invoke/VarHandle" ∧ (parseMethodDescriptor yX8_in.desc).map (fun d => d.parameters.length) = some 3 := by decide +kernel
def fX8_in (N : Nat) (x0 : Int32) (x1 : Int32) (x2 : Int32) : Option (Int32) :=
  if x0 < x1 then
    some 0
  else
    if x2 < x0 then
      some 0
    else
      some 1
set_option maxHeartbeats 8000000 in
set_option maxRecDepth 100000 in
theorem M_X8_in (l : Launch) (D : va_G) (cy : Nat → ClassId) (N : Nat) (x0 : Int32) (x1 : Int32) (x2 : Int32) (o : Int32) (hf : fX8_in N x0 x1 x2 = some o) : okM l yX8_in wsX8_in (rmz 0 0) D cy [.int x0, .int x1, .int x2] ([] : va_W) ([] : va_W) (some (.int o)) := by
  refine okM_of (own := RX8) (nme := "in") (cc := cX8_in) (maxL := 3) (ret := (some .boolean)) (by decide) rfl rfl rfl (Nat.le_of_ble_eq_true rfl) ?_
  intro p e s m args below meth c A F
  unfold fX8_in at hf
  refine V.eq rfl (show lv_args 0 [.int x0, .int x1, .int x2] = [(0, .int x0), (1, .int x1), (2, .int x2)] from rfl) rfl ?_
  refine V_iload_n (pc := 0) F dX8_in_0 rfl 0 rfl ?_
  refine V_iload_n (pc := 1) F dX8_in_1 rfl 1 rfl ?_
  refine V_icmp_lt (pc := 2) (tgt := 14) F dX8_in_2 (by decide) (fun h1 => ?_) (fun h1 => ?_)
  · replace hf := ite_pos hf h1
    refine V_iconst (v := 0) (pc := 14) F dX8_in_14 (by decide) ?_
    obtain rfl := some_of hf
    exact V_ret F rfl rfl dX8_in_15 rfl rfl
  · replace hf := ite_neg hf h1
    refine V_iload_n (pc := 5) F dX8_in_5 rfl 0 rfl ?_
    refine V_iload_n (pc := 6) F dX8_in_6 rfl 2 rfl ?_
    refine V_icmp_gt (pc := 7) (tgt := 14) F dX8_in_7 (by decide) (fun h2 => ?_) (fun h2 => ?_)
    · replace hf := ite_pos hf h2
      refine V_iconst (v := 0) (pc := 14) F dX8_in_14 (by decide) ?_
      obtain rfl := some_of hf
      exact V_ret F rfl rfl dX8_in_15 rfl rfl
    · replace hf := ite_neg hf h2
      refine V_iconst (v := 1) (pc := 10) F dX8_in_10 (by decide) ?_
      refine V_goto (pc := 11) (tgt := 15) F dX8_in_11 (by decide) ?_
      obtain rfl := some_of hf
      exact V_ret F rfl rfl dX8_in_15 rfl rfl
theorem hd_X8_isDirection : yX8_isDirection.cls ≠ "java/lang/invoke/MethodHandle" ∧ yX8_isDirection.cls ≠ "java/lang/invoke/VarHandle" ∧ (parseMethodDescriptor yX8_isDirection.desc).map (fun d => d.parameters.length) = some 1 := by decide +kernel
def fX8_isDirection (N : Nat) (x0 : Int32) : Option (Int32) :=
  (fX8_in N x0 0 5).bind fun r1 =>
    must (decide (r1 = 0 ∨ r1 = 1)) (
      some r1
    )
set_option maxHeartbeats 8000000 in
set_option maxRecDepth 100000 in
theorem M_X8_isDirection (l : Launch) (D : va_G) (cy : Nat → ClassId) (N : Nat) (x0 : Int32) (o : Int32) (hf : fX8_isDirection N x0 = some o) : okM l yX8_isDirection wsX8_isDirection (rmz 1 22) D cy [.int x0] ([] : va_W) ([] : va_W) (some (.int o)) := by
  refine okM_of (own := RX8) (nme := "isDirection") (cc := cX8_isDirection) (maxL := 1) (ret := (some .boolean)) (by decide) rfl rfl rfl (Nat.le_of_ble_eq_true rfl) ?_
  intro p e s m args below meth c A F
  unfold fX8_isDirection at hf
  refine V.eq rfl (show lv_args 0 [.int x0] = [(0, .int x0)] from rfl) rfl ?_
  refine V_iload_n (pc := 0) F dX8_isDirection_0 rfl 0 rfl ?_
  refine V_iconst (v := 0) (pc := 1) F dX8_isDirection_1 (by decide) ?_
  refine V_iconst (v := 5) (pc := 2) F dX8_isDirection_2 (by decide) ?_
  obtain ⟨r1, g2, hf⟩ := bind_of hf
  refine V_Sc (rest := []) (st2 := [.int r1]) (pc := 3) F (M_X8_in l D cy N x0 0 5 r1 g2) (va_cwS 3 F.ts gX8_isDirection_X8_in rfl rfl rfl hd_X8_in ⟨Nat.le_of_ble_eq_true rfl, Nat.le_of_ble_eq_true rfl⟩) rfl dX8_isDirection_3 (Nat.le_of_ble_eq_true rfl) (Nat.zero_le _) (Nat.zero_le _) rfl rfl ?_
  obtain ⟨c3, hf⟩ := must_some hf
  obtain rfl := some_of hf
  exact V_ret F rfl (nar_bool (of_decide_eq_true c3)) dX8_isDirection_6 rfl rfl
theorem hd_X8_isPhase : yX8_isPhase.cls = RX8 ∧ yX8_isPhase.cls ≠ "java/lang/invoke/MethodHandle" ∧ yX8_isPhase.cls ≠ "java/lang/invoke/VarHandle" ∧ (parseMethodDescriptor yX8_isPhase.desc).map (fun d => d.parameters.length) = some 1 := by decide +kernel
def fX8_isPhase (N : Nat) (v : SX8) (x1 : Int32) : Option (Int32) :=
  if x1 < 0 then
    some 0
  else
    chk 0 143 (
      if (v.2.1 (0 : Int32).toNatClampNeg) ≤ x1 then
        some 0
      else
        some 1
    )
set_option maxHeartbeats 8000000 in
set_option maxRecDepth 100000 in
theorem M_X8_isPhase (l : Launch) (D : va_G) (cy : Nat → ClassId) (N : Nat) (a : Nat → Nat) (v : SX8) (x1 : Int32) (o : Int32) (hf : fX8_isPhase N v x1 = some o) : okM l yX8_isPhase wsX8_isPhase (rmz 0 0) D cy [.ref (a 0), .int x1] (wX8 cy a v) (wX8 cy a v) (some (.int o)) := by
  refine okM_of (own := RX8) (nme := "isPhase") (cc := cX8_isPhase) (maxL := 2) (ret := (some .boolean)) (by decide) rfl rfl rfl (Nat.le_of_ble_eq_true rfl) ?_
  intro p e s m args below meth c A F
  have i_X8 : ∀ w ∈ u_ws RX8 TX8 13, w ∈ wsX8_isPhase := fun _ h => List.mem_cons_of_mem _ (List.mem_append_right _ h)
  unfold fX8_isPhase at hf
  refine V.eq rfl (show lv_args 0 [.ref (a 0), .int x1] = [(0, .ref (a 0)), (1, .int x1)] from rfl) rfl ?_
  refine V_iload_n (pc := 0) F dX8_isPhase_0 rfl 1 rfl ?_
  refine V_if_lt (pc := 1) (tgt := 18) F dX8_isPhase_1 (by decide) (fun h1 => ?_) (fun h1 => ?_)
  · replace hf := ite_pos hf h1
    refine V_iconst (v := 0) (pc := 18) F dX8_isPhase_18 (by decide) ?_
    obtain rfl := some_of hf
    exact V_ret F rfl rfl dX8_isPhase_19 rfl rfl
  · replace hf := ite_neg hf h1
    refine V_iload_n (pc := 4) F dX8_isPhase_4 rfl 1 rfl ?_
    refine V_aload_n (pc := 5) F dX8_isPhase_5 rfl 0 rfl ?_
    refine V_get (pc := 6) F 0 8 1 i_X8 rfl (by decide) rfl (mm 1 rfl) dX8_isPhase_6 rfl rfl ?_
    refine V_iconst (v := 0) (pc := 9) F dX8_isPhase_9 (by decide) ?_
    obtain ⟨c2, hf⟩ := chk_some hf
    refine V_iald (pc := 10) F 1 rfl c2 dX8_isPhase_10 ?_
    refine V_icmp_ge (pc := 11) (tgt := 18) F dX8_isPhase_11 (by decide) (fun h3 => ?_) (fun h3 => ?_)
    · replace hf := ite_pos hf h3
      refine V_iconst (v := 0) (pc := 18) F dX8_isPhase_18 (by decide) ?_
      obtain rfl := some_of hf
      exact V_ret F rfl rfl dX8_isPhase_19 rfl rfl
    · replace hf := ite_neg hf h3
      refine V_iconst (v := 1) (pc := 14) F dX8_isPhase_14 (by decide) ?_
      refine V_goto (pc := 15) (tgt := 19) F dX8_isPhase_15 (by decide) ?_
      obtain rfl := some_of hf
      exact V_ret F rfl rfl dX8_isPhase_19 rfl rfl
theorem hd_X8_of : yX8_of.cls = RX8 ∧ yX8_of.cls ≠ "java/lang/invoke/MethodHandle" ∧ yX8_of.cls ≠ "java/lang/invoke/VarHandle" ∧ (parseMethodDescriptor yX8_of.desc).map (fun d => d.parameters.length) = some 2 := by decide +kernel
def fX8_of (N : Nat) (v : SX8) (x1 : Int32) (x2 : Int32) : Option (Int32) :=
  chk (((31 : Int32) + ((14 : Int32) * x1)) + x2) 143 (
    some (v.2.1 (((31 : Int32) + ((14 : Int32) * x1)) + x2).toNatClampNeg)
  )
set_option maxHeartbeats 8000000 in
set_option maxRecDepth 100000 in
theorem M_X8_of (l : Launch) (D : va_G) (cy : Nat → ClassId) (N : Nat) (a : Nat → Nat) (v : SX8) (x1 : Int32) (x2 : Int32) (o : Int32) (hf : fX8_of N v x1 x2 = some o) : okM l yX8_of wsX8_of (rmz 0 0) D cy [.ref (a 0), .int x1, .int x2] (wX8 cy a v) (wX8 cy a v) (some (.int o)) := by
  refine okM_of (own := RX8) (nme := "of") (cc := cX8_of) (maxL := 3) (ret := (some .int)) (by decide) rfl rfl rfl (Nat.le_of_ble_eq_true rfl) ?_
  intro p e s m args below meth c A F
  have i_X8 : ∀ w ∈ u_ws RX8 TX8 13, w ∈ wsX8_of := fun _ h => List.mem_cons_of_mem _ (List.mem_append_right _ h)
  unfold fX8_of at hf
  refine V.eq rfl (show lv_args 0 [.ref (a 0), .int x1, .int x2] = [(0, .ref (a 0)), (1, .int x1), (2, .int x2)] from rfl) rfl ?_
  refine V_aload_n (pc := 0) F dX8_of_0 rfl 0 rfl ?_
  refine V_get (pc := 1) F 0 8 1 i_X8 rfl (by decide) rfl (mm 1 rfl) dX8_of_1 rfl rfl ?_
  refine V_bipush (v := 31) (pc := 4) F dX8_of_4 (by decide) ?_
  refine V_bipush (v := 14) (pc := 6) F dX8_of_6 (by decide) ?_
  refine V_iload_n (pc := 8) F dX8_of_8 rfl 1 rfl ?_
  refine V_imul (pc := 9) F dX8_of_9 ?_
  refine V_iadd (pc := 10) F dX8_of_10 ?_
  refine V_iload_n (pc := 11) F dX8_of_11 rfl 2 rfl ?_
  refine V_iadd (pc := 12) F dX8_of_12 ?_
  obtain ⟨c1, hf⟩ := chk_some hf
  refine V_iald (pc := 13) F 1 rfl c1 dX8_of_13 ?_
  obtain rfl := some_of hf
  exact V_ret F rfl rfl dX8_of_14 rfl rfl
theorem hd_X8_greens : yX8_greens.cls = RX8 ∧ yX8_greens.cls ≠ "java/lang/invoke/MethodHandle" ∧ yX8_greens.cls ≠ "java/lang/invoke/VarHandle" ∧ (parseMethodDescriptor yX8_greens.desc).map (fun d => d.parameters.length) = some 1 := by decide +kernel
def fX8_greens (N : Nat) (v : SX8) (x1 : Int32) : Option (Int32) :=
  (fX8_of N v x1 0).bind fun r1 =>
    some r1
set_option maxHeartbeats 8000000 in
set_option maxRecDepth 100000 in
theorem M_X8_greens (l : Launch) (D : va_G) (cy : Nat → ClassId) (N : Nat) (a : Nat → Nat) (v : SX8) (x1 : Int32) (o : Int32) (hf : fX8_greens N v x1 = some o) : okM l yX8_greens wsX8_greens (rmz 1 22) D cy [.ref (a 0), .int x1] (wX8 cy a v) (wX8 cy a v) (some (.int o)) := by
  refine okM_of (own := RX8) (nme := "greens") (cc := cX8_greens) (maxL := 2) (ret := (some .int)) (by decide) rfl rfl rfl (Nat.le_of_ble_eq_true rfl) ?_
  intro p e s m args below meth c A F
  unfold fX8_greens at hf
  refine V.eq rfl (show lv_args 0 [.ref (a 0), .int x1] = [(0, .ref (a 0)), (1, .int x1)] from rfl) rfl ?_
  refine V_aload_n (pc := 0) F dX8_greens_0 rfl 0 rfl ?_
  refine V_iload_n (pc := 1) F dX8_greens_1 rfl 1 rfl ?_
  refine V_iconst (v := 0) (pc := 2) F dX8_greens_2 (by decide) ?_
  obtain ⟨r1, g2, hf⟩ := bind_of hf
  refine V_V (w2 := wX8 cy a v) (rest := []) (st2 := [.int r1]) (pc := 3) F 8 (M_X8_of l D cy N a v x1 0 r1 g2) (cwV 2 F.ts gX8_greens_X8_of rfl rfl rfl hd_X8_of ⟨Nat.le_of_ble_eq_true rfl, Nat.le_of_ble_eq_true rfl⟩) rfl dX8_greens_3 Fit.whole rfl rfl rfl (Nat.le_of_ble_eq_true rfl) (Nat.zero_le _) (Nat.zero_le _) rfl rfl rfl ?_
  obtain rfl := some_of hf
  exact V_ret F rfl rfl dX8_greens_6 rfl rfl
theorem hd_X8_rules : yX8_rules.cls = RX8 ∧ yX8_rules.cls ≠ "java/lang/invoke/MethodHandle" ∧ yX8_rules.cls ≠ "java/lang/invoke/VarHandle" ∧ (parseMethodDescriptor yX8_rules.desc).map (fun d => d.parameters.length) = some 1 := by decide +kernel
def fX8_rules (N : Nat) (v : SX8) (x1 : Int32) : Option (Int32) :=
  (fX8_of N v x1 3).bind fun r1 =>
    some r1
set_option maxHeartbeats 8000000 in
set_option maxRecDepth 100000 in
theorem M_X8_rules (l : Launch) (D : va_G) (cy : Nat → ClassId) (N : Nat) (a : Nat → Nat) (v : SX8) (x1 : Int32) (o : Int32) (hf : fX8_rules N v x1 = some o) : okM l yX8_rules wsX8_rules (rmz 1 22) D cy [.ref (a 0), .int x1] (wX8 cy a v) (wX8 cy a v) (some (.int o)) := by
  refine okM_of (own := RX8) (nme := "rules") (cc := cX8_rules) (maxL := 2) (ret := (some .int)) (by decide) rfl rfl rfl (Nat.le_of_ble_eq_true rfl) ?_
  intro p e s m args below meth c A F
  unfold fX8_rules at hf
  refine V.eq rfl (show lv_args 0 [.ref (a 0), .int x1] = [(0, .ref (a 0)), (1, .int x1)] from rfl) rfl ?_
  refine V_aload_n (pc := 0) F dX8_rules_0 rfl 0 rfl ?_
  refine V_iload_n (pc := 1) F dX8_rules_1 rfl 1 rfl ?_
  refine V_iconst (v := 3) (pc := 2) F dX8_rules_2 (by decide) ?_
  obtain ⟨r1, g2, hf⟩ := bind_of hf
  refine V_V (w2 := wX8 cy a v) (rest := []) (st2 := [.int r1]) (pc := 3) F 8 (M_X8_of l D cy N a v x1 3 r1 g2) (cwV 2 F.ts gX8_rules_X8_of rfl rfl rfl hd_X8_of ⟨Nat.le_of_ble_eq_true rfl, Nat.le_of_ble_eq_true rfl⟩) rfl dX8_rules_3 Fit.whole rfl rfl rfl (Nat.le_of_ble_eq_true rfl) (Nat.zero_le _) (Nat.zero_le _) rfl rfl rfl ?_
  obtain rfl := some_of hf
  exact V_ret F rfl rfl dX8_rules_6 rfl rfl
theorem hd_X8_goal : yX8_goal.cls = RX8 ∧ yX8_goal.cls ≠ "java/lang/invoke/MethodHandle" ∧ yX8_goal.cls ≠ "java/lang/invoke/VarHandle" ∧ (parseMethodDescriptor yX8_goal.desc).map (fun d => d.parameters.length) = some 2 := by decide +kernel
def fX8_goal (N : Nat) (v : SX8) (x1 : Int32) (x2 : Int32) : Option (Int32) :=
  (fX8_of N v x1 ((4 : Int32) + ((2 : Int32) * x2))).bind fun r1 =>
    some r1
set_option maxHeartbeats 8000000 in
set_option maxRecDepth 100000 in
theorem M_X8_goal (l : Launch) (D : va_G) (cy : Nat → ClassId) (N : Nat) (a : Nat → Nat) (v : SX8) (x1 : Int32) (x2 : Int32) (o : Int32) (hf : fX8_goal N v x1 x2 = some o) : okM l yX8_goal wsX8_goal (rmz 1 22) D cy [.ref (a 0), .int x1, .int x2] (wX8 cy a v) (wX8 cy a v) (some (.int o)) := by
  refine okM_of (own := RX8) (nme := "goal") (cc := cX8_goal) (maxL := 3) (ret := (some .int)) (by decide) rfl rfl rfl (Nat.le_of_ble_eq_true rfl) ?_
  intro p e s m args below meth c A F
  unfold fX8_goal at hf
  refine V.eq rfl (show lv_args 0 [.ref (a 0), .int x1, .int x2] = [(0, .ref (a 0)), (1, .int x1), (2, .int x2)] from rfl) rfl ?_
  refine V_aload_n (pc := 0) F dX8_goal_0 rfl 0 rfl ?_
  refine V_iload_n (pc := 1) F dX8_goal_1 rfl 1 rfl ?_
  refine V_iconst (v := 4) (pc := 2) F dX8_goal_2 (by decide) ?_
  refine V_iconst (v := 2) (pc := 3) F dX8_goal_3 (by decide) ?_
  refine V_iload_n (pc := 4) F dX8_goal_4 rfl 2 rfl ?_
  refine V_imul (pc := 5) F dX8_goal_5 ?_
  refine V_iadd (pc := 6) F dX8_goal_6 ?_
  obtain ⟨r1, g2, hf⟩ := bind_of hf
  refine V_V (w2 := wX8 cy a v) (rest := []) (st2 := [.int r1]) (pc := 7) F 8 (M_X8_of l D cy N a v x1 ((4 : Int32) + ((2 : Int32) * x2)) r1 g2) (cwV 2 F.ts gX8_goal_X8_of rfl rfl rfl hd_X8_of ⟨Nat.le_of_ble_eq_true rfl, Nat.le_of_ble_eq_true rfl⟩) rfl dX8_goal_7 Fit.whole rfl rfl rfl (Nat.le_of_ble_eq_true rfl) (Nat.zero_le _) (Nat.zero_le _) rfl rfl rfl ?_
  obtain rfl := some_of hf
  exact V_ret F rfl rfl dX8_goal_10 rfl rfl
theorem hd_X8_askers : yX8_askers.cls = RX8 ∧ yX8_askers.cls ≠ "java/lang/invoke/MethodHandle" ∧ yX8_askers.cls ≠ "java/lang/invoke/VarHandle" ∧ (parseMethodDescriptor yX8_askers.desc).map (fun d => d.parameters.length) = some 2 := by decide +kernel
def fX8_askers (N : Nat) (v : SX8) (x1 : Int32) (x2 : Int32) : Option (Int32) :=
  (fX8_of N v x1 (((4 : Int32) + ((2 : Int32) * x2)) + 1)).bind fun r1 =>
    some r1
set_option maxHeartbeats 8000000 in
set_option maxRecDepth 100000 in
theorem M_X8_askers (l : Launch) (D : va_G) (cy : Nat → ClassId) (N : Nat) (a : Nat → Nat) (v : SX8) (x1 : Int32) (x2 : Int32) (o : Int32) (hf : fX8_askers N v x1 x2 = some o) : okM l yX8_askers wsX8_askers (rmz 1 22) D cy [.ref (a 0), .int x1, .int x2] (wX8 cy a v) (wX8 cy a v) (some (.int o)) := by
  refine okM_of (own := RX8) (nme := "askers") (cc := cX8_askers) (maxL := 3) (ret := (some .int)) (by decide) rfl rfl rfl (Nat.le_of_ble_eq_true rfl) ?_
  intro p e s m args below meth c A F
  unfold fX8_askers at hf
  refine V.eq rfl (show lv_args 0 [.ref (a 0), .int x1, .int x2] = [(0, .ref (a 0)), (1, .int x1), (2, .int x2)] from rfl) rfl ?_
  refine V_aload_n (pc := 0) F dX8_askers_0 rfl 0 rfl ?_
  refine V_iload_n (pc := 1) F dX8_askers_1 rfl 1 rfl ?_
  refine V_iconst (v := 4) (pc := 2) F dX8_askers_2 (by decide) ?_
  refine V_iconst (v := 2) (pc := 3) F dX8_askers_3 (by decide) ?_
  refine V_iload_n (pc := 4) F dX8_askers_4 rfl 2 rfl ?_
  refine V_imul (pc := 5) F dX8_askers_5 ?_
  refine V_iadd (pc := 6) F dX8_askers_6 ?_
  refine V_iconst (v := 1) (pc := 7) F dX8_askers_7 (by decide) ?_
  refine V_iadd (pc := 8) F dX8_askers_8 ?_
  obtain ⟨r1, g2, hf⟩ := bind_of hf
  refine V_V (w2 := wX8 cy a v) (rest := []) (st2 := [.int r1]) (pc := 9) F 8 (M_X8_of l D cy N a v x1 (((4 : Int32) + ((2 : Int32) * x2)) + 1) r1 g2) (cwV 2 F.ts gX8_askers_X8_of rfl rfl rfl hd_X8_of ⟨Nat.le_of_ble_eq_true rfl, Nat.le_of_ble_eq_true rfl⟩) rfl dX8_askers_9 Fit.whole rfl rfl rfl (Nat.le_of_ble_eq_true rfl) (Nat.zero_le _) (Nat.zero_le _) rfl rfl rfl ?_
  obtain rfl := some_of hf
  exact V_ret F rfl rfl dX8_askers_12 rfl rfl
theorem hd_X8_hasGreen : yX8_hasGreen.cls = RX8 ∧ yX8_hasGreen.cls ≠ "java/lang/invoke/MethodHandle" ∧ yX8_hasGreen.cls ≠ "java/lang/invoke/VarHandle" ∧ (parseMethodDescriptor yX8_hasGreen.desc).map (fun d => d.parameters.length) = some 2 := by decide +kernel
def fX8_hasGreen (N : Nat) (v : SX8) (x1 : Int32) (x2 : Int32) : Option (Int32) :=
  (fX8_greens N v x1).bind fun r1 =>
    if ((r1 >>> (x2 &&& 31)) &&& 1) = 1 then
      some 1
    else
      some 0
set_option maxHeartbeats 8000000 in
set_option maxRecDepth 100000 in
theorem M_X8_hasGreen (l : Launch) (D : va_G) (cy : Nat → ClassId) (N : Nat) (a : Nat → Nat) (v : SX8) (x1 : Int32) (x2 : Int32) (o : Int32) (hf : fX8_hasGreen N v x1 x2 = some o) : okM l yX8_hasGreen wsX8_hasGreen (rmz 2 43) D cy [.ref (a 0), .int x1, .int x2] (wX8 cy a v) (wX8 cy a v) (some (.int o)) := by
  refine okM_of (own := RX8) (nme := "hasGreen") (cc := cX8_hasGreen) (maxL := 3) (ret := (some .boolean)) (by decide) rfl rfl rfl (Nat.le_of_ble_eq_true rfl) ?_
  intro p e s m args below meth c A F
  unfold fX8_hasGreen at hf
  refine V.eq rfl (show lv_args 0 [.ref (a 0), .int x1, .int x2] = [(0, .ref (a 0)), (1, .int x1), (2, .int x2)] from rfl) rfl ?_
  refine V_aload_n (pc := 0) F dX8_hasGreen_0 rfl 0 rfl ?_
  refine V_iload_n (pc := 1) F dX8_hasGreen_1 rfl 1 rfl ?_
  obtain ⟨r1, g2, hf⟩ := bind_of hf
  refine V_V (w2 := wX8 cy a v) (rest := []) (st2 := [.int r1]) (pc := 2) F 8 (M_X8_greens l D cy N a v x1 r1 g2) (cwV 1 F.ts gX8_hasGreen_X8_greens rfl rfl rfl hd_X8_greens ⟨Nat.le_of_ble_eq_true rfl, Nat.le_of_ble_eq_true rfl⟩) rfl dX8_hasGreen_2 Fit.whole rfl rfl rfl (Nat.le_of_ble_eq_true rfl) (Nat.zero_le _) (Nat.zero_le _) rfl rfl rfl ?_
  refine V_iload_n (pc := 5) F dX8_hasGreen_5 rfl 2 rfl ?_
  refine V_ishr (pc := 6) F dX8_hasGreen_6 ?_
  refine V_iconst (v := 1) (pc := 7) F dX8_hasGreen_7 (by decide) ?_
  refine V_iand (pc := 8) F dX8_hasGreen_8 ?_
  refine V_iconst (v := 1) (pc := 9) F dX8_hasGreen_9 (by decide) ?_
  refine V_icmp_ne (pc := 10) (tgt := 17) F dX8_hasGreen_10 (by decide) (fun h3 => ?_) (fun h3 => ?_)
  · replace hf := ite_neg hf h3
    refine V_iconst (v := 0) (pc := 17) F dX8_hasGreen_17 (by decide) ?_
    obtain rfl := some_of hf
    exact V_ret F rfl rfl dX8_hasGreen_18 rfl rfl
  · replace hf := ite_pos hf h3
    refine V_iconst (v := 1) (pc := 13) F dX8_hasGreen_13 (by decide) ?_
    refine V_goto (pc := 14) (tgt := 18) F dX8_hasGreen_14 (by decide) ?_
    obtain rfl := some_of hf
    exact V_ret F rfl rfl dX8_hasGreen_18 rfl rfl
theorem hd_X8_isClearing : yX8_isClearing.cls = RX8 ∧ yX8_isClearing.cls ≠ "java/lang/invoke/MethodHandle" ∧ yX8_isClearing.cls ≠ "java/lang/invoke/VarHandle" ∧ (parseMethodDescriptor yX8_isClearing.desc).map (fun d => d.parameters.length) = some 0 := by decide +kernel
def fX8_isClearing (N : Nat) (v : SX8) : Option (Int32) :=
  chk 4 143 (
    if (v.2.1 (4 : Int32).toNatClampNeg) ≤ 0 then
      some 0
    else
      some 1
  )
set_option maxHeartbeats 8000000 in
set_option maxRecDepth 100000 in
theorem M_X8_isClearing (l : Launch) (D : va_G) (cy : Nat → ClassId) (N : Nat) (a : Nat → Nat) (v : SX8) (o : Int32) (hf : fX8_isClearing N v = some o) : okM l yX8_isClearing wsX8_isClearing (rmz 0 0) D cy [.ref (a 0)] (wX8 cy a v) (wX8 cy a v) (some (.int o)) := by
  refine okM_of (own := RX8) (nme := "isClearing") (cc := cX8_isClearing) (maxL := 1) (ret := (some .boolean)) (by decide) rfl rfl rfl (Nat.le_of_ble_eq_true rfl) ?_
  intro p e s m args below meth c A F
  have i_X8 : ∀ w ∈ u_ws RX8 TX8 13, w ∈ wsX8_isClearing := fun _ h => List.mem_cons_of_mem _ (List.mem_append_right _ h)
  unfold fX8_isClearing at hf
  refine V.eq rfl (show lv_args 0 [.ref (a 0)] = [(0, .ref (a 0))] from rfl) rfl ?_
  refine V_aload_n (pc := 0) F dX8_isClearing_0 rfl 0 rfl ?_
  refine V_get (pc := 1) F 0 8 1 i_X8 rfl (by decide) rfl (mm 1 rfl) dX8_isClearing_1 rfl rfl ?_
  refine V_iconst (v := 4) (pc := 4) F dX8_isClearing_4 (by decide) ?_
  obtain ⟨c1, hf⟩ := chk_some hf
  refine V_iald (pc := 5) F 1 rfl c1 dX8_isClearing_5 ?_
  refine V_if_le (pc := 6) (tgt := 13) F dX8_isClearing_6 (by decide) (fun h2 => ?_) (fun h2 => ?_)
  · replace hf := ite_pos hf h2
    refine V_iconst (v := 0) (pc := 13) F dX8_isClearing_13 (by decide) ?_
    obtain rfl := some_of hf
    exact V_ret F rfl rfl dX8_isClearing_14 rfl rfl
  · replace hf := ite_neg hf h2
    refine V_iconst (v := 1) (pc := 9) F dX8_isClearing_9 (by decide) ?_
    refine V_goto (pc := 10) (tgt := 14) F dX8_isClearing_10 (by decide) ?_
    obtain rfl := some_of hf
    exact V_ret F rfl rfl dX8_isClearing_14 rfl rfl
theorem hd_X8_save : yX8_save.cls = RX8 ∧ yX8_save.cls ≠ "java/lang/invoke/MethodHandle" ∧ yX8_save.cls ≠ "java/lang/invoke/VarHandle" ∧ (parseMethodDescriptor yX8_save.desc).map (fun d => d.parameters.length) = some 0 := by decide +kernel
def fX8_save_L52 (N : Nat)  : Nat → SX8 → Int32 → Option (SX8)
  | 0, _, _ => none
  | n + 1, v, z1 =>
    if 143 ≤ z1 then
      some v
    else
      chk z1 143 (
        chk ((v.2.2.2.1 * 143) + z1) 858 (
          nmd (upd v.2.2.1 ((v.2.2.2.1 * 143) + z1).toNatClampNeg (v.2.1 z1.toNatClampNeg)) fun f5 =>
          fX8_save_L52 N n (v.1, v.2.1, f5, v.2.2.2) (z1 + 1)
        )
      )
def fX8_save_L11 (N : Nat)  : Nat → SX8 → Int32 → Option (SX8)
  | 0, _, _ => none
  | n + 1, v, z1 =>
    if 715 ≤ z1 then
      some v
    else
      chk (z1 + 143) 858 (
        chk z1 858 (
          nmd (upd v.2.2.1 z1.toNatClampNeg (v.2.2.1 (z1 + 143).toNatClampNeg)) fun f12 =>
          fX8_save_L11 N n (v.1, v.2.1, f12, v.2.2.2) (z1 + 1)
        )
      )
def fX8_save (N : Nat) (v : SX8) : Option (SX8) :=
  if v.2.2.2.1 = 6 then
    (fX8_save_L11 N N v 0).bind fun u14 =>
      (fX8_save_L52 N N (u14.1, u14.2.1, u14.2.2.1, (u14.2.2.2.1 - 1), u14.2.2.2.2) 0).bind fun u16 =>
        some (u16.1, u16.2.1, u16.2.2.1, (u16.2.2.2.1 + 1), u16.2.2.2.2)
  else
    (fX8_save_L52 N N v 0).bind fun u7 =>
      some (u7.1, u7.2.1, u7.2.2.1, (u7.2.2.2.1 + 1), u7.2.2.2.2)
set_option maxHeartbeats 8000000 in
set_option maxRecDepth 100000 in
theorem M_X8_save (l : Launch) (D : va_G) (cy : Nat → ClassId) (N : Nat) (a : Nat → Nat) (v : SX8) (o : SX8) (hf : fX8_save N v = some o) : okM l yX8_save wsX8_save (rmz 0 0) D cy [.ref (a 0)] (wX8 cy a v) (wX8 cy a o) none := by
  refine okM_of (own := RX8) (nme := "save") (cc := cX8_save) (maxL := 2) (ret := none) (by decide) rfl rfl rfl (Nat.le_of_ble_eq_true rfl) ?_
  intro p e s m args below meth c A F
  have i_X8 : ∀ w ∈ u_ws RX8 TX8 13, w ∈ wsX8_save := fun _ h => List.mem_cons_of_mem _ (List.mem_append_right _ h)
  have K52 : ∀ (n : Nat) (v : SX8) (z1 : Int32) (u : SX8), fX8_save_L52 N n v z1 = some u → V p l e (rmz 0 0) s m args below meth c 2 D A 0 0 (MQ below (ok_Q D (wX8 cy a o) none A) args s 0 0 A) (wX8 cy a u) [(0, .ref (a 0))] [] 86 → V p l e (rmz 0 0) s m args below meth c 2 D A 0 0 (MQ below (ok_Q D (wX8 cy a o) none A) args s 0 0 A) (wX8 cy a v) [(0, .ref (a 0)), (1, .int z1)] [] 52 := by
    intro n
    induction n with
    | zero =>
      intro v z1 u hf hk
      exact nomatch (show (none : Option (SX8)) = some u from hf)
    | succ n ih =>
      intro v z1 u hf hk
      rw [fX8_save_L52] at hf
      refine V_iload_n (pc := 52) F dX8_save_52 rfl 1 rfl ?_
      refine V_sipush (v := 143) (pc := 53) F dX8_save_53 (by decide) ?_
      refine V_icmp_ge (pc := 56) (tgt := 86) F dX8_save_56 (by decide) (fun h2 => ?_) (fun h2 => ?_)
      · replace hf := ite_pos hf h2
        obtain rfl := some_of hf
        exact V.sub [0] rfl hk
      · replace hf := ite_neg hf h2
        refine V_aload_n (pc := 59) F dX8_save_59 rfl 0 rfl ?_
        refine V_get (pc := 60) F 0 8 2 i_X8 rfl (by decide) rfl (mm 2 rfl) dX8_save_60 rfl rfl ?_
        refine V_aload_n (pc := 63) F dX8_save_63 rfl 0 rfl ?_
        refine V_get (pc := 64) F 0 8 3 i_X8 rfl (by decide) rfl (mm 1 rfl) dX8_save_64 rfl rfl ?_
        refine V_sipush (v := 143) (pc := 67) F dX8_save_67 (by decide) ?_
        refine V_imul (pc := 70) F dX8_save_70 ?_
        refine V_iload_n (pc := 71) F dX8_save_71 rfl 1 rfl ?_
        refine V_iadd (pc := 72) F dX8_save_72 ?_
        refine V_aload_n (pc := 73) F dX8_save_73 rfl 0 rfl ?_
        refine V_get (pc := 74) F 0 8 1 i_X8 rfl (by decide) rfl (mm 3 rfl) dX8_save_74 rfl rfl ?_
        refine V_iload_n (pc := 77) F dX8_save_77 rfl 1 rfl ?_
        obtain ⟨c3, hf⟩ := chk_some hf
        refine V_iald (pc := 78) F 1 rfl c3 dX8_save_78 ?_
        obtain ⟨c4, hf⟩ := chk_some hf
        obtain ⟨f5, e6, hf⟩ := nmd_of hf
        refine V_iast (w2 := wX8 cy a (v.1, v.2.1, f5, v.2.2.2)) (pc := 79) F 2 rfl c4 e6 dX8_save_79 rfl ?_
        refine V_iinc (v := (z1 + 1)) (L2 := [(1, .int (z1 + 1)), (0, .ref (a 0))]) (pc := 80) F dX8_save_80 1 rfl rfl (by decide) rfl ?_
        refine V_goto (pc := 83) (tgt := 52) F dX8_save_83 (by decide) ?_
        refine V.sub [1, 0] rfl ?_
        exact ih (v.1, v.2.1, f5, v.2.2.2) (z1 + 1) _ hf hk
  have K11 : ∀ (n : Nat) (v : SX8) (z1 : Int32) (u : SX8), fX8_save_L11 N n v z1 = some u → V p l e (rmz 0 0) s m args below meth c 2 D A 0 0 (MQ below (ok_Q D (wX8 cy a o) none A) args s 0 0 A) (wX8 cy a u) [(0, .ref (a 0))] [] 40 → V p l e (rmz 0 0) s m args below meth c 2 D A 0 0 (MQ below (ok_Q D (wX8 cy a o) none A) args s 0 0 A) (wX8 cy a v) [(0, .ref (a 0)), (1, .int z1)] [] 11 := by
    intro n
    induction n with
    | zero =>
      intro v z1 u hf hk
      exact nomatch (show (none : Option (SX8)) = some u from hf)
    | succ n ih =>
      intro v z1 u hf hk
      rw [fX8_save_L11] at hf
      refine V_iload_n (pc := 11) F dX8_save_11 rfl 1 rfl ?_
      refine V_sipush (v := 715) (pc := 12) F dX8_save_12 (by decide) ?_
      refine V_icmp_ge (pc := 15) (tgt := 40) F dX8_save_15 (by decide) (fun h9 => ?_) (fun h9 => ?_)
      · replace hf := ite_pos hf h9
        obtain rfl := some_of hf
        exact V.sub [0] rfl hk
      · replace hf := ite_neg hf h9
        refine V_aload_n (pc := 18) F dX8_save_18 rfl 0 rfl ?_
        refine V_get (pc := 19) F 0 8 2 i_X8 rfl (by decide) rfl (mm 2 rfl) dX8_save_19 rfl rfl ?_
        refine V_iload_n (pc := 22) F dX8_save_22 rfl 1 rfl ?_
        refine V_aload_n (pc := 23) F dX8_save_23 rfl 0 rfl ?_
        refine V_get (pc := 24) F 0 8 2 i_X8 rfl (by decide) rfl (mm 2 rfl) dX8_save_24 rfl rfl ?_
        refine V_iload_n (pc := 27) F dX8_save_27 rfl 1 rfl ?_
        refine V_sipush (v := 143) (pc := 28) F dX8_save_28 (by decide) ?_
        refine V_iadd (pc := 31) F dX8_save_31 ?_
        obtain ⟨c10, hf⟩ := chk_some hf
        refine V_iald (pc := 32) F 2 rfl c10 dX8_save_32 ?_
        obtain ⟨c11, hf⟩ := chk_some hf
        obtain ⟨f12, e13, hf⟩ := nmd_of hf
        refine V_iast (w2 := wX8 cy a (v.1, v.2.1, f12, v.2.2.2)) (pc := 33) F 2 rfl c11 e13 dX8_save_33 rfl ?_
        refine V_iinc (v := (z1 + 1)) (L2 := [(1, .int (z1 + 1)), (0, .ref (a 0))]) (pc := 34) F dX8_save_34 1 rfl rfl (by decide) rfl ?_
        refine V_goto (pc := 37) (tgt := 11) F dX8_save_37 (by decide) ?_
        refine V.sub [1, 0] rfl ?_
        exact ih (v.1, v.2.1, f12, v.2.2.2) (z1 + 1) _ hf hk
  unfold fX8_save at hf
  refine V.eq rfl (show lv_args 0 [.ref (a 0)] = [(0, .ref (a 0))] from rfl) rfl ?_
  refine V_aload_n (pc := 0) F dX8_save_0 rfl 0 rfl ?_
  refine V_get (pc := 1) F 0 8 3 i_X8 rfl (by decide) rfl (mm 1 rfl) dX8_save_1 rfl rfl ?_
  refine V_bipush (v := 6) (pc := 4) F dX8_save_4 (by decide) ?_
  refine V_icmp_ne (pc := 6) (tgt := 50) F dX8_save_6 (by decide) (fun h1 => ?_) (fun h1 => ?_)
  · replace hf := ite_neg hf h1
    refine V_iconst (v := 0) (pc := 50) F dX8_save_50 (by decide) ?_
    refine V_istore_n (L2 := [(1, .int 0), (0, .ref (a 0))]) (pc := 51) F dX8_save_51 rfl (by decide) rfl ?_
    refine V.sub [1, 0] rfl ?_
    obtain ⟨u7, g8, hf⟩ := bind_of hf
    refine K52 N v 0 u7 g8 ?_
    refine V_aload_n (pc := 86) F dX8_save_86 rfl 0 rfl ?_
    refine V_dup (pc := 87) F dX8_save_87 rfl ?_
    refine V_get (pc := 88) F 0 8 3 i_X8 rfl (by decide) rfl (mm 1 rfl) dX8_save_88 rfl rfl ?_
    refine V_iconst (v := 1) (pc := 91) F dX8_save_91 (by decide) ?_
    refine V_iadd (pc := 92) F dX8_save_92 ?_
    refine V_put (w2 := wX8 cy a (u7.1, u7.2.1, u7.2.2.1, (u7.2.2.2.1 + 1), u7.2.2.2.2)) (pc := 93) F 0 8 3 i_X8 tyX8 tyX8_ok nmX8 rfl (by decide) rfl (mm 1 rfl) rfl dX8_save_93 rfl rfl rfl (Nat.le_of_ble_eq_true rfl) rfl ?_
    obtain rfl := some_of hf
    exact V_vret F rfl dX8_save_96 rfl
  · replace hf := ite_pos hf h1
    refine V_iconst (v := 0) (pc := 9) F dX8_save_9 (by decide) ?_
    refine V_istore_n (L2 := [(1, .int 0), (0, .ref (a 0))]) (pc := 10) F dX8_save_10 rfl (by decide) rfl ?_
    refine V.sub [1, 0] rfl ?_
    obtain ⟨u14, g15, hf⟩ := bind_of hf
    refine K11 N v 0 u14 g15 ?_
    refine V_aload_n (pc := 40) F dX8_save_40 rfl 0 rfl ?_
    refine V_dup (pc := 41) F dX8_save_41 rfl ?_
    refine V_get (pc := 42) F 0 8 3 i_X8 rfl (by decide) rfl (mm 1 rfl) dX8_save_42 rfl rfl ?_
    refine V_iconst (v := 1) (pc := 45) F dX8_save_45 (by decide) ?_
    refine V_isub (pc := 46) F dX8_save_46 ?_
    refine V_put (w2 := wX8 cy a (u14.1, u14.2.1, u14.2.2.1, (u14.2.2.2.1 - 1), u14.2.2.2.2)) (pc := 47) F 0 8 3 i_X8 tyX8 tyX8_ok nmX8 rfl (by decide) rfl (mm 1 rfl) rfl dX8_save_47 rfl rfl rfl (Nat.le_of_ble_eq_true rfl) rfl ?_
    refine V_iconst (v := 0) (pc := 50) F dX8_save_50 (by decide) ?_
    refine V_istore_n (L2 := [(1, .int 0), (0, .ref (a 0))]) (pc := 51) F dX8_save_51 rfl (by decide) rfl ?_
    refine V.sub [1, 0] rfl ?_
    obtain ⟨u16, g17, hf⟩ := bind_of hf
    refine K52 N (u14.1, u14.2.1, u14.2.2.1, (u14.2.2.2.1 - 1), u14.2.2.2.2) 0 u16 g17 ?_
    refine V_aload_n (pc := 86) F dX8_save_86 rfl 0 rfl ?_
    refine V_dup (pc := 87) F dX8_save_87 rfl ?_
    refine V_get (pc := 88) F 0 8 3 i_X8 rfl (by decide) rfl (mm 1 rfl) dX8_save_88 rfl rfl ?_
    refine V_iconst (v := 1) (pc := 91) F dX8_save_91 (by decide) ?_
    refine V_iadd (pc := 92) F dX8_save_92 ?_
    refine V_put (w2 := wX8 cy a (u16.1, u16.2.1, u16.2.2.1, (u16.2.2.2.1 + 1), u16.2.2.2.2)) (pc := 93) F 0 8 3 i_X8 tyX8 tyX8_ok nmX8 rfl (by decide) rfl (mm 1 rfl) rfl dX8_save_93 rfl rfl rfl (Nat.le_of_ble_eq_true rfl) rfl ?_
    obtain rfl := some_of hf
    exact V_vret F rfl dX8_save_96 rfl
theorem hd_X8_undo : yX8_undo.cls = RX8 ∧ yX8_undo.cls ≠ "java/lang/invoke/MethodHandle" ∧ yX8_undo.cls ≠ "java/lang/invoke/VarHandle" ∧ (parseMethodDescriptor yX8_undo.desc).map (fun d => d.parameters.length) = some 0 := by decide +kernel
def fX8_undo_L37 (N : Nat)  : Nat → SX8 → Int32 → Option (SX8)
  | 0, _, _ => none
  | n + 1, v, z1 =>
    if 143 ≤ z1 then
      some v
    else
      chk ((v.2.2.2.1 * 143) + z1) 858 (
        chk z1 143 (
          nmd (upd v.2.1 z1.toNatClampNeg (v.2.2.1 ((v.2.2.2.1 * 143) + z1).toNatClampNeg)) fun f6 =>
          fX8_undo_L37 N n (v.1, f6, v.2.2) (z1 + 1)
        )
      )
def fX8_undo (N : Nat) (v : SX8) : Option (Int32 × SX8) :=
  if v.2.2.2.1 = 0 then
    some (0, (1, v.2))
  else
    (fX8_undo_L37 N N (0, v.2.1, v.2.2.1, (v.2.2.2.1 - 1), v.2.2.2.2) 0).bind fun u8 =>
      some (u8.2.2.2.1, u8)
set_option maxHeartbeats 8000000 in
set_option maxRecDepth 100000 in
theorem M_X8_undo (l : Launch) (D : va_G) (cy : Nat → ClassId) (N : Nat) (a : Nat → Nat) (v : SX8) (o : Int32 × SX8) (hf : fX8_undo N v = some o) : okM l yX8_undo wsX8_undo (rmz 0 0) D cy [.ref (a 0)] (wX8 cy a v) (wX8 cy a o.2) (some (.int o.1)) := by
  refine okM_of (own := RX8) (nme := "undo") (cc := cX8_undo) (maxL := 2) (ret := (some .int)) (by decide) rfl rfl rfl (Nat.le_of_ble_eq_true rfl) ?_
  intro p e s m args below meth c A F
  have i_X8 : ∀ w ∈ u_ws RX8 TX8 13, w ∈ wsX8_undo := fun _ h => List.mem_cons_of_mem _ (List.mem_append_right _ h)
  have K37 : ∀ (n : Nat) (v : SX8) (z1 : Int32) (u : SX8), fX8_undo_L37 N n v z1 = some u → V p l e (rmz 0 0) s m args below meth c 2 D A 0 0 (MQ below (ok_Q D (wX8 cy a o.2) (some (.int o.1)) A) args s 0 0 A) (wX8 cy a u) [(0, .ref (a 0))] [] 71 → V p l e (rmz 0 0) s m args below meth c 2 D A 0 0 (MQ below (ok_Q D (wX8 cy a o.2) (some (.int o.1)) A) args s 0 0 A) (wX8 cy a v) [(0, .ref (a 0)), (1, .int z1)] [] 37 := by
    intro n
    induction n with
    | zero =>
      intro v z1 u hf hk
      exact nomatch (show (none : Option (SX8)) = some u from hf)
    | succ n ih =>
      intro v z1 u hf hk
      rw [fX8_undo_L37] at hf
      refine V_iload_n (pc := 37) F dX8_undo_37 rfl 1 rfl ?_
      refine V_sipush (v := 143) (pc := 38) F dX8_undo_38 (by decide) ?_
      refine V_icmp_ge (pc := 41) (tgt := 71) F dX8_undo_41 (by decide) (fun h3 => ?_) (fun h3 => ?_)
      · replace hf := ite_pos hf h3
        obtain rfl := some_of hf
        exact V.sub [0] rfl hk
      · replace hf := ite_neg hf h3
        refine V_aload_n (pc := 44) F dX8_undo_44 rfl 0 rfl ?_
        refine V_get (pc := 45) F 0 8 1 i_X8 rfl (by decide) rfl (mm 3 rfl) dX8_undo_45 rfl rfl ?_
        refine V_iload_n (pc := 48) F dX8_undo_48 rfl 1 rfl ?_
        refine V_aload_n (pc := 49) F dX8_undo_49 rfl 0 rfl ?_
        refine V_get (pc := 50) F 0 8 2 i_X8 rfl (by decide) rfl (mm 4 rfl) dX8_undo_50 rfl rfl ?_
        refine V_aload_n (pc := 53) F dX8_undo_53 rfl 0 rfl ?_
        refine V_get (pc := 54) F 0 8 3 i_X8 rfl (by decide) rfl (mm 1 rfl) dX8_undo_54 rfl rfl ?_
        refine V_sipush (v := 143) (pc := 57) F dX8_undo_57 (by decide) ?_
        refine V_imul (pc := 60) F dX8_undo_60 ?_
        refine V_iload_n (pc := 61) F dX8_undo_61 rfl 1 rfl ?_
        refine V_iadd (pc := 62) F dX8_undo_62 ?_
        obtain ⟨c4, hf⟩ := chk_some hf
        refine V_iald (pc := 63) F 2 rfl c4 dX8_undo_63 ?_
        obtain ⟨c5, hf⟩ := chk_some hf
        obtain ⟨f6, e7, hf⟩ := nmd_of hf
        refine V_iast (w2 := wX8 cy a (v.1, f6, v.2.2)) (pc := 64) F 1 rfl c5 e7 dX8_undo_64 rfl ?_
        refine V_iinc (v := (z1 + 1)) (L2 := [(1, .int (z1 + 1)), (0, .ref (a 0))]) (pc := 65) F dX8_undo_65 1 rfl rfl (by decide) rfl ?_
        refine V_goto (pc := 68) (tgt := 37) F dX8_undo_68 (by decide) ?_
        refine V.sub [1, 0] rfl ?_
        exact ih (v.1, f6, v.2.2) (z1 + 1) _ hf hk
  unfold fX8_undo at hf
  refine V.eq rfl (show lv_args 0 [.ref (a 0)] = [(0, .ref (a 0))] from rfl) rfl ?_
  refine V_aload_n (pc := 0) F dX8_undo_0 rfl 0 rfl ?_
  refine V_aload_n (pc := 1) F dX8_undo_1 rfl 0 rfl ?_
  refine V_get (pc := 2) F 0 8 3 i_X8 rfl (by decide) rfl (mm 1 rfl) dX8_undo_2 rfl rfl ?_
  refine V_if_ne (pc := 5) (tgt := 12) F dX8_undo_5 (by decide) (fun h1 => ?_) (fun h1 => ?_)
  · replace hf := ite_neg hf h1
    refine V_iconst (v := 0) (pc := 12) F dX8_undo_12 (by decide) ?_
    refine V_put (w2 := wX8 cy a (0, v.2)) (pc := 13) F 0 8 0 i_X8 tyX8 tyX8_ok nmX8 rfl (by decide) rfl (mm 2 rfl) rfl dX8_undo_13 rfl rfl rfl (Nat.le_of_ble_eq_true rfl) rfl ?_
    refine V_aload_n (pc := 16) F dX8_undo_16 rfl 0 rfl ?_
    refine V_get (pc := 17) F 0 8 0 i_X8 rfl (by decide) rfl (mm 2 rfl) dX8_undo_17 rfl rfl ?_
    refine V_if_le (pc := 20) (tgt := 25) F dX8_undo_20 (by decide) (fun h2 => ?_) (fun h2 => ?_)
    · refine V_aload_n (pc := 25) F dX8_undo_25 rfl 0 rfl ?_
      refine V_dup (pc := 26) F dX8_undo_26 rfl ?_
      refine V_get (pc := 27) F 0 8 3 i_X8 rfl (by decide) rfl (mm 1 rfl) dX8_undo_27 rfl rfl ?_
      refine V_iconst (v := 1) (pc := 30) F dX8_undo_30 (by decide) ?_
      refine V_isub (pc := 31) F dX8_undo_31 ?_
      refine V_put (w2 := wX8 cy a (0, v.2.1, v.2.2.1, (v.2.2.2.1 - 1), v.2.2.2.2)) (pc := 32) F 0 8 3 i_X8 tyX8 tyX8_ok nmX8 rfl (by decide) rfl (mm 1 rfl) rfl dX8_undo_32 rfl rfl rfl (Nat.le_of_ble_eq_true rfl) rfl ?_
      refine V_iconst (v := 0) (pc := 35) F dX8_undo_35 (by decide) ?_
      refine V_istore_n (L2 := [(1, .int 0), (0, .ref (a 0))]) (pc := 36) F dX8_undo_36 rfl (by decide) rfl ?_
      refine V.sub [1, 0] rfl ?_
      obtain ⟨u8, g9, hf⟩ := bind_of hf
      refine K37 N (0, v.2.1, v.2.2.1, (v.2.2.2.1 - 1), v.2.2.2.2) 0 u8 g9 ?_
      refine V_aload_n (pc := 71) F dX8_undo_71 rfl 0 rfl ?_
      refine V_get (pc := 72) F 0 8 3 i_X8 rfl (by decide) rfl (mm 1 rfl) dX8_undo_72 rfl rfl ?_
      obtain rfl := some_of hf
      exact V_ret F rfl rfl dX8_undo_75 rfl rfl
    · exact absurd h2 (show ¬ (¬ ((0 : Int32) ≤ (0 : Int32))) by decide)
  · replace hf := ite_pos hf h1
    refine V_iconst (v := 1) (pc := 8) F dX8_undo_8 (by decide) ?_
    refine V_goto (pc := 9) (tgt := 13) F dX8_undo_9 (by decide) ?_
    refine V_put (w2 := wX8 cy a (1, v.2)) (pc := 13) F 0 8 0 i_X8 tyX8 tyX8_ok nmX8 rfl (by decide) rfl (mm 2 rfl) rfl dX8_undo_13 rfl rfl rfl (Nat.le_of_ble_eq_true rfl) rfl ?_
    refine V_aload_n (pc := 16) F dX8_undo_16 rfl 0 rfl ?_
    refine V_get (pc := 17) F 0 8 0 i_X8 rfl (by decide) rfl (mm 2 rfl) dX8_undo_17 rfl rfl ?_
    refine V_if_le (pc := 20) (tgt := 25) F dX8_undo_20 (by decide) (fun h10 => ?_) (fun h10 => ?_)
    · exact absurd h10 (show ¬ ((1 : Int32) ≤ (0 : Int32)) by decide)
    · refine V_iconst (v := 0) (pc := 23) F dX8_undo_23 (by decide) ?_
      obtain rfl := some_of hf
      exact V_ret F rfl rfl dX8_undo_24 rfl rfl
theorem hd_X8_setClash : yX8_setClash.cls = RX8 ∧ yX8_setClash.cls ≠ "java/lang/invoke/MethodHandle" ∧ yX8_setClash.cls ≠ "java/lang/invoke/VarHandle" ∧ (parseMethodDescriptor yX8_setClash.desc).map (fun d => d.parameters.length) = some 3 := by decide +kernel
def fX8_setClash (N : Nat) (v : SX8) (x1 : Int32) (x2 : Int32) (x3 : Int32) : Option (SX8) :=
  chk ((7 : Int32) + x1) 143 (
    chk ((7 : Int32) + x1) 143 (
      nmd (upd v.2.1 ((7 : Int32) + x1).toNatClampNeg (((v.2.1 ((7 : Int32) + x1).toNatClampNeg) &&& (((1 : Int32) <<< (x2 &&& 31)) ^^^ (-1))) ||| (x3 <<< (x2 &&& 31)))) fun f3 =>
      chk ((7 : Int32) + x2) 143 (
        chk ((7 : Int32) + x2) 143 (
          nmd (upd f3 ((7 : Int32) + x2).toNatClampNeg (((f3 ((7 : Int32) + x2).toNatClampNeg) &&& (((1 : Int32) <<< (x1 &&& 31)) ^^^ (-1))) ||| (x3 <<< (x1 &&& 31)))) fun f7 =>
          some (v.1, f7, v.2.2)
        )
      )
    )
  )
set_option maxHeartbeats 8000000 in
set_option maxRecDepth 100000 in
theorem M_X8_setClash (l : Launch) (D : va_G) (cy : Nat → ClassId) (N : Nat) (a : Nat → Nat) (v : SX8) (x1 : Int32) (x2 : Int32) (x3 : Int32) (o : SX8) (hf : fX8_setClash N v x1 x2 x3 = some o) : okM l yX8_setClash wsX8_setClash (rmz 0 0) D cy [.ref (a 0), .int x1, .int x2, .int x3] (wX8 cy a v) (wX8 cy a o) none := by
  refine okM_of (own := RX8) (nme := "setClash") (cc := cX8_setClash) (maxL := 4) (ret := none) (by decide) rfl rfl rfl (Nat.le_of_ble_eq_true rfl) ?_
  intro p e s m args below meth c A F
  have i_X8 : ∀ w ∈ u_ws RX8 TX8 13, w ∈ wsX8_setClash := fun _ h => List.mem_cons_of_mem _ (List.mem_append_right _ h)
  unfold fX8_setClash at hf
  refine V.eq rfl (show lv_args 0 [.ref (a 0), .int x1, .int x2, .int x3] = [(0, .ref (a 0)), (1, .int x1), (2, .int x2), (3, .int x3)] from rfl) rfl ?_
  refine V_aload_n (pc := 0) F dX8_setClash_0 rfl 0 rfl ?_
  refine V_get (pc := 1) F 0 8 1 i_X8 rfl (by decide) rfl (mm 1 rfl) dX8_setClash_1 rfl rfl ?_
  refine V_bipush (v := 7) (pc := 4) F dX8_setClash_4 (by decide) ?_
  refine V_iload_n (pc := 6) F dX8_setClash_6 rfl 1 rfl ?_
  refine V_iadd (pc := 7) F dX8_setClash_7 ?_
  refine V_aload_n (pc := 8) F dX8_setClash_8 rfl 0 rfl ?_
  refine V_get (pc := 9) F 0 8 1 i_X8 rfl (by decide) rfl (mm 1 rfl) dX8_setClash_9 rfl rfl ?_
  refine V_bipush (v := 7) (pc := 12) F dX8_setClash_12 (by decide) ?_
  refine V_iload_n (pc := 14) F dX8_setClash_14 rfl 1 rfl ?_
  refine V_iadd (pc := 15) F dX8_setClash_15 ?_
  obtain ⟨c1, hf⟩ := chk_some hf
  refine V_iald (pc := 16) F 1 rfl c1 dX8_setClash_16 ?_
  refine V_iconst (v := 1) (pc := 17) F dX8_setClash_17 (by decide) ?_
  refine V_iload_n (pc := 18) F dX8_setClash_18 rfl 2 rfl ?_
  refine V_ishl (pc := 19) F dX8_setClash_19 ?_
  refine V_iconst (v := (-1)) (pc := 20) F dX8_setClash_20 (by decide) ?_
  refine V_ixor (pc := 21) F dX8_setClash_21 ?_
  refine V_iand (pc := 22) F dX8_setClash_22 ?_
  refine V_iload_n (pc := 23) F dX8_setClash_23 rfl 3 rfl ?_
  refine V_iload_n (pc := 24) F dX8_setClash_24 rfl 2 rfl ?_
  refine V_ishl (pc := 25) F dX8_setClash_25 ?_
  refine V_ior (pc := 26) F dX8_setClash_26 ?_
  obtain ⟨c2, hf⟩ := chk_some hf
  obtain ⟨f3, e4, hf⟩ := nmd_of hf
  refine V_iast (w2 := wX8 cy a (v.1, f3, v.2.2)) (pc := 27) F 1 rfl c2 e4 dX8_setClash_27 rfl ?_
  refine V_aload_n (pc := 28) F dX8_setClash_28 rfl 0 rfl ?_
  refine V_get (pc := 29) F 0 8 1 i_X8 rfl (by decide) rfl (mm 1 rfl) dX8_setClash_29 rfl rfl ?_
  refine V_bipush (v := 7) (pc := 32) F dX8_setClash_32 (by decide) ?_
  refine V_iload_n (pc := 34) F dX8_setClash_34 rfl 2 rfl ?_
  refine V_iadd (pc := 35) F dX8_setClash_35 ?_
  refine V_aload_n (pc := 36) F dX8_setClash_36 rfl 0 rfl ?_
  refine V_get (pc := 37) F 0 8 1 i_X8 rfl (by decide) rfl (mm 1 rfl) dX8_setClash_37 rfl rfl ?_
  refine V_bipush (v := 7) (pc := 40) F dX8_setClash_40 (by decide) ?_
  refine V_iload_n (pc := 42) F dX8_setClash_42 rfl 2 rfl ?_
  refine V_iadd (pc := 43) F dX8_setClash_43 ?_
  obtain ⟨c5, hf⟩ := chk_some hf
  refine V_iald (pc := 44) F 1 rfl c5 dX8_setClash_44 ?_
  refine V_iconst (v := 1) (pc := 45) F dX8_setClash_45 (by decide) ?_
  refine V_iload_n (pc := 46) F dX8_setClash_46 rfl 1 rfl ?_
  refine V_ishl (pc := 47) F dX8_setClash_47 ?_
  refine V_iconst (v := (-1)) (pc := 48) F dX8_setClash_48 (by decide) ?_
  refine V_ixor (pc := 49) F dX8_setClash_49 ?_
  refine V_iand (pc := 50) F dX8_setClash_50 ?_
  refine V_iload_n (pc := 51) F dX8_setClash_51 rfl 3 rfl ?_
  refine V_iload_n (pc := 52) F dX8_setClash_52 rfl 1 rfl ?_
  refine V_ishl (pc := 53) F dX8_setClash_53 ?_
  refine V_ior (pc := 54) F dX8_setClash_54 ?_
  obtain ⟨c6, hf⟩ := chk_some hf
  obtain ⟨f7, e8, hf⟩ := nmd_of hf
  refine V_iast (w2 := wX8 cy a (v.1, f7, v.2.2)) (pc := 55) F 1 rfl c6 e8 dX8_setClash_55 rfl ?_
  obtain rfl := some_of hf
  exact V_vret F rfl dX8_setClash_56 rfl
theorem hd_X8_doClash : yX8_doClash.cls = RX8 ∧ yX8_doClash.cls ≠ "java/lang/invoke/MethodHandle" ∧ yX8_doClash.cls ≠ "java/lang/invoke/VarHandle" ∧ (parseMethodDescriptor yX8_doClash.desc).map (fun d => d.parameters.length) = some 2 := by decide +kernel
def fX8_doClash (N : Nat) (v : SX8) (x1 : Int32) (x2 : Int32) : Option (Int32) :=
  chk ((7 : Int32) + x1) 143 (
    if (((v.2.1 ((7 : Int32) + x1).toNatClampNeg) >>> (x2 &&& 31)) &&& 1) = 1 then
      some 1
    else
      some 0
  )
set_option maxHeartbeats 8000000 in
set_option maxRecDepth 100000 in
theorem M_X8_doClash (l : Launch) (D : va_G) (cy : Nat → ClassId) (N : Nat) (a : Nat → Nat) (v : SX8) (x1 : Int32) (x2 : Int32) (o : Int32) (hf : fX8_doClash N v x1 x2 = some o) : okM l yX8_doClash wsX8_doClash (rmz 0 0) D cy [.ref (a 0), .int x1, .int x2] (wX8 cy a v) (wX8 cy a v) (some (.int o)) := by
  refine okM_of (own := RX8) (nme := "doClash") (cc := cX8_doClash) (maxL := 3) (ret := (some .boolean)) (by decide) rfl rfl rfl (Nat.le_of_ble_eq_true rfl) ?_
  intro p e s m args below meth c A F
  have i_X8 : ∀ w ∈ u_ws RX8 TX8 13, w ∈ wsX8_doClash := fun _ h => List.mem_cons_of_mem _ (List.mem_append_right _ h)
  unfold fX8_doClash at hf
  refine V.eq rfl (show lv_args 0 [.ref (a 0), .int x1, .int x2] = [(0, .ref (a 0)), (1, .int x1), (2, .int x2)] from rfl) rfl ?_
  refine V_aload_n (pc := 0) F dX8_doClash_0 rfl 0 rfl ?_
  refine V_get (pc := 1) F 0 8 1 i_X8 rfl (by decide) rfl (mm 1 rfl) dX8_doClash_1 rfl rfl ?_
  refine V_bipush (v := 7) (pc := 4) F dX8_doClash_4 (by decide) ?_
  refine V_iload_n (pc := 6) F dX8_doClash_6 rfl 1 rfl ?_
  refine V_iadd (pc := 7) F dX8_doClash_7 ?_
  obtain ⟨c1, hf⟩ := chk_some hf
  refine V_iald (pc := 8) F 1 rfl c1 dX8_doClash_8 ?_
  refine V_iload_n (pc := 9) F dX8_doClash_9 rfl 2 rfl ?_
  refine V_ishr (pc := 10) F dX8_doClash_10 ?_
  refine V_iconst (v := 1) (pc := 11) F dX8_doClash_11 (by decide) ?_
  refine V_iand (pc := 12) F dX8_doClash_12 ?_
  refine V_iconst (v := 1) (pc := 13) F dX8_doClash_13 (by decide) ?_
  refine V_icmp_ne (pc := 14) (tgt := 21) F dX8_doClash_14 (by decide) (fun h2 => ?_) (fun h2 => ?_)
  · replace hf := ite_neg hf h2
    refine V_iconst (v := 0) (pc := 21) F dX8_doClash_21 (by decide) ?_
    obtain rfl := some_of hf
    exact V_ret F rfl rfl dX8_doClash_22 rfl rfl
  · replace hf := ite_pos hf h2
    refine V_iconst (v := 1) (pc := 17) F dX8_doClash_17 (by decide) ?_
    refine V_goto (pc := 18) (tgt := 22) F dX8_doClash_18 (by decide) ?_
    obtain rfl := some_of hf
    exact V_ret F rfl rfl dX8_doClash_22 rfl rfl
theorem hd_X8_clash : yX8_clash.cls = RX8 ∧ yX8_clash.cls ≠ "java/lang/invoke/MethodHandle" ∧ yX8_clash.cls ≠ "java/lang/invoke/VarHandle" ∧ (parseMethodDescriptor yX8_clash.desc).map (fun d => d.parameters.length) = some 2 := by decide +kernel
def fX8_clash (N : Nat) (v : SX8) (x1 : Int32) (x2 : Int32) : Option (Int32 × SX8) :=
  (fX8_isDirection N x1).bind fun r1 =>
    if r1 = 0 then
      some (0, (1, v.2))
    else
      (fX8_isDirection N x2).bind fun r5 =>
        if r5 = 0 then
          some (0, (1, v.2))
        else
          if x1 = x2 then
            some (0, (1, v.2))
          else
            (fX8_save N (0, v.2)).bind fun r12 =>
              (fX8_doClash N r12 x1 x2).bind fun r14 =>
                if r14 = 0 then
                  (fX8_setClash N r12 x1 x2 1).bind fun r17 =>
                    some (1, r17)
                else
                  (fX8_setClash N r12 x1 x2 0).bind fun r19 =>
                    some (0, r19)
set_option maxHeartbeats 8000000 in
set_option maxRecDepth 100000 in
theorem M_X8_clash (l : Launch) (D : va_G) (cy : Nat → ClassId) (N : Nat) (a : Nat → Nat) (v : SX8) (x1 : Int32) (x2 : Int32) (o : Int32 × SX8) (hf : fX8_clash N v x1 x2 = some o) : okM l yX8_clash wsX8_clash (rmz 2 42) D cy [.ref (a 0), .int x1, .int x2] (wX8 cy a v) (wX8 cy a o.2) (some (.int o.1)) := by
  refine okM_of (own := RX8) (nme := "clash") (cc := cX8_clash) (maxL := 4) (ret := (some .int)) (by decide) rfl rfl rfl (Nat.le_of_ble_eq_true rfl) ?_
  intro p e s m args below meth c A F
  have i_X8 : ∀ w ∈ u_ws RX8 TX8 13, w ∈ wsX8_clash := fun _ h => List.mem_cons_of_mem _ (List.mem_append_right _ h)
  unfold fX8_clash at hf
  refine V.eq rfl (show lv_args 0 [.ref (a 0), .int x1, .int x2] = [(0, .ref (a 0)), (1, .int x1), (2, .int x2)] from rfl) rfl ?_
  refine V_aload_n (pc := 0) F dX8_clash_0 rfl 0 rfl ?_
  refine V_iload_n (pc := 1) F dX8_clash_1 rfl 1 rfl ?_
  obtain ⟨r1, g2, hf⟩ := bind_of hf
  refine V_Sc (rest := [.ref (a 0)]) (st2 := [.int r1, .ref (a 0)]) (pc := 2) F (M_X8_isDirection l D cy N x1 r1 g2) (va_cwS 1 F.ts gX8_clash_X8_isDirection rfl rfl rfl hd_X8_isDirection ⟨Nat.le_of_ble_eq_true rfl, Nat.le_of_ble_eq_true rfl⟩) rfl dX8_clash_2 (Nat.le_of_ble_eq_true rfl) (Nat.zero_le _) (Nat.zero_le _) rfl rfl ?_
  refine V_if_eq (pc := 5) (tgt := 24) F dX8_clash_5 (by decide) (fun h3 => ?_) (fun h3 => ?_)
  · replace hf := ite_pos hf h3
    refine V_iconst (v := 1) (pc := 24) F dX8_clash_24 (by decide) ?_
    refine V_put (w2 := wX8 cy a (1, v.2)) (pc := 25) F 0 8 0 i_X8 tyX8 tyX8_ok nmX8 rfl (by decide) rfl (mm 1 rfl) rfl dX8_clash_25 rfl rfl rfl (Nat.le_of_ble_eq_true rfl) rfl ?_
    refine V_aload_n (pc := 28) F dX8_clash_28 rfl 0 rfl ?_
    refine V_get (pc := 29) F 0 8 0 i_X8 rfl (by decide) rfl (mm 1 rfl) dX8_clash_29 rfl rfl ?_
    refine V_if_le (pc := 32) (tgt := 37) F dX8_clash_32 (by decide) (fun h4 => ?_) (fun h4 => ?_)
    · exact absurd h4 (show ¬ ((1 : Int32) ≤ (0 : Int32)) by decide)
    · refine V_iconst (v := 0) (pc := 35) F dX8_clash_35 (by decide) ?_
      obtain rfl := some_of hf
      exact V_ret F rfl rfl dX8_clash_36 rfl rfl
  · replace hf := ite_neg hf h3
    refine V_iload_n (pc := 8) F dX8_clash_8 rfl 2 rfl ?_
    obtain ⟨r5, g6, hf⟩ := bind_of hf
    refine V_Sc (rest := [.ref (a 0)]) (st2 := [.int r5, .ref (a 0)]) (pc := 9) F (M_X8_isDirection l D cy N x2 r5 g6) (va_cwS 1 F.ts gX8_clash_X8_isDirection rfl rfl rfl hd_X8_isDirection ⟨Nat.le_of_ble_eq_true rfl, Nat.le_of_ble_eq_true rfl⟩) rfl dX8_clash_9 (Nat.le_of_ble_eq_true rfl) (Nat.zero_le _) (Nat.zero_le _) rfl rfl ?_
    refine V_if_eq (pc := 12) (tgt := 24) F dX8_clash_12 (by decide) (fun h7 => ?_) (fun h7 => ?_)
    · replace hf := ite_pos hf h7
      refine V_iconst (v := 1) (pc := 24) F dX8_clash_24 (by decide) ?_
      refine V_put (w2 := wX8 cy a (1, v.2)) (pc := 25) F 0 8 0 i_X8 tyX8 tyX8_ok nmX8 rfl (by decide) rfl (mm 1 rfl) rfl dX8_clash_25 rfl rfl rfl (Nat.le_of_ble_eq_true rfl) rfl ?_
      refine V_aload_n (pc := 28) F dX8_clash_28 rfl 0 rfl ?_
      refine V_get (pc := 29) F 0 8 0 i_X8 rfl (by decide) rfl (mm 1 rfl) dX8_clash_29 rfl rfl ?_
      refine V_if_le (pc := 32) (tgt := 37) F dX8_clash_32 (by decide) (fun h8 => ?_) (fun h8 => ?_)
      · exact absurd h8 (show ¬ ((1 : Int32) ≤ (0 : Int32)) by decide)
      · refine V_iconst (v := 0) (pc := 35) F dX8_clash_35 (by decide) ?_
        obtain rfl := some_of hf
        exact V_ret F rfl rfl dX8_clash_36 rfl rfl
    · replace hf := ite_neg hf h7
      refine V_iload_n (pc := 15) F dX8_clash_15 rfl 1 rfl ?_
      refine V_iload_n (pc := 16) F dX8_clash_16 rfl 2 rfl ?_
      refine V_icmp_eq (pc := 17) (tgt := 24) F dX8_clash_17 (by decide) (fun h9 => ?_) (fun h9 => ?_)
      · replace hf := ite_pos hf h9
        refine V_iconst (v := 1) (pc := 24) F dX8_clash_24 (by decide) ?_
        refine V_put (w2 := wX8 cy a (1, v.2)) (pc := 25) F 0 8 0 i_X8 tyX8 tyX8_ok nmX8 rfl (by decide) rfl (mm 1 rfl) rfl dX8_clash_25 rfl rfl rfl (Nat.le_of_ble_eq_true rfl) rfl ?_
        refine V_aload_n (pc := 28) F dX8_clash_28 rfl 0 rfl ?_
        refine V_get (pc := 29) F 0 8 0 i_X8 rfl (by decide) rfl (mm 1 rfl) dX8_clash_29 rfl rfl ?_
        refine V_if_le (pc := 32) (tgt := 37) F dX8_clash_32 (by decide) (fun h10 => ?_) (fun h10 => ?_)
        · exact absurd h10 (show ¬ ((1 : Int32) ≤ (0 : Int32)) by decide)
        · refine V_iconst (v := 0) (pc := 35) F dX8_clash_35 (by decide) ?_
          obtain rfl := some_of hf
          exact V_ret F rfl rfl dX8_clash_36 rfl rfl
      · replace hf := ite_neg hf h9
        refine V_iconst (v := 0) (pc := 20) F dX8_clash_20 (by decide) ?_
        refine V_goto (pc := 21) (tgt := 25) F dX8_clash_21 (by decide) ?_
        refine V_put (w2 := wX8 cy a (0, v.2)) (pc := 25) F 0 8 0 i_X8 tyX8 tyX8_ok nmX8 rfl (by decide) rfl (mm 1 rfl) rfl dX8_clash_25 rfl rfl rfl (Nat.le_of_ble_eq_true rfl) rfl ?_
        refine V_aload_n (pc := 28) F dX8_clash_28 rfl 0 rfl ?_
        refine V_get (pc := 29) F 0 8 0 i_X8 rfl (by decide) rfl (mm 1 rfl) dX8_clash_29 rfl rfl ?_
        refine V_if_le (pc := 32) (tgt := 37) F dX8_clash_32 (by decide) (fun h11 => ?_) (fun h11 => ?_)
        · refine V_aload_n (pc := 37) F dX8_clash_37 rfl 0 rfl ?_
          obtain ⟨r12, g13, hf⟩ := bind_of hf
          refine V_V (w2 := wX8 cy a r12) (rest := []) (st2 := []) (pc := 38) F 8 (M_X8_save l D cy N a (0, v.2) r12 g13) (cwV 0 F.ts gX8_clash_X8_save rfl rfl rfl hd_X8_save ⟨Nat.le_of_ble_eq_true rfl, Nat.le_of_ble_eq_true rfl⟩) rfl dX8_clash_38 Fit.whole fstX8 rfl rfl (Nat.le_of_ble_eq_true rfl) (Nat.zero_le _) (Nat.zero_le _) rfl rfl rfl ?_
          refine V_aload_n (pc := 41) F dX8_clash_41 rfl 0 rfl ?_
          refine V_iload_n (pc := 42) F dX8_clash_42 rfl 1 rfl ?_
          refine V_iload_n (pc := 43) F dX8_clash_43 rfl 2 rfl ?_
          obtain ⟨r14, g15, hf⟩ := bind_of hf
          refine V_V (w2 := wX8 cy a r12) (rest := []) (st2 := [.int r14]) (pc := 44) F 8 (M_X8_doClash l D cy N a r12 x1 x2 r14 g15) (cwV 2 F.ts gX8_clash_X8_doClash rfl rfl rfl hd_X8_doClash ⟨Nat.le_of_ble_eq_true rfl, Nat.le_of_ble_eq_true rfl⟩) rfl dX8_clash_44 Fit.whole rfl rfl rfl (Nat.le_of_ble_eq_true rfl) (Nat.zero_le _) (Nat.zero_le _) rfl rfl rfl ?_
          refine V_if_eq (pc := 47) (tgt := 54) F dX8_clash_47 (by decide) (fun h16 => ?_) (fun h16 => ?_)
          · replace hf := ite_pos hf h16
            refine V_iconst (v := 1) (pc := 54) F dX8_clash_54 (by decide) ?_
            refine V_istore_n (L2 := [(3, .int 1), (0, .ref (a 0)), (1, .int x1), (2, .int x2)]) (pc := 55) F dX8_clash_55 rfl (by decide) rfl ?_
            refine V_aload_n (pc := 56) F dX8_clash_56 rfl 1 rfl ?_
            refine V_iload_n (pc := 57) F dX8_clash_57 rfl 2 rfl ?_
            refine V_iload_n (pc := 58) F dX8_clash_58 rfl 3 rfl ?_
            refine V_iload_n (pc := 59) F dX8_clash_59 rfl 0 rfl ?_
            obtain ⟨r17, g18, hf⟩ := bind_of hf
            refine V_V (w2 := wX8 cy a r17) (rest := []) (st2 := []) (pc := 60) F 8 (M_X8_setClash l D cy N a r12 x1 x2 1 r17 g18) (cwV 3 F.ts gX8_clash_X8_setClash rfl rfl rfl hd_X8_setClash ⟨Nat.le_of_ble_eq_true rfl, Nat.le_of_ble_eq_true rfl⟩) rfl dX8_clash_60 Fit.whole fstX8 rfl rfl (Nat.le_of_ble_eq_true rfl) (Nat.zero_le _) (Nat.zero_le _) rfl rfl rfl ?_
            refine V_iload_n (pc := 63) F dX8_clash_63 rfl 0 rfl ?_
            obtain rfl := some_of hf
            exact V_ret F rfl rfl dX8_clash_64 rfl rfl
          · replace hf := ite_neg hf h16
            refine V_iconst (v := 0) (pc := 50) F dX8_clash_50 (by decide) ?_
            refine V_goto (pc := 51) (tgt := 55) F dX8_clash_51 (by decide) ?_
            refine V_istore_n (L2 := [(3, .int 0), (0, .ref (a 0)), (1, .int x1), (2, .int x2)]) (pc := 55) F dX8_clash_55 rfl (by decide) rfl ?_
            refine V_aload_n (pc := 56) F dX8_clash_56 rfl 1 rfl ?_
            refine V_iload_n (pc := 57) F dX8_clash_57 rfl 2 rfl ?_
            refine V_iload_n (pc := 58) F dX8_clash_58 rfl 3 rfl ?_
            refine V_iload_n (pc := 59) F dX8_clash_59 rfl 0 rfl ?_
            obtain ⟨r19, g20, hf⟩ := bind_of hf
            refine V_V (w2 := wX8 cy a r19) (rest := []) (st2 := []) (pc := 60) F 8 (M_X8_setClash l D cy N a r12 x1 x2 0 r19 g20) (cwV 3 F.ts gX8_clash_X8_setClash rfl rfl rfl hd_X8_setClash ⟨Nat.le_of_ble_eq_true rfl, Nat.le_of_ble_eq_true rfl⟩) rfl dX8_clash_60 Fit.whole fstX8 rfl rfl (Nat.le_of_ble_eq_true rfl) (Nat.zero_le _) (Nat.zero_le _) rfl rfl rfl ?_
            refine V_iload_n (pc := 63) F dX8_clash_63 rfl 0 rfl ?_
            obtain rfl := some_of hf
            exact V_ret F rfl rfl dX8_clash_64 rfl rfl
        · exact absurd h11 (show ¬ (¬ ((0 : Int32) ≤ (0 : Int32))) by decide)
