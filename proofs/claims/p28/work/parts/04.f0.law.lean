theorem hd_L_cell : yL_cell.cls ≠ "java/lang/invoke/MethodHandle" ∧ yL_cell.cls ≠ "java/lang/invoke/VarHandle" ∧ (parseMethodDescriptor yL_cell.desc).map (fun d => d.parameters.length) = some 2 := by decide +kernel
def fL_cell (N : Nat) (sn : Nat) (sx : Nat → Int32) (x1 : Int32) : Option (Int32) :=
  if (nI sn) ≤ x1 then
    some (((32452867 : Int32) * x1) + (15485863))
  else
    chk x1 sn (
      some (sx x1.toNatClampNeg)
    )
set_option maxHeartbeats 8000000 in
set_option maxRecDepth 100000 in
theorem M_L_cell (l : Launch) (D : va_G) (cy : Nat → ClassId) (N : Nat) (sb : Nat) (sn : Nat) (sx : Nat → Int32) (x1 : Int32) (o : Int32) (hf : fL_cell N sn sx x1 = some o) : okS l yL_cell wsL_cell (rmz 0 0) D cy sb sn sx [.ref sb, .int x1] ([] : va_W) ([] : va_W) (some (.int o)) := by
  refine okS_of (own := RL) (nme := "cell") (cc := cL_cell) (maxL := 2) (ret := (some .int)) (by decide) rfl rfl rfl (Nat.le_of_ble_eq_true rfl) ?_
  intro p e s m args below meth c A F G
  unfold fL_cell at hf
  refine V.eq rfl (show lv_args 0 [.ref sb, .int x1] = [(0, .ref sb), (1, .int x1)] from rfl) rfl ?_
  refine V_iload_n (pc := 0) F dL_cell_0 rfl 1 rfl ?_
  refine V_aload_n (pc := 1) F dL_cell_1 rfl 0 rfl ?_
  refine V_slen (pc := 2) F G dL_cell_2 ?_
  refine V_icmp_ge (pc := 3) (tgt := 12) F dL_cell_3 (by decide) (fun h1 => ?_) (fun h1 => ?_)
  · replace hf := ite_pos hf h1
    refine V_ldc (v := (32452867)) (pc := 12) F dL_cell_12 (mm 1 rfl) ?_
    refine V_iload_n (pc := 14) F dL_cell_14 rfl 1 rfl ?_
    refine V_imul (pc := 15) F dL_cell_15 ?_
    refine V_ldc (v := (15485863)) (pc := 16) F dL_cell_16 (mm 2 rfl) ?_
    refine V_iadd (pc := 18) F dL_cell_18 ?_
    obtain rfl := some_of hf
    exact V_ret F rfl rfl dL_cell_19 rfl rfl
  · replace hf := ite_neg hf h1
    refine V_aload_n (pc := 6) F dL_cell_6 rfl 0 rfl ?_
    refine V_iload_n (pc := 7) F dL_cell_7 rfl 1 rfl ?_
    obtain ⟨c2, hf⟩ := chk_some hf
    refine V_sld (pc := 8) F G c2 dL_cell_8 ?_
    refine V_goto (pc := 9) (tgt := 19) F dL_cell_9 (by decide) ?_
    obtain rfl := some_of hf
    exact V_ret F rfl rfl dL_cell_19 rfl rfl
theorem hd_L_low : yL_low.cls ≠ "java/lang/invoke/MethodHandle" ∧ yL_low.cls ≠ "java/lang/invoke/VarHandle" ∧ (parseMethodDescriptor yL_low.desc).map (fun d => d.parameters.length) = some 2 := by decide +kernel
def fL_low (N : Nat) (x0 : Int32) (x1 : Int32) : Option (Int32) :=
  must (decide (¬ x1 = 0)) (
    some ((x0 &&& (2147483647)) - (x0 &&& (2147483647)) / x1 * x1)
  )
set_option maxHeartbeats 8000000 in
set_option maxRecDepth 100000 in
theorem M_L_low (l : Launch) (D : va_G) (cy : Nat → ClassId) (N : Nat) (x0 : Int32) (x1 : Int32) (o : Int32) (hf : fL_low N x0 x1 = some o) : okM l yL_low wsL_low (rmz 0 0) D cy [.int x0, .int x1] ([] : va_W) ([] : va_W) (some (.int o)) := by
  refine okM_of (own := RL) (nme := "low") (cc := cL_low) (maxL := 2) (ret := (some .int)) (by decide) rfl rfl rfl (Nat.le_of_ble_eq_true rfl) ?_
  intro p e s m args below meth c A F
  unfold fL_low at hf
  refine V.eq rfl (show lv_args 0 [.int x0, .int x1] = [(0, .int x0), (1, .int x1)] from rfl) rfl ?_
  refine V_iload_n (pc := 0) F dL_low_0 rfl 0 rfl ?_
  refine V_ldc (v := (2147483647)) (pc := 1) F dL_low_1 (mm 1 rfl) ?_
  refine V_iand (pc := 3) F dL_low_3 ?_
  refine V_iload_n (pc := 4) F dL_low_4 rfl 1 rfl ?_
  obtain ⟨c1, hf⟩ := must_some hf
  refine V_irem (pc := 5) F dL_low_5 (of_decide_eq_true c1) ?_
  obtain rfl := some_of hf
  exact V_ret F rfl rfl dL_low_6 rfl rfl
theorem hd_L_greens : yL_greens.cls ≠ "java/lang/invoke/MethodHandle" ∧ yL_greens.cls ≠ "java/lang/invoke/VarHandle" ∧ (parseMethodDescriptor yL_greens.desc).map (fun d => d.parameters.length) = some 2 := by decide +kernel
def fL_greens (N : Nat) (v : SX7) (v1 : SQ5) : Option (Int32 × SX7) :=
  chk 2 5 (
    if (v1 (2 : Int32).toNatClampNeg) ≤ 0 then
      chk 0 5 (
        (rt (fX7_phase N v (v1 (0 : Int32).toNatClampNeg) 0)).bind fun r4 =>
          some (r4.1, r4.2)
      )
    else
      chk 0 5 (
        (rt (fX7_phase N v (v1 (0 : Int32).toNatClampNeg) 0)).bind fun r7 =>
          chk 3 5 (
            (rt (fX7_phase N r7.2 (v1 (3 : Int32).toNatClampNeg) 0)).bind fun r10 =>
              some ((r7.1 &&& r10.1), r10.2)
          )
      )
  )
set_option maxHeartbeats 8000000 in
set_option maxRecDepth 100000 in
theorem M_L_greens (l : Launch) (D : va_G) (cy : Nat → ClassId) (N : Nat) (a : Nat → Nat) (a1 : Nat → Nat) (v : SX7) (v1 : SQ5) (o : Int32 × SX7) (hf : fL_greens N v v1 = some o) : okM l yL_greens wsL_greens (rmz 5 118) D cy [.ref (a 0), .ref (a1 0)] (wQ5 cy a1 v1 ++ (wX7 cy a v)) (wQ5 cy a1 v1 ++ (wX7 cy a o.2)) (some (.int o.1)) := by
  refine okM_of (own := RL) (nme := "greens") (cc := cL_greens) (maxL := 2) (ret := (some .int)) (by decide) rfl rfl rfl (Nat.le_of_ble_eq_true rfl) ?_
  intro p e s m args below meth c A F
  unfold fL_greens at hf
  refine V.eq rfl (show lv_args 0 [.ref (a 0), .ref (a1 0)] = [(0, .ref (a 0)), (1, .ref (a1 0))] from rfl) rfl ?_
  refine V_aload_n (pc := 0) F dL_greens_0 rfl 1 rfl ?_
  refine V_iconst (v := 2) (pc := 1) F dL_greens_1 (by decide) ?_
  obtain ⟨c1, hf⟩ := chk_some hf
  refine V_iald (pc := 2) F 0 rfl c1 dL_greens_2 ?_
  refine V_if_le (pc := 3) (tgt := 26) F dL_greens_3 (by decide) (fun h2 => ?_) (fun h2 => ?_)
  · replace hf := ite_pos hf h2
    refine V_aload_n (pc := 26) F dL_greens_26 rfl 0 rfl ?_
    refine V_aload_n (pc := 27) F dL_greens_27 rfl 1 rfl ?_
    refine V_iconst (v := 0) (pc := 28) F dL_greens_28 (by decide) ?_
    obtain ⟨c3, hf⟩ := chk_some hf
    refine V_iald (pc := 29) F 0 rfl c3 dL_greens_29 ?_
    refine V_iconst (v := 0) (pc := 30) F dL_greens_30 (by decide) ?_
    obtain ⟨r4, g5, hf⟩ := bind_of hf
    refine V_V (w2 := wQ5 cy a1 v1 ++ (wX7 cy a r4.2)) (rest := []) (st2 := [.int r4.1]) (pc := 31) F 7 (M_X7_phase l D cy N a v (v1 (0 : Int32).toNatClampNeg) 0 r4 (rt_of g5)) (cwV 2 F.ts gL_greens_X7_phase rfl rfl rfl hd_X7_phase ⟨Nat.le_of_ble_eq_true rfl, Nat.le_of_ble_eq_true rfl⟩) rfl dL_greens_31 (Fit.right Fit.whole) fstX7 rfl rfl (Nat.le_of_ble_eq_true rfl) (Nat.zero_le _) (Nat.zero_le _) rfl rfl rfl ?_
    obtain rfl := some_of hf
    exact V_ret F rfl rfl dL_greens_34 rfl rfl
  · replace hf := ite_neg hf h2
    refine V_aload_n (pc := 6) F dL_greens_6 rfl 0 rfl ?_
    refine V_aload_n (pc := 7) F dL_greens_7 rfl 1 rfl ?_
    refine V_iconst (v := 0) (pc := 8) F dL_greens_8 (by decide) ?_
    obtain ⟨c6, hf⟩ := chk_some hf
    refine V_iald (pc := 9) F 0 rfl c6 dL_greens_9 ?_
    refine V_iconst (v := 0) (pc := 10) F dL_greens_10 (by decide) ?_
    obtain ⟨r7, g8, hf⟩ := bind_of hf
    refine V_V (w2 := wQ5 cy a1 v1 ++ (wX7 cy a r7.2)) (rest := []) (st2 := [.int r7.1]) (pc := 11) F 7 (M_X7_phase l D cy N a v (v1 (0 : Int32).toNatClampNeg) 0 r7 (rt_of g8)) (cwV 2 F.ts gL_greens_X7_phase rfl rfl rfl hd_X7_phase ⟨Nat.le_of_ble_eq_true rfl, Nat.le_of_ble_eq_true rfl⟩) rfl dL_greens_11 (Fit.right Fit.whole) fstX7 rfl rfl (Nat.le_of_ble_eq_true rfl) (Nat.zero_le _) (Nat.zero_le _) rfl rfl rfl ?_
    refine V_aload_n (pc := 14) F dL_greens_14 rfl 0 rfl ?_
    refine V_aload_n (pc := 15) F dL_greens_15 rfl 1 rfl ?_
    refine V_iconst (v := 3) (pc := 16) F dL_greens_16 (by decide) ?_
    obtain ⟨c9, hf⟩ := chk_some hf
    refine V_iald (pc := 17) F 0 rfl c9 dL_greens_17 ?_
    refine V_iconst (v := 0) (pc := 18) F dL_greens_18 (by decide) ?_
    obtain ⟨r10, g11, hf⟩ := bind_of hf
    refine V_V (w2 := wQ5 cy a1 v1 ++ (wX7 cy a r10.2)) (rest := [.int r7.1]) (st2 := [.int r10.1, .int r7.1]) (pc := 19) F 7 (M_X7_phase l D cy N a r7.2 (v1 (3 : Int32).toNatClampNeg) 0 r10 (rt_of g11)) (cwV 2 F.ts gL_greens_X7_phase rfl rfl rfl hd_X7_phase ⟨Nat.le_of_ble_eq_true rfl, Nat.le_of_ble_eq_true rfl⟩) rfl dL_greens_19 (Fit.right Fit.whole) fstX7 rfl rfl (Nat.le_of_ble_eq_true rfl) (Nat.zero_le _) (Nat.zero_le _) rfl rfl rfl ?_
    refine V_iand (pc := 22) F dL_greens_22 ?_
    refine V_goto (pc := 23) (tgt := 34) F dL_greens_23 (by decide) ?_
    obtain rfl := some_of hf
    exact V_ret F rfl rfl dL_greens_34 rfl rfl
