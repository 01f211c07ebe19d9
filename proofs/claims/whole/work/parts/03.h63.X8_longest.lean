theorem hd_X8_longest : yX8_longest.cls = RX8 ∧ yX8_longest.cls ≠ "java/lang/invoke/MethodHandle" ∧ yX8_longest.cls ≠ "java/lang/invoke/VarHandle" ∧ (parseMethodDescriptor yX8_longest.desc).map (fun d => d.parameters.length) = some 2 := by decide +kernel
def fX8_longest (N : Nat) (v : SX8) (x1 : Int32) (x2 : Int32) : Option (Int32 × SX8) :=
  (fX8_canStarve N v x2 x1).bind fun r1 =>
    if r1 = 0 then
      (fX8_layLongest N v x1).bind fun r4 =>
        chk x2 8 (
          some ((r4.2.2.2.2.2.2.2.2.2.2.1 x2.toNatClampNeg), r4)
        )
    else
      some ((-1), v)
set_option maxHeartbeats 8000000 in
set_option maxRecDepth 100000 in
theorem M_X8_longest (l : Launch) (D : va_G) (cy : Nat → ClassId) (N : Nat) (a : Nat → Nat) (v : SX8) (x1 : Int32) (x2 : Int32) (o : Int32 × SX8) (hf : fX8_longest N v x1 x2 = some o) : okM l yX8_longest wsX8_longest (rmz 8 193) D cy [.ref (a 0), .int x1, .int x2] (wX8 cy a v) (wX8 cy a o.2) (some (.int o.1)) := by
  refine okM_of (own := RX8) (nme := "longest") (cc := cX8_longest) (maxL := 3) (ret := (some .int)) (by decide) rfl rfl rfl (Nat.le_of_ble_eq_true rfl) ?_
  intro p e s m args below meth c A F
  have i_X8 : ∀ w ∈ u_ws RX8 TX8 13, w ∈ wsX8_longest := fun _ h => List.mem_cons_of_mem _ (List.mem_append_right _ h)
  unfold fX8_longest at hf
  refine V.eq rfl (show lv_args 0 [.ref (a 0), .int x1, .int x2] = [(0, .ref (a 0)), (1, .int x1), (2, .int x2)] from rfl) rfl ?_
  refine V_aload_n (pc := 0) F dX8_longest_0 rfl 0 rfl ?_
  refine V_iload_n (pc := 1) F dX8_longest_1 rfl 2 rfl ?_
  refine V_iload_n (pc := 2) F dX8_longest_2 rfl 1 rfl ?_
  obtain ⟨r1, g2, hf⟩ := bind_of hf
  refine V_V (w2 := wX8 cy a v) (rest := []) (st2 := [.int r1]) (pc := 3) F 8 (M_X8_canStarve l D cy N a v x2 x1 r1 g2) (cwV 2 F.ts gX8_longest_X8_canStarve rfl rfl rfl hd_X8_canStarve ⟨Nat.le_of_ble_eq_true rfl, Nat.le_of_ble_eq_true rfl⟩) rfl dX8_longest_3 Fit.whole rfl rfl rfl (Nat.le_of_ble_eq_true rfl) (Nat.zero_le _) (Nat.zero_le _) rfl rfl rfl ?_
  refine V_if_eq (pc := 6) (tgt := 11) F dX8_longest_6 (by decide) (fun h3 => ?_) (fun h3 => ?_)
  · replace hf := ite_pos hf h3
    refine V_aload_n (pc := 11) F dX8_longest_11 rfl 0 rfl ?_
    refine V_iload_n (pc := 12) F dX8_longest_12 rfl 1 rfl ?_
    obtain ⟨r4, g5, hf⟩ := bind_of hf
    refine V_V (w2 := wX8 cy a r4) (rest := []) (st2 := []) (pc := 13) F 8 (M_X8_layLongest l D cy N a v x1 r4 g5) (cwV 1 F.ts gX8_longest_X8_layLongest rfl rfl rfl hd_X8_layLongest ⟨Nat.le_of_ble_eq_true rfl, Nat.le_of_ble_eq_true rfl⟩) rfl dX8_longest_13 Fit.whole fstX8 rfl rfl (Nat.le_of_ble_eq_true rfl) (Nat.zero_le _) (Nat.zero_le _) rfl rfl rfl ?_
    refine V_aload_n (pc := 16) F dX8_longest_16 rfl 0 rfl ?_
    refine V_get (pc := 17) F 0 8 10 i_X8 rfl (by decide) rfl (mm 1 rfl) dX8_longest_17 rfl rfl ?_
    refine V_iload_n (pc := 20) F dX8_longest_20 rfl 2 rfl ?_
    obtain ⟨c6, hf⟩ := chk_some hf
    refine V_iald (pc := 21) F 5 rfl c6 dX8_longest_21 ?_
    obtain rfl := some_of hf
    exact V_ret F rfl rfl dX8_longest_22 rfl rfl
  · replace hf := ite_neg hf h3
    refine V_iconst (v := (-1)) (pc := 9) F dX8_longest_9 (by decide) ?_
    obtain rfl := some_of hf
    exact V_ret F rfl rfl dX8_longest_10 rfl rfl
