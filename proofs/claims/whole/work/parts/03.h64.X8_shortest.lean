theorem hd_X8_shortest : yX8_shortest.cls = RX8 ∧ yX8_shortest.cls ≠ "java/lang/invoke/MethodHandle" ∧ yX8_shortest.cls ≠ "java/lang/invoke/VarHandle" ∧ (parseMethodDescriptor yX8_shortest.desc).map (fun d => d.parameters.length) = some 2 := by decide +kernel
def fX8_shortest (N : Nat) (v : SX8) (x1 : Int32) (x2 : Int32) : Option (Int32 × SX8) :=
  (fX8_layShortest N v x1).bind fun r1 =>
    chk x2 8 (
      if (r1.2.2.2.2.2.2.2.2.2.2.1 x2.toNatClampNeg) < 9999 then
        chk x2 8 (
          some ((r1.2.2.2.2.2.2.2.2.2.2.1 x2.toNatClampNeg), r1)
        )
      else
        some ((-1), r1)
    )
set_option maxHeartbeats 8000000 in
set_option maxRecDepth 100000 in
theorem M_X8_shortest (l : Launch) (D : va_G) (cy : Nat → ClassId) (N : Nat) (a : Nat → Nat) (v : SX8) (x1 : Int32) (x2 : Int32) (o : Int32 × SX8) (hf : fX8_shortest N v x1 x2 = some o) : okM l yX8_shortest wsX8_shortest (rmz 5 118) D cy [.ref (a 0), .int x1, .int x2] (wX8 cy a v) (wX8 cy a o.2) (some (.int o.1)) := by
  refine okM_of (own := RX8) (nme := "shortest") (cc := cX8_shortest) (maxL := 3) (ret := (some .int)) (by decide) rfl rfl rfl (Nat.le_of_ble_eq_true rfl) ?_
  intro p e s m args below meth c A F
  have i_X8 : ∀ w ∈ u_ws RX8 TX8 13, w ∈ wsX8_shortest := fun _ h => List.mem_cons_of_mem _ (List.mem_append_right _ h)
  unfold fX8_shortest at hf
  refine V.eq rfl (show lv_args 0 [.ref (a 0), .int x1, .int x2] = [(0, .ref (a 0)), (1, .int x1), (2, .int x2)] from rfl) rfl ?_
  refine V_aload_n (pc := 0) F dX8_shortest_0 rfl 0 rfl ?_
  refine V_iload_n (pc := 1) F dX8_shortest_1 rfl 1 rfl ?_
  obtain ⟨r1, g2, hf⟩ := bind_of hf
  refine V_V (w2 := wX8 cy a r1) (rest := []) (st2 := []) (pc := 2) F 8 (M_X8_layShortest l D cy N a v x1 r1 g2) (cwV 1 F.ts gX8_shortest_X8_layShortest rfl rfl rfl hd_X8_layShortest ⟨Nat.le_of_ble_eq_true rfl, Nat.le_of_ble_eq_true rfl⟩) rfl dX8_shortest_2 Fit.whole fstX8 rfl rfl (Nat.le_of_ble_eq_true rfl) (Nat.zero_le _) (Nat.zero_le _) rfl rfl rfl ?_
  refine V_aload_n (pc := 5) F dX8_shortest_5 rfl 0 rfl ?_
  refine V_get (pc := 6) F 0 8 10 i_X8 rfl (by decide) rfl (mm 1 rfl) dX8_shortest_6 rfl rfl ?_
  refine V_iload_n (pc := 9) F dX8_shortest_9 rfl 2 rfl ?_
  obtain ⟨c3, hf⟩ := chk_some hf
  refine V_iald (pc := 10) F 5 rfl c3 dX8_shortest_10 ?_
  refine V_sipush (v := 9999) (pc := 11) F dX8_shortest_11 (by decide) ?_
  refine V_icmp_lt (pc := 14) (tgt := 21) F dX8_shortest_14 (by decide) (fun h4 => ?_) (fun h4 => ?_)
  · replace hf := ite_pos hf h4
    refine V_aload_n (pc := 21) F dX8_shortest_21 rfl 0 rfl ?_
    refine V_get (pc := 22) F 0 8 10 i_X8 rfl (by decide) rfl (mm 1 rfl) dX8_shortest_22 rfl rfl ?_
    refine V_iload_n (pc := 25) F dX8_shortest_25 rfl 2 rfl ?_
    obtain ⟨c5, hf⟩ := chk_some hf
    refine V_iald (pc := 26) F 5 rfl c5 dX8_shortest_26 ?_
    obtain rfl := some_of hf
    exact V_ret F rfl rfl dX8_shortest_27 rfl rfl
  · replace hf := ite_neg hf h4
    refine V_iconst (v := (-1)) (pc := 17) F dX8_shortest_17 (by decide) ?_
    refine V_goto (pc := 18) (tgt := 27) F dX8_shortest_18 (by decide) ?_
    obtain rfl := some_of hf
    exact V_ret F rfl rfl dX8_shortest_27 rfl rfl
