theorem hd_X8_wayBy : yX8_wayBy.cls = RX8 ∧ yX8_wayBy.cls ≠ "java/lang/invoke/MethodHandle" ∧ yX8_wayBy.cls ≠ "java/lang/invoke/VarHandle" ∧ (parseMethodDescriptor yX8_wayBy.desc).map (fun d => d.parameters.length) = some 2 := by decide +kernel
def fX8_wayBy (N : Nat) (v : SX8) (x1 : Int32) (x2 : Int32) : Option (Int32) :=
  (fX8_of N v x1 1).bind fun r1 =>
    (fX8_goal N v x1 x2).bind fun r3 =>
      (fX8_clearingTo N v x1 r3).bind fun r5 =>
        (fX8_goal N v x1 x2).bind fun r7 =>
          chk r7 8 (
            some ((r1 + r5) + (v.2.2.2.2.2.2.2.2.2.2.1 r7.toNatClampNeg))
          )
set_option maxHeartbeats 8000000 in
set_option maxRecDepth 100000 in
theorem M_X8_wayBy (l : Launch) (D : va_G) (cy : Nat → ClassId) (N : Nat) (a : Nat → Nat) (v : SX8) (x1 : Int32) (x2 : Int32) (o : Int32) (hf : fX8_wayBy N v x1 x2 = some o) : okM l yX8_wayBy wsX8_wayBy (rmz 3 65) D cy [.ref (a 0), .int x1, .int x2] (wX8 cy a v) (wX8 cy a v) (some (.int o)) := by
  refine okM_of (own := RX8) (nme := "wayBy") (cc := cX8_wayBy) (maxL := 3) (ret := (some .int)) (by decide) rfl rfl rfl (Nat.le_of_ble_eq_true rfl) ?_
  intro p e s m args below meth c A F
  have i_X8 : ∀ w ∈ u_ws RX8 TX8 13, w ∈ wsX8_wayBy := fun _ h => List.mem_cons_of_mem _ (List.mem_append_right _ h)
  unfold fX8_wayBy at hf
  refine V.eq rfl (show lv_args 0 [.ref (a 0), .int x1, .int x2] = [(0, .ref (a 0)), (1, .int x1), (2, .int x2)] from rfl) rfl ?_
  refine V_aload_n (pc := 0) F dX8_wayBy_0 rfl 0 rfl ?_
  refine V_iload_n (pc := 1) F dX8_wayBy_1 rfl 1 rfl ?_
  refine V_iconst (v := 1) (pc := 2) F dX8_wayBy_2 (by decide) ?_
  obtain ⟨r1, g2, hf⟩ := bind_of hf
  refine V_V (w2 := wX8 cy a v) (rest := []) (st2 := [.int r1]) (pc := 3) F 8 (M_X8_of l D cy N a v x1 1 r1 g2) (cwV 2 F.ts gX8_wayBy_X8_of rfl rfl rfl hd_X8_of ⟨Nat.le_of_ble_eq_true rfl, Nat.le_of_ble_eq_true rfl⟩) rfl dX8_wayBy_3 Fit.whole rfl rfl rfl (Nat.le_of_ble_eq_true rfl) (Nat.zero_le _) (Nat.zero_le _) rfl rfl rfl ?_
  refine V_aload_n (pc := 6) F dX8_wayBy_6 rfl 0 rfl ?_
  refine V_iload_n (pc := 7) F dX8_wayBy_7 rfl 1 rfl ?_
  refine V_aload_n (pc := 8) F dX8_wayBy_8 rfl 0 rfl ?_
  refine V_iload_n (pc := 9) F dX8_wayBy_9 rfl 1 rfl ?_
  refine V_iload_n (pc := 10) F dX8_wayBy_10 rfl 2 rfl ?_
  obtain ⟨r3, g4, hf⟩ := bind_of hf
  refine V_V (w2 := wX8 cy a v) (rest := [.int x1, .ref (a 0), .int r1]) (st2 := [.int r3, .int x1, .ref (a 0), .int r1]) (pc := 11) F 8 (M_X8_goal l D cy N a v x1 x2 r3 g4) (cwV 2 F.ts gX8_wayBy_X8_goal rfl rfl rfl hd_X8_goal ⟨Nat.le_of_ble_eq_true rfl, Nat.le_of_ble_eq_true rfl⟩) rfl dX8_wayBy_11 Fit.whole rfl rfl rfl (Nat.le_of_ble_eq_true rfl) (Nat.zero_le _) (Nat.zero_le _) rfl rfl rfl ?_
  obtain ⟨r5, g6, hf⟩ := bind_of hf
  refine V_V (w2 := wX8 cy a v) (rest := [.int r1]) (st2 := [.int r5, .int r1]) (pc := 14) F 8 (M_X8_clearingTo l D cy N a v x1 r3 r5 g6) (cwV 2 F.ts gX8_wayBy_X8_clearingTo rfl rfl rfl hd_X8_clearingTo ⟨Nat.le_of_ble_eq_true rfl, Nat.le_of_ble_eq_true rfl⟩) rfl dX8_wayBy_14 Fit.whole rfl rfl rfl (Nat.le_of_ble_eq_true rfl) (Nat.zero_le _) (Nat.zero_le _) rfl rfl rfl ?_
  refine V_iadd (pc := 17) F dX8_wayBy_17 ?_
  refine V_aload_n (pc := 18) F dX8_wayBy_18 rfl 0 rfl ?_
  refine V_get (pc := 19) F 0 8 10 i_X8 rfl (by decide) rfl (mm 1 rfl) dX8_wayBy_19 rfl rfl ?_
  refine V_aload_n (pc := 22) F dX8_wayBy_22 rfl 0 rfl ?_
  refine V_iload_n (pc := 23) F dX8_wayBy_23 rfl 1 rfl ?_
  refine V_iload_n (pc := 24) F dX8_wayBy_24 rfl 2 rfl ?_
  obtain ⟨r7, g8, hf⟩ := bind_of hf
  refine V_V (w2 := wX8 cy a v) (rest := [.ref (a 5), .int (r1 + r5)]) (st2 := [.int r7, .ref (a 5), .int (r1 + r5)]) (pc := 25) F 8 (M_X8_goal l D cy N a v x1 x2 r7 g8) (cwV 2 F.ts gX8_wayBy_X8_goal rfl rfl rfl hd_X8_goal ⟨Nat.le_of_ble_eq_true rfl, Nat.le_of_ble_eq_true rfl⟩) rfl dX8_wayBy_25 Fit.whole rfl rfl rfl (Nat.le_of_ble_eq_true rfl) (Nat.zero_le _) (Nat.zero_le _) rfl rfl rfl ?_
  obtain ⟨c9, hf⟩ := chk_some hf
  refine V_iald (pc := 28) F 5 rfl c9 dX8_wayBy_28 ?_
  refine V_iadd (pc := 29) F dX8_wayBy_29 ?_
  obtain rfl := some_of hf
  exact V_ret F rfl rfl dX8_wayBy_30 rfl rfl
