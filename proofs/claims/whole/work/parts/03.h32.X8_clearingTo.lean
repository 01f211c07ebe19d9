theorem hd_X8_clearingTo : yX8_clearingTo.cls = RX8 ∧ yX8_clearingTo.cls ≠ "java/lang/invoke/MethodHandle" ∧ yX8_clearingTo.cls ≠ "java/lang/invoke/VarHandle" ∧ (parseMethodDescriptor yX8_clearingTo.desc).map (fun d => d.parameters.length) = some 2 := by decide +kernel
def fX8_clearingTo (N : Nat) (v : SX8) (x1 : Int32) (x2 : Int32) : Option (Int32) :=
  (fX8_greens N v x1).bind fun r1 =>
    (fX8_greens N v x2).bind fun r3 =>
      if r1 = r3 then
        some 0
      else
        chk 1 143 (
          some (v.2.1 (1 : Int32).toNatClampNeg)
        )
set_option maxHeartbeats 8000000 in
set_option maxRecDepth 100000 in
theorem M_X8_clearingTo (l : Launch) (D : va_G) (cy : Nat → ClassId) (N : Nat) (a : Nat → Nat) (v : SX8) (x1 : Int32) (x2 : Int32) (o : Int32) (hf : fX8_clearingTo N v x1 x2 = some o) : okM l yX8_clearingTo wsX8_clearingTo (rmz 2 43) D cy [.ref (a 0), .int x1, .int x2] (wX8 cy a v) (wX8 cy a v) (some (.int o)) := by
  refine okM_of (own := RX8) (nme := "clearingTo") (cc := cX8_clearingTo) (maxL := 3) (ret := (some .int)) (by decide) rfl rfl rfl (Nat.le_of_ble_eq_true rfl) ?_
  intro p e s m args below meth c A F
  have i_X8 : ∀ w ∈ u_ws RX8 TX8 13, w ∈ wsX8_clearingTo := fun _ h => List.mem_cons_of_mem _ (List.mem_append_right _ h)
  unfold fX8_clearingTo at hf
  refine V.eq rfl (show lv_args 0 [.ref (a 0), .int x1, .int x2] = [(0, .ref (a 0)), (1, .int x1), (2, .int x2)] from rfl) rfl ?_
  refine V_aload_n (pc := 0) F dX8_clearingTo_0 rfl 0 rfl ?_
  refine V_iload_n (pc := 1) F dX8_clearingTo_1 rfl 1 rfl ?_
  obtain ⟨r1, g2, hf⟩ := bind_of hf
  refine V_V (w2 := wX8 cy a v) (rest := []) (st2 := [.int r1]) (pc := 2) F 8 (M_X8_greens l D cy N a v x1 r1 g2) (cwV 1 F.ts gX8_clearingTo_X8_greens rfl rfl rfl hd_X8_greens ⟨Nat.le_of_ble_eq_true rfl, Nat.le_of_ble_eq_true rfl⟩) rfl dX8_clearingTo_2 Fit.whole rfl rfl rfl (Nat.le_of_ble_eq_true rfl) (Nat.zero_le _) (Nat.zero_le _) rfl rfl rfl ?_
  refine V_aload_n (pc := 5) F dX8_clearingTo_5 rfl 0 rfl ?_
  refine V_iload_n (pc := 6) F dX8_clearingTo_6 rfl 2 rfl ?_
  obtain ⟨r3, g4, hf⟩ := bind_of hf
  refine V_V (w2 := wX8 cy a v) (rest := [.int r1]) (st2 := [.int r3, .int r1]) (pc := 7) F 8 (M_X8_greens l D cy N a v x2 r3 g4) (cwV 1 F.ts gX8_clearingTo_X8_greens rfl rfl rfl hd_X8_greens ⟨Nat.le_of_ble_eq_true rfl, Nat.le_of_ble_eq_true rfl⟩) rfl dX8_clearingTo_7 Fit.whole rfl rfl rfl (Nat.le_of_ble_eq_true rfl) (Nat.zero_le _) (Nat.zero_le _) rfl rfl rfl ?_
  refine V_icmp_ne (pc := 10) (tgt := 17) F dX8_clearingTo_10 (by decide) (fun h5 => ?_) (fun h5 => ?_)
  · replace hf := ite_neg hf h5
    refine V_aload_n (pc := 17) F dX8_clearingTo_17 rfl 0 rfl ?_
    refine V_get (pc := 18) F 0 8 1 i_X8 rfl (by decide) rfl (mm 1 rfl) dX8_clearingTo_18 rfl rfl ?_
    refine V_iconst (v := 1) (pc := 21) F dX8_clearingTo_21 (by decide) ?_
    obtain ⟨c6, hf⟩ := chk_some hf
    refine V_iald (pc := 22) F 1 rfl c6 dX8_clearingTo_22 ?_
    obtain rfl := some_of hf
    exact V_ret F rfl rfl dX8_clearingTo_23 rfl rfl
  · replace hf := ite_pos hf h5
    refine V_iconst (v := 0) (pc := 13) F dX8_clearingTo_13 (by decide) ?_
    refine V_goto (pc := 14) (tgt := 23) F dX8_clearingTo_14 (by decide) ?_
    obtain rfl := some_of hf
    exact V_ret F rfl rfl dX8_clearingTo_23 rfl rfl
