theorem hd_X8_share : yX8_share.cls = RX8 ∧ yX8_share.cls ≠ "java/lang/invoke/MethodHandle" ∧ yX8_share.cls ≠ "java/lang/invoke/VarHandle" ∧ (parseMethodDescriptor yX8_share.desc).map (fun d => d.parameters.length) = some 0 := by decide +kernel
def fX8_share (N : Nat) (v : SX8) : Option (UInt64) :=
  chk 0 143 (
    if (v.2.1 (0 : Int32).toNatClampNeg) = 0 then
      some FP.dconst1
    else
      chk 0 143 (
        (fX8_clashing N v 255).bind fun r4 =>
          chk 0 143 (
            must (decide ((FP.ddiv (FP.i2d ((v.2.1 (0 : Int32).toNatClampNeg) - r4)) (FP.i2d (v.2.1 (0 : Int32).toNatClampNeg))) &&& 0x7fffffffffffffff ≤ 0x7ff0000000000000)) (
              some (FP.ddiv (FP.i2d ((v.2.1 (0 : Int32).toNatClampNeg) - r4)) (FP.i2d (v.2.1 (0 : Int32).toNatClampNeg)))
            )
          )
      )
  )
set_option maxHeartbeats 8000000 in
set_option maxRecDepth 100000 in
theorem M_X8_share (l : Launch) (D : va_G) (cy : Nat → ClassId) (N : Nat) (a : Nat → Nat) (v : SX8) (o : UInt64) (hf : fX8_share N v = some o) : okM l yX8_share wsX8_share (rmz 5 111) D cy [.ref (a 0)] (wX8 cy a v) (wX8 cy a v) (some (.double o)) := by
  refine okM_of (own := RX8) (nme := "share") (cc := cX8_share) (maxL := 1) (ret := (some .double)) (by decide) rfl rfl rfl (Nat.le_of_ble_eq_true rfl) ?_
  intro p e s m args below meth c A F
  have i_X8 : ∀ w ∈ u_ws RX8 TX8 13, w ∈ wsX8_share := fun _ h => List.mem_cons_of_mem _ (List.mem_append_right _ h)
  unfold fX8_share at hf
  refine V.eq rfl (show lv_args 0 [.ref (a 0)] = [(0, .ref (a 0))] from rfl) rfl ?_
  refine V_aload_n (pc := 0) F dX8_share_0 rfl 0 rfl ?_
  refine V_get (pc := 1) F 0 8 1 i_X8 rfl (by decide) rfl (mm 1 rfl) dX8_share_1 rfl rfl ?_
  refine V_iconst (v := 0) (pc := 4) F dX8_share_4 (by decide) ?_
  obtain ⟨c1, hf⟩ := chk_some hf
  refine V_iald (pc := 5) F 1 rfl c1 dX8_share_5 ?_
  refine V_if_ne (pc := 6) (tgt := 13) F dX8_share_6 (by decide) (fun h2 => ?_) (fun h2 => ?_)
  · replace hf := ite_neg hf h2
    refine V_aload_n (pc := 13) F dX8_share_13 rfl 0 rfl ?_
    refine V_get (pc := 14) F 0 8 1 i_X8 rfl (by decide) rfl (mm 1 rfl) dX8_share_14 rfl rfl ?_
    refine V_iconst (v := 0) (pc := 17) F dX8_share_17 (by decide) ?_
    obtain ⟨c3, hf⟩ := chk_some hf
    refine V_iald (pc := 18) F 1 rfl c3 dX8_share_18 ?_
    refine V_aload_n (pc := 19) F dX8_share_19 rfl 0 rfl ?_
    refine V_sipush (v := 255) (pc := 20) F dX8_share_20 (by decide) ?_
    obtain ⟨r4, g5, hf⟩ := bind_of hf
    refine V_V (w2 := wX8 cy a v) (rest := [.int (v.2.1 (0 : Int32).toNatClampNeg)]) (st2 := [.int r4, .int (v.2.1 (0 : Int32).toNatClampNeg)]) (pc := 23) F 8 (M_X8_clashing l D cy N a v 255 r4 g5) (cwV 1 F.ts gX8_share_X8_clashing rfl rfl rfl hd_X8_clashing ⟨Nat.le_of_ble_eq_true rfl, Nat.le_of_ble_eq_true rfl⟩) rfl dX8_share_23 Fit.whole rfl rfl rfl (Nat.le_of_ble_eq_true rfl) (Nat.zero_le _) (Nat.zero_le _) rfl rfl rfl ?_
    refine V_isub (pc := 26) F dX8_share_26 ?_
    refine V_i2d (pc := 27) F dX8_share_27 ?_
    refine V_aload_n (pc := 28) F dX8_share_28 rfl 0 rfl ?_
    refine V_get (pc := 29) F 0 8 1 i_X8 rfl (by decide) rfl (mm 1 rfl) dX8_share_29 rfl rfl ?_
    refine V_iconst (v := 0) (pc := 32) F dX8_share_32 (by decide) ?_
    obtain ⟨c6, hf⟩ := chk_some hf
    refine V_iald (pc := 33) F 1 rfl c6 dX8_share_33 ?_
    refine V_i2d (pc := 34) F dX8_share_34 ?_
    obtain ⟨c7, hf⟩ := must_some hf
    refine V_ddiv (pc := 35) F dX8_share_35 (n64_of c7) ?_
    obtain rfl := some_of hf
    exact V_dret F rfl dX8_share_36 rfl rfl
  · replace hf := ite_pos hf h2
    refine V_dconst1 (pc := 9) F dX8_share_9 ?_
    refine V_goto (pc := 10) (tgt := 36) F dX8_share_10 (by decide) ?_
    obtain rfl := some_of hf
    exact V_dret F rfl dX8_share_36 rfl rfl
