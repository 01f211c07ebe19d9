theorem hd_X8_follow : yX8_follow.cls = RX8 ∧ yX8_follow.cls ≠ "java/lang/invoke/MethodHandle" ∧ yX8_follow.cls ≠ "java/lang/invoke/VarHandle" ∧ (parseMethodDescriptor yX8_follow.desc).map (fun d => d.parameters.length) = some 2 := by decide +kernel
def fX8_follow (N : Nat) (v : SX8) (x1 : Int32) (x2 : Int32) : Option (SX8) :=
  (fX8_clearingTo N v x1 x2).bind fun r1 =>
    if r1 = 0 then
      (fX8_arrive N v x2).bind fun r16 =>
        some r16
    else
      chk 2 143 (
        nmd (upd v.2.1 (2 : Int32).toNatClampNeg x2) fun f5 =>
        chk 5 143 (
          nmd (upd f5 (5 : Int32).toNatClampNeg x1) fun f8 =>
          chk 3 143 (
            nmd (upd f8 (3 : Int32).toNatClampNeg (0 : Int32)) fun f11 =>
            chk 4 143 (
              nmd (upd f11 (4 : Int32).toNatClampNeg r1) fun f14 =>
              some (v.1, f14, v.2.2)
            )
          )
        )
      )
set_option maxHeartbeats 8000000 in
set_option maxRecDepth 100000 in
theorem M_X8_follow (l : Launch) (D : va_G) (cy : Nat → ClassId) (N : Nat) (a : Nat → Nat) (v : SX8) (x1 : Int32) (x2 : Int32) (o : SX8) (hf : fX8_follow N v x1 x2 = some o) : okM l yX8_follow wsX8_follow (rmz 3 65) D cy [.ref (a 0), .int x1, .int x2] (wX8 cy a v) (wX8 cy a o) none := by
  refine okM_of (own := RX8) (nme := "follow") (cc := cX8_follow) (maxL := 4) (ret := none) (by decide) rfl rfl rfl (Nat.le_of_ble_eq_true rfl) ?_
  intro p e s m args below meth c A F
  have i_X8 : ∀ w ∈ u_ws RX8 TX8 13, w ∈ wsX8_follow := fun _ h => List.mem_cons_of_mem _ (List.mem_append_right _ h)
  unfold fX8_follow at hf
  refine V.eq rfl (show lv_args 0 [.ref (a 0), .int x1, .int x2] = [(0, .ref (a 0)), (1, .int x1), (2, .int x2)] from rfl) rfl ?_
  refine V_aload_n (pc := 0) F dX8_follow_0 rfl 0 rfl ?_
  refine V_iload_n (pc := 1) F dX8_follow_1 rfl 1 rfl ?_
  refine V_iload_n (pc := 2) F dX8_follow_2 rfl 2 rfl ?_
  obtain ⟨r1, g2, hf⟩ := bind_of hf
  refine V_V (w2 := wX8 cy a v) (rest := []) (st2 := [.int r1]) (pc := 3) F 8 (M_X8_clearingTo l D cy N a v x1 x2 r1 g2) (cwV 2 F.ts gX8_follow_X8_clearingTo rfl rfl rfl hd_X8_clearingTo ⟨Nat.le_of_ble_eq_true rfl, Nat.le_of_ble_eq_true rfl⟩) rfl dX8_follow_3 Fit.whole rfl rfl rfl (Nat.le_of_ble_eq_true rfl) (Nat.zero_le _) (Nat.zero_le _) rfl rfl rfl ?_
  refine V_istore_n (L2 := [(3, .int r1), (0, .ref (a 0)), (1, .int x1), (2, .int x2)]) (pc := 6) F dX8_follow_6 rfl (by decide) rfl ?_
  refine V_iload_n (pc := 7) F dX8_follow_7 rfl 0 rfl ?_
  refine V_if_ne (pc := 8) (tgt := 19) F dX8_follow_8 (by decide) (fun h3 => ?_) (fun h3 => ?_)
  · replace hf := ite_neg hf h3
    refine V_aload_n (pc := 19) F dX8_follow_19 rfl 1 rfl ?_
    refine V_get (pc := 20) F 0 8 1 i_X8 rfl (by decide) rfl (mm 1 rfl) dX8_follow_20 rfl rfl ?_
    refine V_iconst (v := 2) (pc := 23) F dX8_follow_23 (by decide) ?_
    refine V_iload_n (pc := 24) F dX8_follow_24 rfl 3 rfl ?_
    obtain ⟨c4, hf⟩ := chk_some hf
    obtain ⟨f5, e6, hf⟩ := nmd_of hf
    refine V_iast (w2 := wX8 cy a (v.1, f5, v.2.2)) (pc := 25) F 1 rfl c4 e6 dX8_follow_25 rfl ?_
    refine V_aload_n (pc := 26) F dX8_follow_26 rfl 1 rfl ?_
    refine V_get (pc := 27) F 0 8 1 i_X8 rfl (by decide) rfl (mm 1 rfl) dX8_follow_27 rfl rfl ?_
    refine V_iconst (v := 5) (pc := 30) F dX8_follow_30 (by decide) ?_
    refine V_iload_n (pc := 31) F dX8_follow_31 rfl 2 rfl ?_
    obtain ⟨c7, hf⟩ := chk_some hf
    obtain ⟨f8, e9, hf⟩ := nmd_of hf
    refine V_iast (w2 := wX8 cy a (v.1, f8, v.2.2)) (pc := 32) F 1 rfl c7 e9 dX8_follow_32 rfl ?_
    refine V_aload_n (pc := 33) F dX8_follow_33 rfl 1 rfl ?_
    refine V_get (pc := 34) F 0 8 1 i_X8 rfl (by decide) rfl (mm 1 rfl) dX8_follow_34 rfl rfl ?_
    refine V_iconst (v := 3) (pc := 37) F dX8_follow_37 (by decide) ?_
    refine V_iconst (v := 0) (pc := 38) F dX8_follow_38 (by decide) ?_
    obtain ⟨c10, hf⟩ := chk_some hf
    obtain ⟨f11, e12, hf⟩ := nmd_of hf
    refine V_iast (w2 := wX8 cy a (v.1, f11, v.2.2)) (pc := 39) F 1 rfl c10 e12 dX8_follow_39 rfl ?_
    refine V_aload_n (pc := 40) F dX8_follow_40 rfl 1 rfl ?_
    refine V_get (pc := 41) F 0 8 1 i_X8 rfl (by decide) rfl (mm 1 rfl) dX8_follow_41 rfl rfl ?_
    refine V_iconst (v := 4) (pc := 44) F dX8_follow_44 (by decide) ?_
    refine V_iload_n (pc := 45) F dX8_follow_45 rfl 0 rfl ?_
    obtain ⟨c13, hf⟩ := chk_some hf
    obtain ⟨f14, e15, hf⟩ := nmd_of hf
    refine V_iast (w2 := wX8 cy a (v.1, f14, v.2.2)) (pc := 46) F 1 rfl c13 e15 dX8_follow_46 rfl ?_
    obtain rfl := some_of hf
    exact V_vret F rfl dX8_follow_47 rfl
  · replace hf := ite_pos hf h3
    refine V_aload_n (pc := 11) F dX8_follow_11 rfl 1 rfl ?_
    refine V_iload_n (pc := 12) F dX8_follow_12 rfl 3 rfl ?_
    obtain ⟨r16, g17, hf⟩ := bind_of hf
    refine V_V (w2 := wX8 cy a r16) (rest := []) (st2 := []) (pc := 13) F 8 (M_X8_arrive l D cy N a v x2 r16 g17) (cwV 1 F.ts gX8_follow_X8_arrive rfl rfl rfl hd_X8_arrive ⟨Nat.le_of_ble_eq_true rfl, Nat.le_of_ble_eq_true rfl⟩) rfl dX8_follow_13 Fit.whole fstX8 rfl rfl (Nat.le_of_ble_eq_true rfl) (Nat.zero_le _) (Nat.zero_le _) rfl rfl rfl ?_
    refine V_goto (pc := 16) (tgt := 47) F dX8_follow_16 (by decide) ?_
    obtain rfl := some_of hf
    exact V_vret F rfl dX8_follow_47 rfl
