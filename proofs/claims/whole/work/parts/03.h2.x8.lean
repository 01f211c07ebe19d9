theorem hd_X8_clearingTo : yX8_clearingTo.cls = RX8 ∧ yX8_clearingTo.cls ≠ "java/lang/invoke/MethodHandle" ∧ yX8_clearingTo.cls ≠ "java/lang/invoke/VarHandle" ∧ (parseMethodDescriptor yX8_clearingTo.desc).map (fun d => d.parameters.length) = some 2 := by decide +kernel
def fX8_clearingTo (N : Nat) (v : SX8) (x1 : Int32) (x2 : Int32) : Option (Int32) :=
  (fX8_greens N v x1).bind fun r1 =>
    (fX8_greens N v x2).bind fun r3 =>
      if r1 = r3 then
        some 0
      else
        chk 1 143 (
          some (v.2.1 (1 : Int32).toNatClampNeg)
        )
set_option maxHeartbeats 8000000 in
set_option maxRecDepth 100000 in
theorem M_X8_clearingTo (l : Launch) (D : va_G) (cy : Nat → ClassId) (N : Nat) (a : Nat → Nat) (v : SX8) (x1 : Int32) (x2 : Int32) (o : Int32) (hf : fX8_clearingTo N v x1 x2 = some o) : okM l yX8_clearingTo wsX8_clearingTo (rmz 2 43) D cy [.ref (a 0), .int x1, .int x2] (wX8 cy a v) (wX8 cy a v) (some (.int o)) := by
  refine okM_of (own := RX8) (nme := "clearingTo") (cc := cX8_clearingTo) (maxL := 3) (ret := (some .int)) (by decide) rfl rfl rfl (Nat.le_of_ble_eq_true rfl) ?_
  intro p e s m args below meth c A F
  have i_X8 : ∀ w ∈ u_ws RX8 TX8 13, w ∈ wsX8_clearingTo := fun _ h => List.mem_cons_of_mem _ (List.mem_append_right _ h)
  unfold fX8_clearingTo at hf
  refine V.eq rfl (show lv_args 0 [.ref (a 0), .int x1, .int x2] = [(0, .ref (a 0)), (1, .int x1), (2, .int x2)] from rfl) rfl ?_
  refine V_aload_n (pc := 0) F dX8_clearingTo_0 rfl 0 rfl ?_
  refine V_iload_n (pc := 1) F dX8_clearingTo_1 rfl 1 rfl ?_
  obtain ⟨r1, g2, hf⟩ := bind_of hf
  refine V_V (w2 := wX8 cy a v) (rest := []) (st2 := [.int r1]) (pc := 2) F 8 (M_X8_greens l D cy N a v x1 r1 g2) (cwV 1 F.ts gX8_clearingTo_X8_greens rfl rfl rfl hd_X8_greens ⟨Nat.le_of_ble_eq_true rfl, Nat.le_of_ble_eq_true rfl⟩) rfl dX8_clearingTo_2 Fit.whole rfl rfl rfl (Nat.le_of_ble_eq_true rfl) (Nat.zero_le _) (Nat.zero_le _) rfl rfl rfl ?_
  refine V_aload_n (pc := 5) F dX8_clearingTo_5 rfl 0 rfl ?_
  refine V_iload_n (pc := 6) F dX8_clearingTo_6 rfl 2 rfl ?_
  obtain ⟨r3, g4, hf⟩ := bind_of hf
  refine V_V (w2 := wX8 cy a v) (rest := [.int r1]) (st2 := [.int r3, .int r1]) (pc := 7) F 8 (M_X8_greens l D cy N a v x2 r3 g4) (cwV 1 F.ts gX8_clearingTo_X8_greens rfl rfl rfl hd_X8_greens ⟨Nat.le_of_ble_eq_true rfl, Nat.le_of_ble_eq_true rfl⟩) rfl dX8_clearingTo_7 Fit.whole rfl rfl rfl (Nat.le_of_ble_eq_true rfl) (Nat.zero_le _) (Nat.zero_le _) rfl rfl rfl ?_
  refine V_icmp_ne (pc := 10) (tgt := 17) F dX8_clearingTo_10 (by decide) (fun h5 => ?_) (fun h5 => ?_)
  · replace hf := ite_neg hf h5
    refine V_aload_n (pc := 17) F dX8_clearingTo_17 rfl 0 rfl ?_
    refine V_get (pc := 18) F 0 8 1 i_X8 rfl (by decide) rfl (mm 1 rfl) dX8_clearingTo_18 rfl rfl ?_
    refine V_iconst (v := 1) (pc := 21) F dX8_clearingTo_21 (by decide) ?_
    obtain ⟨c6, hf⟩ := chk_some hf
    refine V_iald (pc := 22) F 1 rfl c6 dX8_clearingTo_22 ?_
    obtain rfl := some_of hf
    exact V_ret F rfl rfl dX8_clearingTo_23 rfl rfl
  · replace hf := ite_pos hf h5
    refine V_iconst (v := 0) (pc := 13) F dX8_clearingTo_13 (by decide) ?_
    refine V_goto (pc := 14) (tgt := 23) F dX8_clearingTo_14 (by decide) ?_
    obtain rfl := some_of hf
    exact V_ret F rfl rfl dX8_clearingTo_23 rfl rfl
theorem hd_X8_arrive : yX8_arrive.cls = RX8 ∧ yX8_arrive.cls ≠ "java/lang/invoke/MethodHandle" ∧ yX8_arrive.cls ≠ "java/lang/invoke/VarHandle" ∧ (parseMethodDescriptor yX8_arrive.desc).map (fun d => d.parameters.length) = some 1 := by decide +kernel
def fX8_arrive (N : Nat) (v : SX8) (x1 : Int32) : Option (SX8) :=
  chk 2 143 (
    nmd (upd v.2.1 (2 : Int32).toNatClampNeg x1) fun f2 =>
    chk 3 143 (
      nmd (upd f2 (3 : Int32).toNatClampNeg (0 : Int32)) fun f5 =>
      chk 4 143 (
        nmd (upd f5 (4 : Int32).toNatClampNeg (0 : Int32)) fun f8 =>
        chk 5 143 (
          nmd (upd f8 (5 : Int32).toNatClampNeg ((-1) : Int32)) fun f11 =>
          chk (((31 : Int32) + ((14 : Int32) * x1)) + 2) 143 (
            chk (((31 : Int32) + ((14 : Int32) * x1)) + 2) 143 (
              nmd (upd f11 (((31 : Int32) + ((14 : Int32) * x1)) + 2).toNatClampNeg ((f11 (((31 : Int32) + ((14 : Int32) * x1)) + 2).toNatClampNeg) + 1)) fun f15 =>
              some (v.1, f15, v.2.2)
            )
          )
        )
      )
    )
  )
set_option maxHeartbeats 8000000 in
set_option maxRecDepth 100000 in
theorem M_X8_arrive (l : Launch) (D : va_G) (cy : Nat → ClassId) (N : Nat) (a : Nat → Nat) (v : SX8) (x1 : Int32) (o : SX8) (hf : fX8_arrive N v x1 = some o) : okM l yX8_arrive wsX8_arrive (rmz 0 0) D cy [.ref (a 0), .int x1] (wX8 cy a v) (wX8 cy a o) none := by
  refine okM_of (own := RX8) (nme := "arrive") (cc := cX8_arrive) (maxL := 2) (ret := none) (by decide) rfl rfl rfl (Nat.le_of_ble_eq_true rfl) ?_
  intro p e s m args below meth c A F
  have i_X8 : ∀ w ∈ u_ws RX8 TX8 13, w ∈ wsX8_arrive := fun _ h => List.mem_cons_of_mem _ (List.mem_append_right _ h)
  unfold fX8_arrive at hf
  refine V.eq rfl (show lv_args 0 [.ref (a 0), .int x1] = [(0, .ref (a 0)), (1, .int x1)] from rfl) rfl ?_
  refine V_aload_n (pc := 0) F dX8_arrive_0 rfl 0 rfl ?_
  refine V_get (pc := 1) F 0 8 1 i_X8 rfl (by decide) rfl (mm 1 rfl) dX8_arrive_1 rfl rfl ?_
  refine V_iconst (v := 2) (pc := 4) F dX8_arrive_4 (by decide) ?_
  refine V_iload_n (pc := 5) F dX8_arrive_5 rfl 1 rfl ?_
  obtain ⟨c1, hf⟩ := chk_some hf
  obtain ⟨f2, e3, hf⟩ := nmd_of hf
  refine V_iast (w2 := wX8 cy a (v.1, f2, v.2.2)) (pc := 6) F 1 rfl c1 e3 dX8_arrive_6 rfl ?_
  refine V_aload_n (pc := 7) F dX8_arrive_7 rfl 0 rfl ?_
  refine V_get (pc := 8) F 0 8 1 i_X8 rfl (by decide) rfl (mm 1 rfl) dX8_arrive_8 rfl rfl ?_
  refine V_iconst (v := 3) (pc := 11) F dX8_arrive_11 (by decide) ?_
  refine V_iconst (v := 0) (pc := 12) F dX8_arrive_12 (by decide) ?_
  obtain ⟨c4, hf⟩ := chk_some hf
  obtain ⟨f5, e6, hf⟩ := nmd_of hf
  refine V_iast (w2 := wX8 cy a (v.1, f5, v.2.2)) (pc := 13) F 1 rfl c4 e6 dX8_arrive_13 rfl ?_
  refine V_aload_n (pc := 14) F dX8_arrive_14 rfl 0 rfl ?_
  refine V_get (pc := 15) F 0 8 1 i_X8 rfl (by decide) rfl (mm 1 rfl) dX8_arrive_15 rfl rfl ?_
  refine V_iconst (v := 4) (pc := 18) F dX8_arrive_18 (by decide) ?_
  refine V_iconst (v := 0) (pc := 19) F dX8_arrive_19 (by decide) ?_
  obtain ⟨c7, hf⟩ := chk_some hf
  obtain ⟨f8, e9, hf⟩ := nmd_of hf
  refine V_iast (w2 := wX8 cy a (v.1, f8, v.2.2)) (pc := 20) F 1 rfl c7 e9 dX8_arrive_20 rfl ?_
  refine V_aload_n (pc := 21) F dX8_arrive_21 rfl 0 rfl ?_
  refine V_get (pc := 22) F 0 8 1 i_X8 rfl (by decide) rfl (mm 1 rfl) dX8_arrive_22 rfl rfl ?_
  refine V_iconst (v := 5) (pc := 25) F dX8_arrive_25 (by decide) ?_
  refine V_iconst (v := (-1)) (pc := 26) F dX8_arrive_26 (by decide) ?_
  obtain ⟨c10, hf⟩ := chk_some hf
  obtain ⟨f11, e12, hf⟩ := nmd_of hf
  refine V_iast (w2 := wX8 cy a (v.1, f11, v.2.2)) (pc := 27) F 1 rfl c10 e12 dX8_arrive_27 rfl ?_
  refine V_aload_n (pc := 28) F dX8_arrive_28 rfl 0 rfl ?_
  refine V_get (pc := 29) F 0 8 1 i_X8 rfl (by decide) rfl (mm 1 rfl) dX8_arrive_29 rfl rfl ?_
  refine V_bipush (v := 31) (pc := 32) F dX8_arrive_32 (by decide) ?_
  refine V_bipush (v := 14) (pc := 34) F dX8_arrive_34 (by decide) ?_
  refine V_iload_n (pc := 36) F dX8_arrive_36 rfl 1 rfl ?_
  refine V_imul (pc := 37) F dX8_arrive_37 ?_
  refine V_iadd (pc := 38) F dX8_arrive_38 ?_
  refine V_iconst (v := 2) (pc := 39) F dX8_arrive_39 (by decide) ?_
  refine V_iadd (pc := 40) F dX8_arrive_40 ?_
  refine V_dup2_11 (pc := 41) F dX8_arrive_41 rfl rfl ?_
  obtain ⟨c13, hf⟩ := chk_some hf
  refine V_iald (pc := 42) F 1 rfl c13 dX8_arrive_42 ?_
  refine V_iconst (v := 1) (pc := 43) F dX8_arrive_43 (by decide) ?_
  refine V_iadd (pc := 44) F dX8_arrive_44 ?_
  obtain ⟨c14, hf⟩ := chk_some hf
  obtain ⟨f15, e16, hf⟩ := nmd_of hf
  refine V_iast (w2 := wX8 cy a (v.1, f15, v.2.2)) (pc := 45) F 1 rfl c14 e16 dX8_arrive_45 rfl ?_
  obtain rfl := some_of hf
  exact V_vret F rfl dX8_arrive_46 rfl
theorem hd_X8_follow : yX8_follow.cls = RX8 ∧ yX8_follow.cls ≠ "java/lang/invoke/MethodHandle" ∧ yX8_follow.cls ≠ "java/lang/invoke/VarHandle" ∧ (parseMethodDescriptor yX8_follow.desc).map (fun d => d.parameters.length) = some 2 := by decide +kernel
def fX8_follow (N : Nat) (v : SX8) (x1 : Int32) (x2 : Int32) : Option (SX8) :=
  (fX8_clearingTo N v x1 x2).bind fun r1 =>
    if r1 = 0 then
      (fX8_arrive N v x2).bind fun r16 =>
        some r16
    else
      chk 2 143 (
        nmd (upd v.2.1 (2 : Int32).toNatClampNeg x2) fun f5 =>
        chk 5 143 (
          nmd (upd f5 (5 : Int32).toNatClampNeg x1) fun f8 =>
          chk 3 143 (
            nmd (upd f8 (3 : Int32).toNatClampNeg (0 : Int32)) fun f11 =>
            chk 4 143 (
              nmd (upd f11 (4 : Int32).toNatClampNeg r1) fun f14 =>
              some (v.1, f14, v.2.2)
            )
          )
        )
      )
set_option maxHeartbeats 8000000 in
set_option maxRecDepth 100000 in
theorem M_X8_follow (l : Launch) (D : va_G) (cy : Nat → ClassId) (N : Nat) (a : Nat → Nat) (v : SX8) (x1 : Int32) (x2 : Int32) (o : SX8) (hf : fX8_follow N v x1 x2 = some o) : okM l yX8_follow wsX8_follow (rmz 3 65) D cy [.ref (a 0), .int x1, .int x2] (wX8 cy a v) (wX8 cy a o) none := by
  refine okM_of (own := RX8) (nme := "follow") (cc := cX8_follow) (maxL := 4) (ret := none) (by decide) rfl rfl rfl (Nat.le_of_ble_eq_true rfl) ?_
  intro p e s m args below meth c A F
  have i_X8 : ∀ w ∈ u_ws RX8 TX8 13, w ∈ wsX8_follow := fun _ h => List.mem_cons_of_mem _ (List.mem_append_right _ h)
  unfold fX8_follow at hf
  refine V.eq rfl (show lv_args 0 [.ref (a 0), .int x1, .int x2] = [(0, .ref (a 0)), (1, .int x1), (2, .int x2)] from rfl) rfl ?_
  refine V_aload_n (pc := 0) F dX8_follow_0 rfl 0 rfl ?_
  refine V_iload_n (pc := 1) F dX8_follow_1 rfl 1 rfl ?_
  refine V_iload_n (pc := 2) F dX8_follow_2 rfl 2 rfl ?_
  obtain ⟨r1, g2, hf⟩ := bind_of hf
  refine V_V (w2 := wX8 cy a v) (rest := []) (st2 := [.int r1]) (pc := 3) F 8 (M_X8_clearingTo l D cy N a v x1 x2 r1 g2) (cwV 2 F.ts gX8_follow_X8_clearingTo rfl rfl rfl hd_X8_clearingTo ⟨Nat.le_of_ble_eq_true rfl, Nat.le_of_ble_eq_true rfl⟩) rfl dX8_follow_3 Fit.whole rfl rfl rfl (Nat.le_of_ble_eq_true rfl) (Nat.zero_le _) (Nat.zero_le _) rfl rfl rfl ?_
  refine V_istore_n (L2 := [(3, .int r1), (0, .ref (a 0)), (1, .int x1), (2, .int x2)]) (pc := 6) F dX8_follow_6 rfl (by decide) rfl ?_
  refine V_iload_n (pc := 7) F dX8_follow_7 rfl 0 rfl ?_
  refine V_if_ne (pc := 8) (tgt := 19) F dX8_follow_8 (by decide) (fun h3 => ?_) (fun h3 => ?_)
  · replace hf := ite_neg hf h3
    refine V_aload_n (pc := 19) F dX8_follow_19 rfl 1 rfl ?_
    refine V_get (pc := 20) F 0 8 1 i_X8 rfl (by decide) rfl (mm 1 rfl) dX8_follow_20 rfl rfl ?_
    refine V_iconst (v := 2) (pc := 23) F dX8_follow_23 (by decide) ?_
    refine V_iload_n (pc := 24) F dX8_follow_24 rfl 3 rfl ?_
    obtain ⟨c4, hf⟩ := chk_some hf
    obtain ⟨f5, e6, hf⟩ := nmd_of hf
    refine V_iast (w2 := wX8 cy a (v.1, f5, v.2.2)) (pc := 25) F 1 rfl c4 e6 dX8_follow_25 rfl ?_
    refine V_aload_n (pc := 26) F dX8_follow_26 rfl 1 rfl ?_
    refine V_get (pc := 27) F 0 8 1 i_X8 rfl (by decide) rfl (mm 1 rfl) dX8_follow_27 rfl rfl ?_
    refine V_iconst (v := 5) (pc := 30) F dX8_follow_30 (by decide) ?_
    refine V_iload_n (pc := 31) F dX8_follow_31 rfl 2 rfl ?_
    obtain ⟨c7, hf⟩ := chk_some hf
    obtain ⟨f8, e9, hf⟩ := nmd_of hf
    refine V_iast (w2 := wX8 cy a (v.1, f8, v.2.2)) (pc := 32) F 1 rfl c7 e9 dX8_follow_32 rfl ?_
    refine V_aload_n (pc := 33) F dX8_follow_33 rfl 1 rfl ?_
    refine V_get (pc := 34) F 0 8 1 i_X8 rfl (by decide) rfl (mm 1 rfl) dX8_follow_34 rfl rfl ?_
    refine V_iconst (v := 3) (pc := 37) F dX8_follow_37 (by decide) ?_
    refine V_iconst (v := 0) (pc := 38) F dX8_follow_38 (by decide) ?_
    obtain ⟨c10, hf⟩ := chk_some hf
    obtain ⟨f11, e12, hf⟩ := nmd_of hf
    refine V_iast (w2 := wX8 cy a (v.1, f11, v.2.2)) (pc := 39) F 1 rfl c10 e12 dX8_follow_39 rfl ?_
    refine V_aload_n (pc := 40) F dX8_follow_40 rfl 1 rfl ?_
    refine V_get (pc := 41) F 0 8 1 i_X8 rfl (by decide) rfl (mm 1 rfl) dX8_follow_41 rfl rfl ?_
    refine V_iconst (v := 4) (pc := 44) F dX8_follow_44 (by decide) ?_
    refine V_iload_n (pc := 45) F dX8_follow_45 rfl 0 rfl ?_
    obtain ⟨c13, hf⟩ := chk_some hf
    obtain ⟨f14, e15, hf⟩ := nmd_of hf
    refine V_iast (w2 := wX8 cy a (v.1, f14, v.2.2)) (pc := 46) F 1 rfl c13 e15 dX8_follow_46 rfl ?_
    obtain rfl := some_of hf
    exact V_vret F rfl dX8_follow_47 rfl
  · replace hf := ite_pos hf h3
    refine V_aload_n (pc := 11) F dX8_follow_11 rfl 1 rfl ?_
    refine V_iload_n (pc := 12) F dX8_follow_12 rfl 3 rfl ?_
    obtain ⟨r16, g17, hf⟩ := bind_of hf
    refine V_V (w2 := wX8 cy a r16) (rest := []) (st2 := []) (pc := 13) F 8 (M_X8_arrive l D cy N a v x2 r16 g17) (cwV 1 F.ts gX8_follow_X8_arrive rfl rfl rfl hd_X8_arrive ⟨Nat.le_of_ble_eq_true rfl, Nat.le_of_ble_eq_true rfl⟩) rfl dX8_follow_13 Fit.whole fstX8 rfl rfl (Nat.le_of_ble_eq_true rfl) (Nat.zero_le _) (Nat.zero_le _) rfl rfl rfl ?_
    refine V_goto (pc := 16) (tgt := 47) F dX8_follow_16 (by decide) ?_
    obtain rfl := some_of hf
    exact V_vret F rfl dX8_follow_47 rfl
theorem hd_X8_tick : yX8_tick.cls = RX8 ∧ yX8_tick.cls ≠ "java/lang/invoke/MethodHandle" ∧ yX8_tick.cls ≠ "java/lang/invoke/VarHandle" ∧ (parseMethodDescriptor yX8_tick.desc).map (fun d => d.parameters.length) = some 0 := by decide +kernel
def fX8_tick (N : Nat) (v : SX8) : Option (SX8) :=
  chk 6 143 (
    chk 6 143 (
      nmd (upd v.2.1 (6 : Int32).toNatClampNeg ((v.2.1 (6 : Int32).toNatClampNeg) + 1)) fun f3 =>
      (fX8_serve N (v.1, f3, v.2.2)).bind fun r5 =>
        chk 2 143 (
          if (r5.2.1 (2 : Int32).toNatClampNeg) = (-1) then
            some r5
          else
            (fX8_isClearing N r5).bind fun r9 =>
              if r9 = 0 then
                chk 3 143 (
                  chk 3 143 (
                    nmd (upd r5.2.1 (3 : Int32).toNatClampNeg ((r5.2.1 (3 : Int32).toNatClampNeg) + 1)) fun f14 =>
                    chk 3 143 (
                      (fX8_of N (r5.1, f14, r5.2.2) (r5.2.1 (2 : Int32).toNatClampNeg) 1).bind fun r17 =>
                        if (f14 (3 : Int32).toNatClampNeg) < r17 then
                          some (r5.1, f14, r5.2.2)
                        else
                          (fX8_holding N (r5.1, f14, r5.2.2) (r5.2.1 (2 : Int32).toNatClampNeg)).bind fun r21 =>
                            if r21 = (-1) then
                              some (r5.1, f14, r5.2.2)
                            else
                              (fX8_goal N (r5.1, f14, r5.2.2) (r5.2.1 (2 : Int32).toNatClampNeg) r21).bind fun r24 =>
                                (fX8_follow N (r5.1, f14, r5.2.2) (r5.2.1 (2 : Int32).toNatClampNeg) r24).bind fun r26 =>
                                  some r26
                    )
                  )
                )
              else
                chk 4 143 (
                  chk 4 143 (
                    nmd (upd r5.2.1 (4 : Int32).toNatClampNeg ((r5.2.1 (4 : Int32).toNatClampNeg) - 1)) fun f30 =>
                    chk 4 143 (
                      if (f30 (4 : Int32).toNatClampNeg) = 0 then
                        (fX8_arrive N (r5.1, f30, r5.2.2) (r5.2.1 (2 : Int32).toNatClampNeg)).bind fun r34 =>
                          some r34
                      else
                        some (r5.1, f30, r5.2.2)
                    )
                  )
                )
        )
    )
  )
set_option maxHeartbeats 8000000 in
set_option maxRecDepth 100000 in
theorem M_X8_tick (l : Launch) (D : va_G) (cy : Nat → ClassId) (N : Nat) (a : Nat → Nat) (v : SX8) (o : SX8) (hf : fX8_tick N v = some o) : okM l yX8_tick wsX8_tick (rmz 4 88) D cy [.ref (a 0)] (wX8 cy a v) (wX8 cy a o) none := by
  refine okM_of (own := RX8) (nme := "tick") (cc := cX8_tick) (maxL := 3) (ret := none) (by decide) rfl rfl rfl (Nat.le_of_ble_eq_true rfl) ?_
  intro p e s m args below meth c A F
  have i_X8 : ∀ w ∈ u_ws RX8 TX8 13, w ∈ wsX8_tick := fun _ h => List.mem_cons_of_mem _ (List.mem_append_right _ h)
  unfold fX8_tick at hf
  refine V.eq rfl (show lv_args 0 [.ref (a 0)] = [(0, .ref (a 0))] from rfl) rfl ?_
  refine V_aload_n (pc := 0) F dX8_tick_0 rfl 0 rfl ?_
  refine V_get (pc := 1) F 0 8 1 i_X8 rfl (by decide) rfl (mm 1 rfl) dX8_tick_1 rfl rfl ?_
  refine V_bipush (v := 6) (pc := 4) F dX8_tick_4 (by decide) ?_
  refine V_dup2_11 (pc := 6) F dX8_tick_6 rfl rfl ?_
  obtain ⟨c1, hf⟩ := chk_some hf
  refine V_iald (pc := 7) F 1 rfl c1 dX8_tick_7 ?_
  refine V_iconst (v := 1) (pc := 8) F dX8_tick_8 (by decide) ?_
  refine V_iadd (pc := 9) F dX8_tick_9 ?_
  obtain ⟨c2, hf⟩ := chk_some hf
  obtain ⟨f3, e4, hf⟩ := nmd_of hf
  refine V_iast (w2 := wX8 cy a (v.1, f3, v.2.2)) (pc := 10) F 1 rfl c2 e4 dX8_tick_10 rfl ?_
  refine V_aload_n (pc := 11) F dX8_tick_11 rfl 0 rfl ?_
  obtain ⟨r5, g6, hf⟩ := bind_of hf
  refine V_V (w2 := wX8 cy a r5) (rest := []) (st2 := []) (pc := 12) F 8 (M_X8_serve l D cy N a (v.1, f3, v.2.2) r5 g6) (cwV 0 F.ts gX8_tick_X8_serve rfl rfl rfl hd_X8_serve ⟨Nat.le_of_ble_eq_true rfl, Nat.le_of_ble_eq_true rfl⟩) rfl dX8_tick_12 Fit.whole fstX8 rfl rfl (Nat.le_of_ble_eq_true rfl) (Nat.zero_le _) (Nat.zero_le _) rfl rfl rfl ?_
  refine V_aload_n (pc := 15) F dX8_tick_15 rfl 0 rfl ?_
  refine V_get (pc := 16) F 0 8 1 i_X8 rfl (by decide) rfl (mm 1 rfl) dX8_tick_16 rfl rfl ?_
  refine V_iconst (v := 2) (pc := 19) F dX8_tick_19 (by decide) ?_
  obtain ⟨c7, hf⟩ := chk_some hf
  refine V_iald (pc := 20) F 1 rfl c7 dX8_tick_20 ?_
  refine V_istore_n (L2 := [(1, .int (r5.2.1 (2 : Int32).toNatClampNeg)), (0, .ref (a 0))]) (pc := 21) F dX8_tick_21 rfl (by decide) rfl ?_
  refine V_iload_n (pc := 22) F dX8_tick_22 rfl 0 rfl ?_
  refine V_iconst (v := (-1)) (pc := 23) F dX8_tick_23 (by decide) ?_
  refine V_icmp_ne (pc := 24) (tgt := 28) F dX8_tick_24 (by decide) (fun h8 => ?_) (fun h8 => ?_)
  · replace hf := ite_neg hf h8
    refine V_aload_n (pc := 28) F dX8_tick_28 rfl 1 rfl ?_
    obtain ⟨r9, g10, hf⟩ := bind_of hf
    refine V_V (w2 := wX8 cy a r5) (rest := []) (st2 := [.int r9]) (pc := 29) F 8 (M_X8_isClearing l D cy N a r5 r9 g10) (cwV 0 F.ts gX8_tick_X8_isClearing rfl rfl rfl hd_X8_isClearing ⟨Nat.le_of_ble_eq_true rfl, Nat.le_of_ble_eq_true rfl⟩) rfl dX8_tick_29 Fit.whole rfl rfl rfl (Nat.le_of_ble_eq_true rfl) (Nat.zero_le _) (Nat.zero_le _) rfl rfl rfl ?_
    refine V_if_eq (pc := 32) (tgt := 60) F dX8_tick_32 (by decide) (fun h11 => ?_) (fun h11 => ?_)
    · replace hf := ite_pos hf h11
      refine V_aload_n (pc := 60) F dX8_tick_60 rfl 1 rfl ?_
      refine V_get (pc := 61) F 0 8 1 i_X8 rfl (by decide) rfl (mm 1 rfl) dX8_tick_61 rfl rfl ?_
      refine V_iconst (v := 3) (pc := 64) F dX8_tick_64 (by decide) ?_
      refine V_dup2_11 (pc := 65) F dX8_tick_65 rfl rfl ?_
      obtain ⟨c12, hf⟩ := chk_some hf
      refine V_iald (pc := 66) F 1 rfl c12 dX8_tick_66 ?_
      refine V_iconst (v := 1) (pc := 67) F dX8_tick_67 (by decide) ?_
      refine V_iadd (pc := 68) F dX8_tick_68 ?_
      obtain ⟨c13, hf⟩ := chk_some hf
      obtain ⟨f14, e15, hf⟩ := nmd_of hf
      refine V_iast (w2 := wX8 cy a (r5.1, f14, r5.2.2)) (pc := 69) F 1 rfl c13 e15 dX8_tick_69 rfl ?_
      refine V_aload_n (pc := 70) F dX8_tick_70 rfl 1 rfl ?_
      refine V_get (pc := 71) F 0 8 1 i_X8 rfl (by decide) rfl (mm 1 rfl) dX8_tick_71 rfl rfl ?_
      refine V_iconst (v := 3) (pc := 74) F dX8_tick_74 (by decide) ?_
      obtain ⟨c16, hf⟩ := chk_some hf
      refine V_iald (pc := 75) F 1 rfl c16 dX8_tick_75 ?_
      refine V_aload_n (pc := 76) F dX8_tick_76 rfl 1 rfl ?_
      refine V_iload_n (pc := 77) F dX8_tick_77 rfl 0 rfl ?_
      refine V_iconst (v := 1) (pc := 78) F dX8_tick_78 (by decide) ?_
      obtain ⟨r17, g18, hf⟩ := bind_of hf
      refine V_V (w2 := wX8 cy a (r5.1, f14, r5.2.2)) (rest := [.int (f14 (3 : Int32).toNatClampNeg)]) (st2 := [.int r17, .int (f14 (3 : Int32).toNatClampNeg)]) (pc := 79) F 8 (M_X8_of l D cy N a (r5.1, f14, r5.2.2) (r5.2.1 (2 : Int32).toNatClampNeg) 1 r17 g18) (cwV 2 F.ts gX8_tick_X8_of rfl rfl rfl hd_X8_of ⟨Nat.le_of_ble_eq_true rfl, Nat.le_of_ble_eq_true rfl⟩) rfl dX8_tick_79 Fit.whole rfl rfl rfl (Nat.le_of_ble_eq_true rfl) (Nat.zero_le _) (Nat.zero_le _) rfl rfl rfl ?_
      refine V_icmp_lt (pc := 82) (tgt := 93) F dX8_tick_82 (by decide) (fun h19 => ?_) (fun h19 => ?_)
      · replace hf := ite_pos hf h19
        refine V_iconst (v := (-1)) (pc := 93) F dX8_tick_93 (by decide) ?_
        refine V_istore_n (L2 := [(2, .int (-1)), (1, .int (r5.2.1 (2 : Int32).toNatClampNeg)), (0, .ref (a 0))]) (pc := 94) F dX8_tick_94 rfl (by decide) rfl ?_
        refine V_iload_n (pc := 95) F dX8_tick_95 rfl 0 rfl ?_
        refine V_iconst (v := (-1)) (pc := 96) F dX8_tick_96 (by decide) ?_
        refine V_icmp_eq (pc := 97) (tgt := 111) F dX8_tick_97 (by decide) (fun h20 => ?_) (fun h20 => ?_)
        · obtain rfl := some_of hf
          exact V_vret F rfl dX8_tick_111 rfl
        · exact absurd h20 (show ¬ (¬ (((-1) : Int32) = ((-1) : Int32))) by decide)
      · replace hf := ite_neg hf h19
        refine V_aload_n (pc := 85) F dX8_tick_85 rfl 1 rfl ?_
        refine V_iload_n (pc := 86) F dX8_tick_86 rfl 0 rfl ?_
        obtain ⟨r21, g22, hf⟩ := bind_of hf
        refine V_V (w2 := wX8 cy a (r5.1, f14, r5.2.2)) (rest := []) (st2 := [.int r21]) (pc := 87) F 8 (M_X8_holding l D cy N a (r5.1, f14, r5.2.2) (r5.2.1 (2 : Int32).toNatClampNeg) r21 g22) (cwV 1 F.ts gX8_tick_X8_holding rfl rfl rfl hd_X8_holding ⟨Nat.le_of_ble_eq_true rfl, Nat.le_of_ble_eq_true rfl⟩) rfl dX8_tick_87 Fit.whole rfl rfl rfl (Nat.le_of_ble_eq_true rfl) (Nat.zero_le _) (Nat.zero_le _) rfl rfl rfl ?_
        refine V_goto (pc := 90) (tgt := 94) F dX8_tick_90 (by decide) ?_
        refine V_istore_n (L2 := [(2, .int r21), (1, .int (r5.2.1 (2 : Int32).toNatClampNeg)), (0, .ref (a 0))]) (pc := 94) F dX8_tick_94 rfl (by decide) rfl ?_
        refine V_iload_n (pc := 95) F dX8_tick_95 rfl 0 rfl ?_
        refine V_iconst (v := (-1)) (pc := 96) F dX8_tick_96 (by decide) ?_
        refine V_icmp_eq (pc := 97) (tgt := 111) F dX8_tick_97 (by decide) (fun h23 => ?_) (fun h23 => ?_)
        · replace hf := ite_pos hf h23
          obtain rfl := some_of hf
          exact V_vret F rfl dX8_tick_111 rfl
        · replace hf := ite_neg hf h23
          refine V_aload_n (pc := 100) F dX8_tick_100 rfl 2 rfl ?_
          refine V_iload_n (pc := 101) F dX8_tick_101 rfl 1 rfl ?_
          refine V_aload_n (pc := 102) F dX8_tick_102 rfl 2 rfl ?_
          refine V_iload_n (pc := 103) F dX8_tick_103 rfl 1 rfl ?_
          refine V_iload_n (pc := 104) F dX8_tick_104 rfl 0 rfl ?_
          obtain ⟨r24, g25, hf⟩ := bind_of hf
          refine V_V (w2 := wX8 cy a (r5.1, f14, r5.2.2)) (rest := [.int (r5.2.1 (2 : Int32).toNatClampNeg), .ref (a 0)]) (st2 := [.int r24, .int (r5.2.1 (2 : Int32).toNatClampNeg), .ref (a 0)]) (pc := 105) F 8 (M_X8_goal l D cy N a (r5.1, f14, r5.2.2) (r5.2.1 (2 : Int32).toNatClampNeg) r21 r24 g25) (cwV 2 F.ts gX8_tick_X8_goal rfl rfl rfl hd_X8_goal ⟨Nat.le_of_ble_eq_true rfl, Nat.le_of_ble_eq_true rfl⟩) rfl dX8_tick_105 Fit.whole rfl rfl rfl (Nat.le_of_ble_eq_true rfl) (Nat.zero_le _) (Nat.zero_le _) rfl rfl rfl ?_
          obtain ⟨r26, g27, hf⟩ := bind_of hf
          refine V_V (w2 := wX8 cy a r26) (rest := []) (st2 := []) (pc := 108) F 8 (M_X8_follow l D cy N a (r5.1, f14, r5.2.2) (r5.2.1 (2 : Int32).toNatClampNeg) r24 r26 g27) (cwV 2 F.ts gX8_tick_X8_follow rfl rfl rfl hd_X8_follow ⟨Nat.le_of_ble_eq_true rfl, Nat.le_of_ble_eq_true rfl⟩) rfl dX8_tick_108 Fit.whole fstX8 rfl rfl (Nat.le_of_ble_eq_true rfl) (Nat.zero_le _) (Nat.zero_le _) rfl rfl rfl ?_
          obtain rfl := some_of hf
          exact V_vret F rfl dX8_tick_111 rfl
    · replace hf := ite_neg hf h11
      refine V_aload_n (pc := 35) F dX8_tick_35 rfl 1 rfl ?_
      refine V_get (pc := 36) F 0 8 1 i_X8 rfl (by decide) rfl (mm 1 rfl) dX8_tick_36 rfl rfl ?_
      refine V_iconst (v := 4) (pc := 39) F dX8_tick_39 (by decide) ?_
      refine V_dup2_11 (pc := 40) F dX8_tick_40 rfl rfl ?_
      obtain ⟨c28, hf⟩ := chk_some hf
      refine V_iald (pc := 41) F 1 rfl c28 dX8_tick_41 ?_
      refine V_iconst (v := 1) (pc := 42) F dX8_tick_42 (by decide) ?_
      refine V_isub (pc := 43) F dX8_tick_43 ?_
      obtain ⟨c29, hf⟩ := chk_some hf
      obtain ⟨f30, e31, hf⟩ := nmd_of hf
      refine V_iast (w2 := wX8 cy a (r5.1, f30, r5.2.2)) (pc := 44) F 1 rfl c29 e31 dX8_tick_44 rfl ?_
      refine V_aload_n (pc := 45) F dX8_tick_45 rfl 1 rfl ?_
      refine V_get (pc := 46) F 0 8 1 i_X8 rfl (by decide) rfl (mm 1 rfl) dX8_tick_46 rfl rfl ?_
      refine V_iconst (v := 4) (pc := 49) F dX8_tick_49 (by decide) ?_
      obtain ⟨c32, hf⟩ := chk_some hf
      refine V_iald (pc := 50) F 1 rfl c32 dX8_tick_50 ?_
      refine V_if_ne (pc := 51) (tgt := 59) F dX8_tick_51 (by decide) (fun h33 => ?_) (fun h33 => ?_)
      · replace hf := ite_neg hf h33
        obtain rfl := some_of hf
        exact V_vret F rfl dX8_tick_59 rfl
      · replace hf := ite_pos hf h33
        refine V_aload_n (pc := 54) F dX8_tick_54 rfl 1 rfl ?_
        refine V_iload_n (pc := 55) F dX8_tick_55 rfl 0 rfl ?_
        obtain ⟨r34, g35, hf⟩ := bind_of hf
        refine V_V (w2 := wX8 cy a r34) (rest := []) (st2 := []) (pc := 56) F 8 (M_X8_arrive l D cy N a (r5.1, f30, r5.2.2) (r5.2.1 (2 : Int32).toNatClampNeg) r34 g35) (cwV 1 F.ts gX8_tick_X8_arrive rfl rfl rfl hd_X8_arrive ⟨Nat.le_of_ble_eq_true rfl, Nat.le_of_ble_eq_true rfl⟩) rfl dX8_tick_56 Fit.whole fstX8 rfl rfl (Nat.le_of_ble_eq_true rfl) (Nat.zero_le _) (Nat.zero_le _) rfl rfl rfl ?_
        obtain rfl := some_of hf
        exact V_vret F rfl dX8_tick_59 rfl
  · replace hf := ite_pos hf h8
    obtain rfl := some_of hf
    exact V_vret F rfl dX8_tick_27 rfl
theorem hd_X8_run : yX8_run.cls = RX8 ∧ yX8_run.cls ≠ "java/lang/invoke/MethodHandle" ∧ yX8_run.cls ≠ "java/lang/invoke/VarHandle" ∧ (parseMethodDescriptor yX8_run.desc).map (fun d => d.parameters.length) = some 1 := by decide +kernel
def fX8_run_L34 (N : Nat) (z1 : Int32) : Nat → SX8 → Int32 → Option (SX8)
  | 0, _, _ => none
  | n + 1, v, z2 =>
    if z1 ≤ z2 then
      some v
    else
      (fX8_tick N v).bind fun r9 =>
        fX8_run_L34 N z1 n r9 (z2 + 1)
def fX8_run (N : Nat) (v : SX8) (x1 : Int32) : Option (Int32 × SX8) :=
  (fX8_in N x1 1 99).bind fun r1 =>
    if r1 = 0 then
      some (0, (1, v.2))
    else
      (fX8_save N (0, v.2)).bind fun r6 =>
        (fX8_run_L34 N x1 N r6 0).bind fun u11 =>
          (fX8_waiting N u11).bind fun r13 =>
            (fX8_bits N r13).bind fun r15 =>
              some (r15, u11)
set_option maxHeartbeats 8000000 in
set_option maxRecDepth 100000 in
theorem M_X8_run (l : Launch) (D : va_G) (cy : Nat → ClassId) (N : Nat) (a : Nat → Nat) (v : SX8) (x1 : Int32) (o : Int32 × SX8) (hf : fX8_run N v x1 = some o) : okM l yX8_run wsX8_run (rmz 5 110) D cy [.ref (a 0), .int x1] (wX8 cy a v) (wX8 cy a o.2) (some (.int o.1)) := by
  refine okM_of (own := RX8) (nme := "run") (cc := cX8_run) (maxL := 3) (ret := (some .int)) (by decide) rfl rfl rfl (Nat.le_of_ble_eq_true rfl) ?_
  intro p e s m args below meth c A F
  have i_X8 : ∀ w ∈ u_ws RX8 TX8 13, w ∈ wsX8_run := fun _ h => List.mem_cons_of_mem _ (List.mem_append_right _ h)
  have K34 : ∀ (n : Nat) (z1 : Int32) (v : SX8) (z2 : Int32) (u : SX8), fX8_run_L34 N z1 n v z2 = some u → V p l e (rmz 5 110) s m args below meth c 3 D A 0 0 (MQ below (ok_Q D (wX8 cy a o.2) (some (.int o.1)) A) args s 0 0 A) (wX8 cy a u) [(0, .ref (a 0))] [] 49 → V p l e (rmz 5 110) s m args below meth c 3 D A 0 0 (MQ below (ok_Q D (wX8 cy a o.2) (some (.int o.1)) A) args s 0 0 A) (wX8 cy a v) [(0, .ref (a 0)), (1, .int z1), (2, .int z2)] [] 34 := by
    intro n
    induction n with
    | zero =>
      intro z1 v z2 u hf hk
      exact nomatch (show (none : Option (SX8)) = some u from hf)
    | succ n ih =>
      intro z1 v z2 u hf hk
      rw [fX8_run_L34] at hf
      refine V_iload_n (pc := 34) F dX8_run_34 rfl 2 rfl ?_
      refine V_iload_n (pc := 35) F dX8_run_35 rfl 1 rfl ?_
      refine V_icmp_ge (pc := 36) (tgt := 49) F dX8_run_36 (by decide) (fun h8 => ?_) (fun h8 => ?_)
      · replace hf := ite_pos hf h8
        obtain rfl := some_of hf
        exact V.sub [0] rfl hk
      · replace hf := ite_neg hf h8
        refine V_aload_n (pc := 39) F dX8_run_39 rfl 0 rfl ?_
        obtain ⟨r9, g10, hf⟩ := bind_of hf
        refine V_V (w2 := wX8 cy a r9) (rest := []) (st2 := []) (pc := 40) F 8 (M_X8_tick l D cy N a v r9 g10) (cwV 0 F.ts gX8_run_X8_tick rfl rfl rfl hd_X8_tick ⟨Nat.le_of_ble_eq_true rfl, Nat.le_of_ble_eq_true rfl⟩) rfl dX8_run_40 Fit.whole fstX8 rfl rfl (Nat.le_of_ble_eq_true rfl) (Nat.zero_le _) (Nat.zero_le _) rfl rfl rfl ?_
        refine V_iinc (v := (z2 + 1)) (L2 := [(2, .int (z2 + 1)), (0, .ref (a 0)), (1, .int z1)]) (pc := 43) F dX8_run_43 2 rfl rfl (by decide) rfl ?_
        refine V_goto (pc := 46) (tgt := 34) F dX8_run_46 (by decide) ?_
        refine V.sub [1, 2, 0] rfl ?_
        exact ih z1 r9 (z2 + 1) _ hf hk
  unfold fX8_run at hf
  refine V.eq rfl (show lv_args 0 [.ref (a 0), .int x1] = [(0, .ref (a 0)), (1, .int x1)] from rfl) rfl ?_
  refine V_aload_n (pc := 0) F dX8_run_0 rfl 0 rfl ?_
  refine V_iload_n (pc := 1) F dX8_run_1 rfl 1 rfl ?_
  refine V_iconst (v := 1) (pc := 2) F dX8_run_2 (by decide) ?_
  refine V_bipush (v := 99) (pc := 3) F dX8_run_3 (by decide) ?_
  obtain ⟨r1, g2, hf⟩ := bind_of hf
  refine V_Sc (rest := [.ref (a 0)]) (st2 := [.int r1, .ref (a 0)]) (pc := 5) F (M_X8_in l D cy N x1 1 99 r1 g2) (va_cwS 3 F.ts gX8_run_X8_in rfl rfl rfl hd_X8_in ⟨Nat.le_of_ble_eq_true rfl, Nat.le_of_ble_eq_true rfl⟩) rfl dX8_run_5 (Nat.le_of_ble_eq_true rfl) (Nat.zero_le _) (Nat.zero_le _) rfl rfl ?_
  refine V_if_eq (pc := 8) (tgt := 15) F dX8_run_8 (by decide) (fun h3 => ?_) (fun h3 => ?_)
  · replace hf := ite_pos hf h3
    refine V_iconst (v := 1) (pc := 15) F dX8_run_15 (by decide) ?_
    refine V_put (w2 := wX8 cy a (1, v.2)) (pc := 16) F 0 8 0 i_X8 tyX8 tyX8_ok nmX8 rfl (by decide) rfl (mm 1 rfl) rfl dX8_run_16 rfl rfl rfl (Nat.le_of_ble_eq_true rfl) rfl ?_
    refine V_aload_n (pc := 19) F dX8_run_19 rfl 0 rfl ?_
    refine V_get (pc := 20) F 0 8 0 i_X8 rfl (by decide) rfl (mm 1 rfl) dX8_run_20 rfl rfl ?_
    refine V_if_le (pc := 23) (tgt := 28) F dX8_run_23 (by decide) (fun h4 => ?_) (fun h4 => ?_)
    · exact absurd h4 (show ¬ ((1 : Int32) ≤ (0 : Int32)) by decide)
    · refine V_iconst (v := 0) (pc := 26) F dX8_run_26 (by decide) ?_
      obtain rfl := some_of hf
      exact V_ret F rfl rfl dX8_run_27 rfl rfl
  · replace hf := ite_neg hf h3
    refine V_iconst (v := 0) (pc := 11) F dX8_run_11 (by decide) ?_
    refine V_goto (pc := 12) (tgt := 16) F dX8_run_12 (by decide) ?_
    refine V_put (w2 := wX8 cy a (0, v.2)) (pc := 16) F 0 8 0 i_X8 tyX8 tyX8_ok nmX8 rfl (by decide) rfl (mm 1 rfl) rfl dX8_run_16 rfl rfl rfl (Nat.le_of_ble_eq_true rfl) rfl ?_
    refine V_aload_n (pc := 19) F dX8_run_19 rfl 0 rfl ?_
    refine V_get (pc := 20) F 0 8 0 i_X8 rfl (by decide) rfl (mm 1 rfl) dX8_run_20 rfl rfl ?_
    refine V_if_le (pc := 23) (tgt := 28) F dX8_run_23 (by decide) (fun h5 => ?_) (fun h5 => ?_)
    · refine V_aload_n (pc := 28) F dX8_run_28 rfl 0 rfl ?_
      obtain ⟨r6, g7, hf⟩ := bind_of hf
      refine V_V (w2 := wX8 cy a r6) (rest := []) (st2 := []) (pc := 29) F 8 (M_X8_save l D cy N a (0, v.2) r6 g7) (cwV 0 F.ts gX8_run_X8_save rfl rfl rfl hd_X8_save ⟨Nat.le_of_ble_eq_true rfl, Nat.le_of_ble_eq_true rfl⟩) rfl dX8_run_29 Fit.whole fstX8 rfl rfl (Nat.le_of_ble_eq_true rfl) (Nat.zero_le _) (Nat.zero_le _) rfl rfl rfl ?_
      refine V_iconst (v := 0) (pc := 32) F dX8_run_32 (by decide) ?_
      refine V_istore_n (L2 := [(2, .int 0), (0, .ref (a 0)), (1, .int x1)]) (pc := 33) F dX8_run_33 rfl (by decide) rfl ?_
      refine V.sub [1, 2, 0] rfl ?_
      obtain ⟨u11, g12, hf⟩ := bind_of hf
      refine K34 N x1 r6 0 u11 g12 ?_
      refine V_aload_n (pc := 49) F dX8_run_49 rfl 0 rfl ?_
      obtain ⟨r13, g14, hf⟩ := bind_of hf
      refine V_V (w2 := wX8 cy a u11) (rest := []) (st2 := [.int r13]) (pc := 50) F 8 (M_X8_waiting l D cy N a u11 r13 g14) (cwV 0 F.ts gX8_run_X8_waiting rfl rfl rfl hd_X8_waiting ⟨Nat.le_of_ble_eq_true rfl, Nat.le_of_ble_eq_true rfl⟩) rfl dX8_run_50 Fit.whole rfl rfl rfl (Nat.le_of_ble_eq_true rfl) (Nat.zero_le _) (Nat.zero_le _) rfl rfl rfl ?_
      obtain ⟨r15, g16, hf⟩ := bind_of hf
      refine V_Sc (rest := []) (st2 := [.int r15]) (pc := 53) F (M_X8_bits l D cy N r13 r15 g16) (va_cwS 1 F.ts gX8_run_X8_bits rfl rfl rfl hd_X8_bits ⟨Nat.le_of_ble_eq_true rfl, Nat.le_of_ble_eq_true rfl⟩) rfl dX8_run_53 (Nat.le_of_ble_eq_true rfl) (Nat.zero_le _) (Nat.zero_le _) rfl rfl ?_
      obtain rfl := some_of hf
      exact V_ret F rfl rfl dX8_run_56 rfl rfl
    · exact absurd h5 (show ¬ (¬ ((0 : Int32) ≤ (0 : Int32))) by decide)
theorem hd_X8_start : yX8_start.cls = RX8 ∧ yX8_start.cls ≠ "java/lang/invoke/MethodHandle" ∧ yX8_start.cls ≠ "java/lang/invoke/VarHandle" ∧ (parseMethodDescriptor yX8_start.desc).map (fun d => d.parameters.length) = some 1 := by decide +kernel
def fX8_start_L60 (N : Nat) (z1 : Int32) : Nat → SX8 → Int32 → Option (SX8)
  | 0, _, _ => none
  | n + 1, v, z2 =>
    if 6 ≤ z2 then
      some v
    else
      chk ((13 : Int32) + z2) 143 (
        nmd (upd v.2.1 ((13 : Int32) + z2).toNatClampNeg ((-1) : Int32)) fun f22 =>
        fX8_start_L60 N z1 n (v.1, f22, v.2.2) (z2 + 1)
      )
def fX8_start (N : Nat) (v : SX8) (x1 : Int32) : Option (Int32 × SX8) :=
  (fX8_isPhase N v x1).bind fun r1 =>
    if r1 = 0 then
      some (0, (1, v.2))
    else
      (fX8_save N (0, v.2)).bind fun r6 =>
        chk 2 143 (
          nmd (upd r6.2.1 (2 : Int32).toNatClampNeg x1) fun f9 =>
          chk 3 143 (
            nmd (upd f9 (3 : Int32).toNatClampNeg (0 : Int32)) fun f12 =>
            chk 4 143 (
              nmd (upd f12 (4 : Int32).toNatClampNeg (0 : Int32)) fun f15 =>
              chk 5 143 (
                nmd (upd f15 (5 : Int32).toNatClampNeg ((-1) : Int32)) fun f18 =>
                (fX8_start_L60 N x1 N (r6.1, f18, r6.2.2) 0).bind fun u24 =>
                  (fX8_greens N u24 x1).bind fun r26 =>
                    some (r26, u24)
              )
            )
          )
        )
set_option maxHeartbeats 8000000 in
set_option maxRecDepth 100000 in
theorem M_X8_start (l : Launch) (D : va_G) (cy : Nat → ClassId) (N : Nat) (a : Nat → Nat) (v : SX8) (x1 : Int32) (o : Int32 × SX8) (hf : fX8_start N v x1 = some o) : okM l yX8_start wsX8_start (rmz 2 43) D cy [.ref (a 0), .int x1] (wX8 cy a v) (wX8 cy a o.2) (some (.int o.1)) := by
  refine okM_of (own := RX8) (nme := "start") (cc := cX8_start) (maxL := 3) (ret := (some .int)) (by decide) rfl rfl rfl (Nat.le_of_ble_eq_true rfl) ?_
  intro p e s m args below meth c A F
  have i_X8 : ∀ w ∈ u_ws RX8 TX8 13, w ∈ wsX8_start := fun _ h => List.mem_cons_of_mem _ (List.mem_append_right _ h)
  have K60 : ∀ (n : Nat) (z1 : Int32) (v : SX8) (z2 : Int32) (u : SX8), fX8_start_L60 N z1 n v z2 = some u → V p l e (rmz 2 43) s m args below meth c 3 D A 0 0 (MQ below (ok_Q D (wX8 cy a o.2) (some (.int o.1)) A) args s 0 0 A) (wX8 cy a u) [(0, .ref (a 0)), (1, .int z1)] [] 82 → V p l e (rmz 2 43) s m args below meth c 3 D A 0 0 (MQ below (ok_Q D (wX8 cy a o.2) (some (.int o.1)) A) args s 0 0 A) (wX8 cy a v) [(0, .ref (a 0)), (1, .int z1), (2, .int z2)] [] 60 := by
    intro n
    induction n with
    | zero =>
      intro z1 v z2 u hf hk
      exact nomatch (show (none : Option (SX8)) = some u from hf)
    | succ n ih =>
      intro z1 v z2 u hf hk
      rw [fX8_start_L60] at hf
      refine V_iload_n (pc := 60) F dX8_start_60 rfl 2 rfl ?_
      refine V_bipush (v := 6) (pc := 61) F dX8_start_61 (by decide) ?_
      refine V_icmp_ge (pc := 63) (tgt := 82) F dX8_start_63 (by decide) (fun h20 => ?_) (fun h20 => ?_)
      · replace hf := ite_pos hf h20
        obtain rfl := some_of hf
        exact V.sub [0, 1] rfl hk
      · replace hf := ite_neg hf h20
        refine V_aload_n (pc := 66) F dX8_start_66 rfl 0 rfl ?_
        refine V_get (pc := 67) F 0 8 1 i_X8 rfl (by decide) rfl (mm 2 rfl) dX8_start_67 rfl rfl ?_
        refine V_bipush (v := 13) (pc := 70) F dX8_start_70 (by decide) ?_
        refine V_iload_n (pc := 72) F dX8_start_72 rfl 2 rfl ?_
        refine V_iadd (pc := 73) F dX8_start_73 ?_
        refine V_iconst (v := (-1)) (pc := 74) F dX8_start_74 (by decide) ?_
        obtain ⟨c21, hf⟩ := chk_some hf
        obtain ⟨f22, e23, hf⟩ := nmd_of hf
        refine V_iast (w2 := wX8 cy a (v.1, f22, v.2.2)) (pc := 75) F 1 rfl c21 e23 dX8_start_75 rfl ?_
        refine V_iinc (v := (z2 + 1)) (L2 := [(2, .int (z2 + 1)), (0, .ref (a 0)), (1, .int z1)]) (pc := 76) F dX8_start_76 2 rfl rfl (by decide) rfl ?_
        refine V_goto (pc := 79) (tgt := 60) F dX8_start_79 (by decide) ?_
        refine V.sub [1, 2, 0] rfl ?_
        exact ih z1 (v.1, f22, v.2.2) (z2 + 1) _ hf hk
  unfold fX8_start at hf
  refine V.eq rfl (show lv_args 0 [.ref (a 0), .int x1] = [(0, .ref (a 0)), (1, .int x1)] from rfl) rfl ?_
  refine V_aload_n (pc := 0) F dX8_start_0 rfl 0 rfl ?_
  refine V_aload_n (pc := 1) F dX8_start_1 rfl 0 rfl ?_
  refine V_iload_n (pc := 2) F dX8_start_2 rfl 1 rfl ?_
  obtain ⟨r1, g2, hf⟩ := bind_of hf
  refine V_V (w2 := wX8 cy a v) (rest := [.ref (a 0)]) (st2 := [.int r1, .ref (a 0)]) (pc := 3) F 8 (M_X8_isPhase l D cy N a v x1 r1 g2) (cwV 1 F.ts gX8_start_X8_isPhase rfl rfl rfl hd_X8_isPhase ⟨Nat.le_of_ble_eq_true rfl, Nat.le_of_ble_eq_true rfl⟩) rfl dX8_start_3 Fit.whole rfl rfl rfl (Nat.le_of_ble_eq_true rfl) (Nat.zero_le _) (Nat.zero_le _) rfl rfl rfl ?_
  refine V_if_eq (pc := 6) (tgt := 13) F dX8_start_6 (by decide) (fun h3 => ?_) (fun h3 => ?_)
  · replace hf := ite_pos hf h3
    refine V_iconst (v := 1) (pc := 13) F dX8_start_13 (by decide) ?_
    refine V_put (w2 := wX8 cy a (1, v.2)) (pc := 14) F 0 8 0 i_X8 tyX8 tyX8_ok nmX8 rfl (by decide) rfl (mm 1 rfl) rfl dX8_start_14 rfl rfl rfl (Nat.le_of_ble_eq_true rfl) rfl ?_
    refine V_aload_n (pc := 17) F dX8_start_17 rfl 0 rfl ?_
    refine V_get (pc := 18) F 0 8 0 i_X8 rfl (by decide) rfl (mm 1 rfl) dX8_start_18 rfl rfl ?_
    refine V_if_le (pc := 21) (tgt := 26) F dX8_start_21 (by decide) (fun h4 => ?_) (fun h4 => ?_)
    · exact absurd h4 (show ¬ ((1 : Int32) ≤ (0 : Int32)) by decide)
    · refine V_iconst (v := 0) (pc := 24) F dX8_start_24 (by decide) ?_
      obtain rfl := some_of hf
      exact V_ret F rfl rfl dX8_start_25 rfl rfl
  · replace hf := ite_neg hf h3
    refine V_iconst (v := 0) (pc := 9) F dX8_start_9 (by decide) ?_
    refine V_goto (pc := 10) (tgt := 14) F dX8_start_10 (by decide) ?_
    refine V_put (w2 := wX8 cy a (0, v.2)) (pc := 14) F 0 8 0 i_X8 tyX8 tyX8_ok nmX8 rfl (by decide) rfl (mm 1 rfl) rfl dX8_start_14 rfl rfl rfl (Nat.le_of_ble_eq_true rfl) rfl ?_
    refine V_aload_n (pc := 17) F dX8_start_17 rfl 0 rfl ?_
    refine V_get (pc := 18) F 0 8 0 i_X8 rfl (by decide) rfl (mm 1 rfl) dX8_start_18 rfl rfl ?_
    refine V_if_le (pc := 21) (tgt := 26) F dX8_start_21 (by decide) (fun h5 => ?_) (fun h5 => ?_)
    · refine V_aload_n (pc := 26) F dX8_start_26 rfl 0 rfl ?_
      obtain ⟨r6, g7, hf⟩ := bind_of hf
      refine V_V (w2 := wX8 cy a r6) (rest := []) (st2 := []) (pc := 27) F 8 (M_X8_save l D cy N a (0, v.2) r6 g7) (cwV 0 F.ts gX8_start_X8_save rfl rfl rfl hd_X8_save ⟨Nat.le_of_ble_eq_true rfl, Nat.le_of_ble_eq_true rfl⟩) rfl dX8_start_27 Fit.whole fstX8 rfl rfl (Nat.le_of_ble_eq_true rfl) (Nat.zero_le _) (Nat.zero_le _) rfl rfl rfl ?_
      refine V_aload_n (pc := 30) F dX8_start_30 rfl 0 rfl ?_
      refine V_get (pc := 31) F 0 8 1 i_X8 rfl (by decide) rfl (mm 2 rfl) dX8_start_31 rfl rfl ?_
      refine V_iconst (v := 2) (pc := 34) F dX8_start_34 (by decide) ?_
      refine V_iload_n (pc := 35) F dX8_start_35 rfl 1 rfl ?_
      obtain ⟨c8, hf⟩ := chk_some hf
      obtain ⟨f9, e10, hf⟩ := nmd_of hf
      refine V_iast (w2 := wX8 cy a (r6.1, f9, r6.2.2)) (pc := 36) F 1 rfl c8 e10 dX8_start_36 rfl ?_
      refine V_aload_n (pc := 37) F dX8_start_37 rfl 0 rfl ?_
      refine V_get (pc := 38) F 0 8 1 i_X8 rfl (by decide) rfl (mm 2 rfl) dX8_start_38 rfl rfl ?_
      refine V_iconst (v := 3) (pc := 41) F dX8_start_41 (by decide) ?_
      refine V_iconst (v := 0) (pc := 42) F dX8_start_42 (by decide) ?_
      obtain ⟨c11, hf⟩ := chk_some hf
      obtain ⟨f12, e13, hf⟩ := nmd_of hf
      refine V_iast (w2 := wX8 cy a (r6.1, f12, r6.2.2)) (pc := 43) F 1 rfl c11 e13 dX8_start_43 rfl ?_
      refine V_aload_n (pc := 44) F dX8_start_44 rfl 0 rfl ?_
      refine V_get (pc := 45) F 0 8 1 i_X8 rfl (by decide) rfl (mm 2 rfl) dX8_start_45 rfl rfl ?_
      refine V_iconst (v := 4) (pc := 48) F dX8_start_48 (by decide) ?_
      refine V_iconst (v := 0) (pc := 49) F dX8_start_49 (by decide) ?_
      obtain ⟨c14, hf⟩ := chk_some hf
      obtain ⟨f15, e16, hf⟩ := nmd_of hf
      refine V_iast (w2 := wX8 cy a (r6.1, f15, r6.2.2)) (pc := 50) F 1 rfl c14 e16 dX8_start_50 rfl ?_
      refine V_aload_n (pc := 51) F dX8_start_51 rfl 0 rfl ?_
      refine V_get (pc := 52) F 0 8 1 i_X8 rfl (by decide) rfl (mm 2 rfl) dX8_start_52 rfl rfl ?_
      refine V_iconst (v := 5) (pc := 55) F dX8_start_55 (by decide) ?_
      refine V_iconst (v := (-1)) (pc := 56) F dX8_start_56 (by decide) ?_
      obtain ⟨c17, hf⟩ := chk_some hf
      obtain ⟨f18, e19, hf⟩ := nmd_of hf
      refine V_iast (w2 := wX8 cy a (r6.1, f18, r6.2.2)) (pc := 57) F 1 rfl c17 e19 dX8_start_57 rfl ?_
      refine V_iconst (v := 0) (pc := 58) F dX8_start_58 (by decide) ?_
      refine V_istore_n (L2 := [(2, .int 0), (0, .ref (a 0)), (1, .int x1)]) (pc := 59) F dX8_start_59 rfl (by decide) rfl ?_
      refine V.sub [1, 2, 0] rfl ?_
      obtain ⟨u24, g25, hf⟩ := bind_of hf
      refine K60 N x1 (r6.1, f18, r6.2.2) 0 u24 g25 ?_
      refine V_aload_n (pc := 82) F dX8_start_82 rfl 0 rfl ?_
      refine V_iload_n (pc := 83) F dX8_start_83 rfl 1 rfl ?_
      obtain ⟨r26, g27, hf⟩ := bind_of hf
      refine V_V (w2 := wX8 cy a u24) (rest := []) (st2 := [.int r26]) (pc := 84) F 8 (M_X8_greens l D cy N a u24 x1 r26 g27) (cwV 1 F.ts gX8_start_X8_greens rfl rfl rfl hd_X8_greens ⟨Nat.le_of_ble_eq_true rfl, Nat.le_of_ble_eq_true rfl⟩) rfl dX8_start_84 Fit.whole rfl rfl rfl (Nat.le_of_ble_eq_true rfl) (Nat.zero_le _) (Nat.zero_le _) rfl rfl rfl ?_
      obtain rfl := some_of hf
      exact V_ret F rfl rfl dX8_start_87 rfl rfl
    · exact absurd h5 (show ¬ (¬ ((0 : Int32) ≤ (0 : Int32))) by decide)
theorem hd_X8_append : yX8_append.cls = RX8 ∧ yX8_append.cls ≠ "java/lang/invoke/MethodHandle" ∧ yX8_append.cls ≠ "java/lang/invoke/VarHandle" ∧ (parseMethodDescriptor yX8_append.desc).map (fun d => d.parameters.length) = some 1 := by decide +kernel
def fX8_append (N : Nat) (v : SX8) (x1 : Int32) : Option (Int32 × SX8) :=
  (fX8_in N x1 33 126).bind fun r1 =>
    if r1 = 0 then
      some (0, (1, v.2))
    else
      if v.2.2.2.2.2.1 = 60 then
        some (0, (2, v.2))
      else
        chk v.2.2.2.2.2.1 60 (
          nmd (upd v.2.2.2.2.1 v.2.2.2.2.2.1.toNatClampNeg x1) fun f7 =>
          some ((v.2.2.2.2.2.1 + 1), (0, v.2.1, v.2.2.1, v.2.2.2.1, f7, (v.2.2.2.2.2.1 + 1), v.2.2.2.2.2.2))
        )
set_option maxHeartbeats 8000000 in
set_option maxRecDepth 100000 in
theorem M_X8_append (l : Launch) (D : va_G) (cy : Nat → ClassId) (N : Nat) (a : Nat → Nat) (v : SX8) (x1 : Int32) (o : Int32 × SX8) (hf : fX8_append N v x1 = some o) : okM l yX8_append wsX8_append (rmz 1 22) D cy [.ref (a 0), .int x1] (wX8 cy a v) (wX8 cy a o.2) (some (.int o.1)) := by
  refine okM_of (own := RX8) (nme := "append") (cc := cX8_append) (maxL := 2) (ret := (some .int)) (by decide) rfl rfl rfl (Nat.le_of_ble_eq_true rfl) ?_
  intro p e s m args below meth c A F
  have i_X8 : ∀ w ∈ u_ws RX8 TX8 13, w ∈ wsX8_append := fun _ h => List.mem_cons_of_mem _ (List.mem_append_right _ h)
  unfold fX8_append at hf
  refine V.eq rfl (show lv_args 0 [.ref (a 0), .int x1] = [(0, .ref (a 0)), (1, .int x1)] from rfl) rfl ?_
  refine V_aload_n (pc := 0) F dX8_append_0 rfl 0 rfl ?_
  refine V_iload_n (pc := 1) F dX8_append_1 rfl 1 rfl ?_
  refine V_bipush (v := 33) (pc := 2) F dX8_append_2 (by decide) ?_
  refine V_bipush (v := 126) (pc := 4) F dX8_append_4 (by decide) ?_
  obtain ⟨r1, g2, hf⟩ := bind_of hf
  refine V_Sc (rest := [.ref (a 0)]) (st2 := [.int r1, .ref (a 0)]) (pc := 6) F (M_X8_in l D cy N x1 33 126 r1 g2) (va_cwS 3 F.ts gX8_append_X8_in rfl rfl rfl hd_X8_in ⟨Nat.le_of_ble_eq_true rfl, Nat.le_of_ble_eq_true rfl⟩) rfl dX8_append_6 (Nat.le_of_ble_eq_true rfl) (Nat.zero_le _) (Nat.zero_le _) rfl rfl ?_
  refine V_if_ne (pc := 9) (tgt := 16) F dX8_append_9 (by decide) (fun h3 => ?_) (fun h3 => ?_)
  · replace hf := ite_neg hf h3
    refine V_aload_n (pc := 16) F dX8_append_16 rfl 0 rfl ?_
    refine V_get (pc := 17) F 0 8 5 i_X8 rfl (by decide) rfl (mm 1 rfl) dX8_append_17 rfl rfl ?_
    refine V_bipush (v := 60) (pc := 20) F dX8_append_20 (by decide) ?_
    refine V_icmp_ne (pc := 22) (tgt := 29) F dX8_append_22 (by decide) (fun h4 => ?_) (fun h4 => ?_)
    · replace hf := ite_neg hf h4
      refine V_iconst (v := 0) (pc := 29) F dX8_append_29 (by decide) ?_
      refine V_put (w2 := wX8 cy a (0, v.2)) (pc := 30) F 0 8 0 i_X8 tyX8 tyX8_ok nmX8 rfl (by decide) rfl (mm 2 rfl) rfl dX8_append_30 rfl rfl rfl (Nat.le_of_ble_eq_true rfl) rfl ?_
      refine V_aload_n (pc := 33) F dX8_append_33 rfl 0 rfl ?_
      refine V_get (pc := 34) F 0 8 0 i_X8 rfl (by decide) rfl (mm 2 rfl) dX8_append_34 rfl rfl ?_
      refine V_if_le (pc := 37) (tgt := 42) F dX8_append_37 (by decide) (fun h5 => ?_) (fun h5 => ?_)
      · refine V_aload_n (pc := 42) F dX8_append_42 rfl 0 rfl ?_
        refine V_get (pc := 43) F 0 8 4 i_X8 rfl (by decide) rfl (mm 3 rfl) dX8_append_43 rfl rfl ?_
        refine V_aload_n (pc := 46) F dX8_append_46 rfl 0 rfl ?_
        refine V_get (pc := 47) F 0 8 5 i_X8 rfl (by decide) rfl (mm 1 rfl) dX8_append_47 rfl rfl ?_
        refine V_iload_n (pc := 50) F dX8_append_50 rfl 1 rfl ?_
        obtain ⟨c6, hf⟩ := chk_some hf
        obtain ⟨f7, e8, hf⟩ := nmd_of hf
        refine V_iast (w2 := wX8 cy a (0, v.2.1, v.2.2.1, v.2.2.2.1, f7, v.2.2.2.2.2)) (pc := 51) F 3 rfl c6 e8 dX8_append_51 rfl ?_
        refine V_aload_n (pc := 52) F dX8_append_52 rfl 0 rfl ?_
        refine V_dup (pc := 53) F dX8_append_53 rfl ?_
        refine V_get (pc := 54) F 0 8 5 i_X8 rfl (by decide) rfl (mm 1 rfl) dX8_append_54 rfl rfl ?_
        refine V_iconst (v := 1) (pc := 57) F dX8_append_57 (by decide) ?_
        refine V_iadd (pc := 58) F dX8_append_58 ?_
        refine V_put (w2 := wX8 cy a (0, v.2.1, v.2.2.1, v.2.2.2.1, f7, (v.2.2.2.2.2.1 + 1), v.2.2.2.2.2.2)) (pc := 59) F 0 8 5 i_X8 tyX8 tyX8_ok nmX8 rfl (by decide) rfl (mm 1 rfl) rfl dX8_append_59 rfl rfl rfl (Nat.le_of_ble_eq_true rfl) rfl ?_
        refine V_aload_n (pc := 62) F dX8_append_62 rfl 0 rfl ?_
        refine V_get (pc := 63) F 0 8 5 i_X8 rfl (by decide) rfl (mm 1 rfl) dX8_append_63 rfl rfl ?_
        obtain rfl := some_of hf
        exact V_ret F rfl rfl dX8_append_66 rfl rfl
      · exact absurd h5 (show ¬ (¬ ((0 : Int32) ≤ (0 : Int32))) by decide)
    · replace hf := ite_pos hf h4
      refine V_iconst (v := 2) (pc := 25) F dX8_append_25 (by decide) ?_
      refine V_goto (pc := 26) (tgt := 30) F dX8_append_26 (by decide) ?_
      refine V_put (w2 := wX8 cy a (2, v.2)) (pc := 30) F 0 8 0 i_X8 tyX8 tyX8_ok nmX8 rfl (by decide) rfl (mm 2 rfl) rfl dX8_append_30 rfl rfl rfl (Nat.le_of_ble_eq_true rfl) rfl ?_
      refine V_aload_n (pc := 33) F dX8_append_33 rfl 0 rfl ?_
      refine V_get (pc := 34) F 0 8 0 i_X8 rfl (by decide) rfl (mm 2 rfl) dX8_append_34 rfl rfl ?_
      refine V_if_le (pc := 37) (tgt := 42) F dX8_append_37 (by decide) (fun h9 => ?_) (fun h9 => ?_)
      · exact absurd h9 (show ¬ ((2 : Int32) ≤ (0 : Int32)) by decide)
      · refine V_iconst (v := 0) (pc := 40) F dX8_append_40 (by decide) ?_
        obtain rfl := some_of hf
        exact V_ret F rfl rfl dX8_append_41 rfl rfl
  · replace hf := ite_pos hf h3
    refine V_iconst (v := 1) (pc := 12) F dX8_append_12 (by decide) ?_
    refine V_goto (pc := 13) (tgt := 30) F dX8_append_13 (by decide) ?_
    refine V_put (w2 := wX8 cy a (1, v.2)) (pc := 30) F 0 8 0 i_X8 tyX8 tyX8_ok nmX8 rfl (by decide) rfl (mm 2 rfl) rfl dX8_append_30 rfl rfl rfl (Nat.le_of_ble_eq_true rfl) rfl ?_
    refine V_aload_n (pc := 33) F dX8_append_33 rfl 0 rfl ?_
    refine V_get (pc := 34) F 0 8 0 i_X8 rfl (by decide) rfl (mm 2 rfl) dX8_append_34 rfl rfl ?_
    refine V_if_le (pc := 37) (tgt := 42) F dX8_append_37 (by decide) (fun h10 => ?_) (fun h10 => ?_)
    · exact absurd h10 (show ¬ ((1 : Int32) ≤ (0 : Int32)) by decide)
    · refine V_iconst (v := 0) (pc := 40) F dX8_append_40 (by decide) ?_
      obtain rfl := some_of hf
      exact V_ret F rfl rfl dX8_append_41 rfl rfl
theorem hd_X8_clearBuffer : yX8_clearBuffer.cls = RX8 ∧ yX8_clearBuffer.cls ≠ "java/lang/invoke/MethodHandle" ∧ yX8_clearBuffer.cls ≠ "java/lang/invoke/VarHandle" ∧ (parseMethodDescriptor yX8_clearBuffer.desc).map (fun d => d.parameters.length) = some 0 := by decide +kernel
def fX8_clearBuffer (N : Nat) (v : SX8) : Option (Int32 × SX8) :=
  some (v.2.2.2.2.2.1, (0, v.2.1, v.2.2.1, v.2.2.2.1, v.2.2.2.2.1, 0, v.2.2.2.2.2.2))
set_option maxHeartbeats 8000000 in
set_option maxRecDepth 100000 in
theorem M_X8_clearBuffer (l : Launch) (D : va_G) (cy : Nat → ClassId) (N : Nat) (a : Nat → Nat) (v : SX8) (o : Int32 × SX8) (hf : fX8_clearBuffer N v = some o) : okM l yX8_clearBuffer wsX8_clearBuffer (rmz 0 0) D cy [.ref (a 0)] (wX8 cy a v) (wX8 cy a o.2) (some (.int o.1)) := by
  refine okM_of (own := RX8) (nme := "clearBuffer") (cc := cX8_clearBuffer) (maxL := 2) (ret := (some .int)) (by decide) rfl rfl rfl (Nat.le_of_ble_eq_true rfl) ?_
  intro p e s m args below meth c A F
  have i_X8 : ∀ w ∈ u_ws RX8 TX8 13, w ∈ wsX8_clearBuffer := fun _ h => List.mem_cons_of_mem _ (List.mem_append_right _ h)
  unfold fX8_clearBuffer at hf
  refine V.eq rfl (show lv_args 0 [.ref (a 0)] = [(0, .ref (a 0))] from rfl) rfl ?_
  refine V_aload_n (pc := 0) F dX8_clearBuffer_0 rfl 0 rfl ?_
  refine V_iconst (v := 0) (pc := 1) F dX8_clearBuffer_1 (by decide) ?_
  refine V_put (w2 := wX8 cy a (0, v.2)) (pc := 2) F 0 8 0 i_X8 tyX8 tyX8_ok nmX8 rfl (by decide) rfl (mm 1 rfl) rfl dX8_clearBuffer_2 rfl rfl rfl (Nat.le_of_ble_eq_true rfl) rfl ?_
  refine V_aload_n (pc := 5) F dX8_clearBuffer_5 rfl 0 rfl ?_
  refine V_get (pc := 6) F 0 8 5 i_X8 rfl (by decide) rfl (mm 2 rfl) dX8_clearBuffer_6 rfl rfl ?_
  refine V_istore_n (L2 := [(1, .int v.2.2.2.2.2.1), (0, .ref (a 0))]) (pc := 9) F dX8_clearBuffer_9 rfl (by decide) rfl ?_
  refine V_aload_n (pc := 10) F dX8_clearBuffer_10 rfl 1 rfl ?_
  refine V_iconst (v := 0) (pc := 11) F dX8_clearBuffer_11 (by decide) ?_
  refine V_put (w2 := wX8 cy a (0, v.2.1, v.2.2.1, v.2.2.2.1, v.2.2.2.2.1, 0, v.2.2.2.2.2.2)) (pc := 12) F 0 8 5 i_X8 tyX8 tyX8_ok nmX8 rfl (by decide) rfl (mm 2 rfl) rfl dX8_clearBuffer_12 rfl rfl rfl (Nat.le_of_ble_eq_true rfl) rfl ?_
  refine V_iload_n (pc := 15) F dX8_clearBuffer_15 rfl 0 rfl ?_
  obtain rfl := some_of hf
  exact V_ret F rfl rfl dX8_clearBuffer_16 rfl rfl
theorem hd_X8_letter : yX8_letter.cls = RX8 ∧ yX8_letter.cls ≠ "java/lang/invoke/MethodHandle" ∧ yX8_letter.cls ≠ "java/lang/invoke/VarHandle" ∧ (parseMethodDescriptor yX8_letter.desc).map (fun d => d.parameters.length) = some 0 := by decide +kernel
def fX8_letter (N : Nat) (v : SX8) : Option (Int32) :=
  if v.2.2.2.2.2.1 ≤ v.2.2.2.2.2.2.2.2.1 then
    some (-1)
  else
    chk v.2.2.2.2.2.2.2.2.1 60 (
      some (v.2.2.2.2.1 v.2.2.2.2.2.2.2.2.1.toNatClampNeg)
    )
set_option maxHeartbeats 8000000 in
set_option maxRecDepth 100000 in
theorem M_X8_letter (l : Launch) (D : va_G) (cy : Nat → ClassId) (N : Nat) (a : Nat → Nat) (v : SX8) (o : Int32) (hf : fX8_letter N v = some o) : okM l yX8_letter wsX8_letter (rmz 0 0) D cy [.ref (a 0)] (wX8 cy a v) (wX8 cy a v) (some (.int o)) := by
  refine okM_of (own := RX8) (nme := "letter") (cc := cX8_letter) (maxL := 1) (ret := (some .int)) (by decide) rfl rfl rfl (Nat.le_of_ble_eq_true rfl) ?_
  intro p e s m args below meth c A F
  have i_X8 : ∀ w ∈ u_ws RX8 TX8 13, w ∈ wsX8_letter := fun _ h => List.mem_cons_of_mem _ (List.mem_append_right _ h)
  unfold fX8_letter at hf
  refine V.eq rfl (show lv_args 0 [.ref (a 0)] = [(0, .ref (a 0))] from rfl) rfl ?_
  refine V_aload_n (pc := 0) F dX8_letter_0 rfl 0 rfl ?_
  refine V_get (pc := 1) F 0 8 8 i_X8 rfl (by decide) rfl (mm 1 rfl) dX8_letter_1 rfl rfl ?_
  refine V_aload_n (pc := 4) F dX8_letter_4 rfl 0 rfl ?_
  refine V_get (pc := 5) F 0 8 5 i_X8 rfl (by decide) rfl (mm 2 rfl) dX8_letter_5 rfl rfl ?_
  refine V_icmp_ge (pc := 8) (tgt := 23) F dX8_letter_8 (by decide) (fun h1 => ?_) (fun h1 => ?_)
  · replace hf := ite_pos hf h1
    refine V_iconst (v := (-1)) (pc := 23) F dX8_letter_23 (by decide) ?_
    obtain rfl := some_of hf
    exact V_ret F rfl rfl dX8_letter_24 rfl rfl
  · replace hf := ite_neg hf h1
    refine V_aload_n (pc := 11) F dX8_letter_11 rfl 0 rfl ?_
    refine V_get (pc := 12) F 0 8 4 i_X8 rfl (by decide) rfl (mm 3 rfl) dX8_letter_12 rfl rfl ?_
    refine V_aload_n (pc := 15) F dX8_letter_15 rfl 0 rfl ?_
    refine V_get (pc := 16) F 0 8 8 i_X8 rfl (by decide) rfl (mm 1 rfl) dX8_letter_16 rfl rfl ?_
    obtain ⟨c2, hf⟩ := chk_some hf
    refine V_iald (pc := 19) F 3 rfl c2 dX8_letter_19 ?_
    refine V_goto (pc := 20) (tgt := 24) F dX8_letter_20 (by decide) ?_
    obtain rfl := some_of hf
    exact V_ret F rfl rfl dX8_letter_24 rfl rfl
theorem hd_X8_wants : yX8_wants.cls = RX8 ∧ yX8_wants.cls ≠ "java/lang/invoke/MethodHandle" ∧ yX8_wants.cls ≠ "java/lang/invoke/VarHandle" ∧ (parseMethodDescriptor yX8_wants.desc).map (fun d => d.parameters.length) = some 1 := by decide +kernel
def fX8_wants (N : Nat) (v : SX8) (x1 : Int32) : Option (SX8) :=
  if v.2.2.2.2.2.2.2.2.2.1 = (-1) then
    if x1 = 0 then
      some (v.1, v.2.1, v.2.2.1, v.2.2.2.1, v.2.2.2.2.1, v.2.2.2.2.2.1, v.2.2.2.2.2.2.1, v.2.2.2.2.2.2.2.1, (v.2.2.2.2.2.2.2.2.1 + 1), v.2.2.2.2.2.2.2.2.1, v.2.2.2.2.2.2.2.2.2.2)
    else
      some (v.1, v.2.1, v.2.2.1, v.2.2.2.1, v.2.2.2.2.1, v.2.2.2.2.2.1, v.2.2.2.2.2.2.1, v.2.2.2.2.2.2.2.1, (v.2.2.2.2.2.2.2.2.1 + 1), (-1), v.2.2.2.2.2.2.2.2.2.2)
  else
    some v
set_option maxHeartbeats 8000000 in
set_option maxRecDepth 100000 in
theorem M_X8_wants (l : Launch) (D : va_G) (cy : Nat → ClassId) (N : Nat) (a : Nat → Nat) (v : SX8) (x1 : Int32) (o : SX8) (hf : fX8_wants N v x1 = some o) : okM l yX8_wants wsX8_wants (rmz 0 0) D cy [.ref (a 0), .int x1] (wX8 cy a v) (wX8 cy a o) none := by
  refine okM_of (own := RX8) (nme := "wants") (cc := cX8_wants) (maxL := 2) (ret := none) (by decide) rfl rfl rfl (Nat.le_of_ble_eq_true rfl) ?_
  intro p e s m args below meth c A F
  have i_X8 : ∀ w ∈ u_ws RX8 TX8 13, w ∈ wsX8_wants := fun _ h => List.mem_cons_of_mem _ (List.mem_append_right _ h)
  unfold fX8_wants at hf
  refine V.eq rfl (show lv_args 0 [.ref (a 0), .int x1] = [(0, .ref (a 0)), (1, .int x1)] from rfl) rfl ?_
  refine V_aload_n (pc := 0) F dX8_wants_0 rfl 0 rfl ?_
  refine V_get (pc := 1) F 0 8 9 i_X8 rfl (by decide) rfl (mm 1 rfl) dX8_wants_1 rfl rfl ?_
  refine V_iconst (v := (-1)) (pc := 4) F dX8_wants_4 (by decide) ?_
  refine V_icmp_ne (pc := 5) (tgt := 34) F dX8_wants_5 (by decide) (fun h1 => ?_) (fun h1 => ?_)
  · replace hf := ite_neg hf h1
    obtain rfl := some_of hf
    exact V_vret F rfl dX8_wants_34 rfl
  · replace hf := ite_pos hf h1
    refine V_aload_n (pc := 8) F dX8_wants_8 rfl 0 rfl ?_
    refine V_iload_n (pc := 9) F dX8_wants_9 rfl 1 rfl ?_
    refine V_if_eq (pc := 10) (tgt := 17) F dX8_wants_10 (by decide) (fun h2 => ?_) (fun h2 => ?_)
    · replace hf := ite_pos hf h2
      refine V_aload_n (pc := 17) F dX8_wants_17 rfl 0 rfl ?_
      refine V_get (pc := 18) F 0 8 8 i_X8 rfl (by decide) rfl (mm 2 rfl) dX8_wants_18 rfl rfl ?_
      refine V_put (w2 := wX8 cy a (v.1, v.2.1, v.2.2.1, v.2.2.2.1, v.2.2.2.2.1, v.2.2.2.2.2.1, v.2.2.2.2.2.2.1, v.2.2.2.2.2.2.2.1, v.2.2.2.2.2.2.2.2.1, v.2.2.2.2.2.2.2.2.1, v.2.2.2.2.2.2.2.2.2.2)) (pc := 21) F 0 8 9 i_X8 tyX8 tyX8_ok nmX8 rfl (by decide) rfl (mm 1 rfl) rfl dX8_wants_21 rfl rfl rfl (Nat.le_of_ble_eq_true rfl) rfl ?_
      refine V_aload_n (pc := 24) F dX8_wants_24 rfl 0 rfl ?_
      refine V_dup (pc := 25) F dX8_wants_25 rfl ?_
      refine V_get (pc := 26) F 0 8 8 i_X8 rfl (by decide) rfl (mm 2 rfl) dX8_wants_26 rfl rfl ?_
      refine V_iconst (v := 1) (pc := 29) F dX8_wants_29 (by decide) ?_
      refine V_iadd (pc := 30) F dX8_wants_30 ?_
      refine V_put (w2 := wX8 cy a (v.1, v.2.1, v.2.2.1, v.2.2.2.1, v.2.2.2.2.1, v.2.2.2.2.2.1, v.2.2.2.2.2.2.1, v.2.2.2.2.2.2.2.1, (v.2.2.2.2.2.2.2.2.1 + 1), v.2.2.2.2.2.2.2.2.1, v.2.2.2.2.2.2.2.2.2.2)) (pc := 31) F 0 8 8 i_X8 tyX8 tyX8_ok nmX8 rfl (by decide) rfl (mm 2 rfl) rfl dX8_wants_31 rfl rfl rfl (Nat.le_of_ble_eq_true rfl) rfl ?_
      obtain rfl := some_of hf
      exact V_vret F rfl dX8_wants_34 rfl
    · replace hf := ite_neg hf h2
      refine V_iconst (v := (-1)) (pc := 13) F dX8_wants_13 (by decide) ?_
      refine V_goto (pc := 14) (tgt := 21) F dX8_wants_14 (by decide) ?_
      refine V_put (w2 := wX8 cy a (v.1, v.2.1, v.2.2.1, v.2.2.2.1, v.2.2.2.2.1, v.2.2.2.2.2.1, v.2.2.2.2.2.2.1, v.2.2.2.2.2.2.2.1, v.2.2.2.2.2.2.2.2.1, (-1), v.2.2.2.2.2.2.2.2.2.2)) (pc := 21) F 0 8 9 i_X8 tyX8 tyX8_ok nmX8 rfl (by decide) rfl (mm 1 rfl) rfl dX8_wants_21 rfl rfl rfl (Nat.le_of_ble_eq_true rfl) rfl ?_
      refine V_aload_n (pc := 24) F dX8_wants_24 rfl 0 rfl ?_
      refine V_dup (pc := 25) F dX8_wants_25 rfl ?_
      refine V_get (pc := 26) F 0 8 8 i_X8 rfl (by decide) rfl (mm 2 rfl) dX8_wants_26 rfl rfl ?_
      refine V_iconst (v := 1) (pc := 29) F dX8_wants_29 (by decide) ?_
      refine V_iadd (pc := 30) F dX8_wants_30 ?_
      refine V_put (w2 := wX8 cy a (v.1, v.2.1, v.2.2.1, v.2.2.2.1, v.2.2.2.2.1, v.2.2.2.2.2.1, v.2.2.2.2.2.2.1, v.2.2.2.2.2.2.2.1, (v.2.2.2.2.2.2.2.2.1 + 1), (-1), v.2.2.2.2.2.2.2.2.2.2)) (pc := 31) F 0 8 8 i_X8 tyX8 tyX8_ok nmX8 rfl (by decide) rfl (mm 2 rfl) rfl dX8_wants_31 rfl rfl rfl (Nat.le_of_ble_eq_true rfl) rfl ?_
      obtain rfl := some_of hf
      exact V_vret F rfl dX8_wants_34 rfl
theorem hd_X8_digit : yX8_digit.cls = RX8 ∧ yX8_digit.cls ≠ "java/lang/invoke/MethodHandle" ∧ yX8_digit.cls ≠ "java/lang/invoke/VarHandle" ∧ (parseMethodDescriptor yX8_digit.desc).map (fun d => d.parameters.length) = some 2 := by decide +kernel
def fX8_digit (N : Nat) (v : SX8) (x1 : Int32) (x2 : Int32) : Option (Int32 × SX8) :=
  (fX8_letter N v).bind fun r1 =>
    (fX8_in N (r1 - 48) x1 x2).bind fun r3 =>
      (fX8_wants N v r3).bind fun r5 =>
        some ((r1 - 48), r5)
set_option maxHeartbeats 8000000 in
set_option maxRecDepth 100000 in
theorem M_X8_digit (l : Launch) (D : va_G) (cy : Nat → ClassId) (N : Nat) (a : Nat → Nat) (v : SX8) (x1 : Int32) (x2 : Int32) (o : Int32 × SX8) (hf : fX8_digit N v x1 x2 = some o) : okM l yX8_digit wsX8_digit (rmz 1 22) D cy [.ref (a 0), .int x1, .int x2] (wX8 cy a v) (wX8 cy a o.2) (some (.int o.1)) := by
  refine okM_of (own := RX8) (nme := "digit") (cc := cX8_digit) (maxL := 4) (ret := (some .int)) (by decide) rfl rfl rfl (Nat.le_of_ble_eq_true rfl) ?_
  intro p e s m args below meth c A F
  unfold fX8_digit at hf
  refine V.eq rfl (show lv_args 0 [.ref (a 0), .int x1, .int x2] = [(0, .ref (a 0)), (1, .int x1), (2, .int x2)] from rfl) rfl ?_
  refine V_aload_n (pc := 0) F dX8_digit_0 rfl 0 rfl ?_
  obtain ⟨r1, g2, hf⟩ := bind_of hf
  refine V_V (w2 := wX8 cy a v) (rest := []) (st2 := [.int r1]) (pc := 1) F 8 (M_X8_letter l D cy N a v r1 g2) (cwV 0 F.ts gX8_digit_X8_letter rfl rfl rfl hd_X8_letter ⟨Nat.le_of_ble_eq_true rfl, Nat.le_of_ble_eq_true rfl⟩) rfl dX8_digit_1 Fit.whole rfl rfl rfl (Nat.le_of_ble_eq_true rfl) (Nat.zero_le _) (Nat.zero_le _) rfl rfl rfl ?_
  refine V_bipush (v := 48) (pc := 4) F dX8_digit_4 (by decide) ?_
  refine V_isub (pc := 6) F dX8_digit_6 ?_
  refine V_istore_n (L2 := [(3, .int (r1 - 48)), (0, .ref (a 0)), (1, .int x1), (2, .int x2)]) (pc := 7) F dX8_digit_7 rfl (by decide) rfl ?_
  refine V_aload_n (pc := 8) F dX8_digit_8 rfl 1 rfl ?_
  refine V_iload_n (pc := 9) F dX8_digit_9 rfl 0 rfl ?_
  refine V_iload_n (pc := 10) F dX8_digit_10 rfl 2 rfl ?_
  refine V_iload_n (pc := 11) F dX8_digit_11 rfl 3 rfl ?_
  obtain ⟨r3, g4, hf⟩ := bind_of hf
  refine V_Sc (rest := [.ref (a 0)]) (st2 := [.int r3, .ref (a 0)]) (pc := 12) F (M_X8_in l D cy N (r1 - 48) x1 x2 r3 g4) (va_cwS 3 F.ts gX8_digit_X8_in rfl rfl rfl hd_X8_in ⟨Nat.le_of_ble_eq_true rfl, Nat.le_of_ble_eq_true rfl⟩) rfl dX8_digit_12 (Nat.le_of_ble_eq_true rfl) (Nat.zero_le _) (Nat.zero_le _) rfl rfl ?_
  obtain ⟨r5, g6, hf⟩ := bind_of hf
  refine V_V (w2 := wX8 cy a r5) (rest := []) (st2 := []) (pc := 15) F 8 (M_X8_wants l D cy N a v r3 r5 g6) (cwV 1 F.ts gX8_digit_X8_wants rfl rfl rfl hd_X8_wants ⟨Nat.le_of_ble_eq_true rfl, Nat.le_of_ble_eq_true rfl⟩) rfl dX8_digit_15 Fit.whole fstX8 rfl rfl (Nat.le_of_ble_eq_true rfl) (Nat.zero_le _) (Nat.zero_le _) rfl rfl rfl ?_
  refine V_iload_n (pc := 18) F dX8_digit_18 rfl 0 rfl ?_
  obtain rfl := some_of hf
  exact V_ret F rfl rfl dX8_digit_19 rfl rfl
theorem hd_X8_directions : yX8_directions.cls = RX8 ∧ yX8_directions.cls ≠ "java/lang/invoke/MethodHandle" ∧ yX8_directions.cls ≠ "java/lang/invoke/VarHandle" ∧ (parseMethodDescriptor yX8_directions.desc).map (fun d => d.parameters.length) = some 0 := by decide +kernel
def fX8_directions_L4 (N : Nat)  : Nat → SX8 → Int32 → Int32 → Option (SX8 × Int32)
  | 0, _, _, _ => none
  | n + 1, v, z1, z2 =>
    if v.2.2.2.2.2.2.2.2.2.1 = (-1) then
      (fX8_letter N v).bind fun r2 =>
        (fX8_in N (r2 - 48) (z2 + 1) 5).bind fun r4 =>
          if r4 = 0 then
            some (v, z1)
          else
            (fX8_letter N v).bind fun r7 =>
              fX8_directions_L4 N n (v.1, v.2.1, v.2.2.1, v.2.2.2.1, v.2.2.2.2.1, v.2.2.2.2.2.1, v.2.2.2.2.2.2.1, v.2.2.2.2.2.2.2.1, (v.2.2.2.2.2.2.2.2.1 + 1), v.2.2.2.2.2.2.2.2.2) (z1 ||| ((1 : Int32) <<< ((r7 - 48) &&& 31))) (r7 - 48)
    else
      some (v, z1)
def fX8_directions (N : Nat) (v : SX8) : Option (Int32 × SX8) :=
  (fX8_directions_L4 N N v 0 (-1)).bind fun u9 =>
    some (u9.2, u9.1)
set_option maxHeartbeats 8000000 in
set_option maxRecDepth 100000 in
theorem M_X8_directions (l : Launch) (D : va_G) (cy : Nat → ClassId) (N : Nat) (a : Nat → Nat) (v : SX8) (o : Int32 × SX8) (hf : fX8_directions N v = some o) : okM l yX8_directions wsX8_directions (rmz 1 22) D cy [.ref (a 0)] (wX8 cy a v) (wX8 cy a o.2) (some (.int o.1)) := by
  refine okM_of (own := RX8) (nme := "directions") (cc := cX8_directions) (maxL := 3) (ret := (some .int)) (by decide) rfl rfl rfl (Nat.le_of_ble_eq_true rfl) ?_
  intro p e s m args below meth c A F
  have i_X8 : ∀ w ∈ u_ws RX8 TX8 13, w ∈ wsX8_directions := fun _ h => List.mem_cons_of_mem _ (List.mem_append_right _ h)
  have K4 : ∀ (n : Nat) (v : SX8) (z1 : Int32) (z2 : Int32) (u : SX8 × Int32), fX8_directions_L4 N n v z1 z2 = some u → V p l e (rmz 1 22) s m args below meth c 3 D A 0 0 (MQ below (ok_Q D (wX8 cy a o.2) (some (.int o.1)) A) args s 0 0 A) (wX8 cy a u.1) [(1, .int u.2)] [] 56 → V p l e (rmz 1 22) s m args below meth c 3 D A 0 0 (MQ below (ok_Q D (wX8 cy a o.2) (some (.int o.1)) A) args s 0 0 A) (wX8 cy a v) [(0, .ref (a 0)), (1, .int z1), (2, .int z2)] [] 4 := by
    intro n
    induction n with
    | zero =>
      intro v z1 z2 u hf hk
      exact nomatch (show (none : Option (SX8 × Int32)) = some u from hf)
    | succ n ih =>
      intro v z1 z2 u hf hk
      rw [fX8_directions_L4] at hf
      refine V_aload_n (pc := 4) F dX8_directions_4 rfl 0 rfl ?_
      refine V_get (pc := 5) F 0 8 9 i_X8 rfl (by decide) rfl (mm 1 rfl) dX8_directions_5 rfl rfl ?_
      refine V_iconst (v := (-1)) (pc := 8) F dX8_directions_8 (by decide) ?_
      refine V_icmp_ne (pc := 9) (tgt := 56) F dX8_directions_9 (by decide) (fun h1 => ?_) (fun h1 => ?_)
      · replace hf := ite_neg hf h1
        obtain rfl := some_of hf
        exact V.sub [1] rfl hk
      · replace hf := ite_pos hf h1
        refine V_aload_n (pc := 12) F dX8_directions_12 rfl 0 rfl ?_
        obtain ⟨r2, g3, hf⟩ := bind_of hf
        refine V_V (w2 := wX8 cy a v) (rest := []) (st2 := [.int r2]) (pc := 13) F 8 (M_X8_letter l D cy N a v r2 g3) (cwV 0 F.ts gX8_directions_X8_letter rfl rfl rfl hd_X8_letter ⟨Nat.le_of_ble_eq_true rfl, Nat.le_of_ble_eq_true rfl⟩) rfl dX8_directions_13 Fit.whole rfl rfl rfl (Nat.le_of_ble_eq_true rfl) (Nat.zero_le _) (Nat.zero_le _) rfl rfl rfl ?_
        refine V_bipush (v := 48) (pc := 16) F dX8_directions_16 (by decide) ?_
        refine V_isub (pc := 18) F dX8_directions_18 ?_
        refine V_iload_n (pc := 19) F dX8_directions_19 rfl 2 rfl ?_
        refine V_iconst (v := 1) (pc := 20) F dX8_directions_20 (by decide) ?_
        refine V_iadd (pc := 21) F dX8_directions_21 ?_
        refine V_iconst (v := 5) (pc := 22) F dX8_directions_22 (by decide) ?_
        obtain ⟨r4, g5, hf⟩ := bind_of hf
        refine V_Sc (rest := []) (st2 := [.int r4]) (pc := 23) F (M_X8_in l D cy N (r2 - 48) (z2 + 1) 5 r4 g5) (va_cwS 3 F.ts gX8_directions_X8_in rfl rfl rfl hd_X8_in ⟨Nat.le_of_ble_eq_true rfl, Nat.le_of_ble_eq_true rfl⟩) rfl dX8_directions_23 (Nat.le_of_ble_eq_true rfl) (Nat.zero_le _) (Nat.zero_le _) rfl rfl ?_
        refine V_if_eq (pc := 26) (tgt := 56) F dX8_directions_26 (by decide) (fun h6 => ?_) (fun h6 => ?_)
        · replace hf := ite_pos hf h6
          obtain rfl := some_of hf
          exact V.sub [1] rfl hk
        · replace hf := ite_neg hf h6
          refine V_aload_n (pc := 29) F dX8_directions_29 rfl 0 rfl ?_
          obtain ⟨r7, g8, hf⟩ := bind_of hf
          refine V_V (w2 := wX8 cy a v) (rest := []) (st2 := [.int r7]) (pc := 30) F 8 (M_X8_letter l D cy N a v r7 g8) (cwV 0 F.ts gX8_directions_X8_letter rfl rfl rfl hd_X8_letter ⟨Nat.le_of_ble_eq_true rfl, Nat.le_of_ble_eq_true rfl⟩) rfl dX8_directions_30 Fit.whole rfl rfl rfl (Nat.le_of_ble_eq_true rfl) (Nat.zero_le _) (Nat.zero_le _) rfl rfl rfl ?_
          refine V_bipush (v := 48) (pc := 33) F dX8_directions_33 (by decide) ?_
          refine V_isub (pc := 35) F dX8_directions_35 ?_
          refine V_istore_n (L2 := [(2, .int (r7 - 48)), (0, .ref (a 0)), (1, .int z1)]) (pc := 36) F dX8_directions_36 rfl (by decide) rfl ?_
          refine V_iload_n (pc := 37) F dX8_directions_37 rfl 2 rfl ?_
          refine V_iconst (v := 1) (pc := 38) F dX8_directions_38 (by decide) ?_
          refine V_iload_n (pc := 39) F dX8_directions_39 rfl 0 rfl ?_
          refine V_ishl (pc := 40) F dX8_directions_40 ?_
          refine V_ior (pc := 41) F dX8_directions_41 ?_
          refine V_istore_n (L2 := [(1, .int (z1 ||| ((1 : Int32) <<< ((r7 - 48) &&& 31)))), (2, .int (r7 - 48)), (0, .ref (a 0))]) (pc := 42) F dX8_directions_42 rfl (by decide) rfl ?_
          refine V_aload_n (pc := 43) F dX8_directions_43 rfl 2 rfl ?_
          refine V_dup (pc := 44) F dX8_directions_44 rfl ?_
          refine V_get (pc := 45) F 0 8 8 i_X8 rfl (by decide) rfl (mm 2 rfl) dX8_directions_45 rfl rfl ?_
          refine V_iconst (v := 1) (pc := 48) F dX8_directions_48 (by decide) ?_
          refine V_iadd (pc := 49) F dX8_directions_49 ?_
          refine V_put (w2 := wX8 cy a (v.1, v.2.1, v.2.2.1, v.2.2.2.1, v.2.2.2.2.1, v.2.2.2.2.2.1, v.2.2.2.2.2.2.1, v.2.2.2.2.2.2.2.1, (v.2.2.2.2.2.2.2.2.1 + 1), v.2.2.2.2.2.2.2.2.2)) (pc := 50) F 0 8 8 i_X8 tyX8 tyX8_ok nmX8 rfl (by decide) rfl (mm 2 rfl) rfl dX8_directions_50 rfl rfl rfl (Nat.le_of_ble_eq_true rfl) rfl ?_
          refine V_goto (pc := 53) (tgt := 4) F dX8_directions_53 (by decide) ?_
          refine V.sub [2, 0, 1] rfl ?_
          exact ih (v.1, v.2.1, v.2.2.1, v.2.2.2.1, v.2.2.2.2.1, v.2.2.2.2.2.1, v.2.2.2.2.2.2.1, v.2.2.2.2.2.2.2.1, (v.2.2.2.2.2.2.2.2.1 + 1), v.2.2.2.2.2.2.2.2.2) (z1 ||| ((1 : Int32) <<< ((r7 - 48) &&& 31))) (r7 - 48) _ hf hk
  unfold fX8_directions at hf
  refine V.eq rfl (show lv_args 0 [.ref (a 0)] = [(0, .ref (a 0))] from rfl) rfl ?_
  refine V_iconst (v := 0) (pc := 0) F dX8_directions_0 (by decide) ?_
  refine V_istore_n (L2 := [(1, .int 0), (0, .ref (a 0))]) (pc := 1) F dX8_directions_1 rfl (by decide) rfl ?_
  refine V_iconst (v := (-1)) (pc := 2) F dX8_directions_2 (by decide) ?_
  refine V_istore_n (L2 := [(2, .int (-1)), (1, .int 0), (0, .ref (a 0))]) (pc := 3) F dX8_directions_3 rfl (by decide) rfl ?_
  refine V.sub [2, 1, 0] rfl ?_
  obtain ⟨u9, g10, hf⟩ := bind_of hf
  refine K4 N v 0 (-1) u9 g10 ?_
  refine V_iload_n (pc := 56) F dX8_directions_56 rfl 0 rfl ?_
  obtain rfl := some_of hf
  exact V_ret F rfl rfl dX8_directions_57 rfl rfl
theorem hd_X8_readRule : yX8_readRule.cls = RX8 ∧ yX8_readRule.cls ≠ "java/lang/invoke/MethodHandle" ∧ yX8_readRule.cls ≠ "java/lang/invoke/VarHandle" ∧ (parseMethodDescriptor yX8_readRule.desc).map (fun d => d.parameters.length) = some 1 := by decide +kernel
def fX8_readRule (N : Nat) (v : SX8) (x1 : Int32) : Option (SX8) :=
  (fX8_digit N v 0 7).bind fun r1 =>
    chk (x1 + 1) 68 (
      nmd (upd r1.2.2.2.2.2.2.2.1 (x1 + 1).toNatClampNeg r1.1) fun f4 =>
      (fX8_letter N (r1.2.1, r1.2.2.1, r1.2.2.2.1, r1.2.2.2.2.1, r1.2.2.2.2.2.1, r1.2.2.2.2.2.2.1, f4, r1.2.2.2.2.2.2.2.2.1, r1.2.2.2.2.2.2.2.2.2.1, r1.2.2.2.2.2.2.2.2.2.2.1, r1.2.2.2.2.2.2.2.2.2.2.2.1, r1.2.2.2.2.2.2.2.2.2.2.2.2.1, r1.2.2.2.2.2.2.2.2.2.2.2.2.2)).bind fun r6 =>
        if r6 = 62 then
          (fX8_wants N (r1.2.1, r1.2.2.1, r1.2.2.2.1, r1.2.2.2.2.1, r1.2.2.2.2.2.1, r1.2.2.2.2.2.2.1, f4, r1.2.2.2.2.2.2.2.2.1, r1.2.2.2.2.2.2.2.2.2.1, r1.2.2.2.2.2.2.2.2.2.2.1, r1.2.2.2.2.2.2.2.2.2.2.2.1, r1.2.2.2.2.2.2.2.2.2.2.2.2.1, r1.2.2.2.2.2.2.2.2.2.2.2.2.2) 1).bind fun r32 =>
            (fX8_digit N r32 0 7).bind fun r34 =>
              chk (x1 + 2) 68 (
                nmd (upd r34.2.2.2.2.2.2.2.1 (x1 + 2).toNatClampNeg r34.1) fun f37 =>
                chk (x1 + 3) 68 (
                  nmd (upd f37 (x1 + 3).toNatClampNeg (0 : Int32)) fun f40 =>
                  if r34.2.2.2.2.2.2.2.2.2.2.1 = (-1) then
                    (fX8_letter N (r34.2.1, r34.2.2.1, r34.2.2.2.1, r34.2.2.2.2.1, r34.2.2.2.2.2.1, r34.2.2.2.2.2.2.1, f40, r34.2.2.2.2.2.2.2.2.1, r34.2.2.2.2.2.2.2.2.2.1, r34.2.2.2.2.2.2.2.2.2.2.1, r34.2.2.2.2.2.2.2.2.2.2.2.1, r34.2.2.2.2.2.2.2.2.2.2.2.2.1, r34.2.2.2.2.2.2.2.2.2.2.2.2.2)).bind fun r43 =>
                      if r43 = 63 then
                        (fX8_directions N (r34.2.1, r34.2.2.1, r34.2.2.2.1, r34.2.2.2.2.1, r34.2.2.2.2.2.1, r34.2.2.2.2.2.2.1, f40, r34.2.2.2.2.2.2.2.2.1, (r34.2.2.2.2.2.2.2.2.2.1 + 1), r34.2.2.2.2.2.2.2.2.2.2.1, r34.2.2.2.2.2.2.2.2.2.2.2.1, r34.2.2.2.2.2.2.2.2.2.2.2.2.1, r34.2.2.2.2.2.2.2.2.2.2.2.2.2)).bind fun r46 =>
                          chk (x1 + 3) 68 (
                            nmd (upd r46.2.2.2.2.2.2.2.1 (x1 + 3).toNatClampNeg r46.1) fun f49 =>
                            chk (x1 + 3) 68 (
                              if (f49 (x1 + 3).toNatClampNeg) = 0 then
                                (fX8_wants N (r46.2.1, r46.2.2.1, r46.2.2.2.1, r46.2.2.2.2.1, r46.2.2.2.2.2.1, r46.2.2.2.2.2.2.1, f49, r46.2.2.2.2.2.2.2.2.1, r46.2.2.2.2.2.2.2.2.2.1, r46.2.2.2.2.2.2.2.2.2.2.1, r46.2.2.2.2.2.2.2.2.2.2.2.1, r46.2.2.2.2.2.2.2.2.2.2.2.2.1, r46.2.2.2.2.2.2.2.2.2.2.2.2.2) 0).bind fun r53 =>
                                  some r53
                              else
                                some (r46.2.1, r46.2.2.1, r46.2.2.2.1, r46.2.2.2.2.1, r46.2.2.2.2.2.1, r46.2.2.2.2.2.2.1, f49, r46.2.2.2.2.2.2.2.2.1, r46.2.2.2.2.2.2.2.2.2.1, r46.2.2.2.2.2.2.2.2.2.2.1, r46.2.2.2.2.2.2.2.2.2.2.2.1, r46.2.2.2.2.2.2.2.2.2.2.2.2.1, r46.2.2.2.2.2.2.2.2.2.2.2.2.2)
                            )
                          )
                      else
                        some (r34.2.1, r34.2.2.1, r34.2.2.2.1, r34.2.2.2.2.1, r34.2.2.2.2.2.1, r34.2.2.2.2.2.2.1, f40, r34.2.2.2.2.2.2.2.2.1, r34.2.2.2.2.2.2.2.2.2.1, r34.2.2.2.2.2.2.2.2.2.2.1, r34.2.2.2.2.2.2.2.2.2.2.2.1, r34.2.2.2.2.2.2.2.2.2.2.2.2.1, r34.2.2.2.2.2.2.2.2.2.2.2.2.2)
                  else
                    some (r34.2.1, r34.2.2.1, r34.2.2.2.1, r34.2.2.2.2.1, r34.2.2.2.2.2.1, r34.2.2.2.2.2.2.1, f40, r34.2.2.2.2.2.2.2.2.1, r34.2.2.2.2.2.2.2.2.2.1, r34.2.2.2.2.2.2.2.2.2.2.1, r34.2.2.2.2.2.2.2.2.2.2.2.1, r34.2.2.2.2.2.2.2.2.2.2.2.2.1, r34.2.2.2.2.2.2.2.2.2.2.2.2.2)
                )
              )
        else
          (fX8_wants N (r1.2.1, r1.2.2.1, r1.2.2.2.1, r1.2.2.2.2.1, r1.2.2.2.2.2.1, r1.2.2.2.2.2.2.1, f4, r1.2.2.2.2.2.2.2.2.1, r1.2.2.2.2.2.2.2.2.2.1, r1.2.2.2.2.2.2.2.2.2.2.1, r1.2.2.2.2.2.2.2.2.2.2.2.1, r1.2.2.2.2.2.2.2.2.2.2.2.2.1, r1.2.2.2.2.2.2.2.2.2.2.2.2.2) 0).bind fun r9 =>
            (fX8_digit N r9 0 7).bind fun r11 =>
              chk (x1 + 2) 68 (
                nmd (upd r11.2.2.2.2.2.2.2.1 (x1 + 2).toNatClampNeg r11.1) fun f14 =>
                chk (x1 + 3) 68 (
                  nmd (upd f14 (x1 + 3).toNatClampNeg (0 : Int32)) fun f17 =>
                  if r11.2.2.2.2.2.2.2.2.2.2.1 = (-1) then
                    (fX8_letter N (r11.2.1, r11.2.2.1, r11.2.2.2.1, r11.2.2.2.2.1, r11.2.2.2.2.2.1, r11.2.2.2.2.2.2.1, f17, r11.2.2.2.2.2.2.2.2.1, r11.2.2.2.2.2.2.2.2.2.1, r11.2.2.2.2.2.2.2.2.2.2.1, r11.2.2.2.2.2.2.2.2.2.2.2.1, r11.2.2.2.2.2.2.2.2.2.2.2.2.1, r11.2.2.2.2.2.2.2.2.2.2.2.2.2)).bind fun r20 =>
                      if r20 = 63 then
                        (fX8_directions N (r11.2.1, r11.2.2.1, r11.2.2.2.1, r11.2.2.2.2.1, r11.2.2.2.2.2.1, r11.2.2.2.2.2.2.1, f17, r11.2.2.2.2.2.2.2.2.1, (r11.2.2.2.2.2.2.2.2.2.1 + 1), r11.2.2.2.2.2.2.2.2.2.2.1, r11.2.2.2.2.2.2.2.2.2.2.2.1, r11.2.2.2.2.2.2.2.2.2.2.2.2.1, r11.2.2.2.2.2.2.2.2.2.2.2.2.2)).bind fun r23 =>
                          chk (x1 + 3) 68 (
                            nmd (upd r23.2.2.2.2.2.2.2.1 (x1 + 3).toNatClampNeg r23.1) fun f26 =>
                            chk (x1 + 3) 68 (
                              if (f26 (x1 + 3).toNatClampNeg) = 0 then
                                (fX8_wants N (r23.2.1, r23.2.2.1, r23.2.2.2.1, r23.2.2.2.2.1, r23.2.2.2.2.2.1, r23.2.2.2.2.2.2.1, f26, r23.2.2.2.2.2.2.2.2.1, r23.2.2.2.2.2.2.2.2.2.1, r23.2.2.2.2.2.2.2.2.2.2.1, r23.2.2.2.2.2.2.2.2.2.2.2.1, r23.2.2.2.2.2.2.2.2.2.2.2.2.1, r23.2.2.2.2.2.2.2.2.2.2.2.2.2) 0).bind fun r30 =>
                                  some r30
                              else
                                some (r23.2.1, r23.2.2.1, r23.2.2.2.1, r23.2.2.2.2.1, r23.2.2.2.2.2.1, r23.2.2.2.2.2.2.1, f26, r23.2.2.2.2.2.2.2.2.1, r23.2.2.2.2.2.2.2.2.2.1, r23.2.2.2.2.2.2.2.2.2.2.1, r23.2.2.2.2.2.2.2.2.2.2.2.1, r23.2.2.2.2.2.2.2.2.2.2.2.2.1, r23.2.2.2.2.2.2.2.2.2.2.2.2.2)
                            )
                          )
                      else
                        some (r11.2.1, r11.2.2.1, r11.2.2.2.1, r11.2.2.2.2.1, r11.2.2.2.2.2.1, r11.2.2.2.2.2.2.1, f17, r11.2.2.2.2.2.2.2.2.1, r11.2.2.2.2.2.2.2.2.2.1, r11.2.2.2.2.2.2.2.2.2.2.1, r11.2.2.2.2.2.2.2.2.2.2.2.1, r11.2.2.2.2.2.2.2.2.2.2.2.2.1, r11.2.2.2.2.2.2.2.2.2.2.2.2.2)
                  else
                    some (r11.2.1, r11.2.2.1, r11.2.2.2.1, r11.2.2.2.2.1, r11.2.2.2.2.2.1, r11.2.2.2.2.2.2.1, f17, r11.2.2.2.2.2.2.2.2.1, r11.2.2.2.2.2.2.2.2.2.1, r11.2.2.2.2.2.2.2.2.2.2.1, r11.2.2.2.2.2.2.2.2.2.2.2.1, r11.2.2.2.2.2.2.2.2.2.2.2.2.1, r11.2.2.2.2.2.2.2.2.2.2.2.2.2)
                )
              )
    )
set_option maxHeartbeats 8000000 in
set_option maxRecDepth 100000 in
theorem M_X8_readRule (l : Launch) (D : va_G) (cy : Nat → ClassId) (N : Nat) (a : Nat → Nat) (v : SX8) (x1 : Int32) (o : SX8) (hf : fX8_readRule N v x1 = some o) : okM l yX8_readRule wsX8_readRule (rmz 2 45) D cy [.ref (a 0), .int x1] (wX8 cy a v) (wX8 cy a o) none := by
  refine okM_of (own := RX8) (nme := "readRule") (cc := cX8_readRule) (maxL := 2) (ret := none) (by decide) rfl rfl rfl (Nat.le_of_ble_eq_true rfl) ?_
  intro p e s m args below meth c A F
  have i_X8 : ∀ w ∈ u_ws RX8 TX8 13, w ∈ wsX8_readRule := fun _ h => List.mem_cons_of_mem _ (List.mem_append_right _ h)
  unfold fX8_readRule at hf
  refine V.eq rfl (show lv_args 0 [.ref (a 0), .int x1] = [(0, .ref (a 0)), (1, .int x1)] from rfl) rfl ?_
  refine V_aload_n (pc := 0) F dX8_readRule_0 rfl 0 rfl ?_
  refine V_get (pc := 1) F 0 8 6 i_X8 rfl (by decide) rfl (mm 1 rfl) dX8_readRule_1 rfl rfl ?_
  refine V_iload_n (pc := 4) F dX8_readRule_4 rfl 1 rfl ?_
  refine V_iconst (v := 1) (pc := 5) F dX8_readRule_5 (by decide) ?_
  refine V_iadd (pc := 6) F dX8_readRule_6 ?_
  refine V_aload_n (pc := 7) F dX8_readRule_7 rfl 0 rfl ?_
  refine V_iconst (v := 0) (pc := 8) F dX8_readRule_8 (by decide) ?_
  refine V_bipush (v := 7) (pc := 9) F dX8_readRule_9 (by decide) ?_
  obtain ⟨r1, g2, hf⟩ := bind_of hf
  refine V_V (w2 := wX8 cy a r1.2) (rest := [.int (x1 + 1), .ref (a 4)]) (st2 := [.int r1.1, .int (x1 + 1), .ref (a 4)]) (pc := 11) F 8 (M_X8_digit l D cy N a v 0 7 r1 g2) (cwV 2 F.ts gX8_readRule_X8_digit rfl rfl rfl hd_X8_digit ⟨Nat.le_of_ble_eq_true rfl, Nat.le_of_ble_eq_true rfl⟩) rfl dX8_readRule_11 Fit.whole fstX8 rfl rfl (Nat.le_of_ble_eq_true rfl) (Nat.zero_le _) (Nat.zero_le _) rfl rfl rfl ?_
  obtain ⟨c3, hf⟩ := chk_some hf
  obtain ⟨f4, e5, hf⟩ := nmd_of hf
  refine V_iast (w2 := wX8 cy a (r1.2.1, r1.2.2.1, r1.2.2.2.1, r1.2.2.2.2.1, r1.2.2.2.2.2.1, r1.2.2.2.2.2.2.1, f4, r1.2.2.2.2.2.2.2.2.1, r1.2.2.2.2.2.2.2.2.2.1, r1.2.2.2.2.2.2.2.2.2.2.1, r1.2.2.2.2.2.2.2.2.2.2.2.1, r1.2.2.2.2.2.2.2.2.2.2.2.2.1, r1.2.2.2.2.2.2.2.2.2.2.2.2.2)) (pc := 14) F 4 rfl c3 e5 dX8_readRule_14 rfl ?_
  refine V_aload_n (pc := 15) F dX8_readRule_15 rfl 0 rfl ?_
  refine V_aload_n (pc := 16) F dX8_readRule_16 rfl 0 rfl ?_
  obtain ⟨r6, g7, hf⟩ := bind_of hf
  refine V_V (w2 := wX8 cy a (r1.2.1, r1.2.2.1, r1.2.2.2.1, r1.2.2.2.2.1, r1.2.2.2.2.2.1, r1.2.2.2.2.2.2.1, f4, r1.2.2.2.2.2.2.2.2.1, r1.2.2.2.2.2.2.2.2.2.1, r1.2.2.2.2.2.2.2.2.2.2.1, r1.2.2.2.2.2.2.2.2.2.2.2.1, r1.2.2.2.2.2.2.2.2.2.2.2.2.1, r1.2.2.2.2.2.2.2.2.2.2.2.2.2)) (rest := [.ref (a 0)]) (st2 := [.int r6, .ref (a 0)]) (pc := 17) F 8 (M_X8_letter l D cy N a (r1.2.1, r1.2.2.1, r1.2.2.2.1, r1.2.2.2.2.1, r1.2.2.2.2.2.1, r1.2.2.2.2.2.2.1, f4, r1.2.2.2.2.2.2.2.2.1, r1.2.2.2.2.2.2.2.2.2.1, r1.2.2.2.2.2.2.2.2.2.2.1, r1.2.2.2.2.2.2.2.2.2.2.2.1, r1.2.2.2.2.2.2.2.2.2.2.2.2.1, r1.2.2.2.2.2.2.2.2.2.2.2.2.2) r6 g7) (cwV 0 F.ts gX8_readRule_X8_letter rfl rfl rfl hd_X8_letter ⟨Nat.le_of_ble_eq_true rfl, Nat.le_of_ble_eq_true rfl⟩) rfl dX8_readRule_17 Fit.whole rfl rfl rfl (Nat.le_of_ble_eq_true rfl) (Nat.zero_le _) (Nat.zero_le _) rfl rfl rfl ?_
  refine V_bipush (v := 62) (pc := 20) F dX8_readRule_20 (by decide) ?_
  refine V_icmp_ne (pc := 22) (tgt := 29) F dX8_readRule_22 (by decide) (fun h8 => ?_) (fun h8 => ?_)
  · replace hf := ite_neg hf h8
    refine V_iconst (v := 0) (pc := 29) F dX8_readRule_29 (by decide) ?_
    obtain ⟨r9, g10, hf⟩ := bind_of hf
    refine V_V (w2 := wX8 cy a r9) (rest := []) (st2 := []) (pc := 30) F 8 (M_X8_wants l D cy N a (r1.2.1, r1.2.2.1, r1.2.2.2.1, r1.2.2.2.2.1, r1.2.2.2.2.2.1, r1.2.2.2.2.2.2.1, f4, r1.2.2.2.2.2.2.2.2.1, r1.2.2.2.2.2.2.2.2.2.1, r1.2.2.2.2.2.2.2.2.2.2.1, r1.2.2.2.2.2.2.2.2.2.2.2.1, r1.2.2.2.2.2.2.2.2.2.2.2.2.1, r1.2.2.2.2.2.2.2.2.2.2.2.2.2) 0 r9 g10) (cwV 1 F.ts gX8_readRule_X8_wants rfl rfl rfl hd_X8_wants ⟨Nat.le_of_ble_eq_true rfl, Nat.le_of_ble_eq_true rfl⟩) rfl dX8_readRule_30 Fit.whole fstX8 rfl rfl (Nat.le_of_ble_eq_true rfl) (Nat.zero_le _) (Nat.zero_le _) rfl rfl rfl ?_
    refine V_aload_n (pc := 33) F dX8_readRule_33 rfl 0 rfl ?_
    refine V_get (pc := 34) F 0 8 6 i_X8 rfl (by decide) rfl (mm 1 rfl) dX8_readRule_34 rfl rfl ?_
    refine V_iload_n (pc := 37) F dX8_readRule_37 rfl 1 rfl ?_
    refine V_iconst (v := 2) (pc := 38) F dX8_readRule_38 (by decide) ?_
    refine V_iadd (pc := 39) F dX8_readRule_39 ?_
    refine V_aload_n (pc := 40) F dX8_readRule_40 rfl 0 rfl ?_
    refine V_iconst (v := 0) (pc := 41) F dX8_readRule_41 (by decide) ?_
    refine V_bipush (v := 7) (pc := 42) F dX8_readRule_42 (by decide) ?_
    obtain ⟨r11, g12, hf⟩ := bind_of hf
    refine V_V (w2 := wX8 cy a r11.2) (rest := [.int (x1 + 2), .ref (a 4)]) (st2 := [.int r11.1, .int (x1 + 2), .ref (a 4)]) (pc := 44) F 8 (M_X8_digit l D cy N a r9 0 7 r11 g12) (cwV 2 F.ts gX8_readRule_X8_digit rfl rfl rfl hd_X8_digit ⟨Nat.le_of_ble_eq_true rfl, Nat.le_of_ble_eq_true rfl⟩) rfl dX8_readRule_44 Fit.whole fstX8 rfl rfl (Nat.le_of_ble_eq_true rfl) (Nat.zero_le _) (Nat.zero_le _) rfl rfl rfl ?_
    obtain ⟨c13, hf⟩ := chk_some hf
    obtain ⟨f14, e15, hf⟩ := nmd_of hf
    refine V_iast (w2 := wX8 cy a (r11.2.1, r11.2.2.1, r11.2.2.2.1, r11.2.2.2.2.1, r11.2.2.2.2.2.1, r11.2.2.2.2.2.2.1, f14, r11.2.2.2.2.2.2.2.2.1, r11.2.2.2.2.2.2.2.2.2.1, r11.2.2.2.2.2.2.2.2.2.2.1, r11.2.2.2.2.2.2.2.2.2.2.2.1, r11.2.2.2.2.2.2.2.2.2.2.2.2.1, r11.2.2.2.2.2.2.2.2.2.2.2.2.2)) (pc := 47) F 4 rfl c13 e15 dX8_readRule_47 rfl ?_
    refine V_aload_n (pc := 48) F dX8_readRule_48 rfl 0 rfl ?_
    refine V_get (pc := 49) F 0 8 6 i_X8 rfl (by decide) rfl (mm 1 rfl) dX8_readRule_49 rfl rfl ?_
    refine V_iload_n (pc := 52) F dX8_readRule_52 rfl 1 rfl ?_
    refine V_iconst (v := 3) (pc := 53) F dX8_readRule_53 (by decide) ?_
    refine V_iadd (pc := 54) F dX8_readRule_54 ?_
    refine V_iconst (v := 0) (pc := 55) F dX8_readRule_55 (by decide) ?_
    obtain ⟨c16, hf⟩ := chk_some hf
    obtain ⟨f17, e18, hf⟩ := nmd_of hf
    refine V_iast (w2 := wX8 cy a (r11.2.1, r11.2.2.1, r11.2.2.2.1, r11.2.2.2.2.1, r11.2.2.2.2.2.1, r11.2.2.2.2.2.2.1, f17, r11.2.2.2.2.2.2.2.2.1, r11.2.2.2.2.2.2.2.2.2.1, r11.2.2.2.2.2.2.2.2.2.2.1, r11.2.2.2.2.2.2.2.2.2.2.2.1, r11.2.2.2.2.2.2.2.2.2.2.2.2.1, r11.2.2.2.2.2.2.2.2.2.2.2.2.2)) (pc := 56) F 4 rfl c16 e18 dX8_readRule_56 rfl ?_
    refine V_aload_n (pc := 57) F dX8_readRule_57 rfl 0 rfl ?_
    refine V_get (pc := 58) F 0 8 9 i_X8 rfl (by decide) rfl (mm 2 rfl) dX8_readRule_58 rfl rfl ?_
    refine V_iconst (v := (-1)) (pc := 61) F dX8_readRule_61 (by decide) ?_
    refine V_icmp_ne (pc := 62) (tgt := 112) F dX8_readRule_62 (by decide) (fun h19 => ?_) (fun h19 => ?_)
    · replace hf := ite_neg hf h19
      obtain rfl := some_of hf
      exact V_vret F rfl dX8_readRule_112 rfl
    · replace hf := ite_pos hf h19
      refine V_aload_n (pc := 65) F dX8_readRule_65 rfl 0 rfl ?_
      obtain ⟨r20, g21, hf⟩ := bind_of hf
      refine V_V (w2 := wX8 cy a (r11.2.1, r11.2.2.1, r11.2.2.2.1, r11.2.2.2.2.1, r11.2.2.2.2.2.1, r11.2.2.2.2.2.2.1, f17, r11.2.2.2.2.2.2.2.2.1, r11.2.2.2.2.2.2.2.2.2.1, r11.2.2.2.2.2.2.2.2.2.2.1, r11.2.2.2.2.2.2.2.2.2.2.2.1, r11.2.2.2.2.2.2.2.2.2.2.2.2.1, r11.2.2.2.2.2.2.2.2.2.2.2.2.2)) (rest := []) (st2 := [.int r20]) (pc := 66) F 8 (M_X8_letter l D cy N a (r11.2.1, r11.2.2.1, r11.2.2.2.1, r11.2.2.2.2.1, r11.2.2.2.2.2.1, r11.2.2.2.2.2.2.1, f17, r11.2.2.2.2.2.2.2.2.1, r11.2.2.2.2.2.2.2.2.2.1, r11.2.2.2.2.2.2.2.2.2.2.1, r11.2.2.2.2.2.2.2.2.2.2.2.1, r11.2.2.2.2.2.2.2.2.2.2.2.2.1, r11.2.2.2.2.2.2.2.2.2.2.2.2.2) r20 g21) (cwV 0 F.ts gX8_readRule_X8_letter rfl rfl rfl hd_X8_letter ⟨Nat.le_of_ble_eq_true rfl, Nat.le_of_ble_eq_true rfl⟩) rfl dX8_readRule_66 Fit.whole rfl rfl rfl (Nat.le_of_ble_eq_true rfl) (Nat.zero_le _) (Nat.zero_le _) rfl rfl rfl ?_
      refine V_bipush (v := 63) (pc := 69) F dX8_readRule_69 (by decide) ?_
      refine V_icmp_ne (pc := 71) (tgt := 112) F dX8_readRule_71 (by decide) (fun h22 => ?_) (fun h22 => ?_)
      · replace hf := ite_neg hf h22
        obtain rfl := some_of hf
        exact V_vret F rfl dX8_readRule_112 rfl
      · replace hf := ite_pos hf h22
        refine V_aload_n (pc := 74) F dX8_readRule_74 rfl 0 rfl ?_
        refine V_dup (pc := 75) F dX8_readRule_75 rfl ?_
        refine V_get (pc := 76) F 0 8 8 i_X8 rfl (by decide) rfl (mm 3 rfl) dX8_readRule_76 rfl rfl ?_
        refine V_iconst (v := 1) (pc := 79) F dX8_readRule_79 (by decide) ?_
        refine V_iadd (pc := 80) F dX8_readRule_80 ?_
        refine V_put (w2 := wX8 cy a (r11.2.1, r11.2.2.1, r11.2.2.2.1, r11.2.2.2.2.1, r11.2.2.2.2.2.1, r11.2.2.2.2.2.2.1, f17, r11.2.2.2.2.2.2.2.2.1, (r11.2.2.2.2.2.2.2.2.2.1 + 1), r11.2.2.2.2.2.2.2.2.2.2.1, r11.2.2.2.2.2.2.2.2.2.2.2.1, r11.2.2.2.2.2.2.2.2.2.2.2.2.1, r11.2.2.2.2.2.2.2.2.2.2.2.2.2)) (pc := 81) F 0 8 8 i_X8 tyX8 tyX8_ok nmX8 rfl (by decide) rfl (mm 3 rfl) rfl dX8_readRule_81 rfl rfl rfl (Nat.le_of_ble_eq_true rfl) rfl ?_
        refine V_aload_n (pc := 84) F dX8_readRule_84 rfl 0 rfl ?_
        refine V_get (pc := 85) F 0 8 6 i_X8 rfl (by decide) rfl (mm 1 rfl) dX8_readRule_85 rfl rfl ?_
        refine V_iload_n (pc := 88) F dX8_readRule_88 rfl 1 rfl ?_
        refine V_iconst (v := 3) (pc := 89) F dX8_readRule_89 (by decide) ?_
        refine V_iadd (pc := 90) F dX8_readRule_90 ?_
        refine V_aload_n (pc := 91) F dX8_readRule_91 rfl 0 rfl ?_
        obtain ⟨r23, g24, hf⟩ := bind_of hf
        refine V_V (w2 := wX8 cy a r23.2) (rest := [.int (x1 + 3), .ref (a 4)]) (st2 := [.int r23.1, .int (x1 + 3), .ref (a 4)]) (pc := 92) F 8 (M_X8_directions l D cy N a (r11.2.1, r11.2.2.1, r11.2.2.2.1, r11.2.2.2.2.1, r11.2.2.2.2.2.1, r11.2.2.2.2.2.2.1, f17, r11.2.2.2.2.2.2.2.2.1, (r11.2.2.2.2.2.2.2.2.2.1 + 1), r11.2.2.2.2.2.2.2.2.2.2.1, r11.2.2.2.2.2.2.2.2.2.2.2.1, r11.2.2.2.2.2.2.2.2.2.2.2.2.1, r11.2.2.2.2.2.2.2.2.2.2.2.2.2) r23 g24) (cwV 0 F.ts gX8_readRule_X8_directions rfl rfl rfl hd_X8_directions ⟨Nat.le_of_ble_eq_true rfl, Nat.le_of_ble_eq_true rfl⟩) rfl dX8_readRule_92 Fit.whole fstX8 rfl rfl (Nat.le_of_ble_eq_true rfl) (Nat.zero_le _) (Nat.zero_le _) rfl rfl rfl ?_
        obtain ⟨c25, hf⟩ := chk_some hf
        obtain ⟨f26, e27, hf⟩ := nmd_of hf
        refine V_iast (w2 := wX8 cy a (r23.2.1, r23.2.2.1, r23.2.2.2.1, r23.2.2.2.2.1, r23.2.2.2.2.2.1, r23.2.2.2.2.2.2.1, f26, r23.2.2.2.2.2.2.2.2.1, r23.2.2.2.2.2.2.2.2.2.1, r23.2.2.2.2.2.2.2.2.2.2.1, r23.2.2.2.2.2.2.2.2.2.2.2.1, r23.2.2.2.2.2.2.2.2.2.2.2.2.1, r23.2.2.2.2.2.2.2.2.2.2.2.2.2)) (pc := 95) F 4 rfl c25 e27 dX8_readRule_95 rfl ?_
        refine V_aload_n (pc := 96) F dX8_readRule_96 rfl 0 rfl ?_
        refine V_get (pc := 97) F 0 8 6 i_X8 rfl (by decide) rfl (mm 1 rfl) dX8_readRule_97 rfl rfl ?_
        refine V_iload_n (pc := 100) F dX8_readRule_100 rfl 1 rfl ?_
        refine V_iconst (v := 3) (pc := 101) F dX8_readRule_101 (by decide) ?_
        refine V_iadd (pc := 102) F dX8_readRule_102 ?_
        obtain ⟨c28, hf⟩ := chk_some hf
        refine V_iald (pc := 103) F 4 rfl c28 dX8_readRule_103 ?_
        refine V_if_ne (pc := 104) (tgt := 112) F dX8_readRule_104 (by decide) (fun h29 => ?_) (fun h29 => ?_)
        · replace hf := ite_neg hf h29
          obtain rfl := some_of hf
          exact V_vret F rfl dX8_readRule_112 rfl
        · replace hf := ite_pos hf h29
          refine V_aload_n (pc := 107) F dX8_readRule_107 rfl 0 rfl ?_
          refine V_iconst (v := 0) (pc := 108) F dX8_readRule_108 (by decide) ?_
          obtain ⟨r30, g31, hf⟩ := bind_of hf
          refine V_V (w2 := wX8 cy a r30) (rest := []) (st2 := []) (pc := 109) F 8 (M_X8_wants l D cy N a (r23.2.1, r23.2.2.1, r23.2.2.2.1, r23.2.2.2.2.1, r23.2.2.2.2.2.1, r23.2.2.2.2.2.2.1, f26, r23.2.2.2.2.2.2.2.2.1, r23.2.2.2.2.2.2.2.2.2.1, r23.2.2.2.2.2.2.2.2.2.2.1, r23.2.2.2.2.2.2.2.2.2.2.2.1, r23.2.2.2.2.2.2.2.2.2.2.2.2.1, r23.2.2.2.2.2.2.2.2.2.2.2.2.2) 0 r30 g31) (cwV 1 F.ts gX8_readRule_X8_wants rfl rfl rfl hd_X8_wants ⟨Nat.le_of_ble_eq_true rfl, Nat.le_of_ble_eq_true rfl⟩) rfl dX8_readRule_109 Fit.whole fstX8 rfl rfl (Nat.le_of_ble_eq_true rfl) (Nat.zero_le _) (Nat.zero_le _) rfl rfl rfl ?_
          obtain rfl := some_of hf
          exact V_vret F rfl dX8_readRule_112 rfl
  · replace hf := ite_pos hf h8
    refine V_iconst (v := 1) (pc := 25) F dX8_readRule_25 (by decide) ?_
    refine V_goto (pc := 26) (tgt := 30) F dX8_readRule_26 (by decide) ?_
    obtain ⟨r32, g33, hf⟩ := bind_of hf
    refine V_V (w2 := wX8 cy a r32) (rest := []) (st2 := []) (pc := 30) F 8 (M_X8_wants l D cy N a (r1.2.1, r1.2.2.1, r1.2.2.2.1, r1.2.2.2.2.1, r1.2.2.2.2.2.1, r1.2.2.2.2.2.2.1, f4, r1.2.2.2.2.2.2.2.2.1, r1.2.2.2.2.2.2.2.2.2.1, r1.2.2.2.2.2.2.2.2.2.2.1, r1.2.2.2.2.2.2.2.2.2.2.2.1, r1.2.2.2.2.2.2.2.2.2.2.2.2.1, r1.2.2.2.2.2.2.2.2.2.2.2.2.2) 1 r32 g33) (cwV 1 F.ts gX8_readRule_X8_wants rfl rfl rfl hd_X8_wants ⟨Nat.le_of_ble_eq_true rfl, Nat.le_of_ble_eq_true rfl⟩) rfl dX8_readRule_30 Fit.whole fstX8 rfl rfl (Nat.le_of_ble_eq_true rfl) (Nat.zero_le _) (Nat.zero_le _) rfl rfl rfl ?_
    refine V_aload_n (pc := 33) F dX8_readRule_33 rfl 0 rfl ?_
    refine V_get (pc := 34) F 0 8 6 i_X8 rfl (by decide) rfl (mm 1 rfl) dX8_readRule_34 rfl rfl ?_
    refine V_iload_n (pc := 37) F dX8_readRule_37 rfl 1 rfl ?_
    refine V_iconst (v := 2) (pc := 38) F dX8_readRule_38 (by decide) ?_
    refine V_iadd (pc := 39) F dX8_readRule_39 ?_
    refine V_aload_n (pc := 40) F dX8_readRule_40 rfl 0 rfl ?_
    refine V_iconst (v := 0) (pc := 41) F dX8_readRule_41 (by decide) ?_
    refine V_bipush (v := 7) (pc := 42) F dX8_readRule_42 (by decide) ?_
    obtain ⟨r34, g35, hf⟩ := bind_of hf
    refine V_V (w2 := wX8 cy a r34.2) (rest := [.int (x1 + 2), .ref (a 4)]) (st2 := [.int r34.1, .int (x1 + 2), .ref (a 4)]) (pc := 44) F 8 (M_X8_digit l D cy N a r32 0 7 r34 g35) (cwV 2 F.ts gX8_readRule_X8_digit rfl rfl rfl hd_X8_digit ⟨Nat.le_of_ble_eq_true rfl, Nat.le_of_ble_eq_true rfl⟩) rfl dX8_readRule_44 Fit.whole fstX8 rfl rfl (Nat.le_of_ble_eq_true rfl) (Nat.zero_le _) (Nat.zero_le _) rfl rfl rfl ?_
    obtain ⟨c36, hf⟩ := chk_some hf
    obtain ⟨f37, e38, hf⟩ := nmd_of hf
    refine V_iast (w2 := wX8 cy a (r34.2.1, r34.2.2.1, r34.2.2.2.1, r34.2.2.2.2.1, r34.2.2.2.2.2.1, r34.2.2.2.2.2.2.1, f37, r34.2.2.2.2.2.2.2.2.1, r34.2.2.2.2.2.2.2.2.2.1, r34.2.2.2.2.2.2.2.2.2.2.1, r34.2.2.2.2.2.2.2.2.2.2.2.1, r34.2.2.2.2.2.2.2.2.2.2.2.2.1, r34.2.2.2.2.2.2.2.2.2.2.2.2.2)) (pc := 47) F 4 rfl c36 e38 dX8_readRule_47 rfl ?_
    refine V_aload_n (pc := 48) F dX8_readRule_48 rfl 0 rfl ?_
    refine V_get (pc := 49) F 0 8 6 i_X8 rfl (by decide) rfl (mm 1 rfl) dX8_readRule_49 rfl rfl ?_
    refine V_iload_n (pc := 52) F dX8_readRule_52 rfl 1 rfl ?_
    refine V_iconst (v := 3) (pc := 53) F dX8_readRule_53 (by decide) ?_
    refine V_iadd (pc := 54) F dX8_readRule_54 ?_
    refine V_iconst (v := 0) (pc := 55) F dX8_readRule_55 (by decide) ?_
    obtain ⟨c39, hf⟩ := chk_some hf
    obtain ⟨f40, e41, hf⟩ := nmd_of hf
    refine V_iast (w2 := wX8 cy a (r34.2.1, r34.2.2.1, r34.2.2.2.1, r34.2.2.2.2.1, r34.2.2.2.2.2.1, r34.2.2.2.2.2.2.1, f40, r34.2.2.2.2.2.2.2.2.1, r34.2.2.2.2.2.2.2.2.2.1, r34.2.2.2.2.2.2.2.2.2.2.1, r34.2.2.2.2.2.2.2.2.2.2.2.1, r34.2.2.2.2.2.2.2.2.2.2.2.2.1, r34.2.2.2.2.2.2.2.2.2.2.2.2.2)) (pc := 56) F 4 rfl c39 e41 dX8_readRule_56 rfl ?_
    refine V_aload_n (pc := 57) F dX8_readRule_57 rfl 0 rfl ?_
    refine V_get (pc := 58) F 0 8 9 i_X8 rfl (by decide) rfl (mm 2 rfl) dX8_readRule_58 rfl rfl ?_
    refine V_iconst (v := (-1)) (pc := 61) F dX8_readRule_61 (by decide) ?_
    refine V_icmp_ne (pc := 62) (tgt := 112) F dX8_readRule_62 (by decide) (fun h42 => ?_) (fun h42 => ?_)
    · replace hf := ite_neg hf h42
      obtain rfl := some_of hf
      exact V_vret F rfl dX8_readRule_112 rfl
    · replace hf := ite_pos hf h42
      refine V_aload_n (pc := 65) F dX8_readRule_65 rfl 0 rfl ?_
      obtain ⟨r43, g44, hf⟩ := bind_of hf
      refine V_V (w2 := wX8 cy a (r34.2.1, r34.2.2.1, r34.2.2.2.1, r34.2.2.2.2.1, r34.2.2.2.2.2.1, r34.2.2.2.2.2.2.1, f40, r34.2.2.2.2.2.2.2.2.1, r34.2.2.2.2.2.2.2.2.2.1, r34.2.2.2.2.2.2.2.2.2.2.1, r34.2.2.2.2.2.2.2.2.2.2.2.1, r34.2.2.2.2.2.2.2.2.2.2.2.2.1, r34.2.2.2.2.2.2.2.2.2.2.2.2.2)) (rest := []) (st2 := [.int r43]) (pc := 66) F 8 (M_X8_letter l D cy N a (r34.2.1, r34.2.2.1, r34.2.2.2.1, r34.2.2.2.2.1, r34.2.2.2.2.2.1, r34.2.2.2.2.2.2.1, f40, r34.2.2.2.2.2.2.2.2.1, r34.2.2.2.2.2.2.2.2.2.1, r34.2.2.2.2.2.2.2.2.2.2.1, r34.2.2.2.2.2.2.2.2.2.2.2.1, r34.2.2.2.2.2.2.2.2.2.2.2.2.1, r34.2.2.2.2.2.2.2.2.2.2.2.2.2) r43 g44) (cwV 0 F.ts gX8_readRule_X8_letter rfl rfl rfl hd_X8_letter ⟨Nat.le_of_ble_eq_true rfl, Nat.le_of_ble_eq_true rfl⟩) rfl dX8_readRule_66 Fit.whole rfl rfl rfl (Nat.le_of_ble_eq_true rfl) (Nat.zero_le _) (Nat.zero_le _) rfl rfl rfl ?_
      refine V_bipush (v := 63) (pc := 69) F dX8_readRule_69 (by decide) ?_
      refine V_icmp_ne (pc := 71) (tgt := 112) F dX8_readRule_71 (by decide) (fun h45 => ?_) (fun h45 => ?_)
      · replace hf := ite_neg hf h45
        obtain rfl := some_of hf
        exact V_vret F rfl dX8_readRule_112 rfl
      · replace hf := ite_pos hf h45
        refine V_aload_n (pc := 74) F dX8_readRule_74 rfl 0 rfl ?_
        refine V_dup (pc := 75) F dX8_readRule_75 rfl ?_
        refine V_get (pc := 76) F 0 8 8 i_X8 rfl (by decide) rfl (mm 3 rfl) dX8_readRule_76 rfl rfl ?_
        refine V_iconst (v := 1) (pc := 79) F dX8_readRule_79 (by decide) ?_
        refine V_iadd (pc := 80) F dX8_readRule_80 ?_
        refine V_put (w2 := wX8 cy a (r34.2.1, r34.2.2.1, r34.2.2.2.1, r34.2.2.2.2.1, r34.2.2.2.2.2.1, r34.2.2.2.2.2.2.1, f40, r34.2.2.2.2.2.2.2.2.1, (r34.2.2.2.2.2.2.2.2.2.1 + 1), r34.2.2.2.2.2.2.2.2.2.2.1, r34.2.2.2.2.2.2.2.2.2.2.2.1, r34.2.2.2.2.2.2.2.2.2.2.2.2.1, r34.2.2.2.2.2.2.2.2.2.2.2.2.2)) (pc := 81) F 0 8 8 i_X8 tyX8 tyX8_ok nmX8 rfl (by decide) rfl (mm 3 rfl) rfl dX8_readRule_81 rfl rfl rfl (Nat.le_of_ble_eq_true rfl) rfl ?_
        refine V_aload_n (pc := 84) F dX8_readRule_84 rfl 0 rfl ?_
        refine V_get (pc := 85) F 0 8 6 i_X8 rfl (by decide) rfl (mm 1 rfl) dX8_readRule_85 rfl rfl ?_
        refine V_iload_n (pc := 88) F dX8_readRule_88 rfl 1 rfl ?_
        refine V_iconst (v := 3) (pc := 89) F dX8_readRule_89 (by decide) ?_
        refine V_iadd (pc := 90) F dX8_readRule_90 ?_
        refine V_aload_n (pc := 91) F dX8_readRule_91 rfl 0 rfl ?_
        obtain ⟨r46, g47, hf⟩ := bind_of hf
        refine V_V (w2 := wX8 cy a r46.2) (rest := [.int (x1 + 3), .ref (a 4)]) (st2 := [.int r46.1, .int (x1 + 3), .ref (a 4)]) (pc := 92) F 8 (M_X8_directions l D cy N a (r34.2.1, r34.2.2.1, r34.2.2.2.1, r34.2.2.2.2.1, r34.2.2.2.2.2.1, r34.2.2.2.2.2.2.1, f40, r34.2.2.2.2.2.2.2.2.1, (r34.2.2.2.2.2.2.2.2.2.1 + 1), r34.2.2.2.2.2.2.2.2.2.2.1, r34.2.2.2.2.2.2.2.2.2.2.2.1, r34.2.2.2.2.2.2.2.2.2.2.2.2.1, r34.2.2.2.2.2.2.2.2.2.2.2.2.2) r46 g47) (cwV 0 F.ts gX8_readRule_X8_directions rfl rfl rfl hd_X8_directions ⟨Nat.le_of_ble_eq_true rfl, Nat.le_of_ble_eq_true rfl⟩) rfl dX8_readRule_92 Fit.whole fstX8 rfl rfl (Nat.le_of_ble_eq_true rfl) (Nat.zero_le _) (Nat.zero_le _) rfl rfl rfl ?_
        obtain ⟨c48, hf⟩ := chk_some hf
        obtain ⟨f49, e50, hf⟩ := nmd_of hf
        refine V_iast (w2 := wX8 cy a (r46.2.1, r46.2.2.1, r46.2.2.2.1, r46.2.2.2.2.1, r46.2.2.2.2.2.1, r46.2.2.2.2.2.2.1, f49, r46.2.2.2.2.2.2.2.2.1, r46.2.2.2.2.2.2.2.2.2.1, r46.2.2.2.2.2.2.2.2.2.2.1, r46.2.2.2.2.2.2.2.2.2.2.2.1, r46.2.2.2.2.2.2.2.2.2.2.2.2.1, r46.2.2.2.2.2.2.2.2.2.2.2.2.2)) (pc := 95) F 4 rfl c48 e50 dX8_readRule_95 rfl ?_
        refine V_aload_n (pc := 96) F dX8_readRule_96 rfl 0 rfl ?_
        refine V_get (pc := 97) F 0 8 6 i_X8 rfl (by decide) rfl (mm 1 rfl) dX8_readRule_97 rfl rfl ?_
        refine V_iload_n (pc := 100) F dX8_readRule_100 rfl 1 rfl ?_
        refine V_iconst (v := 3) (pc := 101) F dX8_readRule_101 (by decide) ?_
        refine V_iadd (pc := 102) F dX8_readRule_102 ?_
        obtain ⟨c51, hf⟩ := chk_some hf
        refine V_iald (pc := 103) F 4 rfl c51 dX8_readRule_103 ?_
        refine V_if_ne (pc := 104) (tgt := 112) F dX8_readRule_104 (by decide) (fun h52 => ?_) (fun h52 => ?_)
        · replace hf := ite_neg hf h52
          obtain rfl := some_of hf
          exact V_vret F rfl dX8_readRule_112 rfl
        · replace hf := ite_pos hf h52
          refine V_aload_n (pc := 107) F dX8_readRule_107 rfl 0 rfl ?_
          refine V_iconst (v := 0) (pc := 108) F dX8_readRule_108 (by decide) ?_
          obtain ⟨r53, g54, hf⟩ := bind_of hf
          refine V_V (w2 := wX8 cy a r53) (rest := []) (st2 := []) (pc := 109) F 8 (M_X8_wants l D cy N a (r46.2.1, r46.2.2.1, r46.2.2.2.1, r46.2.2.2.2.1, r46.2.2.2.2.2.1, r46.2.2.2.2.2.2.1, f49, r46.2.2.2.2.2.2.2.2.1, r46.2.2.2.2.2.2.2.2.2.1, r46.2.2.2.2.2.2.2.2.2.2.1, r46.2.2.2.2.2.2.2.2.2.2.2.1, r46.2.2.2.2.2.2.2.2.2.2.2.2.1, r46.2.2.2.2.2.2.2.2.2.2.2.2.2) 0 r53 g54) (cwV 1 F.ts gX8_readRule_X8_wants rfl rfl rfl hd_X8_wants ⟨Nat.le_of_ble_eq_true rfl, Nat.le_of_ble_eq_true rfl⟩) rfl dX8_readRule_109 Fit.whole fstX8 rfl rfl (Nat.le_of_ble_eq_true rfl) (Nat.zero_le _) (Nat.zero_le _) rfl rfl rfl ?_
          obtain rfl := some_of hf
          exact V_vret F rfl dX8_readRule_112 rfl
theorem hd_X8_readOrder : yX8_readOrder.cls = RX8 ∧ yX8_readOrder.cls ≠ "java/lang/invoke/MethodHandle" ∧ yX8_readOrder.cls ≠ "java/lang/invoke/VarHandle" ∧ (parseMethodDescriptor yX8_readOrder.desc).map (fun d => d.parameters.length) = some 0 := by decide +kernel
def fX8_readOrder (N : Nat) (v : SX8) : Option (SX8) :=
  (fX8_letter N v).bind fun r1 =>
    chk ((4 : Int32) * v.2.2.2.2.2.2.2.1) 68 (
      nmd (upd v.2.2.2.2.2.2.1 ((4 : Int32) * v.2.2.2.2.2.2.2.1).toNatClampNeg r1) fun f4 =>
      if r1 = 112 then
        (fX8_wants N (v.1, v.2.1, v.2.2.1, v.2.2.2.1, v.2.2.2.2.1, v.2.2.2.2.2.1, f4, v.2.2.2.2.2.2.2) 1).bind fun r7 =>
          if r1 = 112 then
            (fX8_directions N r7).bind fun r24 =>
              chk (((4 : Int32) * v.2.2.2.2.2.2.2.1) + 1) 68 (
                nmd (upd r24.2.2.2.2.2.2.2.1 (((4 : Int32) * v.2.2.2.2.2.2.2.1) + 1).toNatClampNeg r24.1) fun f27 =>
                (fX8_letter N (r24.2.1, r24.2.2.1, r24.2.2.2.1, r24.2.2.2.2.1, r24.2.2.2.2.2.1, r24.2.2.2.2.2.2.1, f27, r24.2.2.2.2.2.2.2.2.1, r24.2.2.2.2.2.2.2.2.2.1, r24.2.2.2.2.2.2.2.2.2.2.1, r24.2.2.2.2.2.2.2.2.2.2.2.1, r24.2.2.2.2.2.2.2.2.2.2.2.2.1, r24.2.2.2.2.2.2.2.2.2.2.2.2.2)).bind fun r29 =>
                  if r29 = 42 then
                    (fX8_wants N (r24.2.1, r24.2.2.1, r24.2.2.2.1, r24.2.2.2.2.1, r24.2.2.2.2.2.1, r24.2.2.2.2.2.2.1, f27, r24.2.2.2.2.2.2.2.2.1, r24.2.2.2.2.2.2.2.2.2.1, r24.2.2.2.2.2.2.2.2.2.2.1, r24.2.2.2.2.2.2.2.2.2.2.2.1, r24.2.2.2.2.2.2.2.2.2.2.2.2.1, r24.2.2.2.2.2.2.2.2.2.2.2.2.2) 1).bind fun r39 =>
                      (fX8_digit N r39 1 9).bind fun r41 =>
                        chk (((4 : Int32) * v.2.2.2.2.2.2.2.1) + 2) 68 (
                          nmd (upd r41.2.2.2.2.2.2.2.1 (((4 : Int32) * v.2.2.2.2.2.2.2.1) + 2).toNatClampNeg r41.1) fun f44 =>
                          some (r41.2.1, r41.2.2.1, r41.2.2.2.1, r41.2.2.2.2.1, r41.2.2.2.2.2.1, r41.2.2.2.2.2.2.1, f44, (r41.2.2.2.2.2.2.2.2.1 + 1), r41.2.2.2.2.2.2.2.2.2.1, r41.2.2.2.2.2.2.2.2.2.2.1, r41.2.2.2.2.2.2.2.2.2.2.2.1, r41.2.2.2.2.2.2.2.2.2.2.2.2.1, r41.2.2.2.2.2.2.2.2.2.2.2.2.2)
                        )
                  else
                    (fX8_wants N (r24.2.1, r24.2.2.1, r24.2.2.2.1, r24.2.2.2.2.1, r24.2.2.2.2.2.1, r24.2.2.2.2.2.2.1, f27, r24.2.2.2.2.2.2.2.2.1, r24.2.2.2.2.2.2.2.2.2.1, r24.2.2.2.2.2.2.2.2.2.2.1, r24.2.2.2.2.2.2.2.2.2.2.2.1, r24.2.2.2.2.2.2.2.2.2.2.2.2.1, r24.2.2.2.2.2.2.2.2.2.2.2.2.2) 0).bind fun r32 =>
                      (fX8_digit N r32 1 9).bind fun r34 =>
                        chk (((4 : Int32) * v.2.2.2.2.2.2.2.1) + 2) 68 (
                          nmd (upd r34.2.2.2.2.2.2.2.1 (((4 : Int32) * v.2.2.2.2.2.2.2.1) + 2).toNatClampNeg r34.1) fun f37 =>
                          some (r34.2.1, r34.2.2.1, r34.2.2.2.1, r34.2.2.2.2.1, r34.2.2.2.2.2.1, r34.2.2.2.2.2.2.1, f37, (r34.2.2.2.2.2.2.2.2.1 + 1), r34.2.2.2.2.2.2.2.2.2.1, r34.2.2.2.2.2.2.2.2.2.2.1, r34.2.2.2.2.2.2.2.2.2.2.2.1, r34.2.2.2.2.2.2.2.2.2.2.2.2.1, r34.2.2.2.2.2.2.2.2.2.2.2.2.2)
                        )
              )
          else
            if r1 = 114 then
              (fX8_readRule N r7 ((4 : Int32) * v.2.2.2.2.2.2.2.1)).bind fun r22 =>
                some (r22.1, r22.2.1, r22.2.2.1, r22.2.2.2.1, r22.2.2.2.2.1, r22.2.2.2.2.2.1, r22.2.2.2.2.2.2.1, (r22.2.2.2.2.2.2.2.1 + 1), r22.2.2.2.2.2.2.2.2)
            else
              (fX8_digit N r7 0 4).bind fun r11 =>
                chk (((4 : Int32) * v.2.2.2.2.2.2.2.1) + 1) 68 (
                  nmd (upd r11.2.2.2.2.2.2.2.1 (((4 : Int32) * v.2.2.2.2.2.2.2.1) + 1).toNatClampNeg r11.1) fun f14 =>
                  chk (((4 : Int32) * v.2.2.2.2.2.2.2.1) + 1) 68 (
                    (fX8_digit N (r11.2.1, r11.2.2.1, r11.2.2.2.1, r11.2.2.2.2.1, r11.2.2.2.2.2.1, r11.2.2.2.2.2.2.1, f14, r11.2.2.2.2.2.2.2.2.1, r11.2.2.2.2.2.2.2.2.2.1, r11.2.2.2.2.2.2.2.2.2.2.1, r11.2.2.2.2.2.2.2.2.2.2.2.1, r11.2.2.2.2.2.2.2.2.2.2.2.2.1, r11.2.2.2.2.2.2.2.2.2.2.2.2.2) ((f14 (((4 : Int32) * v.2.2.2.2.2.2.2.1) + 1).toNatClampNeg) + 1) 5).bind fun r17 =>
                      chk (((4 : Int32) * v.2.2.2.2.2.2.2.1) + 2) 68 (
                        nmd (upd r17.2.2.2.2.2.2.2.1 (((4 : Int32) * v.2.2.2.2.2.2.2.1) + 2).toNatClampNeg r17.1) fun f20 =>
                        some (r17.2.1, r17.2.2.1, r17.2.2.2.1, r17.2.2.2.2.1, r17.2.2.2.2.2.1, r17.2.2.2.2.2.2.1, f20, (r17.2.2.2.2.2.2.2.2.1 + 1), r17.2.2.2.2.2.2.2.2.2.1, r17.2.2.2.2.2.2.2.2.2.2.1, r17.2.2.2.2.2.2.2.2.2.2.2.1, r17.2.2.2.2.2.2.2.2.2.2.2.2.1, r17.2.2.2.2.2.2.2.2.2.2.2.2.2)
                      )
                  )
                )
      else
        if r1 = 114 then
          (fX8_wants N (v.1, v.2.1, v.2.2.1, v.2.2.2.1, v.2.2.2.2.1, v.2.2.2.2.2.1, f4, v.2.2.2.2.2.2.2) 1).bind fun r47 =>
            if r1 = 112 then
              (fX8_directions N r47).bind fun r64 =>
                chk (((4 : Int32) * v.2.2.2.2.2.2.2.1) + 1) 68 (
                  nmd (upd r64.2.2.2.2.2.2.2.1 (((4 : Int32) * v.2.2.2.2.2.2.2.1) + 1).toNatClampNeg r64.1) fun f67 =>
                  (fX8_letter N (r64.2.1, r64.2.2.1, r64.2.2.2.1, r64.2.2.2.2.1, r64.2.2.2.2.2.1, r64.2.2.2.2.2.2.1, f67, r64.2.2.2.2.2.2.2.2.1, r64.2.2.2.2.2.2.2.2.2.1, r64.2.2.2.2.2.2.2.2.2.2.1, r64.2.2.2.2.2.2.2.2.2.2.2.1, r64.2.2.2.2.2.2.2.2.2.2.2.2.1, r64.2.2.2.2.2.2.2.2.2.2.2.2.2)).bind fun r69 =>
                    if r69 = 42 then
                      (fX8_wants N (r64.2.1, r64.2.2.1, r64.2.2.2.1, r64.2.2.2.2.1, r64.2.2.2.2.2.1, r64.2.2.2.2.2.2.1, f67, r64.2.2.2.2.2.2.2.2.1, r64.2.2.2.2.2.2.2.2.2.1, r64.2.2.2.2.2.2.2.2.2.2.1, r64.2.2.2.2.2.2.2.2.2.2.2.1, r64.2.2.2.2.2.2.2.2.2.2.2.2.1, r64.2.2.2.2.2.2.2.2.2.2.2.2.2) 1).bind fun r79 =>
                        (fX8_digit N r79 1 9).bind fun r81 =>
                          chk (((4 : Int32) * v.2.2.2.2.2.2.2.1) + 2) 68 (
                            nmd (upd r81.2.2.2.2.2.2.2.1 (((4 : Int32) * v.2.2.2.2.2.2.2.1) + 2).toNatClampNeg r81.1) fun f84 =>
                            some (r81.2.1, r81.2.2.1, r81.2.2.2.1, r81.2.2.2.2.1, r81.2.2.2.2.2.1, r81.2.2.2.2.2.2.1, f84, (r81.2.2.2.2.2.2.2.2.1 + 1), r81.2.2.2.2.2.2.2.2.2.1, r81.2.2.2.2.2.2.2.2.2.2.1, r81.2.2.2.2.2.2.2.2.2.2.2.1, r81.2.2.2.2.2.2.2.2.2.2.2.2.1, r81.2.2.2.2.2.2.2.2.2.2.2.2.2)
                          )
                    else
                      (fX8_wants N (r64.2.1, r64.2.2.1, r64.2.2.2.1, r64.2.2.2.2.1, r64.2.2.2.2.2.1, r64.2.2.2.2.2.2.1, f67, r64.2.2.2.2.2.2.2.2.1, r64.2.2.2.2.2.2.2.2.2.1, r64.2.2.2.2.2.2.2.2.2.2.1, r64.2.2.2.2.2.2.2.2.2.2.2.1, r64.2.2.2.2.2.2.2.2.2.2.2.2.1, r64.2.2.2.2.2.2.2.2.2.2.2.2.2) 0).bind fun r72 =>
                        (fX8_digit N r72 1 9).bind fun r74 =>
                          chk (((4 : Int32) * v.2.2.2.2.2.2.2.1) + 2) 68 (
                            nmd (upd r74.2.2.2.2.2.2.2.1 (((4 : Int32) * v.2.2.2.2.2.2.2.1) + 2).toNatClampNeg r74.1) fun f77 =>
                            some (r74.2.1, r74.2.2.1, r74.2.2.2.1, r74.2.2.2.2.1, r74.2.2.2.2.2.1, r74.2.2.2.2.2.2.1, f77, (r74.2.2.2.2.2.2.2.2.1 + 1), r74.2.2.2.2.2.2.2.2.2.1, r74.2.2.2.2.2.2.2.2.2.2.1, r74.2.2.2.2.2.2.2.2.2.2.2.1, r74.2.2.2.2.2.2.2.2.2.2.2.2.1, r74.2.2.2.2.2.2.2.2.2.2.2.2.2)
                          )
                )
            else
              if r1 = 114 then
                (fX8_readRule N r47 ((4 : Int32) * v.2.2.2.2.2.2.2.1)).bind fun r62 =>
                  some (r62.1, r62.2.1, r62.2.2.1, r62.2.2.2.1, r62.2.2.2.2.1, r62.2.2.2.2.2.1, r62.2.2.2.2.2.2.1, (r62.2.2.2.2.2.2.2.1 + 1), r62.2.2.2.2.2.2.2.2)
              else
                (fX8_digit N r47 0 4).bind fun r51 =>
                  chk (((4 : Int32) * v.2.2.2.2.2.2.2.1) + 1) 68 (
                    nmd (upd r51.2.2.2.2.2.2.2.1 (((4 : Int32) * v.2.2.2.2.2.2.2.1) + 1).toNatClampNeg r51.1) fun f54 =>
                    chk (((4 : Int32) * v.2.2.2.2.2.2.2.1) + 1) 68 (
                      (fX8_digit N (r51.2.1, r51.2.2.1, r51.2.2.2.1, r51.2.2.2.2.1, r51.2.2.2.2.2.1, r51.2.2.2.2.2.2.1, f54, r51.2.2.2.2.2.2.2.2.1, r51.2.2.2.2.2.2.2.2.2.1, r51.2.2.2.2.2.2.2.2.2.2.1, r51.2.2.2.2.2.2.2.2.2.2.2.1, r51.2.2.2.2.2.2.2.2.2.2.2.2.1, r51.2.2.2.2.2.2.2.2.2.2.2.2.2) ((f54 (((4 : Int32) * v.2.2.2.2.2.2.2.1) + 1).toNatClampNeg) + 1) 5).bind fun r57 =>
                        chk (((4 : Int32) * v.2.2.2.2.2.2.2.1) + 2) 68 (
                          nmd (upd r57.2.2.2.2.2.2.2.1 (((4 : Int32) * v.2.2.2.2.2.2.2.1) + 2).toNatClampNeg r57.1) fun f60 =>
                          some (r57.2.1, r57.2.2.1, r57.2.2.2.1, r57.2.2.2.2.1, r57.2.2.2.2.2.1, r57.2.2.2.2.2.2.1, f60, (r57.2.2.2.2.2.2.2.2.1 + 1), r57.2.2.2.2.2.2.2.2.2.1, r57.2.2.2.2.2.2.2.2.2.2.1, r57.2.2.2.2.2.2.2.2.2.2.2.1, r57.2.2.2.2.2.2.2.2.2.2.2.2.1, r57.2.2.2.2.2.2.2.2.2.2.2.2.2)
                        )
                    )
                  )
        else
          if r1 = 120 then
            (fX8_wants N (v.1, v.2.1, v.2.2.1, v.2.2.2.1, v.2.2.2.2.1, v.2.2.2.2.2.1, f4, v.2.2.2.2.2.2.2) 1).bind fun r126 =>
              if r1 = 112 then
                (fX8_directions N r126).bind fun r143 =>
                  chk (((4 : Int32) * v.2.2.2.2.2.2.2.1) + 1) 68 (
                    nmd (upd r143.2.2.2.2.2.2.2.1 (((4 : Int32) * v.2.2.2.2.2.2.2.1) + 1).toNatClampNeg r143.1) fun f146 =>
                    (fX8_letter N (r143.2.1, r143.2.2.1, r143.2.2.2.1, r143.2.2.2.2.1, r143.2.2.2.2.2.1, r143.2.2.2.2.2.2.1, f146, r143.2.2.2.2.2.2.2.2.1, r143.2.2.2.2.2.2.2.2.2.1, r143.2.2.2.2.2.2.2.2.2.2.1, r143.2.2.2.2.2.2.2.2.2.2.2.1, r143.2.2.2.2.2.2.2.2.2.2.2.2.1, r143.2.2.2.2.2.2.2.2.2.2.2.2.2)).bind fun r148 =>
                      if r148 = 42 then
                        (fX8_wants N (r143.2.1, r143.2.2.1, r143.2.2.2.1, r143.2.2.2.2.1, r143.2.2.2.2.2.1, r143.2.2.2.2.2.2.1, f146, r143.2.2.2.2.2.2.2.2.1, r143.2.2.2.2.2.2.2.2.2.1, r143.2.2.2.2.2.2.2.2.2.2.1, r143.2.2.2.2.2.2.2.2.2.2.2.1, r143.2.2.2.2.2.2.2.2.2.2.2.2.1, r143.2.2.2.2.2.2.2.2.2.2.2.2.2) 1).bind fun r158 =>
                          (fX8_digit N r158 1 9).bind fun r160 =>
                            chk (((4 : Int32) * v.2.2.2.2.2.2.2.1) + 2) 68 (
                              nmd (upd r160.2.2.2.2.2.2.2.1 (((4 : Int32) * v.2.2.2.2.2.2.2.1) + 2).toNatClampNeg r160.1) fun f163 =>
                              some (r160.2.1, r160.2.2.1, r160.2.2.2.1, r160.2.2.2.2.1, r160.2.2.2.2.2.1, r160.2.2.2.2.2.2.1, f163, (r160.2.2.2.2.2.2.2.2.1 + 1), r160.2.2.2.2.2.2.2.2.2.1, r160.2.2.2.2.2.2.2.2.2.2.1, r160.2.2.2.2.2.2.2.2.2.2.2.1, r160.2.2.2.2.2.2.2.2.2.2.2.2.1, r160.2.2.2.2.2.2.2.2.2.2.2.2.2)
                            )
                      else
                        (fX8_wants N (r143.2.1, r143.2.2.1, r143.2.2.2.1, r143.2.2.2.2.1, r143.2.2.2.2.2.1, r143.2.2.2.2.2.2.1, f146, r143.2.2.2.2.2.2.2.2.1, r143.2.2.2.2.2.2.2.2.2.1, r143.2.2.2.2.2.2.2.2.2.2.1, r143.2.2.2.2.2.2.2.2.2.2.2.1, r143.2.2.2.2.2.2.2.2.2.2.2.2.1, r143.2.2.2.2.2.2.2.2.2.2.2.2.2) 0).bind fun r151 =>
                          (fX8_digit N r151 1 9).bind fun r153 =>
                            chk (((4 : Int32) * v.2.2.2.2.2.2.2.1) + 2) 68 (
                              nmd (upd r153.2.2.2.2.2.2.2.1 (((4 : Int32) * v.2.2.2.2.2.2.2.1) + 2).toNatClampNeg r153.1) fun f156 =>
                              some (r153.2.1, r153.2.2.1, r153.2.2.2.1, r153.2.2.2.2.1, r153.2.2.2.2.2.1, r153.2.2.2.2.2.2.1, f156, (r153.2.2.2.2.2.2.2.2.1 + 1), r153.2.2.2.2.2.2.2.2.2.1, r153.2.2.2.2.2.2.2.2.2.2.1, r153.2.2.2.2.2.2.2.2.2.2.2.1, r153.2.2.2.2.2.2.2.2.2.2.2.2.1, r153.2.2.2.2.2.2.2.2.2.2.2.2.2)
                            )
                  )
              else
                if r1 = 114 then
                  (fX8_readRule N r126 ((4 : Int32) * v.2.2.2.2.2.2.2.1)).bind fun r141 =>
                    some (r141.1, r141.2.1, r141.2.2.1, r141.2.2.2.1, r141.2.2.2.2.1, r141.2.2.2.2.2.1, r141.2.2.2.2.2.2.1, (r141.2.2.2.2.2.2.2.1 + 1), r141.2.2.2.2.2.2.2.2)
                else
                  (fX8_digit N r126 0 4).bind fun r130 =>
                    chk (((4 : Int32) * v.2.2.2.2.2.2.2.1) + 1) 68 (
                      nmd (upd r130.2.2.2.2.2.2.2.1 (((4 : Int32) * v.2.2.2.2.2.2.2.1) + 1).toNatClampNeg r130.1) fun f133 =>
                      chk (((4 : Int32) * v.2.2.2.2.2.2.2.1) + 1) 68 (
                        (fX8_digit N (r130.2.1, r130.2.2.1, r130.2.2.2.1, r130.2.2.2.2.1, r130.2.2.2.2.2.1, r130.2.2.2.2.2.2.1, f133, r130.2.2.2.2.2.2.2.2.1, r130.2.2.2.2.2.2.2.2.2.1, r130.2.2.2.2.2.2.2.2.2.2.1, r130.2.2.2.2.2.2.2.2.2.2.2.1, r130.2.2.2.2.2.2.2.2.2.2.2.2.1, r130.2.2.2.2.2.2.2.2.2.2.2.2.2) ((f133 (((4 : Int32) * v.2.2.2.2.2.2.2.1) + 1).toNatClampNeg) + 1) 5).bind fun r136 =>
                          chk (((4 : Int32) * v.2.2.2.2.2.2.2.1) + 2) 68 (
                            nmd (upd r136.2.2.2.2.2.2.2.1 (((4 : Int32) * v.2.2.2.2.2.2.2.1) + 2).toNatClampNeg r136.1) fun f139 =>
                            some (r136.2.1, r136.2.2.1, r136.2.2.2.1, r136.2.2.2.2.1, r136.2.2.2.2.2.1, r136.2.2.2.2.2.2.1, f139, (r136.2.2.2.2.2.2.2.2.1 + 1), r136.2.2.2.2.2.2.2.2.2.1, r136.2.2.2.2.2.2.2.2.2.2.1, r136.2.2.2.2.2.2.2.2.2.2.2.1, r136.2.2.2.2.2.2.2.2.2.2.2.2.1, r136.2.2.2.2.2.2.2.2.2.2.2.2.2)
                          )
                      )
                    )
          else
            (fX8_wants N (v.1, v.2.1, v.2.2.1, v.2.2.2.1, v.2.2.2.2.1, v.2.2.2.2.2.1, f4, v.2.2.2.2.2.2.2) 0).bind fun r87 =>
              if r1 = 112 then
                (fX8_directions N r87).bind fun r104 =>
                  chk (((4 : Int32) * v.2.2.2.2.2.2.2.1) + 1) 68 (
                    nmd (upd r104.2.2.2.2.2.2.2.1 (((4 : Int32) * v.2.2.2.2.2.2.2.1) + 1).toNatClampNeg r104.1) fun f107 =>
                    (fX8_letter N (r104.2.1, r104.2.2.1, r104.2.2.2.1, r104.2.2.2.2.1, r104.2.2.2.2.2.1, r104.2.2.2.2.2.2.1, f107, r104.2.2.2.2.2.2.2.2.1, r104.2.2.2.2.2.2.2.2.2.1, r104.2.2.2.2.2.2.2.2.2.2.1, r104.2.2.2.2.2.2.2.2.2.2.2.1, r104.2.2.2.2.2.2.2.2.2.2.2.2.1, r104.2.2.2.2.2.2.2.2.2.2.2.2.2)).bind fun r109 =>
                      if r109 = 42 then
                        (fX8_wants N (r104.2.1, r104.2.2.1, r104.2.2.2.1, r104.2.2.2.2.1, r104.2.2.2.2.2.1, r104.2.2.2.2.2.2.1, f107, r104.2.2.2.2.2.2.2.2.1, r104.2.2.2.2.2.2.2.2.2.1, r104.2.2.2.2.2.2.2.2.2.2.1, r104.2.2.2.2.2.2.2.2.2.2.2.1, r104.2.2.2.2.2.2.2.2.2.2.2.2.1, r104.2.2.2.2.2.2.2.2.2.2.2.2.2) 1).bind fun r119 =>
                          (fX8_digit N r119 1 9).bind fun r121 =>
                            chk (((4 : Int32) * v.2.2.2.2.2.2.2.1) + 2) 68 (
                              nmd (upd r121.2.2.2.2.2.2.2.1 (((4 : Int32) * v.2.2.2.2.2.2.2.1) + 2).toNatClampNeg r121.1) fun f124 =>
                              some (r121.2.1, r121.2.2.1, r121.2.2.2.1, r121.2.2.2.2.1, r121.2.2.2.2.2.1, r121.2.2.2.2.2.2.1, f124, (r121.2.2.2.2.2.2.2.2.1 + 1), r121.2.2.2.2.2.2.2.2.2.1, r121.2.2.2.2.2.2.2.2.2.2.1, r121.2.2.2.2.2.2.2.2.2.2.2.1, r121.2.2.2.2.2.2.2.2.2.2.2.2.1, r121.2.2.2.2.2.2.2.2.2.2.2.2.2)
                            )
                      else
                        (fX8_wants N (r104.2.1, r104.2.2.1, r104.2.2.2.1, r104.2.2.2.2.1, r104.2.2.2.2.2.1, r104.2.2.2.2.2.2.1, f107, r104.2.2.2.2.2.2.2.2.1, r104.2.2.2.2.2.2.2.2.2.1, r104.2.2.2.2.2.2.2.2.2.2.1, r104.2.2.2.2.2.2.2.2.2.2.2.1, r104.2.2.2.2.2.2.2.2.2.2.2.2.1, r104.2.2.2.2.2.2.2.2.2.2.2.2.2) 0).bind fun r112 =>
                          (fX8_digit N r112 1 9).bind fun r114 =>
                            chk (((4 : Int32) * v.2.2.2.2.2.2.2.1) + 2) 68 (
                              nmd (upd r114.2.2.2.2.2.2.2.1 (((4 : Int32) * v.2.2.2.2.2.2.2.1) + 2).toNatClampNeg r114.1) fun f117 =>
                              some (r114.2.1, r114.2.2.1, r114.2.2.2.1, r114.2.2.2.2.1, r114.2.2.2.2.2.1, r114.2.2.2.2.2.2.1, f117, (r114.2.2.2.2.2.2.2.2.1 + 1), r114.2.2.2.2.2.2.2.2.2.1, r114.2.2.2.2.2.2.2.2.2.2.1, r114.2.2.2.2.2.2.2.2.2.2.2.1, r114.2.2.2.2.2.2.2.2.2.2.2.2.1, r114.2.2.2.2.2.2.2.2.2.2.2.2.2)
                            )
                  )
              else
                if r1 = 114 then
                  (fX8_readRule N r87 ((4 : Int32) * v.2.2.2.2.2.2.2.1)).bind fun r102 =>
                    some (r102.1, r102.2.1, r102.2.2.1, r102.2.2.2.1, r102.2.2.2.2.1, r102.2.2.2.2.2.1, r102.2.2.2.2.2.2.1, (r102.2.2.2.2.2.2.2.1 + 1), r102.2.2.2.2.2.2.2.2)
                else
                  (fX8_digit N r87 0 4).bind fun r91 =>
                    chk (((4 : Int32) * v.2.2.2.2.2.2.2.1) + 1) 68 (
                      nmd (upd r91.2.2.2.2.2.2.2.1 (((4 : Int32) * v.2.2.2.2.2.2.2.1) + 1).toNatClampNeg r91.1) fun f94 =>
                      chk (((4 : Int32) * v.2.2.2.2.2.2.2.1) + 1) 68 (
                        (fX8_digit N (r91.2.1, r91.2.2.1, r91.2.2.2.1, r91.2.2.2.2.1, r91.2.2.2.2.2.1, r91.2.2.2.2.2.2.1, f94, r91.2.2.2.2.2.2.2.2.1, r91.2.2.2.2.2.2.2.2.2.1, r91.2.2.2.2.2.2.2.2.2.2.1, r91.2.2.2.2.2.2.2.2.2.2.2.1, r91.2.2.2.2.2.2.2.2.2.2.2.2.1, r91.2.2.2.2.2.2.2.2.2.2.2.2.2) ((f94 (((4 : Int32) * v.2.2.2.2.2.2.2.1) + 1).toNatClampNeg) + 1) 5).bind fun r97 =>
                          chk (((4 : Int32) * v.2.2.2.2.2.2.2.1) + 2) 68 (
                            nmd (upd r97.2.2.2.2.2.2.2.1 (((4 : Int32) * v.2.2.2.2.2.2.2.1) + 2).toNatClampNeg r97.1) fun f100 =>
                            some (r97.2.1, r97.2.2.1, r97.2.2.2.1, r97.2.2.2.2.1, r97.2.2.2.2.2.1, r97.2.2.2.2.2.2.1, f100, (r97.2.2.2.2.2.2.2.2.1 + 1), r97.2.2.2.2.2.2.2.2.2.1, r97.2.2.2.2.2.2.2.2.2.2.1, r97.2.2.2.2.2.2.2.2.2.2.2.1, r97.2.2.2.2.2.2.2.2.2.2.2.2.1, r97.2.2.2.2.2.2.2.2.2.2.2.2.2)
                          )
                      )
                    )
    )
set_option maxHeartbeats 8000000 in
set_option maxRecDepth 100000 in
theorem M_X8_readOrder (l : Launch) (D : va_G) (cy : Nat → ClassId) (N : Nat) (a : Nat → Nat) (v : SX8) (o : SX8) (hf : fX8_readOrder N v = some o) : okM l yX8_readOrder wsX8_readOrder (rmz 3 66) D cy [.ref (a 0)] (wX8 cy a v) (wX8 cy a o) none := by
  refine okM_of (own := RX8) (nme := "readOrder") (cc := cX8_readOrder) (maxL := 3) (ret := none) (by decide) rfl rfl rfl (Nat.le_of_ble_eq_true rfl) ?_
  intro p e s m args below meth c A F
  have i_X8 : ∀ w ∈ u_ws RX8 TX8 13, w ∈ wsX8_readOrder := fun _ h => List.mem_cons_of_mem _ (List.mem_append_right _ h)
  unfold fX8_readOrder at hf
  refine V.eq rfl (show lv_args 0 [.ref (a 0)] = [(0, .ref (a 0))] from rfl) rfl ?_
  refine V_iconst (v := 4) (pc := 0) F dX8_readOrder_0 (by decide) ?_
  refine V_aload_n (pc := 1) F dX8_readOrder_1 rfl 0 rfl ?_
  refine V_get (pc := 2) F 0 8 7 i_X8 rfl (by decide) rfl (mm 1 rfl) dX8_readOrder_2 rfl rfl ?_
  refine V_imul (pc := 5) F dX8_readOrder_5 ?_
  refine V_istore_n (L2 := [(1, .int ((4 : Int32) * v.2.2.2.2.2.2.2.1)), (0, .ref (a 0))]) (pc := 6) F dX8_readOrder_6 rfl (by decide) rfl ?_
  refine V_aload_n (pc := 7) F dX8_readOrder_7 rfl 1 rfl ?_
  obtain ⟨r1, g2, hf⟩ := bind_of hf
  refine V_V (w2 := wX8 cy a v) (rest := []) (st2 := [.int r1]) (pc := 8) F 8 (M_X8_letter l D cy N a v r1 g2) (cwV 0 F.ts gX8_readOrder_X8_letter rfl rfl rfl hd_X8_letter ⟨Nat.le_of_ble_eq_true rfl, Nat.le_of_ble_eq_true rfl⟩) rfl dX8_readOrder_8 Fit.whole rfl rfl rfl (Nat.le_of_ble_eq_true rfl) (Nat.zero_le _) (Nat.zero_le _) rfl rfl rfl ?_
  refine V_istore_n (L2 := [(2, .int r1), (1, .int ((4 : Int32) * v.2.2.2.2.2.2.2.1)), (0, .ref (a 0))]) (pc := 11) F dX8_readOrder_11 rfl (by decide) rfl ?_
  refine V_aload_n (pc := 12) F dX8_readOrder_12 rfl 2 rfl ?_
  refine V_get (pc := 13) F 0 8 6 i_X8 rfl (by decide) rfl (mm 2 rfl) dX8_readOrder_13 rfl rfl ?_
  refine V_iload_n (pc := 16) F dX8_readOrder_16 rfl 1 rfl ?_
  refine V_iload_n (pc := 17) F dX8_readOrder_17 rfl 0 rfl ?_
  obtain ⟨c3, hf⟩ := chk_some hf
  obtain ⟨f4, e5, hf⟩ := nmd_of hf
  refine V_iast (w2 := wX8 cy a (v.1, v.2.1, v.2.2.1, v.2.2.2.1, v.2.2.2.2.1, v.2.2.2.2.2.1, f4, v.2.2.2.2.2.2.2)) (pc := 18) F 4 rfl c3 e5 dX8_readOrder_18 rfl ?_
  refine V_aload_n (pc := 19) F dX8_readOrder_19 rfl 2 rfl ?_
  refine V_iload_n (pc := 20) F dX8_readOrder_20 rfl 0 rfl ?_
  refine V_bipush (v := 112) (pc := 21) F dX8_readOrder_21 (by decide) ?_
  refine V_icmp_eq (pc := 23) (tgt := 38) F dX8_readOrder_23 (by decide) (fun h6 => ?_) (fun h6 => ?_)
  · replace hf := ite_pos hf h6
    refine V_iconst (v := 1) (pc := 38) F dX8_readOrder_38 (by decide) ?_
    refine V_goto (pc := 39) (tgt := 43) F dX8_readOrder_39 (by decide) ?_
    obtain ⟨r7, g8, hf⟩ := bind_of hf
    refine V_V (w2 := wX8 cy a r7) (rest := []) (st2 := []) (pc := 43) F 8 (M_X8_wants l D cy N a (v.1, v.2.1, v.2.2.1, v.2.2.2.1, v.2.2.2.2.1, v.2.2.2.2.2.1, f4, v.2.2.2.2.2.2.2) 1 r7 g8) (cwV 1 F.ts gX8_readOrder_X8_wants rfl rfl rfl hd_X8_wants ⟨Nat.le_of_ble_eq_true rfl, Nat.le_of_ble_eq_true rfl⟩) rfl dX8_readOrder_43 Fit.whole fstX8 rfl rfl (Nat.le_of_ble_eq_true rfl) (Nat.zero_le _) (Nat.zero_le _) rfl rfl rfl ?_
    refine V_iload_n (pc := 46) F dX8_readOrder_46 rfl 0 rfl ?_
    refine V_bipush (v := 112) (pc := 47) F dX8_readOrder_47 (by decide) ?_
    refine V_icmp_ne (pc := 49) (tgt := 100) F dX8_readOrder_49 (by decide) (fun h9 => ?_) (fun h9 => ?_)
    · replace hf := ite_neg hf h9
      refine V_iload_n (pc := 100) F dX8_readOrder_100 rfl 0 rfl ?_
      refine V_bipush (v := 114) (pc := 101) F dX8_readOrder_101 (by decide) ?_
      refine V_icmp_ne (pc := 103) (tgt := 114) F dX8_readOrder_103 (by decide) (fun h10 => ?_) (fun h10 => ?_)
      · replace hf := ite_neg hf h10
        refine V_aload_n (pc := 114) F dX8_readOrder_114 rfl 2 rfl ?_
        refine V_get (pc := 115) F 0 8 6 i_X8 rfl (by decide) rfl (mm 2 rfl) dX8_readOrder_115 rfl rfl ?_
        refine V_iload_n (pc := 118) F dX8_readOrder_118 rfl 1 rfl ?_
        refine V_iconst (v := 1) (pc := 119) F dX8_readOrder_119 (by decide) ?_
        refine V_iadd (pc := 120) F dX8_readOrder_120 ?_
        refine V_aload_n (pc := 121) F dX8_readOrder_121 rfl 2 rfl ?_
        refine V_iconst (v := 0) (pc := 122) F dX8_readOrder_122 (by decide) ?_
        refine V_iconst (v := 4) (pc := 123) F dX8_readOrder_123 (by decide) ?_
        obtain ⟨r11, g12, hf⟩ := bind_of hf
        refine V_V (w2 := wX8 cy a r11.2) (rest := [.int (((4 : Int32) * v.2.2.2.2.2.2.2.1) + 1), .ref (a 4)]) (st2 := [.int r11.1, .int (((4 : Int32) * v.2.2.2.2.2.2.2.1) + 1), .ref (a 4)]) (pc := 124) F 8 (M_X8_digit l D cy N a r7 0 4 r11 g12) (cwV 2 F.ts gX8_readOrder_X8_digit rfl rfl rfl hd_X8_digit ⟨Nat.le_of_ble_eq_true rfl, Nat.le_of_ble_eq_true rfl⟩) rfl dX8_readOrder_124 Fit.whole fstX8 rfl rfl (Nat.le_of_ble_eq_true rfl) (Nat.zero_le _) (Nat.zero_le _) rfl rfl rfl ?_
        obtain ⟨c13, hf⟩ := chk_some hf
        obtain ⟨f14, e15, hf⟩ := nmd_of hf
        refine V_iast (w2 := wX8 cy a (r11.2.1, r11.2.2.1, r11.2.2.2.1, r11.2.2.2.2.1, r11.2.2.2.2.2.1, r11.2.2.2.2.2.2.1, f14, r11.2.2.2.2.2.2.2.2.1, r11.2.2.2.2.2.2.2.2.2.1, r11.2.2.2.2.2.2.2.2.2.2.1, r11.2.2.2.2.2.2.2.2.2.2.2.1, r11.2.2.2.2.2.2.2.2.2.2.2.2.1, r11.2.2.2.2.2.2.2.2.2.2.2.2.2)) (pc := 127) F 4 rfl c13 e15 dX8_readOrder_127 rfl ?_
        refine V_aload_n (pc := 128) F dX8_readOrder_128 rfl 2 rfl ?_
        refine V_get (pc := 129) F 0 8 6 i_X8 rfl (by decide) rfl (mm 2 rfl) dX8_readOrder_129 rfl rfl ?_
        refine V_iload_n (pc := 132) F dX8_readOrder_132 rfl 1 rfl ?_
        refine V_iconst (v := 2) (pc := 133) F dX8_readOrder_133 (by decide) ?_
        refine V_iadd (pc := 134) F dX8_readOrder_134 ?_
        refine V_aload_n (pc := 135) F dX8_readOrder_135 rfl 2 rfl ?_
        refine V_aload_n (pc := 136) F dX8_readOrder_136 rfl 2 rfl ?_
        refine V_get (pc := 137) F 0 8 6 i_X8 rfl (by decide) rfl (mm 2 rfl) dX8_readOrder_137 rfl rfl ?_
        refine V_iload_n (pc := 140) F dX8_readOrder_140 rfl 1 rfl ?_
        refine V_iconst (v := 1) (pc := 141) F dX8_readOrder_141 (by decide) ?_
        refine V_iadd (pc := 142) F dX8_readOrder_142 ?_
        obtain ⟨c16, hf⟩ := chk_some hf
        refine V_iald (pc := 143) F 4 rfl c16 dX8_readOrder_143 ?_
        refine V_iconst (v := 1) (pc := 144) F dX8_readOrder_144 (by decide) ?_
        refine V_iadd (pc := 145) F dX8_readOrder_145 ?_
        refine V_iconst (v := 5) (pc := 146) F dX8_readOrder_146 (by decide) ?_
        obtain ⟨r17, g18, hf⟩ := bind_of hf
        refine V_V (w2 := wX8 cy a r17.2) (rest := [.int (((4 : Int32) * v.2.2.2.2.2.2.2.1) + 2), .ref (a 4)]) (st2 := [.int r17.1, .int (((4 : Int32) * v.2.2.2.2.2.2.2.1) + 2), .ref (a 4)]) (pc := 147) F 8 (M_X8_digit l D cy N a (r11.2.1, r11.2.2.1, r11.2.2.2.1, r11.2.2.2.2.1, r11.2.2.2.2.2.1, r11.2.2.2.2.2.2.1, f14, r11.2.2.2.2.2.2.2.2.1, r11.2.2.2.2.2.2.2.2.2.1, r11.2.2.2.2.2.2.2.2.2.2.1, r11.2.2.2.2.2.2.2.2.2.2.2.1, r11.2.2.2.2.2.2.2.2.2.2.2.2.1, r11.2.2.2.2.2.2.2.2.2.2.2.2.2) ((f14 (((4 : Int32) * v.2.2.2.2.2.2.2.1) + 1).toNatClampNeg) + 1) 5 r17 g18) (cwV 2 F.ts gX8_readOrder_X8_digit rfl rfl rfl hd_X8_digit ⟨Nat.le_of_ble_eq_true rfl, Nat.le_of_ble_eq_true rfl⟩) rfl dX8_readOrder_147 Fit.whole fstX8 rfl rfl (Nat.le_of_ble_eq_true rfl) (Nat.zero_le _) (Nat.zero_le _) rfl rfl rfl ?_
        obtain ⟨c19, hf⟩ := chk_some hf
        obtain ⟨f20, e21, hf⟩ := nmd_of hf
        refine V_iast (w2 := wX8 cy a (r17.2.1, r17.2.2.1, r17.2.2.2.1, r17.2.2.2.2.1, r17.2.2.2.2.2.1, r17.2.2.2.2.2.2.1, f20, r17.2.2.2.2.2.2.2.2.1, r17.2.2.2.2.2.2.2.2.2.1, r17.2.2.2.2.2.2.2.2.2.2.1, r17.2.2.2.2.2.2.2.2.2.2.2.1, r17.2.2.2.2.2.2.2.2.2.2.2.2.1, r17.2.2.2.2.2.2.2.2.2.2.2.2.2)) (pc := 150) F 4 rfl c19 e21 dX8_readOrder_150 rfl ?_
        refine V_aload_n (pc := 151) F dX8_readOrder_151 rfl 2 rfl ?_
        refine V_dup (pc := 152) F dX8_readOrder_152 rfl ?_
        refine V_get (pc := 153) F 0 8 7 i_X8 rfl (by decide) rfl (mm 1 rfl) dX8_readOrder_153 rfl rfl ?_
        refine V_iconst (v := 1) (pc := 156) F dX8_readOrder_156 (by decide) ?_
        refine V_iadd (pc := 157) F dX8_readOrder_157 ?_
        refine V_put (w2 := wX8 cy a (r17.2.1, r17.2.2.1, r17.2.2.2.1, r17.2.2.2.2.1, r17.2.2.2.2.2.1, r17.2.2.2.2.2.2.1, f20, (r17.2.2.2.2.2.2.2.2.1 + 1), r17.2.2.2.2.2.2.2.2.2.1, r17.2.2.2.2.2.2.2.2.2.2.1, r17.2.2.2.2.2.2.2.2.2.2.2.1, r17.2.2.2.2.2.2.2.2.2.2.2.2.1, r17.2.2.2.2.2.2.2.2.2.2.2.2.2)) (pc := 158) F 0 8 7 i_X8 tyX8 tyX8_ok nmX8 rfl (by decide) rfl (mm 1 rfl) rfl dX8_readOrder_158 rfl rfl rfl (Nat.le_of_ble_eq_true rfl) rfl ?_
        obtain rfl := some_of hf
        exact V_vret F rfl dX8_readOrder_161 rfl
      · replace hf := ite_pos hf h10
        refine V_aload_n (pc := 106) F dX8_readOrder_106 rfl 2 rfl ?_
        refine V_iload_n (pc := 107) F dX8_readOrder_107 rfl 1 rfl ?_
        obtain ⟨r22, g23, hf⟩ := bind_of hf
        refine V_V (w2 := wX8 cy a r22) (rest := []) (st2 := []) (pc := 108) F 8 (M_X8_readRule l D cy N a r7 ((4 : Int32) * v.2.2.2.2.2.2.2.1) r22 g23) (cwV 1 F.ts gX8_readOrder_X8_readRule rfl rfl rfl hd_X8_readRule ⟨Nat.le_of_ble_eq_true rfl, Nat.le_of_ble_eq_true rfl⟩) rfl dX8_readOrder_108 Fit.whole fstX8 rfl rfl (Nat.le_of_ble_eq_true rfl) (Nat.zero_le _) (Nat.zero_le _) rfl rfl rfl ?_
        refine V_goto (pc := 111) (tgt := 151) F dX8_readOrder_111 (by decide) ?_
        refine V_aload_n (pc := 151) F dX8_readOrder_151 rfl 2 rfl ?_
        refine V_dup (pc := 152) F dX8_readOrder_152 rfl ?_
        refine V_get (pc := 153) F 0 8 7 i_X8 rfl (by decide) rfl (mm 1 rfl) dX8_readOrder_153 rfl rfl ?_
        refine V_iconst (v := 1) (pc := 156) F dX8_readOrder_156 (by decide) ?_
        refine V_iadd (pc := 157) F dX8_readOrder_157 ?_
        refine V_put (w2 := wX8 cy a (r22.1, r22.2.1, r22.2.2.1, r22.2.2.2.1, r22.2.2.2.2.1, r22.2.2.2.2.2.1, r22.2.2.2.2.2.2.1, (r22.2.2.2.2.2.2.2.1 + 1), r22.2.2.2.2.2.2.2.2)) (pc := 158) F 0 8 7 i_X8 tyX8 tyX8_ok nmX8 rfl (by decide) rfl (mm 1 rfl) rfl dX8_readOrder_158 rfl rfl rfl (Nat.le_of_ble_eq_true rfl) rfl ?_
        obtain rfl := some_of hf
        exact V_vret F rfl dX8_readOrder_161 rfl
    · replace hf := ite_pos hf h9
      refine V_aload_n (pc := 52) F dX8_readOrder_52 rfl 2 rfl ?_
      refine V_get (pc := 53) F 0 8 6 i_X8 rfl (by decide) rfl (mm 2 rfl) dX8_readOrder_53 rfl rfl ?_
      refine V_iload_n (pc := 56) F dX8_readOrder_56 rfl 1 rfl ?_
      refine V_iconst (v := 1) (pc := 57) F dX8_readOrder_57 (by decide) ?_
      refine V_iadd (pc := 58) F dX8_readOrder_58 ?_
      refine V_aload_n (pc := 59) F dX8_readOrder_59 rfl 2 rfl ?_
      obtain ⟨r24, g25, hf⟩ := bind_of hf
      refine V_V (w2 := wX8 cy a r24.2) (rest := [.int (((4 : Int32) * v.2.2.2.2.2.2.2.1) + 1), .ref (a 4)]) (st2 := [.int r24.1, .int (((4 : Int32) * v.2.2.2.2.2.2.2.1) + 1), .ref (a 4)]) (pc := 60) F 8 (M_X8_directions l D cy N a r7 r24 g25) (cwV 0 F.ts gX8_readOrder_X8_directions rfl rfl rfl hd_X8_directions ⟨Nat.le_of_ble_eq_true rfl, Nat.le_of_ble_eq_true rfl⟩) rfl dX8_readOrder_60 Fit.whole fstX8 rfl rfl (Nat.le_of_ble_eq_true rfl) (Nat.zero_le _) (Nat.zero_le _) rfl rfl rfl ?_
      obtain ⟨c26, hf⟩ := chk_some hf
      obtain ⟨f27, e28, hf⟩ := nmd_of hf
      refine V_iast (w2 := wX8 cy a (r24.2.1, r24.2.2.1, r24.2.2.2.1, r24.2.2.2.2.1, r24.2.2.2.2.2.1, r24.2.2.2.2.2.2.1, f27, r24.2.2.2.2.2.2.2.2.1, r24.2.2.2.2.2.2.2.2.2.1, r24.2.2.2.2.2.2.2.2.2.2.1, r24.2.2.2.2.2.2.2.2.2.2.2.1, r24.2.2.2.2.2.2.2.2.2.2.2.2.1, r24.2.2.2.2.2.2.2.2.2.2.2.2.2)) (pc := 63) F 4 rfl c26 e28 dX8_readOrder_63 rfl ?_
      refine V_aload_n (pc := 64) F dX8_readOrder_64 rfl 2 rfl ?_
      refine V_aload_n (pc := 65) F dX8_readOrder_65 rfl 2 rfl ?_
      obtain ⟨r29, g30, hf⟩ := bind_of hf
      refine V_V (w2 := wX8 cy a (r24.2.1, r24.2.2.1, r24.2.2.2.1, r24.2.2.2.2.1, r24.2.2.2.2.2.1, r24.2.2.2.2.2.2.1, f27, r24.2.2.2.2.2.2.2.2.1, r24.2.2.2.2.2.2.2.2.2.1, r24.2.2.2.2.2.2.2.2.2.2.1, r24.2.2.2.2.2.2.2.2.2.2.2.1, r24.2.2.2.2.2.2.2.2.2.2.2.2.1, r24.2.2.2.2.2.2.2.2.2.2.2.2.2)) (rest := [.ref (a 0)]) (st2 := [.int r29, .ref (a 0)]) (pc := 66) F 8 (M_X8_letter l D cy N a (r24.2.1, r24.2.2.1, r24.2.2.2.1, r24.2.2.2.2.1, r24.2.2.2.2.2.1, r24.2.2.2.2.2.2.1, f27, r24.2.2.2.2.2.2.2.2.1, r24.2.2.2.2.2.2.2.2.2.1, r24.2.2.2.2.2.2.2.2.2.2.1, r24.2.2.2.2.2.2.2.2.2.2.2.1, r24.2.2.2.2.2.2.2.2.2.2.2.2.1, r24.2.2.2.2.2.2.2.2.2.2.2.2.2) r29 g30) (cwV 0 F.ts gX8_readOrder_X8_letter rfl rfl rfl hd_X8_letter ⟨Nat.le_of_ble_eq_true rfl, Nat.le_of_ble_eq_true rfl⟩) rfl dX8_readOrder_66 Fit.whole rfl rfl rfl (Nat.le_of_ble_eq_true rfl) (Nat.zero_le _) (Nat.zero_le _) rfl rfl rfl ?_
      refine V_bipush (v := 42) (pc := 69) F dX8_readOrder_69 (by decide) ?_
      refine V_icmp_ne (pc := 71) (tgt := 78) F dX8_readOrder_71 (by decide) (fun h31 => ?_) (fun h31 => ?_)
      · replace hf := ite_neg hf h31
        refine V_iconst (v := 0) (pc := 78) F dX8_readOrder_78 (by decide) ?_
        obtain ⟨r32, g33, hf⟩ := bind_of hf
        refine V_V (w2 := wX8 cy a r32) (rest := []) (st2 := []) (pc := 79) F 8 (M_X8_wants l D cy N a (r24.2.1, r24.2.2.1, r24.2.2.2.1, r24.2.2.2.2.1, r24.2.2.2.2.2.1, r24.2.2.2.2.2.2.1, f27, r24.2.2.2.2.2.2.2.2.1, r24.2.2.2.2.2.2.2.2.2.1, r24.2.2.2.2.2.2.2.2.2.2.1, r24.2.2.2.2.2.2.2.2.2.2.2.1, r24.2.2.2.2.2.2.2.2.2.2.2.2.1, r24.2.2.2.2.2.2.2.2.2.2.2.2.2) 0 r32 g33) (cwV 1 F.ts gX8_readOrder_X8_wants rfl rfl rfl hd_X8_wants ⟨Nat.le_of_ble_eq_true rfl, Nat.le_of_ble_eq_true rfl⟩) rfl dX8_readOrder_79 Fit.whole fstX8 rfl rfl (Nat.le_of_ble_eq_true rfl) (Nat.zero_le _) (Nat.zero_le _) rfl rfl rfl ?_
        refine V_aload_n (pc := 82) F dX8_readOrder_82 rfl 2 rfl ?_
        refine V_get (pc := 83) F 0 8 6 i_X8 rfl (by decide) rfl (mm 2 rfl) dX8_readOrder_83 rfl rfl ?_
        refine V_iload_n (pc := 86) F dX8_readOrder_86 rfl 1 rfl ?_
        refine V_iconst (v := 2) (pc := 87) F dX8_readOrder_87 (by decide) ?_
        refine V_iadd (pc := 88) F dX8_readOrder_88 ?_
        refine V_aload_n (pc := 89) F dX8_readOrder_89 rfl 2 rfl ?_
        refine V_iconst (v := 1) (pc := 90) F dX8_readOrder_90 (by decide) ?_
        refine V_bipush (v := 9) (pc := 91) F dX8_readOrder_91 (by decide) ?_
        obtain ⟨r34, g35, hf⟩ := bind_of hf
        refine V_V (w2 := wX8 cy a r34.2) (rest := [.int (((4 : Int32) * v.2.2.2.2.2.2.2.1) + 2), .ref (a 4)]) (st2 := [.int r34.1, .int (((4 : Int32) * v.2.2.2.2.2.2.2.1) + 2), .ref (a 4)]) (pc := 93) F 8 (M_X8_digit l D cy N a r32 1 9 r34 g35) (cwV 2 F.ts gX8_readOrder_X8_digit rfl rfl rfl hd_X8_digit ⟨Nat.le_of_ble_eq_true rfl, Nat.le_of_ble_eq_true rfl⟩) rfl dX8_readOrder_93 Fit.whole fstX8 rfl rfl (Nat.le_of_ble_eq_true rfl) (Nat.zero_le _) (Nat.zero_le _) rfl rfl rfl ?_
        obtain ⟨c36, hf⟩ := chk_some hf
        obtain ⟨f37, e38, hf⟩ := nmd_of hf
        refine V_iast (w2 := wX8 cy a (r34.2.1, r34.2.2.1, r34.2.2.2.1, r34.2.2.2.2.1, r34.2.2.2.2.2.1, r34.2.2.2.2.2.2.1, f37, r34.2.2.2.2.2.2.2.2.1, r34.2.2.2.2.2.2.2.2.2.1, r34.2.2.2.2.2.2.2.2.2.2.1, r34.2.2.2.2.2.2.2.2.2.2.2.1, r34.2.2.2.2.2.2.2.2.2.2.2.2.1, r34.2.2.2.2.2.2.2.2.2.2.2.2.2)) (pc := 96) F 4 rfl c36 e38 dX8_readOrder_96 rfl ?_
        refine V_goto (pc := 97) (tgt := 151) F dX8_readOrder_97 (by decide) ?_
        refine V_aload_n (pc := 151) F dX8_readOrder_151 rfl 2 rfl ?_
        refine V_dup (pc := 152) F dX8_readOrder_152 rfl ?_
        refine V_get (pc := 153) F 0 8 7 i_X8 rfl (by decide) rfl (mm 1 rfl) dX8_readOrder_153 rfl rfl ?_
        refine V_iconst (v := 1) (pc := 156) F dX8_readOrder_156 (by decide) ?_
        refine V_iadd (pc := 157) F dX8_readOrder_157 ?_
        refine V_put (w2 := wX8 cy a (r34.2.1, r34.2.2.1, r34.2.2.2.1, r34.2.2.2.2.1, r34.2.2.2.2.2.1, r34.2.2.2.2.2.2.1, f37, (r34.2.2.2.2.2.2.2.2.1 + 1), r34.2.2.2.2.2.2.2.2.2.1, r34.2.2.2.2.2.2.2.2.2.2.1, r34.2.2.2.2.2.2.2.2.2.2.2.1, r34.2.2.2.2.2.2.2.2.2.2.2.2.1, r34.2.2.2.2.2.2.2.2.2.2.2.2.2)) (pc := 158) F 0 8 7 i_X8 tyX8 tyX8_ok nmX8 rfl (by decide) rfl (mm 1 rfl) rfl dX8_readOrder_158 rfl rfl rfl (Nat.le_of_ble_eq_true rfl) rfl ?_
        obtain rfl := some_of hf
        exact V_vret F rfl dX8_readOrder_161 rfl
      · replace hf := ite_pos hf h31
        refine V_iconst (v := 1) (pc := 74) F dX8_readOrder_74 (by decide) ?_
        refine V_goto (pc := 75) (tgt := 79) F dX8_readOrder_75 (by decide) ?_
        obtain ⟨r39, g40, hf⟩ := bind_of hf
        refine V_V (w2 := wX8 cy a r39) (rest := []) (st2 := []) (pc := 79) F 8 (M_X8_wants l D cy N a (r24.2.1, r24.2.2.1, r24.2.2.2.1, r24.2.2.2.2.1, r24.2.2.2.2.2.1, r24.2.2.2.2.2.2.1, f27, r24.2.2.2.2.2.2.2.2.1, r24.2.2.2.2.2.2.2.2.2.1, r24.2.2.2.2.2.2.2.2.2.2.1, r24.2.2.2.2.2.2.2.2.2.2.2.1, r24.2.2.2.2.2.2.2.2.2.2.2.2.1, r24.2.2.2.2.2.2.2.2.2.2.2.2.2) 1 r39 g40) (cwV 1 F.ts gX8_readOrder_X8_wants rfl rfl rfl hd_X8_wants ⟨Nat.le_of_ble_eq_true rfl, Nat.le_of_ble_eq_true rfl⟩) rfl dX8_readOrder_79 Fit.whole fstX8 rfl rfl (Nat.le_of_ble_eq_true rfl) (Nat.zero_le _) (Nat.zero_le _) rfl rfl rfl ?_
        refine V_aload_n (pc := 82) F dX8_readOrder_82 rfl 2 rfl ?_
        refine V_get (pc := 83) F 0 8 6 i_X8 rfl (by decide) rfl (mm 2 rfl) dX8_readOrder_83 rfl rfl ?_
        refine V_iload_n (pc := 86) F dX8_readOrder_86 rfl 1 rfl ?_
        refine V_iconst (v := 2) (pc := 87) F dX8_readOrder_87 (by decide) ?_
        refine V_iadd (pc := 88) F dX8_readOrder_88 ?_
        refine V_aload_n (pc := 89) F dX8_readOrder_89 rfl 2 rfl ?_
        refine V_iconst (v := 1) (pc := 90) F dX8_readOrder_90 (by decide) ?_
        refine V_bipush (v := 9) (pc := 91) F dX8_readOrder_91 (by decide) ?_
        obtain ⟨r41, g42, hf⟩ := bind_of hf
        refine V_V (w2 := wX8 cy a r41.2) (rest := [.int (((4 : Int32) * v.2.2.2.2.2.2.2.1) + 2), .ref (a 4)]) (st2 := [.int r41.1, .int (((4 : Int32) * v.2.2.2.2.2.2.2.1) + 2), .ref (a 4)]) (pc := 93) F 8 (M_X8_digit l D cy N a r39 1 9 r41 g42) (cwV 2 F.ts gX8_readOrder_X8_digit rfl rfl rfl hd_X8_digit ⟨Nat.le_of_ble_eq_true rfl, Nat.le_of_ble_eq_true rfl⟩) rfl dX8_readOrder_93 Fit.whole fstX8 rfl rfl (Nat.le_of_ble_eq_true rfl) (Nat.zero_le _) (Nat.zero_le _) rfl rfl rfl ?_
        obtain ⟨c43, hf⟩ := chk_some hf
        obtain ⟨f44, e45, hf⟩ := nmd_of hf
        refine V_iast (w2 := wX8 cy a (r41.2.1, r41.2.2.1, r41.2.2.2.1, r41.2.2.2.2.1, r41.2.2.2.2.2.1, r41.2.2.2.2.2.2.1, f44, r41.2.2.2.2.2.2.2.2.1, r41.2.2.2.2.2.2.2.2.2.1, r41.2.2.2.2.2.2.2.2.2.2.1, r41.2.2.2.2.2.2.2.2.2.2.2.1, r41.2.2.2.2.2.2.2.2.2.2.2.2.1, r41.2.2.2.2.2.2.2.2.2.2.2.2.2)) (pc := 96) F 4 rfl c43 e45 dX8_readOrder_96 rfl ?_
        refine V_goto (pc := 97) (tgt := 151) F dX8_readOrder_97 (by decide) ?_
        refine V_aload_n (pc := 151) F dX8_readOrder_151 rfl 2 rfl ?_
        refine V_dup (pc := 152) F dX8_readOrder_152 rfl ?_
        refine V_get (pc := 153) F 0 8 7 i_X8 rfl (by decide) rfl (mm 1 rfl) dX8_readOrder_153 rfl rfl ?_
        refine V_iconst (v := 1) (pc := 156) F dX8_readOrder_156 (by decide) ?_
        refine V_iadd (pc := 157) F dX8_readOrder_157 ?_
        refine V_put (w2 := wX8 cy a (r41.2.1, r41.2.2.1, r41.2.2.2.1, r41.2.2.2.2.1, r41.2.2.2.2.2.1, r41.2.2.2.2.2.2.1, f44, (r41.2.2.2.2.2.2.2.2.1 + 1), r41.2.2.2.2.2.2.2.2.2.1, r41.2.2.2.2.2.2.2.2.2.2.1, r41.2.2.2.2.2.2.2.2.2.2.2.1, r41.2.2.2.2.2.2.2.2.2.2.2.2.1, r41.2.2.2.2.2.2.2.2.2.2.2.2.2)) (pc := 158) F 0 8 7 i_X8 tyX8 tyX8_ok nmX8 rfl (by decide) rfl (mm 1 rfl) rfl dX8_readOrder_158 rfl rfl rfl (Nat.le_of_ble_eq_true rfl) rfl ?_
        obtain rfl := some_of hf
        exact V_vret F rfl dX8_readOrder_161 rfl
  · replace hf := ite_neg hf h6
    refine V_iload_n (pc := 26) F dX8_readOrder_26 rfl 0 rfl ?_
    refine V_bipush (v := 114) (pc := 27) F dX8_readOrder_27 (by decide) ?_
    refine V_icmp_eq (pc := 29) (tgt := 38) F dX8_readOrder_29 (by decide) (fun h46 => ?_) (fun h46 => ?_)
    · replace hf := ite_pos hf h46
      refine V_iconst (v := 1) (pc := 38) F dX8_readOrder_38 (by decide) ?_
      refine V_goto (pc := 39) (tgt := 43) F dX8_readOrder_39 (by decide) ?_
      obtain ⟨r47, g48, hf⟩ := bind_of hf
      refine V_V (w2 := wX8 cy a r47) (rest := []) (st2 := []) (pc := 43) F 8 (M_X8_wants l D cy N a (v.1, v.2.1, v.2.2.1, v.2.2.2.1, v.2.2.2.2.1, v.2.2.2.2.2.1, f4, v.2.2.2.2.2.2.2) 1 r47 g48) (cwV 1 F.ts gX8_readOrder_X8_wants rfl rfl rfl hd_X8_wants ⟨Nat.le_of_ble_eq_true rfl, Nat.le_of_ble_eq_true rfl⟩) rfl dX8_readOrder_43 Fit.whole fstX8 rfl rfl (Nat.le_of_ble_eq_true rfl) (Nat.zero_le _) (Nat.zero_le _) rfl rfl rfl ?_
      refine V_iload_n (pc := 46) F dX8_readOrder_46 rfl 0 rfl ?_
      refine V_bipush (v := 112) (pc := 47) F dX8_readOrder_47 (by decide) ?_
      refine V_icmp_ne (pc := 49) (tgt := 100) F dX8_readOrder_49 (by decide) (fun h49 => ?_) (fun h49 => ?_)
      · replace hf := ite_neg hf h49
        refine V_iload_n (pc := 100) F dX8_readOrder_100 rfl 0 rfl ?_
        refine V_bipush (v := 114) (pc := 101) F dX8_readOrder_101 (by decide) ?_
        refine V_icmp_ne (pc := 103) (tgt := 114) F dX8_readOrder_103 (by decide) (fun h50 => ?_) (fun h50 => ?_)
        · replace hf := ite_neg hf h50
          refine V_aload_n (pc := 114) F dX8_readOrder_114 rfl 2 rfl ?_
          refine V_get (pc := 115) F 0 8 6 i_X8 rfl (by decide) rfl (mm 2 rfl) dX8_readOrder_115 rfl rfl ?_
          refine V_iload_n (pc := 118) F dX8_readOrder_118 rfl 1 rfl ?_
          refine V_iconst (v := 1) (pc := 119) F dX8_readOrder_119 (by decide) ?_
          refine V_iadd (pc := 120) F dX8_readOrder_120 ?_
          refine V_aload_n (pc := 121) F dX8_readOrder_121 rfl 2 rfl ?_
          refine V_iconst (v := 0) (pc := 122) F dX8_readOrder_122 (by decide) ?_
          refine V_iconst (v := 4) (pc := 123) F dX8_readOrder_123 (by decide) ?_
          obtain ⟨r51, g52, hf⟩ := bind_of hf
          refine V_V (w2 := wX8 cy a r51.2) (rest := [.int (((4 : Int32) * v.2.2.2.2.2.2.2.1) + 1), .ref (a 4)]) (st2 := [.int r51.1, .int (((4 : Int32) * v.2.2.2.2.2.2.2.1) + 1), .ref (a 4)]) (pc := 124) F 8 (M_X8_digit l D cy N a r47 0 4 r51 g52) (cwV 2 F.ts gX8_readOrder_X8_digit rfl rfl rfl hd_X8_digit ⟨Nat.le_of_ble_eq_true rfl, Nat.le_of_ble_eq_true rfl⟩) rfl dX8_readOrder_124 Fit.whole fstX8 rfl rfl (Nat.le_of_ble_eq_true rfl) (Nat.zero_le _) (Nat.zero_le _) rfl rfl rfl ?_
          obtain ⟨c53, hf⟩ := chk_some hf
          obtain ⟨f54, e55, hf⟩ := nmd_of hf
          refine V_iast (w2 := wX8 cy a (r51.2.1, r51.2.2.1, r51.2.2.2.1, r51.2.2.2.2.1, r51.2.2.2.2.2.1, r51.2.2.2.2.2.2.1, f54, r51.2.2.2.2.2.2.2.2.1, r51.2.2.2.2.2.2.2.2.2.1, r51.2.2.2.2.2.2.2.2.2.2.1, r51.2.2.2.2.2.2.2.2.2.2.2.1, r51.2.2.2.2.2.2.2.2.2.2.2.2.1, r51.2.2.2.2.2.2.2.2.2.2.2.2.2)) (pc := 127) F 4 rfl c53 e55 dX8_readOrder_127 rfl ?_
          refine V_aload_n (pc := 128) F dX8_readOrder_128 rfl 2 rfl ?_
          refine V_get (pc := 129) F 0 8 6 i_X8 rfl (by decide) rfl (mm 2 rfl) dX8_readOrder_129 rfl rfl ?_
          refine V_iload_n (pc := 132) F dX8_readOrder_132 rfl 1 rfl ?_
          refine V_iconst (v := 2) (pc := 133) F dX8_readOrder_133 (by decide) ?_
          refine V_iadd (pc := 134) F dX8_readOrder_134 ?_
          refine V_aload_n (pc := 135) F dX8_readOrder_135 rfl 2 rfl ?_
          refine V_aload_n (pc := 136) F dX8_readOrder_136 rfl 2 rfl ?_
          refine V_get (pc := 137) F 0 8 6 i_X8 rfl (by decide) rfl (mm 2 rfl) dX8_readOrder_137 rfl rfl ?_
          refine V_iload_n (pc := 140) F dX8_readOrder_140 rfl 1 rfl ?_
          refine V_iconst (v := 1) (pc := 141) F dX8_readOrder_141 (by decide) ?_
          refine V_iadd (pc := 142) F dX8_readOrder_142 ?_
          obtain ⟨c56, hf⟩ := chk_some hf
          refine V_iald (pc := 143) F 4 rfl c56 dX8_readOrder_143 ?_
          refine V_iconst (v := 1) (pc := 144) F dX8_readOrder_144 (by decide) ?_
          refine V_iadd (pc := 145) F dX8_readOrder_145 ?_
          refine V_iconst (v := 5) (pc := 146) F dX8_readOrder_146 (by decide) ?_
          obtain ⟨r57, g58, hf⟩ := bind_of hf
          refine V_V (w2 := wX8 cy a r57.2) (rest := [.int (((4 : Int32) * v.2.2.2.2.2.2.2.1) + 2), .ref (a 4)]) (st2 := [.int r57.1, .int (((4 : Int32) * v.2.2.2.2.2.2.2.1) + 2), .ref (a 4)]) (pc := 147) F 8 (M_X8_digit l D cy N a (r51.2.1, r51.2.2.1, r51.2.2.2.1, r51.2.2.2.2.1, r51.2.2.2.2.2.1, r51.2.2.2.2.2.2.1, f54, r51.2.2.2.2.2.2.2.2.1, r51.2.2.2.2.2.2.2.2.2.1, r51.2.2.2.2.2.2.2.2.2.2.1, r51.2.2.2.2.2.2.2.2.2.2.2.1, r51.2.2.2.2.2.2.2.2.2.2.2.2.1, r51.2.2.2.2.2.2.2.2.2.2.2.2.2) ((f54 (((4 : Int32) * v.2.2.2.2.2.2.2.1) + 1).toNatClampNeg) + 1) 5 r57 g58) (cwV 2 F.ts gX8_readOrder_X8_digit rfl rfl rfl hd_X8_digit ⟨Nat.le_of_ble_eq_true rfl, Nat.le_of_ble_eq_true rfl⟩) rfl dX8_readOrder_147 Fit.whole fstX8 rfl rfl (Nat.le_of_ble_eq_true rfl) (Nat.zero_le _) (Nat.zero_le _) rfl rfl rfl ?_
          obtain ⟨c59, hf⟩ := chk_some hf
          obtain ⟨f60, e61, hf⟩ := nmd_of hf
          refine V_iast (w2 := wX8 cy a (r57.2.1, r57.2.2.1, r57.2.2.2.1, r57.2.2.2.2.1, r57.2.2.2.2.2.1, r57.2.2.2.2.2.2.1, f60, r57.2.2.2.2.2.2.2.2.1, r57.2.2.2.2.2.2.2.2.2.1, r57.2.2.2.2.2.2.2.2.2.2.1, r57.2.2.2.2.2.2.2.2.2.2.2.1, r57.2.2.2.2.2.2.2.2.2.2.2.2.1, r57.2.2.2.2.2.2.2.2.2.2.2.2.2)) (pc := 150) F 4 rfl c59 e61 dX8_readOrder_150 rfl ?_
          refine V_aload_n (pc := 151) F dX8_readOrder_151 rfl 2 rfl ?_
          refine V_dup (pc := 152) F dX8_readOrder_152 rfl ?_
          refine V_get (pc := 153) F 0 8 7 i_X8 rfl (by decide) rfl (mm 1 rfl) dX8_readOrder_153 rfl rfl ?_
          refine V_iconst (v := 1) (pc := 156) F dX8_readOrder_156 (by decide) ?_
          refine V_iadd (pc := 157) F dX8_readOrder_157 ?_
          refine V_put (w2 := wX8 cy a (r57.2.1, r57.2.2.1, r57.2.2.2.1, r57.2.2.2.2.1, r57.2.2.2.2.2.1, r57.2.2.2.2.2.2.1, f60, (r57.2.2.2.2.2.2.2.2.1 + 1), r57.2.2.2.2.2.2.2.2.2.1, r57.2.2.2.2.2.2.2.2.2.2.1, r57.2.2.2.2.2.2.2.2.2.2.2.1, r57.2.2.2.2.2.2.2.2.2.2.2.2.1, r57.2.2.2.2.2.2.2.2.2.2.2.2.2)) (pc := 158) F 0 8 7 i_X8 tyX8 tyX8_ok nmX8 rfl (by decide) rfl (mm 1 rfl) rfl dX8_readOrder_158 rfl rfl rfl (Nat.le_of_ble_eq_true rfl) rfl ?_
          obtain rfl := some_of hf
          exact V_vret F rfl dX8_readOrder_161 rfl
        · replace hf := ite_pos hf h50
          refine V_aload_n (pc := 106) F dX8_readOrder_106 rfl 2 rfl ?_
          refine V_iload_n (pc := 107) F dX8_readOrder_107 rfl 1 rfl ?_
          obtain ⟨r62, g63, hf⟩ := bind_of hf
          refine V_V (w2 := wX8 cy a r62) (rest := []) (st2 := []) (pc := 108) F 8 (M_X8_readRule l D cy N a r47 ((4 : Int32) * v.2.2.2.2.2.2.2.1) r62 g63) (cwV 1 F.ts gX8_readOrder_X8_readRule rfl rfl rfl hd_X8_readRule ⟨Nat.le_of_ble_eq_true rfl, Nat.le_of_ble_eq_true rfl⟩) rfl dX8_readOrder_108 Fit.whole fstX8 rfl rfl (Nat.le_of_ble_eq_true rfl) (Nat.zero_le _) (Nat.zero_le _) rfl rfl rfl ?_
          refine V_goto (pc := 111) (tgt := 151) F dX8_readOrder_111 (by decide) ?_
          refine V_aload_n (pc := 151) F dX8_readOrder_151 rfl 2 rfl ?_
          refine V_dup (pc := 152) F dX8_readOrder_152 rfl ?_
          refine V_get (pc := 153) F 0 8 7 i_X8 rfl (by decide) rfl (mm 1 rfl) dX8_readOrder_153 rfl rfl ?_
          refine V_iconst (v := 1) (pc := 156) F dX8_readOrder_156 (by decide) ?_
          refine V_iadd (pc := 157) F dX8_readOrder_157 ?_
          refine V_put (w2 := wX8 cy a (r62.1, r62.2.1, r62.2.2.1, r62.2.2.2.1, r62.2.2.2.2.1, r62.2.2.2.2.2.1, r62.2.2.2.2.2.2.1, (r62.2.2.2.2.2.2.2.1 + 1), r62.2.2.2.2.2.2.2.2)) (pc := 158) F 0 8 7 i_X8 tyX8 tyX8_ok nmX8 rfl (by decide) rfl (mm 1 rfl) rfl dX8_readOrder_158 rfl rfl rfl (Nat.le_of_ble_eq_true rfl) rfl ?_
          obtain rfl := some_of hf
          exact V_vret F rfl dX8_readOrder_161 rfl
      · replace hf := ite_pos hf h49
        refine V_aload_n (pc := 52) F dX8_readOrder_52 rfl 2 rfl ?_
        refine V_get (pc := 53) F 0 8 6 i_X8 rfl (by decide) rfl (mm 2 rfl) dX8_readOrder_53 rfl rfl ?_
        refine V_iload_n (pc := 56) F dX8_readOrder_56 rfl 1 rfl ?_
        refine V_iconst (v := 1) (pc := 57) F dX8_readOrder_57 (by decide) ?_
        refine V_iadd (pc := 58) F dX8_readOrder_58 ?_
        refine V_aload_n (pc := 59) F dX8_readOrder_59 rfl 2 rfl ?_
        obtain ⟨r64, g65, hf⟩ := bind_of hf
        refine V_V (w2 := wX8 cy a r64.2) (rest := [.int (((4 : Int32) * v.2.2.2.2.2.2.2.1) + 1), .ref (a 4)]) (st2 := [.int r64.1, .int (((4 : Int32) * v.2.2.2.2.2.2.2.1) + 1), .ref (a 4)]) (pc := 60) F 8 (M_X8_directions l D cy N a r47 r64 g65) (cwV 0 F.ts gX8_readOrder_X8_directions rfl rfl rfl hd_X8_directions ⟨Nat.le_of_ble_eq_true rfl, Nat.le_of_ble_eq_true rfl⟩) rfl dX8_readOrder_60 Fit.whole fstX8 rfl rfl (Nat.le_of_ble_eq_true rfl) (Nat.zero_le _) (Nat.zero_le _) rfl rfl rfl ?_
        obtain ⟨c66, hf⟩ := chk_some hf
        obtain ⟨f67, e68, hf⟩ := nmd_of hf
        refine V_iast (w2 := wX8 cy a (r64.2.1, r64.2.2.1, r64.2.2.2.1, r64.2.2.2.2.1, r64.2.2.2.2.2.1, r64.2.2.2.2.2.2.1, f67, r64.2.2.2.2.2.2.2.2.1, r64.2.2.2.2.2.2.2.2.2.1, r64.2.2.2.2.2.2.2.2.2.2.1, r64.2.2.2.2.2.2.2.2.2.2.2.1, r64.2.2.2.2.2.2.2.2.2.2.2.2.1, r64.2.2.2.2.2.2.2.2.2.2.2.2.2)) (pc := 63) F 4 rfl c66 e68 dX8_readOrder_63 rfl ?_
        refine V_aload_n (pc := 64) F dX8_readOrder_64 rfl 2 rfl ?_
        refine V_aload_n (pc := 65) F dX8_readOrder_65 rfl 2 rfl ?_
        obtain ⟨r69, g70, hf⟩ := bind_of hf
        refine V_V (w2 := wX8 cy a (r64.2.1, r64.2.2.1, r64.2.2.2.1, r64.2.2.2.2.1, r64.2.2.2.2.2.1, r64.2.2.2.2.2.2.1, f67, r64.2.2.2.2.2.2.2.2.1, r64.2.2.2.2.2.2.2.2.2.1, r64.2.2.2.2.2.2.2.2.2.2.1, r64.2.2.2.2.2.2.2.2.2.2.2.1, r64.2.2.2.2.2.2.2.2.2.2.2.2.1, r64.2.2.2.2.2.2.2.2.2.2.2.2.2)) (rest := [.ref (a 0)]) (st2 := [.int r69, .ref (a 0)]) (pc := 66) F 8 (M_X8_letter l D cy N a (r64.2.1, r64.2.2.1, r64.2.2.2.1, r64.2.2.2.2.1, r64.2.2.2.2.2.1, r64.2.2.2.2.2.2.1, f67, r64.2.2.2.2.2.2.2.2.1, r64.2.2.2.2.2.2.2.2.2.1, r64.2.2.2.2.2.2.2.2.2.2.1, r64.2.2.2.2.2.2.2.2.2.2.2.1, r64.2.2.2.2.2.2.2.2.2.2.2.2.1, r64.2.2.2.2.2.2.2.2.2.2.2.2.2) r69 g70) (cwV 0 F.ts gX8_readOrder_X8_letter rfl rfl rfl hd_X8_letter ⟨Nat.le_of_ble_eq_true rfl, Nat.le_of_ble_eq_true rfl⟩) rfl dX8_readOrder_66 Fit.whole rfl rfl rfl (Nat.le_of_ble_eq_true rfl) (Nat.zero_le _) (Nat.zero_le _) rfl rfl rfl ?_
        refine V_bipush (v := 42) (pc := 69) F dX8_readOrder_69 (by decide) ?_
        refine V_icmp_ne (pc := 71) (tgt := 78) F dX8_readOrder_71 (by decide) (fun h71 => ?_) (fun h71 => ?_)
        · replace hf := ite_neg hf h71
          refine V_iconst (v := 0) (pc := 78) F dX8_readOrder_78 (by decide) ?_
          obtain ⟨r72, g73, hf⟩ := bind_of hf
          refine V_V (w2 := wX8 cy a r72) (rest := []) (st2 := []) (pc := 79) F 8 (M_X8_wants l D cy N a (r64.2.1, r64.2.2.1, r64.2.2.2.1, r64.2.2.2.2.1, r64.2.2.2.2.2.1, r64.2.2.2.2.2.2.1, f67, r64.2.2.2.2.2.2.2.2.1, r64.2.2.2.2.2.2.2.2.2.1, r64.2.2.2.2.2.2.2.2.2.2.1, r64.2.2.2.2.2.2.2.2.2.2.2.1, r64.2.2.2.2.2.2.2.2.2.2.2.2.1, r64.2.2.2.2.2.2.2.2.2.2.2.2.2) 0 r72 g73) (cwV 1 F.ts gX8_readOrder_X8_wants rfl rfl rfl hd_X8_wants ⟨Nat.le_of_ble_eq_true rfl, Nat.le_of_ble_eq_true rfl⟩) rfl dX8_readOrder_79 Fit.whole fstX8 rfl rfl (Nat.le_of_ble_eq_true rfl) (Nat.zero_le _) (Nat.zero_le _) rfl rfl rfl ?_
          refine V_aload_n (pc := 82) F dX8_readOrder_82 rfl 2 rfl ?_
          refine V_get (pc := 83) F 0 8 6 i_X8 rfl (by decide) rfl (mm 2 rfl) dX8_readOrder_83 rfl rfl ?_
          refine V_iload_n (pc := 86) F dX8_readOrder_86 rfl 1 rfl ?_
          refine V_iconst (v := 2) (pc := 87) F dX8_readOrder_87 (by decide) ?_
          refine V_iadd (pc := 88) F dX8_readOrder_88 ?_
          refine V_aload_n (pc := 89) F dX8_readOrder_89 rfl 2 rfl ?_
          refine V_iconst (v := 1) (pc := 90) F dX8_readOrder_90 (by decide) ?_
          refine V_bipush (v := 9) (pc := 91) F dX8_readOrder_91 (by decide) ?_
          obtain ⟨r74, g75, hf⟩ := bind_of hf
          refine V_V (w2 := wX8 cy a r74.2) (rest := [.int (((4 : Int32) * v.2.2.2.2.2.2.2.1) + 2), .ref (a 4)]) (st2 := [.int r74.1, .int (((4 : Int32) * v.2.2.2.2.2.2.2.1) + 2), .ref (a 4)]) (pc := 93) F 8 (M_X8_digit l D cy N a r72 1 9 r74 g75) (cwV 2 F.ts gX8_readOrder_X8_digit rfl rfl rfl hd_X8_digit ⟨Nat.le_of_ble_eq_true rfl, Nat.le_of_ble_eq_true rfl⟩) rfl dX8_readOrder_93 Fit.whole fstX8 rfl rfl (Nat.le_of_ble_eq_true rfl) (Nat.zero_le _) (Nat.zero_le _) rfl rfl rfl ?_
          obtain ⟨c76, hf⟩ := chk_some hf
          obtain ⟨f77, e78, hf⟩ := nmd_of hf
          refine V_iast (w2 := wX8 cy a (r74.2.1, r74.2.2.1, r74.2.2.2.1, r74.2.2.2.2.1, r74.2.2.2.2.2.1, r74.2.2.2.2.2.2.1, f77, r74.2.2.2.2.2.2.2.2.1, r74.2.2.2.2.2.2.2.2.2.1, r74.2.2.2.2.2.2.2.2.2.2.1, r74.2.2.2.2.2.2.2.2.2.2.2.1, r74.2.2.2.2.2.2.2.2.2.2.2.2.1, r74.2.2.2.2.2.2.2.2.2.2.2.2.2)) (pc := 96) F 4 rfl c76 e78 dX8_readOrder_96 rfl ?_
          refine V_goto (pc := 97) (tgt := 151) F dX8_readOrder_97 (by decide) ?_
          refine V_aload_n (pc := 151) F dX8_readOrder_151 rfl 2 rfl ?_
          refine V_dup (pc := 152) F dX8_readOrder_152 rfl ?_
          refine V_get (pc := 153) F 0 8 7 i_X8 rfl (by decide) rfl (mm 1 rfl) dX8_readOrder_153 rfl rfl ?_
          refine V_iconst (v := 1) (pc := 156) F dX8_readOrder_156 (by decide) ?_
          refine V_iadd (pc := 157) F dX8_readOrder_157 ?_
          refine V_put (w2 := wX8 cy a (r74.2.1, r74.2.2.1, r74.2.2.2.1, r74.2.2.2.2.1, r74.2.2.2.2.2.1, r74.2.2.2.2.2.2.1, f77, (r74.2.2.2.2.2.2.2.2.1 + 1), r74.2.2.2.2.2.2.2.2.2.1, r74.2.2.2.2.2.2.2.2.2.2.1, r74.2.2.2.2.2.2.2.2.2.2.2.1, r74.2.2.2.2.2.2.2.2.2.2.2.2.1, r74.2.2.2.2.2.2.2.2.2.2.2.2.2)) (pc := 158) F 0 8 7 i_X8 tyX8 tyX8_ok nmX8 rfl (by decide) rfl (mm 1 rfl) rfl dX8_readOrder_158 rfl rfl rfl (Nat.le_of_ble_eq_true rfl) rfl ?_
          obtain rfl := some_of hf
          exact V_vret F rfl dX8_readOrder_161 rfl
        · replace hf := ite_pos hf h71
          refine V_iconst (v := 1) (pc := 74) F dX8_readOrder_74 (by decide) ?_
          refine V_goto (pc := 75) (tgt := 79) F dX8_readOrder_75 (by decide) ?_
          obtain ⟨r79, g80, hf⟩ := bind_of hf
          refine V_V (w2 := wX8 cy a r79) (rest := []) (st2 := []) (pc := 79) F 8 (M_X8_wants l D cy N a (r64.2.1, r64.2.2.1, r64.2.2.2.1, r64.2.2.2.2.1, r64.2.2.2.2.2.1, r64.2.2.2.2.2.2.1, f67, r64.2.2.2.2.2.2.2.2.1, r64.2.2.2.2.2.2.2.2.2.1, r64.2.2.2.2.2.2.2.2.2.2.1, r64.2.2.2.2.2.2.2.2.2.2.2.1, r64.2.2.2.2.2.2.2.2.2.2.2.2.1, r64.2.2.2.2.2.2.2.2.2.2.2.2.2) 1 r79 g80) (cwV 1 F.ts gX8_readOrder_X8_wants rfl rfl rfl hd_X8_wants ⟨Nat.le_of_ble_eq_true rfl, Nat.le_of_ble_eq_true rfl⟩) rfl dX8_readOrder_79 Fit.whole fstX8 rfl rfl (Nat.le_of_ble_eq_true rfl) (Nat.zero_le _) (Nat.zero_le _) rfl rfl rfl ?_
          refine V_aload_n (pc := 82) F dX8_readOrder_82 rfl 2 rfl ?_
          refine V_get (pc := 83) F 0 8 6 i_X8 rfl (by decide) rfl (mm 2 rfl) dX8_readOrder_83 rfl rfl ?_
          refine V_iload_n (pc := 86) F dX8_readOrder_86 rfl 1 rfl ?_
          refine V_iconst (v := 2) (pc := 87) F dX8_readOrder_87 (by decide) ?_
          refine V_iadd (pc := 88) F dX8_readOrder_88 ?_
          refine V_aload_n (pc := 89) F dX8_readOrder_89 rfl 2 rfl ?_
          refine V_iconst (v := 1) (pc := 90) F dX8_readOrder_90 (by decide) ?_
          refine V_bipush (v := 9) (pc := 91) F dX8_readOrder_91 (by decide) ?_
          obtain ⟨r81, g82, hf⟩ := bind_of hf
          refine V_V (w2 := wX8 cy a r81.2) (rest := [.int (((4 : Int32) * v.2.2.2.2.2.2.2.1) + 2), .ref (a 4)]) (st2 := [.int r81.1, .int (((4 : Int32) * v.2.2.2.2.2.2.2.1) + 2), .ref (a 4)]) (pc := 93) F 8 (M_X8_digit l D cy N a r79 1 9 r81 g82) (cwV 2 F.ts gX8_readOrder_X8_digit rfl rfl rfl hd_X8_digit ⟨Nat.le_of_ble_eq_true rfl, Nat.le_of_ble_eq_true rfl⟩) rfl dX8_readOrder_93 Fit.whole fstX8 rfl rfl (Nat.le_of_ble_eq_true rfl) (Nat.zero_le _) (Nat.zero_le _) rfl rfl rfl ?_
          obtain ⟨c83, hf⟩ := chk_some hf
          obtain ⟨f84, e85, hf⟩ := nmd_of hf
          refine V_iast (w2 := wX8 cy a (r81.2.1, r81.2.2.1, r81.2.2.2.1, r81.2.2.2.2.1, r81.2.2.2.2.2.1, r81.2.2.2.2.2.2.1, f84, r81.2.2.2.2.2.2.2.2.1, r81.2.2.2.2.2.2.2.2.2.1, r81.2.2.2.2.2.2.2.2.2.2.1, r81.2.2.2.2.2.2.2.2.2.2.2.1, r81.2.2.2.2.2.2.2.2.2.2.2.2.1, r81.2.2.2.2.2.2.2.2.2.2.2.2.2)) (pc := 96) F 4 rfl c83 e85 dX8_readOrder_96 rfl ?_
          refine V_goto (pc := 97) (tgt := 151) F dX8_readOrder_97 (by decide) ?_
          refine V_aload_n (pc := 151) F dX8_readOrder_151 rfl 2 rfl ?_
          refine V_dup (pc := 152) F dX8_readOrder_152 rfl ?_
          refine V_get (pc := 153) F 0 8 7 i_X8 rfl (by decide) rfl (mm 1 rfl) dX8_readOrder_153 rfl rfl ?_
          refine V_iconst (v := 1) (pc := 156) F dX8_readOrder_156 (by decide) ?_
          refine V_iadd (pc := 157) F dX8_readOrder_157 ?_
          refine V_put (w2 := wX8 cy a (r81.2.1, r81.2.2.1, r81.2.2.2.1, r81.2.2.2.2.1, r81.2.2.2.2.2.1, r81.2.2.2.2.2.2.1, f84, (r81.2.2.2.2.2.2.2.2.1 + 1), r81.2.2.2.2.2.2.2.2.2.1, r81.2.2.2.2.2.2.2.2.2.2.1, r81.2.2.2.2.2.2.2.2.2.2.2.1, r81.2.2.2.2.2.2.2.2.2.2.2.2.1, r81.2.2.2.2.2.2.2.2.2.2.2.2.2)) (pc := 158) F 0 8 7 i_X8 tyX8 tyX8_ok nmX8 rfl (by decide) rfl (mm 1 rfl) rfl dX8_readOrder_158 rfl rfl rfl (Nat.le_of_ble_eq_true rfl) rfl ?_
          obtain rfl := some_of hf
          exact V_vret F rfl dX8_readOrder_161 rfl
    · replace hf := ite_neg hf h46
      refine V_iload_n (pc := 32) F dX8_readOrder_32 rfl 0 rfl ?_
      refine V_bipush (v := 120) (pc := 33) F dX8_readOrder_33 (by decide) ?_
      refine V_icmp_ne (pc := 35) (tgt := 42) F dX8_readOrder_35 (by decide) (fun h86 => ?_) (fun h86 => ?_)
      · replace hf := ite_neg hf h86
        refine V_iconst (v := 0) (pc := 42) F dX8_readOrder_42 (by decide) ?_
        obtain ⟨r87, g88, hf⟩ := bind_of hf
        refine V_V (w2 := wX8 cy a r87) (rest := []) (st2 := []) (pc := 43) F 8 (M_X8_wants l D cy N a (v.1, v.2.1, v.2.2.1, v.2.2.2.1, v.2.2.2.2.1, v.2.2.2.2.2.1, f4, v.2.2.2.2.2.2.2) 0 r87 g88) (cwV 1 F.ts gX8_readOrder_X8_wants rfl rfl rfl hd_X8_wants ⟨Nat.le_of_ble_eq_true rfl, Nat.le_of_ble_eq_true rfl⟩) rfl dX8_readOrder_43 Fit.whole fstX8 rfl rfl (Nat.le_of_ble_eq_true rfl) (Nat.zero_le _) (Nat.zero_le _) rfl rfl rfl ?_
        refine V_iload_n (pc := 46) F dX8_readOrder_46 rfl 0 rfl ?_
        refine V_bipush (v := 112) (pc := 47) F dX8_readOrder_47 (by decide) ?_
        refine V_icmp_ne (pc := 49) (tgt := 100) F dX8_readOrder_49 (by decide) (fun h89 => ?_) (fun h89 => ?_)
        · replace hf := ite_neg hf h89
          refine V_iload_n (pc := 100) F dX8_readOrder_100 rfl 0 rfl ?_
          refine V_bipush (v := 114) (pc := 101) F dX8_readOrder_101 (by decide) ?_
          refine V_icmp_ne (pc := 103) (tgt := 114) F dX8_readOrder_103 (by decide) (fun h90 => ?_) (fun h90 => ?_)
          · replace hf := ite_neg hf h90
            refine V_aload_n (pc := 114) F dX8_readOrder_114 rfl 2 rfl ?_
            refine V_get (pc := 115) F 0 8 6 i_X8 rfl (by decide) rfl (mm 2 rfl) dX8_readOrder_115 rfl rfl ?_
            refine V_iload_n (pc := 118) F dX8_readOrder_118 rfl 1 rfl ?_
            refine V_iconst (v := 1) (pc := 119) F dX8_readOrder_119 (by decide) ?_
            refine V_iadd (pc := 120) F dX8_readOrder_120 ?_
            refine V_aload_n (pc := 121) F dX8_readOrder_121 rfl 2 rfl ?_
            refine V_iconst (v := 0) (pc := 122) F dX8_readOrder_122 (by decide) ?_
            refine V_iconst (v := 4) (pc := 123) F dX8_readOrder_123 (by decide) ?_
            obtain ⟨r91, g92, hf⟩ := bind_of hf
            refine V_V (w2 := wX8 cy a r91.2) (rest := [.int (((4 : Int32) * v.2.2.2.2.2.2.2.1) + 1), .ref (a 4)]) (st2 := [.int r91.1, .int (((4 : Int32) * v.2.2.2.2.2.2.2.1) + 1), .ref (a 4)]) (pc := 124) F 8 (M_X8_digit l D cy N a r87 0 4 r91 g92) (cwV 2 F.ts gX8_readOrder_X8_digit rfl rfl rfl hd_X8_digit ⟨Nat.le_of_ble_eq_true rfl, Nat.le_of_ble_eq_true rfl⟩) rfl dX8_readOrder_124 Fit.whole fstX8 rfl rfl (Nat.le_of_ble_eq_true rfl) (Nat.zero_le _) (Nat.zero_le _) rfl rfl rfl ?_
            obtain ⟨c93, hf⟩ := chk_some hf
            obtain ⟨f94, e95, hf⟩ := nmd_of hf
            refine V_iast (w2 := wX8 cy a (r91.2.1, r91.2.2.1, r91.2.2.2.1, r91.2.2.2.2.1, r91.2.2.2.2.2.1, r91.2.2.2.2.2.2.1, f94, r91.2.2.2.2.2.2.2.2.1, r91.2.2.2.2.2.2.2.2.2.1, r91.2.2.2.2.2.2.2.2.2.2.1, r91.2.2.2.2.2.2.2.2.2.2.2.1, r91.2.2.2.2.2.2.2.2.2.2.2.2.1, r91.2.2.2.2.2.2.2.2.2.2.2.2.2)) (pc := 127) F 4 rfl c93 e95 dX8_readOrder_127 rfl ?_
            refine V_aload_n (pc := 128) F dX8_readOrder_128 rfl 2 rfl ?_
            refine V_get (pc := 129) F 0 8 6 i_X8 rfl (by decide) rfl (mm 2 rfl) dX8_readOrder_129 rfl rfl ?_
            refine V_iload_n (pc := 132) F dX8_readOrder_132 rfl 1 rfl ?_
            refine V_iconst (v := 2) (pc := 133) F dX8_readOrder_133 (by decide) ?_
            refine V_iadd (pc := 134) F dX8_readOrder_134 ?_
            refine V_aload_n (pc := 135) F dX8_readOrder_135 rfl 2 rfl ?_
            refine V_aload_n (pc := 136) F dX8_readOrder_136 rfl 2 rfl ?_
            refine V_get (pc := 137) F 0 8 6 i_X8 rfl (by decide) rfl (mm 2 rfl) dX8_readOrder_137 rfl rfl ?_
            refine V_iload_n (pc := 140) F dX8_readOrder_140 rfl 1 rfl ?_
            refine V_iconst (v := 1) (pc := 141) F dX8_readOrder_141 (by decide) ?_
            refine V_iadd (pc := 142) F dX8_readOrder_142 ?_
            obtain ⟨c96, hf⟩ := chk_some hf
            refine V_iald (pc := 143) F 4 rfl c96 dX8_readOrder_143 ?_
            refine V_iconst (v := 1) (pc := 144) F dX8_readOrder_144 (by decide) ?_
            refine V_iadd (pc := 145) F dX8_readOrder_145 ?_
            refine V_iconst (v := 5) (pc := 146) F dX8_readOrder_146 (by decide) ?_
            obtain ⟨r97, g98, hf⟩ := bind_of hf
            refine V_V (w2 := wX8 cy a r97.2) (rest := [.int (((4 : Int32) * v.2.2.2.2.2.2.2.1) + 2), .ref (a 4)]) (st2 := [.int r97.1, .int (((4 : Int32) * v.2.2.2.2.2.2.2.1) + 2), .ref (a 4)]) (pc := 147) F 8 (M_X8_digit l D cy N a (r91.2.1, r91.2.2.1, r91.2.2.2.1, r91.2.2.2.2.1, r91.2.2.2.2.2.1, r91.2.2.2.2.2.2.1, f94, r91.2.2.2.2.2.2.2.2.1, r91.2.2.2.2.2.2.2.2.2.1, r91.2.2.2.2.2.2.2.2.2.2.1, r91.2.2.2.2.2.2.2.2.2.2.2.1, r91.2.2.2.2.2.2.2.2.2.2.2.2.1, r91.2.2.2.2.2.2.2.2.2.2.2.2.2) ((f94 (((4 : Int32) * v.2.2.2.2.2.2.2.1) + 1).toNatClampNeg) + 1) 5 r97 g98) (cwV 2 F.ts gX8_readOrder_X8_digit rfl rfl rfl hd_X8_digit ⟨Nat.le_of_ble_eq_true rfl, Nat.le_of_ble_eq_true rfl⟩) rfl dX8_readOrder_147 Fit.whole fstX8 rfl rfl (Nat.le_of_ble_eq_true rfl) (Nat.zero_le _) (Nat.zero_le _) rfl rfl rfl ?_
            obtain ⟨c99, hf⟩ := chk_some hf
            obtain ⟨f100, e101, hf⟩ := nmd_of hf
            refine V_iast (w2 := wX8 cy a (r97.2.1, r97.2.2.1, r97.2.2.2.1, r97.2.2.2.2.1, r97.2.2.2.2.2.1, r97.2.2.2.2.2.2.1, f100, r97.2.2.2.2.2.2.2.2.1, r97.2.2.2.2.2.2.2.2.2.1, r97.2.2.2.2.2.2.2.2.2.2.1, r97.2.2.2.2.2.2.2.2.2.2.2.1, r97.2.2.2.2.2.2.2.2.2.2.2.2.1, r97.2.2.2.2.2.2.2.2.2.2.2.2.2)) (pc := 150) F 4 rfl c99 e101 dX8_readOrder_150 rfl ?_
            refine V_aload_n (pc := 151) F dX8_readOrder_151 rfl 2 rfl ?_
            refine V_dup (pc := 152) F dX8_readOrder_152 rfl ?_
            refine V_get (pc := 153) F 0 8 7 i_X8 rfl (by decide) rfl (mm 1 rfl) dX8_readOrder_153 rfl rfl ?_
            refine V_iconst (v := 1) (pc := 156) F dX8_readOrder_156 (by decide) ?_
            refine V_iadd (pc := 157) F dX8_readOrder_157 ?_
            refine V_put (w2 := wX8 cy a (r97.2.1, r97.2.2.1, r97.2.2.2.1, r97.2.2.2.2.1, r97.2.2.2.2.2.1, r97.2.2.2.2.2.2.1, f100, (r97.2.2.2.2.2.2.2.2.1 + 1), r97.2.2.2.2.2.2.2.2.2.1, r97.2.2.2.2.2.2.2.2.2.2.1, r97.2.2.2.2.2.2.2.2.2.2.2.1, r97.2.2.2.2.2.2.2.2.2.2.2.2.1, r97.2.2.2.2.2.2.2.2.2.2.2.2.2)) (pc := 158) F 0 8 7 i_X8 tyX8 tyX8_ok nmX8 rfl (by decide) rfl (mm 1 rfl) rfl dX8_readOrder_158 rfl rfl rfl (Nat.le_of_ble_eq_true rfl) rfl ?_
            obtain rfl := some_of hf
            exact V_vret F rfl dX8_readOrder_161 rfl
          · replace hf := ite_pos hf h90
            refine V_aload_n (pc := 106) F dX8_readOrder_106 rfl 2 rfl ?_
            refine V_iload_n (pc := 107) F dX8_readOrder_107 rfl 1 rfl ?_
            obtain ⟨r102, g103, hf⟩ := bind_of hf
            refine V_V (w2 := wX8 cy a r102) (rest := []) (st2 := []) (pc := 108) F 8 (M_X8_readRule l D cy N a r87 ((4 : Int32) * v.2.2.2.2.2.2.2.1) r102 g103) (cwV 1 F.ts gX8_readOrder_X8_readRule rfl rfl rfl hd_X8_readRule ⟨Nat.le_of_ble_eq_true rfl, Nat.le_of_ble_eq_true rfl⟩) rfl dX8_readOrder_108 Fit.whole fstX8 rfl rfl (Nat.le_of_ble_eq_true rfl) (Nat.zero_le _) (Nat.zero_le _) rfl rfl rfl ?_
            refine V_goto (pc := 111) (tgt := 151) F dX8_readOrder_111 (by decide) ?_
            refine V_aload_n (pc := 151) F dX8_readOrder_151 rfl 2 rfl ?_
            refine V_dup (pc := 152) F dX8_readOrder_152 rfl ?_
            refine V_get (pc := 153) F 0 8 7 i_X8 rfl (by decide) rfl (mm 1 rfl) dX8_readOrder_153 rfl rfl ?_
            refine V_iconst (v := 1) (pc := 156) F dX8_readOrder_156 (by decide) ?_
            refine V_iadd (pc := 157) F dX8_readOrder_157 ?_
            refine V_put (w2 := wX8 cy a (r102.1, r102.2.1, r102.2.2.1, r102.2.2.2.1, r102.2.2.2.2.1, r102.2.2.2.2.2.1, r102.2.2.2.2.2.2.1, (r102.2.2.2.2.2.2.2.1 + 1), r102.2.2.2.2.2.2.2.2)) (pc := 158) F 0 8 7 i_X8 tyX8 tyX8_ok nmX8 rfl (by decide) rfl (mm 1 rfl) rfl dX8_readOrder_158 rfl rfl rfl (Nat.le_of_ble_eq_true rfl) rfl ?_
            obtain rfl := some_of hf
            exact V_vret F rfl dX8_readOrder_161 rfl
        · replace hf := ite_pos hf h89
          refine V_aload_n (pc := 52) F dX8_readOrder_52 rfl 2 rfl ?_
          refine V_get (pc := 53) F 0 8 6 i_X8 rfl (by decide) rfl (mm 2 rfl) dX8_readOrder_53 rfl rfl ?_
          refine V_iload_n (pc := 56) F dX8_readOrder_56 rfl 1 rfl ?_
          refine V_iconst (v := 1) (pc := 57) F dX8_readOrder_57 (by decide) ?_
          refine V_iadd (pc := 58) F dX8_readOrder_58 ?_
          refine V_aload_n (pc := 59) F dX8_readOrder_59 rfl 2 rfl ?_
          obtain ⟨r104, g105, hf⟩ := bind_of hf
          refine V_V (w2 := wX8 cy a r104.2) (rest := [.int (((4 : Int32) * v.2.2.2.2.2.2.2.1) + 1), .ref (a 4)]) (st2 := [.int r104.1, .int (((4 : Int32) * v.2.2.2.2.2.2.2.1) + 1), .ref (a 4)]) (pc := 60) F 8 (M_X8_directions l D cy N a r87 r104 g105) (cwV 0 F.ts gX8_readOrder_X8_directions rfl rfl rfl hd_X8_directions ⟨Nat.le_of_ble_eq_true rfl, Nat.le_of_ble_eq_true rfl⟩) rfl dX8_readOrder_60 Fit.whole fstX8 rfl rfl (Nat.le_of_ble_eq_true rfl) (Nat.zero_le _) (Nat.zero_le _) rfl rfl rfl ?_
          obtain ⟨c106, hf⟩ := chk_some hf
          obtain ⟨f107, e108, hf⟩ := nmd_of hf
          refine V_iast (w2 := wX8 cy a (r104.2.1, r104.2.2.1, r104.2.2.2.1, r104.2.2.2.2.1, r104.2.2.2.2.2.1, r104.2.2.2.2.2.2.1, f107, r104.2.2.2.2.2.2.2.2.1, r104.2.2.2.2.2.2.2.2.2.1, r104.2.2.2.2.2.2.2.2.2.2.1, r104.2.2.2.2.2.2.2.2.2.2.2.1, r104.2.2.2.2.2.2.2.2.2.2.2.2.1, r104.2.2.2.2.2.2.2.2.2.2.2.2.2)) (pc := 63) F 4 rfl c106 e108 dX8_readOrder_63 rfl ?_
          refine V_aload_n (pc := 64) F dX8_readOrder_64 rfl 2 rfl ?_
          refine V_aload_n (pc := 65) F dX8_readOrder_65 rfl 2 rfl ?_
          obtain ⟨r109, g110, hf⟩ := bind_of hf
          refine V_V (w2 := wX8 cy a (r104.2.1, r104.2.2.1, r104.2.2.2.1, r104.2.2.2.2.1, r104.2.2.2.2.2.1, r104.2.2.2.2.2.2.1, f107, r104.2.2.2.2.2.2.2.2.1, r104.2.2.2.2.2.2.2.2.2.1, r104.2.2.2.2.2.2.2.2.2.2.1, r104.2.2.2.2.2.2.2.2.2.2.2.1, r104.2.2.2.2.2.2.2.2.2.2.2.2.1, r104.2.2.2.2.2.2.2.2.2.2.2.2.2)) (rest := [.ref (a 0)]) (st2 := [.int r109, .ref (a 0)]) (pc := 66) F 8 (M_X8_letter l D cy N a (r104.2.1, r104.2.2.1, r104.2.2.2.1, r104.2.2.2.2.1, r104.2.2.2.2.2.1, r104.2.2.2.2.2.2.1, f107, r104.2.2.2.2.2.2.2.2.1, r104.2.2.2.2.2.2.2.2.2.1, r104.2.2.2.2.2.2.2.2.2.2.1, r104.2.2.2.2.2.2.2.2.2.2.2.1, r104.2.2.2.2.2.2.2.2.2.2.2.2.1, r104.2.2.2.2.2.2.2.2.2.2.2.2.2) r109 g110) (cwV 0 F.ts gX8_readOrder_X8_letter rfl rfl rfl hd_X8_letter ⟨Nat.le_of_ble_eq_true rfl, Nat.le_of_ble_eq_true rfl⟩) rfl dX8_readOrder_66 Fit.whole rfl rfl rfl (Nat.le_of_ble_eq_true rfl) (Nat.zero_le _) (Nat.zero_le _) rfl rfl rfl ?_
          refine V_bipush (v := 42) (pc := 69) F dX8_readOrder_69 (by decide) ?_
          refine V_icmp_ne (pc := 71) (tgt := 78) F dX8_readOrder_71 (by decide) (fun h111 => ?_) (fun h111 => ?_)
          · replace hf := ite_neg hf h111
            refine V_iconst (v := 0) (pc := 78) F dX8_readOrder_78 (by decide) ?_
            obtain ⟨r112, g113, hf⟩ := bind_of hf
            refine V_V (w2 := wX8 cy a r112) (rest := []) (st2 := []) (pc := 79) F 8 (M_X8_wants l D cy N a (r104.2.1, r104.2.2.1, r104.2.2.2.1, r104.2.2.2.2.1, r104.2.2.2.2.2.1, r104.2.2.2.2.2.2.1, f107, r104.2.2.2.2.2.2.2.2.1, r104.2.2.2.2.2.2.2.2.2.1, r104.2.2.2.2.2.2.2.2.2.2.1, r104.2.2.2.2.2.2.2.2.2.2.2.1, r104.2.2.2.2.2.2.2.2.2.2.2.2.1, r104.2.2.2.2.2.2.2.2.2.2.2.2.2) 0 r112 g113) (cwV 1 F.ts gX8_readOrder_X8_wants rfl rfl rfl hd_X8_wants ⟨Nat.le_of_ble_eq_true rfl, Nat.le_of_ble_eq_true rfl⟩) rfl dX8_readOrder_79 Fit.whole fstX8 rfl rfl (Nat.le_of_ble_eq_true rfl) (Nat.zero_le _) (Nat.zero_le _) rfl rfl rfl ?_
            refine V_aload_n (pc := 82) F dX8_readOrder_82 rfl 2 rfl ?_
            refine V_get (pc := 83) F 0 8 6 i_X8 rfl (by decide) rfl (mm 2 rfl) dX8_readOrder_83 rfl rfl ?_
            refine V_iload_n (pc := 86) F dX8_readOrder_86 rfl 1 rfl ?_
            refine V_iconst (v := 2) (pc := 87) F dX8_readOrder_87 (by decide) ?_
            refine V_iadd (pc := 88) F dX8_readOrder_88 ?_
            refine V_aload_n (pc := 89) F dX8_readOrder_89 rfl 2 rfl ?_
            refine V_iconst (v := 1) (pc := 90) F dX8_readOrder_90 (by decide) ?_
            refine V_bipush (v := 9) (pc := 91) F dX8_readOrder_91 (by decide) ?_
            obtain ⟨r114, g115, hf⟩ := bind_of hf
            refine V_V (w2 := wX8 cy a r114.2) (rest := [.int (((4 : Int32) * v.2.2.2.2.2.2.2.1) + 2), .ref (a 4)]) (st2 := [.int r114.1, .int (((4 : Int32) * v.2.2.2.2.2.2.2.1) + 2), .ref (a 4)]) (pc := 93) F 8 (M_X8_digit l D cy N a r112 1 9 r114 g115) (cwV 2 F.ts gX8_readOrder_X8_digit rfl rfl rfl hd_X8_digit ⟨Nat.le_of_ble_eq_true rfl, Nat.le_of_ble_eq_true rfl⟩) rfl dX8_readOrder_93 Fit.whole fstX8 rfl rfl (Nat.le_of_ble_eq_true rfl) (Nat.zero_le _) (Nat.zero_le _) rfl rfl rfl ?_
            obtain ⟨c116, hf⟩ := chk_some hf
            obtain ⟨f117, e118, hf⟩ := nmd_of hf
            refine V_iast (w2 := wX8 cy a (r114.2.1, r114.2.2.1, r114.2.2.2.1, r114.2.2.2.2.1, r114.2.2.2.2.2.1, r114.2.2.2.2.2.2.1, f117, r114.2.2.2.2.2.2.2.2.1, r114.2.2.2.2.2.2.2.2.2.1, r114.2.2.2.2.2.2.2.2.2.2.1, r114.2.2.2.2.2.2.2.2.2.2.2.1, r114.2.2.2.2.2.2.2.2.2.2.2.2.1, r114.2.2.2.2.2.2.2.2.2.2.2.2.2)) (pc := 96) F 4 rfl c116 e118 dX8_readOrder_96 rfl ?_
            refine V_goto (pc := 97) (tgt := 151) F dX8_readOrder_97 (by decide) ?_
            refine V_aload_n (pc := 151) F dX8_readOrder_151 rfl 2 rfl ?_
            refine V_dup (pc := 152) F dX8_readOrder_152 rfl ?_
            refine V_get (pc := 153) F 0 8 7 i_X8 rfl (by decide) rfl (mm 1 rfl) dX8_readOrder_153 rfl rfl ?_
            refine V_iconst (v := 1) (pc := 156) F dX8_readOrder_156 (by decide) ?_
            refine V_iadd (pc := 157) F dX8_readOrder_157 ?_
            refine V_put (w2 := wX8 cy a (r114.2.1, r114.2.2.1, r114.2.2.2.1, r114.2.2.2.2.1, r114.2.2.2.2.2.1, r114.2.2.2.2.2.2.1, f117, (r114.2.2.2.2.2.2.2.2.1 + 1), r114.2.2.2.2.2.2.2.2.2.1, r114.2.2.2.2.2.2.2.2.2.2.1, r114.2.2.2.2.2.2.2.2.2.2.2.1, r114.2.2.2.2.2.2.2.2.2.2.2.2.1, r114.2.2.2.2.2.2.2.2.2.2.2.2.2)) (pc := 158) F 0 8 7 i_X8 tyX8 tyX8_ok nmX8 rfl (by decide) rfl (mm 1 rfl) rfl dX8_readOrder_158 rfl rfl rfl (Nat.le_of_ble_eq_true rfl) rfl ?_
            obtain rfl := some_of hf
            exact V_vret F rfl dX8_readOrder_161 rfl
          · replace hf := ite_pos hf h111
            refine V_iconst (v := 1) (pc := 74) F dX8_readOrder_74 (by decide) ?_
            refine V_goto (pc := 75) (tgt := 79) F dX8_readOrder_75 (by decide) ?_
            obtain ⟨r119, g120, hf⟩ := bind_of hf
            refine V_V (w2 := wX8 cy a r119) (rest := []) (st2 := []) (pc := 79) F 8 (M_X8_wants l D cy N a (r104.2.1, r104.2.2.1, r104.2.2.2.1, r104.2.2.2.2.1, r104.2.2.2.2.2.1, r104.2.2.2.2.2.2.1, f107, r104.2.2.2.2.2.2.2.2.1, r104.2.2.2.2.2.2.2.2.2.1, r104.2.2.2.2.2.2.2.2.2.2.1, r104.2.2.2.2.2.2.2.2.2.2.2.1, r104.2.2.2.2.2.2.2.2.2.2.2.2.1, r104.2.2.2.2.2.2.2.2.2.2.2.2.2) 1 r119 g120) (cwV 1 F.ts gX8_readOrder_X8_wants rfl rfl rfl hd_X8_wants ⟨Nat.le_of_ble_eq_true rfl, Nat.le_of_ble_eq_true rfl⟩) rfl dX8_readOrder_79 Fit.whole fstX8 rfl rfl (Nat.le_of_ble_eq_true rfl) (Nat.zero_le _) (Nat.zero_le _) rfl rfl rfl ?_
            refine V_aload_n (pc := 82) F dX8_readOrder_82 rfl 2 rfl ?_
            refine V_get (pc := 83) F 0 8 6 i_X8 rfl (by decide) rfl (mm 2 rfl) dX8_readOrder_83 rfl rfl ?_
            refine V_iload_n (pc := 86) F dX8_readOrder_86 rfl 1 rfl ?_
            refine V_iconst (v := 2) (pc := 87) F dX8_readOrder_87 (by decide) ?_
            refine V_iadd (pc := 88) F dX8_readOrder_88 ?_
            refine V_aload_n (pc := 89) F dX8_readOrder_89 rfl 2 rfl ?_
            refine V_iconst (v := 1) (pc := 90) F dX8_readOrder_90 (by decide) ?_
            refine V_bipush (v := 9) (pc := 91) F dX8_readOrder_91 (by decide) ?_
            obtain ⟨r121, g122, hf⟩ := bind_of hf
            refine V_V (w2 := wX8 cy a r121.2) (rest := [.int (((4 : Int32) * v.2.2.2.2.2.2.2.1) + 2), .ref (a 4)]) (st2 := [.int r121.1, .int (((4 : Int32) * v.2.2.2.2.2.2.2.1) + 2), .ref (a 4)]) (pc := 93) F 8 (M_X8_digit l D cy N a r119 1 9 r121 g122) (cwV 2 F.ts gX8_readOrder_X8_digit rfl rfl rfl hd_X8_digit ⟨Nat.le_of_ble_eq_true rfl, Nat.le_of_ble_eq_true rfl⟩) rfl dX8_readOrder_93 Fit.whole fstX8 rfl rfl (Nat.le_of_ble_eq_true rfl) (Nat.zero_le _) (Nat.zero_le _) rfl rfl rfl ?_
            obtain ⟨c123, hf⟩ := chk_some hf
            obtain ⟨f124, e125, hf⟩ := nmd_of hf
            refine V_iast (w2 := wX8 cy a (r121.2.1, r121.2.2.1, r121.2.2.2.1, r121.2.2.2.2.1, r121.2.2.2.2.2.1, r121.2.2.2.2.2.2.1, f124, r121.2.2.2.2.2.2.2.2.1, r121.2.2.2.2.2.2.2.2.2.1, r121.2.2.2.2.2.2.2.2.2.2.1, r121.2.2.2.2.2.2.2.2.2.2.2.1, r121.2.2.2.2.2.2.2.2.2.2.2.2.1, r121.2.2.2.2.2.2.2.2.2.2.2.2.2)) (pc := 96) F 4 rfl c123 e125 dX8_readOrder_96 rfl ?_
            refine V_goto (pc := 97) (tgt := 151) F dX8_readOrder_97 (by decide) ?_
            refine V_aload_n (pc := 151) F dX8_readOrder_151 rfl 2 rfl ?_
            refine V_dup (pc := 152) F dX8_readOrder_152 rfl ?_
            refine V_get (pc := 153) F 0 8 7 i_X8 rfl (by decide) rfl (mm 1 rfl) dX8_readOrder_153 rfl rfl ?_
            refine V_iconst (v := 1) (pc := 156) F dX8_readOrder_156 (by decide) ?_
            refine V_iadd (pc := 157) F dX8_readOrder_157 ?_
            refine V_put (w2 := wX8 cy a (r121.2.1, r121.2.2.1, r121.2.2.2.1, r121.2.2.2.2.1, r121.2.2.2.2.2.1, r121.2.2.2.2.2.2.1, f124, (r121.2.2.2.2.2.2.2.2.1 + 1), r121.2.2.2.2.2.2.2.2.2.1, r121.2.2.2.2.2.2.2.2.2.2.1, r121.2.2.2.2.2.2.2.2.2.2.2.1, r121.2.2.2.2.2.2.2.2.2.2.2.2.1, r121.2.2.2.2.2.2.2.2.2.2.2.2.2)) (pc := 158) F 0 8 7 i_X8 tyX8 tyX8_ok nmX8 rfl (by decide) rfl (mm 1 rfl) rfl dX8_readOrder_158 rfl rfl rfl (Nat.le_of_ble_eq_true rfl) rfl ?_
            obtain rfl := some_of hf
            exact V_vret F rfl dX8_readOrder_161 rfl
      · replace hf := ite_pos hf h86
        refine V_iconst (v := 1) (pc := 38) F dX8_readOrder_38 (by decide) ?_
        refine V_goto (pc := 39) (tgt := 43) F dX8_readOrder_39 (by decide) ?_
        obtain ⟨r126, g127, hf⟩ := bind_of hf
        refine V_V (w2 := wX8 cy a r126) (rest := []) (st2 := []) (pc := 43) F 8 (M_X8_wants l D cy N a (v.1, v.2.1, v.2.2.1, v.2.2.2.1, v.2.2.2.2.1, v.2.2.2.2.2.1, f4, v.2.2.2.2.2.2.2) 1 r126 g127) (cwV 1 F.ts gX8_readOrder_X8_wants rfl rfl rfl hd_X8_wants ⟨Nat.le_of_ble_eq_true rfl, Nat.le_of_ble_eq_true rfl⟩) rfl dX8_readOrder_43 Fit.whole fstX8 rfl rfl (Nat.le_of_ble_eq_true rfl) (Nat.zero_le _) (Nat.zero_le _) rfl rfl rfl ?_
        refine V_iload_n (pc := 46) F dX8_readOrder_46 rfl 0 rfl ?_
        refine V_bipush (v := 112) (pc := 47) F dX8_readOrder_47 (by decide) ?_
        refine V_icmp_ne (pc := 49) (tgt := 100) F dX8_readOrder_49 (by decide) (fun h128 => ?_) (fun h128 => ?_)
        · replace hf := ite_neg hf h128
          refine V_iload_n (pc := 100) F dX8_readOrder_100 rfl 0 rfl ?_
          refine V_bipush (v := 114) (pc := 101) F dX8_readOrder_101 (by decide) ?_
          refine V_icmp_ne (pc := 103) (tgt := 114) F dX8_readOrder_103 (by decide) (fun h129 => ?_) (fun h129 => ?_)
          · replace hf := ite_neg hf h129
            refine V_aload_n (pc := 114) F dX8_readOrder_114 rfl 2 rfl ?_
            refine V_get (pc := 115) F 0 8 6 i_X8 rfl (by decide) rfl (mm 2 rfl) dX8_readOrder_115 rfl rfl ?_
            refine V_iload_n (pc := 118) F dX8_readOrder_118 rfl 1 rfl ?_
            refine V_iconst (v := 1) (pc := 119) F dX8_readOrder_119 (by decide) ?_
            refine V_iadd (pc := 120) F dX8_readOrder_120 ?_
            refine V_aload_n (pc := 121) F dX8_readOrder_121 rfl 2 rfl ?_
            refine V_iconst (v := 0) (pc := 122) F dX8_readOrder_122 (by decide) ?_
            refine V_iconst (v := 4) (pc := 123) F dX8_readOrder_123 (by decide) ?_
            obtain ⟨r130, g131, hf⟩ := bind_of hf
            refine V_V (w2 := wX8 cy a r130.2) (rest := [.int (((4 : Int32) * v.2.2.2.2.2.2.2.1) + 1), .ref (a 4)]) (st2 := [.int r130.1, .int (((4 : Int32) * v.2.2.2.2.2.2.2.1) + 1), .ref (a 4)]) (pc := 124) F 8 (M_X8_digit l D cy N a r126 0 4 r130 g131) (cwV 2 F.ts gX8_readOrder_X8_digit rfl rfl rfl hd_X8_digit ⟨Nat.le_of_ble_eq_true rfl, Nat.le_of_ble_eq_true rfl⟩) rfl dX8_readOrder_124 Fit.whole fstX8 rfl rfl (Nat.le_of_ble_eq_true rfl) (Nat.zero_le _) (Nat.zero_le _) rfl rfl rfl ?_
            obtain ⟨c132, hf⟩ := chk_some hf
            obtain ⟨f133, e134, hf⟩ := nmd_of hf
            refine V_iast (w2 := wX8 cy a (r130.2.1, r130.2.2.1, r130.2.2.2.1, r130.2.2.2.2.1, r130.2.2.2.2.2.1, r130.2.2.2.2.2.2.1, f133, r130.2.2.2.2.2.2.2.2.1, r130.2.2.2.2.2.2.2.2.2.1, r130.2.2.2.2.2.2.2.2.2.2.1, r130.2.2.2.2.2.2.2.2.2.2.2.1, r130.2.2.2.2.2.2.2.2.2.2.2.2.1, r130.2.2.2.2.2.2.2.2.2.2.2.2.2)) (pc := 127) F 4 rfl c132 e134 dX8_readOrder_127 rfl ?_
            refine V_aload_n (pc := 128) F dX8_readOrder_128 rfl 2 rfl ?_
            refine V_get (pc := 129) F 0 8 6 i_X8 rfl (by decide) rfl (mm 2 rfl) dX8_readOrder_129 rfl rfl ?_
            refine V_iload_n (pc := 132) F dX8_readOrder_132 rfl 1 rfl ?_
            refine V_iconst (v := 2) (pc := 133) F dX8_readOrder_133 (by decide) ?_
            refine V_iadd (pc := 134) F dX8_readOrder_134 ?_
            refine V_aload_n (pc := 135) F dX8_readOrder_135 rfl 2 rfl ?_
            refine V_aload_n (pc := 136) F dX8_readOrder_136 rfl 2 rfl ?_
            refine V_get (pc := 137) F 0 8 6 i_X8 rfl (by decide) rfl (mm 2 rfl) dX8_readOrder_137 rfl rfl ?_
            refine V_iload_n (pc := 140) F dX8_readOrder_140 rfl 1 rfl ?_
            refine V_iconst (v := 1) (pc := 141) F dX8_readOrder_141 (by decide) ?_
            refine V_iadd (pc := 142) F dX8_readOrder_142 ?_
            obtain ⟨c135, hf⟩ := chk_some hf
            refine V_iald (pc := 143) F 4 rfl c135 dX8_readOrder_143 ?_
            refine V_iconst (v := 1) (pc := 144) F dX8_readOrder_144 (by decide) ?_
            refine V_iadd (pc := 145) F dX8_readOrder_145 ?_
            refine V_iconst (v := 5) (pc := 146) F dX8_readOrder_146 (by decide) ?_
            obtain ⟨r136, g137, hf⟩ := bind_of hf
            refine V_V (w2 := wX8 cy a r136.2) (rest := [.int (((4 : Int32) * v.2.2.2.2.2.2.2.1) + 2), .ref (a 4)]) (st2 := [.int r136.1, .int (((4 : Int32) * v.2.2.2.2.2.2.2.1) + 2), .ref (a 4)]) (pc := 147) F 8 (M_X8_digit l D cy N a (r130.2.1, r130.2.2.1, r130.2.2.2.1, r130.2.2.2.2.1, r130.2.2.2.2.2.1, r130.2.2.2.2.2.2.1, f133, r130.2.2.2.2.2.2.2.2.1, r130.2.2.2.2.2.2.2.2.2.1, r130.2.2.2.2.2.2.2.2.2.2.1, r130.2.2.2.2.2.2.2.2.2.2.2.1, r130.2.2.2.2.2.2.2.2.2.2.2.2.1, r130.2.2.2.2.2.2.2.2.2.2.2.2.2) ((f133 (((4 : Int32) * v.2.2.2.2.2.2.2.1) + 1).toNatClampNeg) + 1) 5 r136 g137) (cwV 2 F.ts gX8_readOrder_X8_digit rfl rfl rfl hd_X8_digit ⟨Nat.le_of_ble_eq_true rfl, Nat.le_of_ble_eq_true rfl⟩) rfl dX8_readOrder_147 Fit.whole fstX8 rfl rfl (Nat.le_of_ble_eq_true rfl) (Nat.zero_le _) (Nat.zero_le _) rfl rfl rfl ?_
            obtain ⟨c138, hf⟩ := chk_some hf
            obtain ⟨f139, e140, hf⟩ := nmd_of hf
            refine V_iast (w2 := wX8 cy a (r136.2.1, r136.2.2.1, r136.2.2.2.1, r136.2.2.2.2.1, r136.2.2.2.2.2.1, r136.2.2.2.2.2.2.1, f139, r136.2.2.2.2.2.2.2.2.1, r136.2.2.2.2.2.2.2.2.2.1, r136.2.2.2.2.2.2.2.2.2.2.1, r136.2.2.2.2.2.2.2.2.2.2.2.1, r136.2.2.2.2.2.2.2.2.2.2.2.2.1, r136.2.2.2.2.2.2.2.2.2.2.2.2.2)) (pc := 150) F 4 rfl c138 e140 dX8_readOrder_150 rfl ?_
            refine V_aload_n (pc := 151) F dX8_readOrder_151 rfl 2 rfl ?_
            refine V_dup (pc := 152) F dX8_readOrder_152 rfl ?_
            refine V_get (pc := 153) F 0 8 7 i_X8 rfl (by decide) rfl (mm 1 rfl) dX8_readOrder_153 rfl rfl ?_
            refine V_iconst (v := 1) (pc := 156) F dX8_readOrder_156 (by decide) ?_
            refine V_iadd (pc := 157) F dX8_readOrder_157 ?_
            refine V_put (w2 := wX8 cy a (r136.2.1, r136.2.2.1, r136.2.2.2.1, r136.2.2.2.2.1, r136.2.2.2.2.2.1, r136.2.2.2.2.2.2.1, f139, (r136.2.2.2.2.2.2.2.2.1 + 1), r136.2.2.2.2.2.2.2.2.2.1, r136.2.2.2.2.2.2.2.2.2.2.1, r136.2.2.2.2.2.2.2.2.2.2.2.1, r136.2.2.2.2.2.2.2.2.2.2.2.2.1, r136.2.2.2.2.2.2.2.2.2.2.2.2.2)) (pc := 158) F 0 8 7 i_X8 tyX8 tyX8_ok nmX8 rfl (by decide) rfl (mm 1 rfl) rfl dX8_readOrder_158 rfl rfl rfl (Nat.le_of_ble_eq_true rfl) rfl ?_
            obtain rfl := some_of hf
            exact V_vret F rfl dX8_readOrder_161 rfl
          · replace hf := ite_pos hf h129
            refine V_aload_n (pc := 106) F dX8_readOrder_106 rfl 2 rfl ?_
            refine V_iload_n (pc := 107) F dX8_readOrder_107 rfl 1 rfl ?_
            obtain ⟨r141, g142, hf⟩ := bind_of hf
            refine V_V (w2 := wX8 cy a r141) (rest := []) (st2 := []) (pc := 108) F 8 (M_X8_readRule l D cy N a r126 ((4 : Int32) * v.2.2.2.2.2.2.2.1) r141 g142) (cwV 1 F.ts gX8_readOrder_X8_readRule rfl rfl rfl hd_X8_readRule ⟨Nat.le_of_ble_eq_true rfl, Nat.le_of_ble_eq_true rfl⟩) rfl dX8_readOrder_108 Fit.whole fstX8 rfl rfl (Nat.le_of_ble_eq_true rfl) (Nat.zero_le _) (Nat.zero_le _) rfl rfl rfl ?_
            refine V_goto (pc := 111) (tgt := 151) F dX8_readOrder_111 (by decide) ?_
            refine V_aload_n (pc := 151) F dX8_readOrder_151 rfl 2 rfl ?_
            refine V_dup (pc := 152) F dX8_readOrder_152 rfl ?_
            refine V_get (pc := 153) F 0 8 7 i_X8 rfl (by decide) rfl (mm 1 rfl) dX8_readOrder_153 rfl rfl ?_
            refine V_iconst (v := 1) (pc := 156) F dX8_readOrder_156 (by decide) ?_
            refine V_iadd (pc := 157) F dX8_readOrder_157 ?_
            refine V_put (w2 := wX8 cy a (r141.1, r141.2.1, r141.2.2.1, r141.2.2.2.1, r141.2.2.2.2.1, r141.2.2.2.2.2.1, r141.2.2.2.2.2.2.1, (r141.2.2.2.2.2.2.2.1 + 1), r141.2.2.2.2.2.2.2.2)) (pc := 158) F 0 8 7 i_X8 tyX8 tyX8_ok nmX8 rfl (by decide) rfl (mm 1 rfl) rfl dX8_readOrder_158 rfl rfl rfl (Nat.le_of_ble_eq_true rfl) rfl ?_
            obtain rfl := some_of hf
            exact V_vret F rfl dX8_readOrder_161 rfl
        · replace hf := ite_pos hf h128
          refine V_aload_n (pc := 52) F dX8_readOrder_52 rfl 2 rfl ?_
          refine V_get (pc := 53) F 0 8 6 i_X8 rfl (by decide) rfl (mm 2 rfl) dX8_readOrder_53 rfl rfl ?_
          refine V_iload_n (pc := 56) F dX8_readOrder_56 rfl 1 rfl ?_
          refine V_iconst (v := 1) (pc := 57) F dX8_readOrder_57 (by decide) ?_
          refine V_iadd (pc := 58) F dX8_readOrder_58 ?_
          refine V_aload_n (pc := 59) F dX8_readOrder_59 rfl 2 rfl ?_
          obtain ⟨r143, g144, hf⟩ := bind_of hf
          refine V_V (w2 := wX8 cy a r143.2) (rest := [.int (((4 : Int32) * v.2.2.2.2.2.2.2.1) + 1), .ref (a 4)]) (st2 := [.int r143.1, .int (((4 : Int32) * v.2.2.2.2.2.2.2.1) + 1), .ref (a 4)]) (pc := 60) F 8 (M_X8_directions l D cy N a r126 r143 g144) (cwV 0 F.ts gX8_readOrder_X8_directions rfl rfl rfl hd_X8_directions ⟨Nat.le_of_ble_eq_true rfl, Nat.le_of_ble_eq_true rfl⟩) rfl dX8_readOrder_60 Fit.whole fstX8 rfl rfl (Nat.le_of_ble_eq_true rfl) (Nat.zero_le _) (Nat.zero_le _) rfl rfl rfl ?_
          obtain ⟨c145, hf⟩ := chk_some hf
          obtain ⟨f146, e147, hf⟩ := nmd_of hf
          refine V_iast (w2 := wX8 cy a (r143.2.1, r143.2.2.1, r143.2.2.2.1, r143.2.2.2.2.1, r143.2.2.2.2.2.1, r143.2.2.2.2.2.2.1, f146, r143.2.2.2.2.2.2.2.2.1, r143.2.2.2.2.2.2.2.2.2.1, r143.2.2.2.2.2.2.2.2.2.2.1, r143.2.2.2.2.2.2.2.2.2.2.2.1, r143.2.2.2.2.2.2.2.2.2.2.2.2.1, r143.2.2.2.2.2.2.2.2.2.2.2.2.2)) (pc := 63) F 4 rfl c145 e147 dX8_readOrder_63 rfl ?_
          refine V_aload_n (pc := 64) F dX8_readOrder_64 rfl 2 rfl ?_
          refine V_aload_n (pc := 65) F dX8_readOrder_65 rfl 2 rfl ?_
          obtain ⟨r148, g149, hf⟩ := bind_of hf
          refine V_V (w2 := wX8 cy a (r143.2.1, r143.2.2.1, r143.2.2.2.1, r143.2.2.2.2.1, r143.2.2.2.2.2.1, r143.2.2.2.2.2.2.1, f146, r143.2.2.2.2.2.2.2.2.1, r143.2.2.2.2.2.2.2.2.2.1, r143.2.2.2.2.2.2.2.2.2.2.1, r143.2.2.2.2.2.2.2.2.2.2.2.1, r143.2.2.2.2.2.2.2.2.2.2.2.2.1, r143.2.2.2.2.2.2.2.2.2.2.2.2.2)) (rest := [.ref (a 0)]) (st2 := [.int r148, .ref (a 0)]) (pc := 66) F 8 (M_X8_letter l D cy N a (r143.2.1, r143.2.2.1, r143.2.2.2.1, r143.2.2.2.2.1, r143.2.2.2.2.2.1, r143.2.2.2.2.2.2.1, f146, r143.2.2.2.2.2.2.2.2.1, r143.2.2.2.2.2.2.2.2.2.1, r143.2.2.2.2.2.2.2.2.2.2.1, r143.2.2.2.2.2.2.2.2.2.2.2.1, r143.2.2.2.2.2.2.2.2.2.2.2.2.1, r143.2.2.2.2.2.2.2.2.2.2.2.2.2) r148 g149) (cwV 0 F.ts gX8_readOrder_X8_letter rfl rfl rfl hd_X8_letter ⟨Nat.le_of_ble_eq_true rfl, Nat.le_of_ble_eq_true rfl⟩) rfl dX8_readOrder_66 Fit.whole rfl rfl rfl (Nat.le_of_ble_eq_true rfl) (Nat.zero_le _) (Nat.zero_le _) rfl rfl rfl ?_
          refine V_bipush (v := 42) (pc := 69) F dX8_readOrder_69 (by decide) ?_
          refine V_icmp_ne (pc := 71) (tgt := 78) F dX8_readOrder_71 (by decide) (fun h150 => ?_) (fun h150 => ?_)
          · replace hf := ite_neg hf h150
            refine V_iconst (v := 0) (pc := 78) F dX8_readOrder_78 (by decide) ?_
            obtain ⟨r151, g152, hf⟩ := bind_of hf
            refine V_V (w2 := wX8 cy a r151) (rest := []) (st2 := []) (pc := 79) F 8 (M_X8_wants l D cy N a (r143.2.1, r143.2.2.1, r143.2.2.2.1, r143.2.2.2.2.1, r143.2.2.2.2.2.1, r143.2.2.2.2.2.2.1, f146, r143.2.2.2.2.2.2.2.2.1, r143.2.2.2.2.2.2.2.2.2.1, r143.2.2.2.2.2.2.2.2.2.2.1, r143.2.2.2.2.2.2.2.2.2.2.2.1, r143.2.2.2.2.2.2.2.2.2.2.2.2.1, r143.2.2.2.2.2.2.2.2.2.2.2.2.2) 0 r151 g152) (cwV 1 F.ts gX8_readOrder_X8_wants rfl rfl rfl hd_X8_wants ⟨Nat.le_of_ble_eq_true rfl, Nat.le_of_ble_eq_true rfl⟩) rfl dX8_readOrder_79 Fit.whole fstX8 rfl rfl (Nat.le_of_ble_eq_true rfl) (Nat.zero_le _) (Nat.zero_le _) rfl rfl rfl ?_
            refine V_aload_n (pc := 82) F dX8_readOrder_82 rfl 2 rfl ?_
            refine V_get (pc := 83) F 0 8 6 i_X8 rfl (by decide) rfl (mm 2 rfl) dX8_readOrder_83 rfl rfl ?_
            refine V_iload_n (pc := 86) F dX8_readOrder_86 rfl 1 rfl ?_
            refine V_iconst (v := 2) (pc := 87) F dX8_readOrder_87 (by decide) ?_
            refine V_iadd (pc := 88) F dX8_readOrder_88 ?_
            refine V_aload_n (pc := 89) F dX8_readOrder_89 rfl 2 rfl ?_
            refine V_iconst (v := 1) (pc := 90) F dX8_readOrder_90 (by decide) ?_
            refine V_bipush (v := 9) (pc := 91) F dX8_readOrder_91 (by decide) ?_
            obtain ⟨r153, g154, hf⟩ := bind_of hf
            refine V_V (w2 := wX8 cy a r153.2) (rest := [.int (((4 : Int32) * v.2.2.2.2.2.2.2.1) + 2), .ref (a 4)]) (st2 := [.int r153.1, .int (((4 : Int32) * v.2.2.2.2.2.2.2.1) + 2), .ref (a 4)]) (pc := 93) F 8 (M_X8_digit l D cy N a r151 1 9 r153 g154) (cwV 2 F.ts gX8_readOrder_X8_digit rfl rfl rfl hd_X8_digit ⟨Nat.le_of_ble_eq_true rfl, Nat.le_of_ble_eq_true rfl⟩) rfl dX8_readOrder_93 Fit.whole fstX8 rfl rfl (Nat.le_of_ble_eq_true rfl) (Nat.zero_le _) (Nat.zero_le _) rfl rfl rfl ?_
            obtain ⟨c155, hf⟩ := chk_some hf
            obtain ⟨f156, e157, hf⟩ := nmd_of hf
            refine V_iast (w2 := wX8 cy a (r153.2.1, r153.2.2.1, r153.2.2.2.1, r153.2.2.2.2.1, r153.2.2.2.2.2.1, r153.2.2.2.2.2.2.1, f156, r153.2.2.2.2.2.2.2.2.1, r153.2.2.2.2.2.2.2.2.2.1, r153.2.2.2.2.2.2.2.2.2.2.1, r153.2.2.2.2.2.2.2.2.2.2.2.1, r153.2.2.2.2.2.2.2.2.2.2.2.2.1, r153.2.2.2.2.2.2.2.2.2.2.2.2.2)) (pc := 96) F 4 rfl c155 e157 dX8_readOrder_96 rfl ?_
            refine V_goto (pc := 97) (tgt := 151) F dX8_readOrder_97 (by decide) ?_
            refine V_aload_n (pc := 151) F dX8_readOrder_151 rfl 2 rfl ?_
            refine V_dup (pc := 152) F dX8_readOrder_152 rfl ?_
            refine V_get (pc := 153) F 0 8 7 i_X8 rfl (by decide) rfl (mm 1 rfl) dX8_readOrder_153 rfl rfl ?_
            refine V_iconst (v := 1) (pc := 156) F dX8_readOrder_156 (by decide) ?_
            refine V_iadd (pc := 157) F dX8_readOrder_157 ?_
            refine V_put (w2 := wX8 cy a (r153.2.1, r153.2.2.1, r153.2.2.2.1, r153.2.2.2.2.1, r153.2.2.2.2.2.1, r153.2.2.2.2.2.2.1, f156, (r153.2.2.2.2.2.2.2.2.1 + 1), r153.2.2.2.2.2.2.2.2.2.1, r153.2.2.2.2.2.2.2.2.2.2.1, r153.2.2.2.2.2.2.2.2.2.2.2.1, r153.2.2.2.2.2.2.2.2.2.2.2.2.1, r153.2.2.2.2.2.2.2.2.2.2.2.2.2)) (pc := 158) F 0 8 7 i_X8 tyX8 tyX8_ok nmX8 rfl (by decide) rfl (mm 1 rfl) rfl dX8_readOrder_158 rfl rfl rfl (Nat.le_of_ble_eq_true rfl) rfl ?_
            obtain rfl := some_of hf
            exact V_vret F rfl dX8_readOrder_161 rfl
          · replace hf := ite_pos hf h150
            refine V_iconst (v := 1) (pc := 74) F dX8_readOrder_74 (by decide) ?_
            refine V_goto (pc := 75) (tgt := 79) F dX8_readOrder_75 (by decide) ?_
            obtain ⟨r158, g159, hf⟩ := bind_of hf
            refine V_V (w2 := wX8 cy a r158) (rest := []) (st2 := []) (pc := 79) F 8 (M_X8_wants l D cy N a (r143.2.1, r143.2.2.1, r143.2.2.2.1, r143.2.2.2.2.1, r143.2.2.2.2.2.1, r143.2.2.2.2.2.2.1, f146, r143.2.2.2.2.2.2.2.2.1, r143.2.2.2.2.2.2.2.2.2.1, r143.2.2.2.2.2.2.2.2.2.2.1, r143.2.2.2.2.2.2.2.2.2.2.2.1, r143.2.2.2.2.2.2.2.2.2.2.2.2.1, r143.2.2.2.2.2.2.2.2.2.2.2.2.2) 1 r158 g159) (cwV 1 F.ts gX8_readOrder_X8_wants rfl rfl rfl hd_X8_wants ⟨Nat.le_of_ble_eq_true rfl, Nat.le_of_ble_eq_true rfl⟩) rfl dX8_readOrder_79 Fit.whole fstX8 rfl rfl (Nat.le_of_ble_eq_true rfl) (Nat.zero_le _) (Nat.zero_le _) rfl rfl rfl ?_
            refine V_aload_n (pc := 82) F dX8_readOrder_82 rfl 2 rfl ?_
            refine V_get (pc := 83) F 0 8 6 i_X8 rfl (by decide) rfl (mm 2 rfl) dX8_readOrder_83 rfl rfl ?_
            refine V_iload_n (pc := 86) F dX8_readOrder_86 rfl 1 rfl ?_
            refine V_iconst (v := 2) (pc := 87) F dX8_readOrder_87 (by decide) ?_
            refine V_iadd (pc := 88) F dX8_readOrder_88 ?_
            refine V_aload_n (pc := 89) F dX8_readOrder_89 rfl 2 rfl ?_
            refine V_iconst (v := 1) (pc := 90) F dX8_readOrder_90 (by decide) ?_
            refine V_bipush (v := 9) (pc := 91) F dX8_readOrder_91 (by decide) ?_
            obtain ⟨r160, g161, hf⟩ := bind_of hf
            refine V_V (w2 := wX8 cy a r160.2) (rest := [.int (((4 : Int32) * v.2.2.2.2.2.2.2.1) + 2), .ref (a 4)]) (st2 := [.int r160.1, .int (((4 : Int32) * v.2.2.2.2.2.2.2.1) + 2), .ref (a 4)]) (pc := 93) F 8 (M_X8_digit l D cy N a r158 1 9 r160 g161) (cwV 2 F.ts gX8_readOrder_X8_digit rfl rfl rfl hd_X8_digit ⟨Nat.le_of_ble_eq_true rfl, Nat.le_of_ble_eq_true rfl⟩) rfl dX8_readOrder_93 Fit.whole fstX8 rfl rfl (Nat.le_of_ble_eq_true rfl) (Nat.zero_le _) (Nat.zero_le _) rfl rfl rfl ?_
            obtain ⟨c162, hf⟩ := chk_some hf
            obtain ⟨f163, e164, hf⟩ := nmd_of hf
            refine V_iast (w2 := wX8 cy a (r160.2.1, r160.2.2.1, r160.2.2.2.1, r160.2.2.2.2.1, r160.2.2.2.2.2.1, r160.2.2.2.2.2.2.1, f163, r160.2.2.2.2.2.2.2.2.1, r160.2.2.2.2.2.2.2.2.2.1, r160.2.2.2.2.2.2.2.2.2.2.1, r160.2.2.2.2.2.2.2.2.2.2.2.1, r160.2.2.2.2.2.2.2.2.2.2.2.2.1, r160.2.2.2.2.2.2.2.2.2.2.2.2.2)) (pc := 96) F 4 rfl c162 e164 dX8_readOrder_96 rfl ?_
            refine V_goto (pc := 97) (tgt := 151) F dX8_readOrder_97 (by decide) ?_
            refine V_aload_n (pc := 151) F dX8_readOrder_151 rfl 2 rfl ?_
            refine V_dup (pc := 152) F dX8_readOrder_152 rfl ?_
            refine V_get (pc := 153) F 0 8 7 i_X8 rfl (by decide) rfl (mm 1 rfl) dX8_readOrder_153 rfl rfl ?_
            refine V_iconst (v := 1) (pc := 156) F dX8_readOrder_156 (by decide) ?_
            refine V_iadd (pc := 157) F dX8_readOrder_157 ?_
            refine V_put (w2 := wX8 cy a (r160.2.1, r160.2.2.1, r160.2.2.2.1, r160.2.2.2.2.1, r160.2.2.2.2.2.1, r160.2.2.2.2.2.2.1, f163, (r160.2.2.2.2.2.2.2.2.1 + 1), r160.2.2.2.2.2.2.2.2.2.1, r160.2.2.2.2.2.2.2.2.2.2.1, r160.2.2.2.2.2.2.2.2.2.2.2.1, r160.2.2.2.2.2.2.2.2.2.2.2.2.1, r160.2.2.2.2.2.2.2.2.2.2.2.2.2)) (pc := 158) F 0 8 7 i_X8 tyX8 tyX8_ok nmX8 rfl (by decide) rfl (mm 1 rfl) rfl dX8_readOrder_158 rfl rfl rfl (Nat.le_of_ble_eq_true rfl) rfl ?_
            obtain rfl := some_of hf
            exact V_vret F rfl dX8_readOrder_161 rfl
theorem hd_X8_readBuffer : yX8_readBuffer.cls = RX8 ∧ yX8_readBuffer.cls ≠ "java/lang/invoke/MethodHandle" ∧ yX8_readBuffer.cls ≠ "java/lang/invoke/VarHandle" ∧ (parseMethodDescriptor yX8_readBuffer.desc).map (fun d => d.parameters.length) = some 0 := by decide +kernel
def fX8_readBuffer_L17 (N : Nat)  : Nat → SX8 → Int32 → Option (SX8)
  | 0, _, _ => none
  | n + 1, v, z1 =>
    if z1 = 0 then
      some v
    else
      (fX8_readOrder N v).bind fun r2 =>
        if r2.2.2.2.2.2.2.2.2.2.1 = (-1) then
          if r2.2.2.2.2.2.1 ≤ r2.2.2.2.2.2.2.2.2.1 then
            fX8_readBuffer_L17 N n r2 0
          else
            (fX8_letter N r2).bind fun r9 =>
              if r9 = 59 then
                (fX8_wants N r2 1).bind fun r15 =>
                  if r15.2.2.2.2.2.2.2.2.2.1 = (-1) then
                    fX8_readBuffer_L17 N n r15 1
                  else
                    fX8_readBuffer_L17 N n r15 0
              else
                (fX8_wants N r2 0).bind fun r12 =>
                  if r12.2.2.2.2.2.2.2.2.2.1 = (-1) then
                    fX8_readBuffer_L17 N n r12 1
                  else
                    fX8_readBuffer_L17 N n r12 0
        else
          fX8_readBuffer_L17 N n r2 0
def fX8_readBuffer (N : Nat) (v : SX8) : Option (Int32 × SX8) :=
  (fX8_readBuffer_L17 N N (v.1, v.2.1, v.2.2.1, v.2.2.2.1, v.2.2.2.2.1, v.2.2.2.2.2.1, v.2.2.2.2.2.2.1, 0, 0, (-1), v.2.2.2.2.2.2.2.2.2.2) 1).bind fun u18 =>
    some (u18.2.2.2.2.2.2.2.2.2.1, u18)
set_option maxHeartbeats 8000000 in
set_option maxRecDepth 100000 in
theorem M_X8_readBuffer (l : Launch) (D : va_G) (cy : Nat → ClassId) (N : Nat) (a : Nat → Nat) (v : SX8) (o : Int32 × SX8) (hf : fX8_readBuffer N v = some o) : okM l yX8_readBuffer wsX8_readBuffer (rmz 4 88) D cy [.ref (a 0)] (wX8 cy a v) (wX8 cy a o.2) (some (.int o.1)) := by
  refine okM_of (own := RX8) (nme := "readBuffer") (cc := cX8_readBuffer) (maxL := 2) (ret := (some .int)) (by decide) rfl rfl rfl (Nat.le_of_ble_eq_true rfl) ?_
  intro p e s m args below meth c A F
  have i_X8 : ∀ w ∈ u_ws RX8 TX8 13, w ∈ wsX8_readBuffer := fun _ h => List.mem_cons_of_mem _ (List.mem_append_right _ h)
  have K17 : ∀ (n : Nat) (v : SX8) (z1 : Int32) (u : SX8), fX8_readBuffer_L17 N n v z1 = some u → V p l e (rmz 4 88) s m args below meth c 2 D A 0 0 (MQ below (ok_Q D (wX8 cy a o.2) (some (.int o.1)) A) args s 0 0 A) (wX8 cy a u) [(0, .ref (a 0))] [] 89 → V p l e (rmz 4 88) s m args below meth c 2 D A 0 0 (MQ below (ok_Q D (wX8 cy a o.2) (some (.int o.1)) A) args s 0 0 A) (wX8 cy a v) [(0, .ref (a 0)), (1, .int z1)] [] 17 := by
    intro n
    induction n with
    | zero =>
      intro v z1 u hf hk
      exact nomatch (show (none : Option (SX8)) = some u from hf)
    | succ n ih =>
      intro v z1 u hf hk
      rw [fX8_readBuffer_L17] at hf
      refine V_iload_n (pc := 17) F dX8_readBuffer_17 rfl 1 rfl ?_
      refine V_if_eq (pc := 18) (tgt := 89) F dX8_readBuffer_18 (by decide) (fun h1 => ?_) (fun h1 => ?_)
      · replace hf := ite_pos hf h1
        obtain rfl := some_of hf
        exact V.sub [0] rfl hk
      · replace hf := ite_neg hf h1
        refine V_aload_n (pc := 21) F dX8_readBuffer_21 rfl 0 rfl ?_
        obtain ⟨r2, g3, hf⟩ := bind_of hf
        refine V_V (w2 := wX8 cy a r2) (rest := []) (st2 := []) (pc := 22) F 8 (M_X8_readOrder l D cy N a v r2 g3) (cwV 0 F.ts gX8_readBuffer_X8_readOrder rfl rfl rfl hd_X8_readOrder ⟨Nat.le_of_ble_eq_true rfl, Nat.le_of_ble_eq_true rfl⟩) rfl dX8_readBuffer_22 Fit.whole fstX8 rfl rfl (Nat.le_of_ble_eq_true rfl) (Nat.zero_le _) (Nat.zero_le _) rfl rfl rfl ?_
        refine V_aload_n (pc := 25) F dX8_readBuffer_25 rfl 0 rfl ?_
        refine V_get (pc := 26) F 0 8 9 i_X8 rfl (by decide) rfl (mm 3 rfl) dX8_readBuffer_26 rfl rfl ?_
        refine V_iconst (v := (-1)) (pc := 29) F dX8_readBuffer_29 (by decide) ?_
        refine V_icmp_ne (pc := 30) (tgt := 48) F dX8_readBuffer_30 (by decide) (fun h4 => ?_) (fun h4 => ?_)
        · replace hf := ite_neg hf h4
          refine V_iconst (v := 0) (pc := 48) F dX8_readBuffer_48 (by decide) ?_
          refine V_istore_n (L2 := [(1, .int 0), (0, .ref (a 0))]) (pc := 49) F dX8_readBuffer_49 rfl (by decide) rfl ?_
          refine V_iload_n (pc := 50) F dX8_readBuffer_50 rfl 0 rfl ?_
          refine V_if_eq (pc := 51) (tgt := 17) F dX8_readBuffer_51 (by decide) (fun h5 => ?_) (fun h5 => ?_)
          · refine V.sub [1, 0] rfl ?_
            exact ih r2 0 _ hf hk
          · exact absurd h5 (show ¬ (¬ ((0 : Int32) = (0 : Int32))) by decide)
        · replace hf := ite_pos hf h4
          refine V_aload_n (pc := 33) F dX8_readBuffer_33 rfl 0 rfl ?_
          refine V_get (pc := 34) F 0 8 8 i_X8 rfl (by decide) rfl (mm 2 rfl) dX8_readBuffer_34 rfl rfl ?_
          refine V_aload_n (pc := 37) F dX8_readBuffer_37 rfl 0 rfl ?_
          refine V_get (pc := 38) F 0 8 5 i_X8 rfl (by decide) rfl (mm 4 rfl) dX8_readBuffer_38 rfl rfl ?_
          refine V_icmp_ge (pc := 41) (tgt := 48) F dX8_readBuffer_41 (by decide) (fun h6 => ?_) (fun h6 => ?_)
          · replace hf := ite_pos hf h6
            refine V_iconst (v := 0) (pc := 48) F dX8_readBuffer_48 (by decide) ?_
            refine V_istore_n (L2 := [(1, .int 0), (0, .ref (a 0))]) (pc := 49) F dX8_readBuffer_49 rfl (by decide) rfl ?_
            refine V_iload_n (pc := 50) F dX8_readBuffer_50 rfl 0 rfl ?_
            refine V_if_eq (pc := 51) (tgt := 17) F dX8_readBuffer_51 (by decide) (fun h7 => ?_) (fun h7 => ?_)
            · refine V.sub [1, 0] rfl ?_
              exact ih r2 0 _ hf hk
            · exact absurd h7 (show ¬ (¬ ((0 : Int32) = (0 : Int32))) by decide)
          · replace hf := ite_neg hf h6
            refine V_iconst (v := 1) (pc := 44) F dX8_readBuffer_44 (by decide) ?_
            refine V_goto (pc := 45) (tgt := 49) F dX8_readBuffer_45 (by decide) ?_
            refine V_istore_n (L2 := [(1, .int 1), (0, .ref (a 0))]) (pc := 49) F dX8_readBuffer_49 rfl (by decide) rfl ?_
            refine V_iload_n (pc := 50) F dX8_readBuffer_50 rfl 0 rfl ?_
            refine V_if_eq (pc := 51) (tgt := 17) F dX8_readBuffer_51 (by decide) (fun h8 => ?_) (fun h8 => ?_)
            · exact absurd h8 (show ¬ ((1 : Int32) = (0 : Int32)) by decide)
            · refine V_aload_n (pc := 54) F dX8_readBuffer_54 rfl 1 rfl ?_
              refine V_aload_n (pc := 55) F dX8_readBuffer_55 rfl 1 rfl ?_
              obtain ⟨r9, g10, hf⟩ := bind_of hf
              refine V_V (w2 := wX8 cy a r2) (rest := [.ref (a 0)]) (st2 := [.int r9, .ref (a 0)]) (pc := 56) F 8 (M_X8_letter l D cy N a r2 r9 g10) (cwV 0 F.ts gX8_readBuffer_X8_letter rfl rfl rfl hd_X8_letter ⟨Nat.le_of_ble_eq_true rfl, Nat.le_of_ble_eq_true rfl⟩) rfl dX8_readBuffer_56 Fit.whole rfl rfl rfl (Nat.le_of_ble_eq_true rfl) (Nat.zero_le _) (Nat.zero_le _) rfl rfl rfl ?_
              refine V_bipush (v := 59) (pc := 59) F dX8_readBuffer_59 (by decide) ?_
              refine V_icmp_ne (pc := 61) (tgt := 68) F dX8_readBuffer_61 (by decide) (fun h11 => ?_) (fun h11 => ?_)
              · replace hf := ite_neg hf h11
                refine V_iconst (v := 0) (pc := 68) F dX8_readBuffer_68 (by decide) ?_
                obtain ⟨r12, g13, hf⟩ := bind_of hf
                refine V_V (w2 := wX8 cy a r12) (rest := []) (st2 := []) (pc := 69) F 8 (M_X8_wants l D cy N a r2 0 r12 g13) (cwV 1 F.ts gX8_readBuffer_X8_wants rfl rfl rfl hd_X8_wants ⟨Nat.le_of_ble_eq_true rfl, Nat.le_of_ble_eq_true rfl⟩) rfl dX8_readBuffer_69 Fit.whole fstX8 rfl rfl (Nat.le_of_ble_eq_true rfl) (Nat.zero_le _) (Nat.zero_le _) rfl rfl rfl ?_
                refine V_aload_n (pc := 72) F dX8_readBuffer_72 rfl 1 rfl ?_
                refine V_get (pc := 73) F 0 8 9 i_X8 rfl (by decide) rfl (mm 3 rfl) dX8_readBuffer_73 rfl rfl ?_
                refine V_iconst (v := (-1)) (pc := 76) F dX8_readBuffer_76 (by decide) ?_
                refine V_icmp_ne (pc := 77) (tgt := 84) F dX8_readBuffer_77 (by decide) (fun h14 => ?_) (fun h14 => ?_)
                · replace hf := ite_neg hf h14
                  refine V_iconst (v := 0) (pc := 84) F dX8_readBuffer_84 (by decide) ?_
                  refine V_istore_n (L2 := [(1, .int 0), (0, .ref (a 0))]) (pc := 85) F dX8_readBuffer_85 rfl (by decide) rfl ?_
                  refine V_goto (pc := 86) (tgt := 17) F dX8_readBuffer_86 (by decide) ?_
                  refine V.sub [1, 0] rfl ?_
                  exact ih r12 0 _ hf hk
                · replace hf := ite_pos hf h14
                  refine V_iconst (v := 1) (pc := 80) F dX8_readBuffer_80 (by decide) ?_
                  refine V_goto (pc := 81) (tgt := 85) F dX8_readBuffer_81 (by decide) ?_
                  refine V_istore_n (L2 := [(1, .int 1), (0, .ref (a 0))]) (pc := 85) F dX8_readBuffer_85 rfl (by decide) rfl ?_
                  refine V_goto (pc := 86) (tgt := 17) F dX8_readBuffer_86 (by decide) ?_
                  refine V.sub [1, 0] rfl ?_
                  exact ih r12 1 _ hf hk
              · replace hf := ite_pos hf h11
                refine V_iconst (v := 1) (pc := 64) F dX8_readBuffer_64 (by decide) ?_
                refine V_goto (pc := 65) (tgt := 69) F dX8_readBuffer_65 (by decide) ?_
                obtain ⟨r15, g16, hf⟩ := bind_of hf
                refine V_V (w2 := wX8 cy a r15) (rest := []) (st2 := []) (pc := 69) F 8 (M_X8_wants l D cy N a r2 1 r15 g16) (cwV 1 F.ts gX8_readBuffer_X8_wants rfl rfl rfl hd_X8_wants ⟨Nat.le_of_ble_eq_true rfl, Nat.le_of_ble_eq_true rfl⟩) rfl dX8_readBuffer_69 Fit.whole fstX8 rfl rfl (Nat.le_of_ble_eq_true rfl) (Nat.zero_le _) (Nat.zero_le _) rfl rfl rfl ?_
                refine V_aload_n (pc := 72) F dX8_readBuffer_72 rfl 1 rfl ?_
                refine V_get (pc := 73) F 0 8 9 i_X8 rfl (by decide) rfl (mm 3 rfl) dX8_readBuffer_73 rfl rfl ?_
                refine V_iconst (v := (-1)) (pc := 76) F dX8_readBuffer_76 (by decide) ?_
                refine V_icmp_ne (pc := 77) (tgt := 84) F dX8_readBuffer_77 (by decide) (fun h17 => ?_) (fun h17 => ?_)
                · replace hf := ite_neg hf h17
                  refine V_iconst (v := 0) (pc := 84) F dX8_readBuffer_84 (by decide) ?_
                  refine V_istore_n (L2 := [(1, .int 0), (0, .ref (a 0))]) (pc := 85) F dX8_readBuffer_85 rfl (by decide) rfl ?_
                  refine V_goto (pc := 86) (tgt := 17) F dX8_readBuffer_86 (by decide) ?_
                  refine V.sub [1, 0] rfl ?_
                  exact ih r15 0 _ hf hk
                · replace hf := ite_pos hf h17
                  refine V_iconst (v := 1) (pc := 80) F dX8_readBuffer_80 (by decide) ?_
                  refine V_goto (pc := 81) (tgt := 85) F dX8_readBuffer_81 (by decide) ?_
                  refine V_istore_n (L2 := [(1, .int 1), (0, .ref (a 0))]) (pc := 85) F dX8_readBuffer_85 rfl (by decide) rfl ?_
                  refine V_goto (pc := 86) (tgt := 17) F dX8_readBuffer_86 (by decide) ?_
                  refine V.sub [1, 0] rfl ?_
                  exact ih r15 1 _ hf hk
  unfold fX8_readBuffer at hf
  refine V.eq rfl (show lv_args 0 [.ref (a 0)] = [(0, .ref (a 0))] from rfl) rfl ?_
  refine V_aload_n (pc := 0) F dX8_readBuffer_0 rfl 0 rfl ?_
  refine V_iconst (v := 0) (pc := 1) F dX8_readBuffer_1 (by decide) ?_
  refine V_put (w2 := wX8 cy a (v.1, v.2.1, v.2.2.1, v.2.2.2.1, v.2.2.2.2.1, v.2.2.2.2.2.1, v.2.2.2.2.2.2.1, 0, v.2.2.2.2.2.2.2.2)) (pc := 2) F 0 8 7 i_X8 tyX8 tyX8_ok nmX8 rfl (by decide) rfl (mm 1 rfl) rfl dX8_readBuffer_2 rfl rfl rfl (Nat.le_of_ble_eq_true rfl) rfl ?_
  refine V_aload_n (pc := 5) F dX8_readBuffer_5 rfl 0 rfl ?_
  refine V_iconst (v := 0) (pc := 6) F dX8_readBuffer_6 (by decide) ?_
  refine V_put (w2 := wX8 cy a (v.1, v.2.1, v.2.2.1, v.2.2.2.1, v.2.2.2.2.1, v.2.2.2.2.2.1, v.2.2.2.2.2.2.1, 0, 0, v.2.2.2.2.2.2.2.2.2)) (pc := 7) F 0 8 8 i_X8 tyX8 tyX8_ok nmX8 rfl (by decide) rfl (mm 2 rfl) rfl dX8_readBuffer_7 rfl rfl rfl (Nat.le_of_ble_eq_true rfl) rfl ?_
  refine V_aload_n (pc := 10) F dX8_readBuffer_10 rfl 0 rfl ?_
  refine V_iconst (v := (-1)) (pc := 11) F dX8_readBuffer_11 (by decide) ?_
  refine V_put (w2 := wX8 cy a (v.1, v.2.1, v.2.2.1, v.2.2.2.1, v.2.2.2.2.1, v.2.2.2.2.2.1, v.2.2.2.2.2.2.1, 0, 0, (-1), v.2.2.2.2.2.2.2.2.2.2)) (pc := 12) F 0 8 9 i_X8 tyX8 tyX8_ok nmX8 rfl (by decide) rfl (mm 3 rfl) rfl dX8_readBuffer_12 rfl rfl rfl (Nat.le_of_ble_eq_true rfl) rfl ?_
  refine V_iconst (v := 1) (pc := 15) F dX8_readBuffer_15 (by decide) ?_
  refine V_istore_n (L2 := [(1, .int 1), (0, .ref (a 0))]) (pc := 16) F dX8_readBuffer_16 rfl (by decide) rfl ?_
  refine V.sub [1, 0] rfl ?_
  obtain ⟨u18, g19, hf⟩ := bind_of hf
  refine K17 N (v.1, v.2.1, v.2.2.1, v.2.2.2.1, v.2.2.2.2.1, v.2.2.2.2.2.1, v.2.2.2.2.2.2.1, 0, 0, (-1), v.2.2.2.2.2.2.2.2.2.2) 1 u18 g19 ?_
  refine V_aload_n (pc := 89) F dX8_readBuffer_89 rfl 0 rfl ?_
  refine V_get (pc := 90) F 0 8 9 i_X8 rfl (by decide) rfl (mm 3 rfl) dX8_readBuffer_90 rfl rfl ?_
  obtain rfl := some_of hf
  exact V_ret F rfl rfl dX8_readBuffer_93 rfl rfl
theorem hd_X8_firstError : yX8_firstError.cls = RX8 ∧ yX8_firstError.cls ≠ "java/lang/invoke/MethodHandle" ∧ yX8_firstError.cls ≠ "java/lang/invoke/VarHandle" ∧ (parseMethodDescriptor yX8_firstError.desc).map (fun d => d.parameters.length) = some 0 := by decide +kernel
def fX8_firstError (N : Nat) (v : SX8) : Option (Int32 × SX8) :=
  (fX8_readBuffer N (0, v.2)).bind fun r1 =>
    if r1.1 = (-1) then
      some (r1.2.2.2.2.2.2.1, r1.2)
    else
      some (r1.1, r1.2)
set_option maxHeartbeats 8000000 in
set_option maxRecDepth 100000 in
theorem M_X8_firstError (l : Launch) (D : va_G) (cy : Nat → ClassId) (N : Nat) (a : Nat → Nat) (v : SX8) (o : Int32 × SX8) (hf : fX8_firstError N v = some o) : okM l yX8_firstError wsX8_firstError (rmz 5 109) D cy [.ref (a 0)] (wX8 cy a v) (wX8 cy a o.2) (some (.int o.1)) := by
  refine okM_of (own := RX8) (nme := "firstError") (cc := cX8_firstError) (maxL := 2) (ret := (some .int)) (by decide) rfl rfl rfl (Nat.le_of_ble_eq_true rfl) ?_
  intro p e s m args below meth c A F
  have i_X8 : ∀ w ∈ u_ws RX8 TX8 13, w ∈ wsX8_firstError := fun _ h => List.mem_cons_of_mem _ (List.mem_append_right _ h)
  unfold fX8_firstError at hf
  refine V.eq rfl (show lv_args 0 [.ref (a 0)] = [(0, .ref (a 0))] from rfl) rfl ?_
  refine V_aload_n (pc := 0) F dX8_firstError_0 rfl 0 rfl ?_
  refine V_iconst (v := 0) (pc := 1) F dX8_firstError_1 (by decide) ?_
  refine V_put (w2 := wX8 cy a (0, v.2)) (pc := 2) F 0 8 0 i_X8 tyX8 tyX8_ok nmX8 rfl (by decide) rfl (mm 1 rfl) rfl dX8_firstError_2 rfl rfl rfl (Nat.le_of_ble_eq_true rfl) rfl ?_
  refine V_aload_n (pc := 5) F dX8_firstError_5 rfl 0 rfl ?_
  obtain ⟨r1, g2, hf⟩ := bind_of hf
  refine V_V (w2 := wX8 cy a r1.2) (rest := []) (st2 := [.int r1.1]) (pc := 6) F 8 (M_X8_readBuffer l D cy N a (0, v.2) r1 g2) (cwV 0 F.ts gX8_firstError_X8_readBuffer rfl rfl rfl hd_X8_readBuffer ⟨Nat.le_of_ble_eq_true rfl, Nat.le_of_ble_eq_true rfl⟩) rfl dX8_firstError_6 Fit.whole fstX8 rfl rfl (Nat.le_of_ble_eq_true rfl) (Nat.zero_le _) (Nat.zero_le _) rfl rfl rfl ?_
  refine V_istore_n (L2 := [(1, .int r1.1), (0, .ref (a 0))]) (pc := 9) F dX8_firstError_9 rfl (by decide) rfl ?_
  refine V_iload_n (pc := 10) F dX8_firstError_10 rfl 0 rfl ?_
  refine V_iconst (v := (-1)) (pc := 11) F dX8_firstError_11 (by decide) ?_
  refine V_icmp_ne (pc := 12) (tgt := 22) F dX8_firstError_12 (by decide) (fun h3 => ?_) (fun h3 => ?_)
  · replace hf := ite_neg hf h3
    refine V_iload_n (pc := 22) F dX8_firstError_22 rfl 0 rfl ?_
    obtain rfl := some_of hf
    exact V_ret F rfl rfl dX8_firstError_23 rfl rfl
  · replace hf := ite_pos hf h3
    refine V_aload_n (pc := 15) F dX8_firstError_15 rfl 1 rfl ?_
    refine V_get (pc := 16) F 0 8 5 i_X8 rfl (by decide) rfl (mm 2 rfl) dX8_firstError_16 rfl rfl ?_
    refine V_goto (pc := 19) (tgt := 23) F dX8_firstError_19 (by decide) ?_
    obtain rfl := some_of hf
    exact V_ret F rfl rfl dX8_firstError_23 rfl rfl
