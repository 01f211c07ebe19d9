theorem hd_X8_greensNow : yX8_greensNow.cls = RX8 ∧ yX8_greensNow.cls ≠ "java/lang/invoke/MethodHandle" ∧ yX8_greensNow.cls ≠ "java/lang/invoke/VarHandle" ∧ (parseMethodDescriptor yX8_greensNow.desc).map (fun d => d.parameters.length) = some 0 := by decide +kernel
def fX8_greensNow (N : Nat) (v : SX8) : Option (Int32) :=
  chk 2 143 (
    if (v.2.1 (2 : Int32).toNatClampNeg) = (-1) then
      some 0
    else
      (fX8_isClearing N v).bind fun r3 =>
        if r3 = 0 then
          chk 2 143 (
            (fX8_greens N v (v.2.1 (2 : Int32).toNatClampNeg)).bind fun r7 =>
              some r7
          )
        else
          chk 2 143 (
            (fX8_greens N v (v.2.1 (2 : Int32).toNatClampNeg)).bind fun r10 =>
              chk 5 143 (
                (fX8_greens N v (v.2.1 (5 : Int32).toNatClampNeg)).bind fun r13 =>
                  some (r10 &&& r13)
              )
          )
  )
set_option maxHeartbeats 8000000 in
set_option maxRecDepth 100000 in
theorem M_X8_greensNow (l : Launch) (D : va_G) (cy : Nat → ClassId) (N : Nat) (a : Nat → Nat) (v : SX8) (o : Int32) (hf : fX8_greensNow N v = some o) : okM l yX8_greensNow wsX8_greensNow (rmz 2 43) D cy [.ref (a 0)] (wX8 cy a v) (wX8 cy a v) (some (.int o)) := by
  refine okM_of (own := RX8) (nme := "greensNow") (cc := cX8_greensNow) (maxL := 1) (ret := (some .int)) (by decide) rfl rfl rfl (Nat.le_of_ble_eq_true rfl) ?_
  intro p e s m args below meth c A F
  have i_X8 : ∀ w ∈ u_ws RX8 TX8 13, w ∈ wsX8_greensNow := fun _ h => List.mem_cons_of_mem _ (List.mem_append_right _ h)
  unfold fX8_greensNow at hf
  refine V.eq rfl (show lv_args 0 [.ref (a 0)] = [(0, .ref (a 0))] from rfl) rfl ?_
  refine V_aload_n (pc := 0) F dX8_greensNow_0 rfl 0 rfl ?_
  refine V_get (pc := 1) F 0 8 1 i_X8 rfl (by decide) rfl (mm 1 rfl) dX8_greensNow_1 rfl rfl ?_
  refine V_iconst (v := 2) (pc := 4) F dX8_greensNow_4 (by decide) ?_
  obtain ⟨c1, hf⟩ := chk_some hf
  refine V_iald (pc := 5) F 1 rfl c1 dX8_greensNow_5 ?_
  refine V_iconst (v := (-1)) (pc := 6) F dX8_greensNow_6 (by decide) ?_
  refine V_icmp_ne (pc := 7) (tgt := 12) F dX8_greensNow_7 (by decide) (fun h2 => ?_) (fun h2 => ?_)
  · replace hf := ite_neg hf h2
    refine V_aload_n (pc := 12) F dX8_greensNow_12 rfl 0 rfl ?_
    obtain ⟨r3, g4, hf⟩ := bind_of hf
    refine V_V (w2 := wX8 cy a v) (rest := []) (st2 := [.int r3]) (pc := 13) F 8 (M_X8_isClearing l D cy N a v r3 g4) (cwV 0 F.ts gX8_greensNow_X8_isClearing rfl rfl rfl hd_X8_isClearing ⟨Nat.le_of_ble_eq_true rfl, Nat.le_of_ble_eq_true rfl⟩) rfl dX8_greensNow_13 Fit.whole rfl rfl rfl (Nat.le_of_ble_eq_true rfl) (Nat.zero_le _) (Nat.zero_le _) rfl rfl rfl ?_
    refine V_if_eq (pc := 16) (tgt := 43) F dX8_greensNow_16 (by decide) (fun h5 => ?_) (fun h5 => ?_)
    · replace hf := ite_pos hf h5
      refine V_aload_n (pc := 43) F dX8_greensNow_43 rfl 0 rfl ?_
      refine V_aload_n (pc := 44) F dX8_greensNow_44 rfl 0 rfl ?_
      refine V_get (pc := 45) F 0 8 1 i_X8 rfl (by decide) rfl (mm 1 rfl) dX8_greensNow_45 rfl rfl ?_
      refine V_iconst (v := 2) (pc := 48) F dX8_greensNow_48 (by decide) ?_
      obtain ⟨c6, hf⟩ := chk_some hf
      refine V_iald (pc := 49) F 1 rfl c6 dX8_greensNow_49 ?_
      obtain ⟨r7, g8, hf⟩ := bind_of hf
      refine V_V (w2 := wX8 cy a v) (rest := []) (st2 := [.int r7]) (pc := 50) F 8 (M_X8_greens l D cy N a v (v.2.1 (2 : Int32).toNatClampNeg) r7 g8) (cwV 1 F.ts gX8_greensNow_X8_greens rfl rfl rfl hd_X8_greens ⟨Nat.le_of_ble_eq_true rfl, Nat.le_of_ble_eq_true rfl⟩) rfl dX8_greensNow_50 Fit.whole rfl rfl rfl (Nat.le_of_ble_eq_true rfl) (Nat.zero_le _) (Nat.zero_le _) rfl rfl rfl ?_
      obtain rfl := some_of hf
      exact V_ret F rfl rfl dX8_greensNow_53 rfl rfl
    · replace hf := ite_neg hf h5
      refine V_aload_n (pc := 19) F dX8_greensNow_19 rfl 0 rfl ?_
      refine V_aload_n (pc := 20) F dX8_greensNow_20 rfl 0 rfl ?_
      refine V_get (pc := 21) F 0 8 1 i_X8 rfl (by decide) rfl (mm 1 rfl) dX8_greensNow_21 rfl rfl ?_
      refine V_iconst (v := 2) (pc := 24) F dX8_greensNow_24 (by decide) ?_
      obtain ⟨c9, hf⟩ := chk_some hf
      refine V_iald (pc := 25) F 1 rfl c9 dX8_greensNow_25 ?_
      obtain ⟨r10, g11, hf⟩ := bind_of hf
      refine V_V (w2 := wX8 cy a v) (rest := []) (st2 := [.int r10]) (pc := 26) F 8 (M_X8_greens l D cy N a v (v.2.1 (2 : Int32).toNatClampNeg) r10 g11) (cwV 1 F.ts gX8_greensNow_X8_greens rfl rfl rfl hd_X8_greens ⟨Nat.le_of_ble_eq_true rfl, Nat.le_of_ble_eq_true rfl⟩) rfl dX8_greensNow_26 Fit.whole rfl rfl rfl (Nat.le_of_ble_eq_true rfl) (Nat.zero_le _) (Nat.zero_le _) rfl rfl rfl ?_
      refine V_aload_n (pc := 29) F dX8_greensNow_29 rfl 0 rfl ?_
      refine V_aload_n (pc := 30) F dX8_greensNow_30 rfl 0 rfl ?_
      refine V_get (pc := 31) F 0 8 1 i_X8 rfl (by decide) rfl (mm 1 rfl) dX8_greensNow_31 rfl rfl ?_
      refine V_iconst (v := 5) (pc := 34) F dX8_greensNow_34 (by decide) ?_
      obtain ⟨c12, hf⟩ := chk_some hf
      refine V_iald (pc := 35) F 1 rfl c12 dX8_greensNow_35 ?_
      obtain ⟨r13, g14, hf⟩ := bind_of hf
      refine V_V (w2 := wX8 cy a v) (rest := [.int r10]) (st2 := [.int r13, .int r10]) (pc := 36) F 8 (M_X8_greens l D cy N a v (v.2.1 (5 : Int32).toNatClampNeg) r13 g14) (cwV 1 F.ts gX8_greensNow_X8_greens rfl rfl rfl hd_X8_greens ⟨Nat.le_of_ble_eq_true rfl, Nat.le_of_ble_eq_true rfl⟩) rfl dX8_greensNow_36 Fit.whole rfl rfl rfl (Nat.le_of_ble_eq_true rfl) (Nat.zero_le _) (Nat.zero_le _) rfl rfl rfl ?_
      refine V_iand (pc := 39) F dX8_greensNow_39 ?_
      refine V_goto (pc := 40) (tgt := 53) F dX8_greensNow_40 (by decide) ?_
      obtain rfl := some_of hf
      exact V_ret F rfl rfl dX8_greensNow_53 rfl rfl
  · replace hf := ite_pos hf h2
    refine V_iconst (v := 0) (pc := 10) F dX8_greensNow_10 (by decide) ?_
    obtain rfl := some_of hf
    exact V_ret F rfl rfl dX8_greensNow_11 rfl rfl
