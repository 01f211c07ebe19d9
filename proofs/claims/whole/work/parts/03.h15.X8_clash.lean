theorem hd_X8_clash : yX8_clash.cls = RX8 ∧ yX8_clash.cls ≠ "java/lang/invoke/MethodHandle" ∧ yX8_clash.cls ≠ "java/lang/invoke/VarHandle" ∧ (parseMethodDescriptor yX8_clash.desc).map (fun d => d.parameters.length) = some 2 := by decide +kernel
def fX8_clash (N : Nat) (v : SX8) (x1 : Int32) (x2 : Int32) : Option (Int32 × SX8) :=
  (fX8_isDirection N x1).bind fun r1 =>
    if r1 = 0 then
      some (0, (1, v.2))
    else
      (fX8_isDirection N x2).bind fun r5 =>
        if r5 = 0 then
          some (0, (1, v.2))
        else
          if x1 = x2 then
            some (0, (1, v.2))
          else
            (fX8_save N (0, v.2)).bind fun r12 =>
              (fX8_doClash N r12 x1 x2).bind fun r14 =>
                if r14 = 0 then
                  (fX8_setClash N r12 x1 x2 1).bind fun r17 =>
                    some (1, r17)
                else
                  (fX8_setClash N r12 x1 x2 0).bind fun r19 =>
                    some (0, r19)
set_option maxHeartbeats 8000000 in
set_option maxRecDepth 100000 in
theorem M_X8_clash (l : Launch) (D : va_G) (cy : Nat → ClassId) (N : Nat) (a : Nat → Nat) (v : SX8) (x1 : Int32) (x2 : Int32) (o : Int32 × SX8) (hf : fX8_clash N v x1 x2 = some o) : okM l yX8_clash wsX8_clash (rmz 2 42) D cy [.ref (a 0), .int x1, .int x2] (wX8 cy a v) (wX8 cy a o.2) (some (.int o.1)) := by
  refine okM_of (own := RX8) (nme := "clash") (cc := cX8_clash) (maxL := 4) (ret := (some .int)) (by decide) rfl rfl rfl (Nat.le_of_ble_eq_true rfl) ?_
  intro p e s m args below meth c A F
  have i_X8 : ∀ w ∈ u_ws RX8 TX8 13, w ∈ wsX8_clash := fun _ h => List.mem_cons_of_mem _ (List.mem_append_right _ h)
  unfold fX8_clash at hf
  refine V.eq rfl (show lv_args 0 [.ref (a 0), .int x1, .int x2] = [(0, .ref (a 0)), (1, .int x1), (2, .int x2)] from rfl) rfl ?_
  refine V_aload_n (pc := 0) F dX8_clash_0 rfl 0 rfl ?_
  refine V_iload_n (pc := 1) F dX8_clash_1 rfl 1 rfl ?_
  obtain ⟨r1, g2, hf⟩ := bind_of hf
  refine V_Sc (rest := [.ref (a 0)]) (st2 := [.int r1, .ref (a 0)]) (pc := 2) F (M_X8_isDirection l D cy N x1 r1 g2) (va_cwS 1 F.ts gX8_clash_X8_isDirection rfl rfl rfl hd_X8_isDirection ⟨Nat.le_of_ble_eq_true rfl, Nat.le_of_ble_eq_true rfl⟩) rfl dX8_clash_2 (Nat.le_of_ble_eq_true rfl) (Nat.zero_le _) (Nat.zero_le _) rfl rfl ?_
  refine V_if_eq (pc := 5) (tgt := 24) F dX8_clash_5 (by decide) (fun h3 => ?_) (fun h3 => ?_)
  · replace hf := ite_pos hf h3
    refine V_iconst (v := 1) (pc := 24) F dX8_clash_24 (by decide) ?_
    refine V_put (w2 := wX8 cy a (1, v.2)) (pc := 25) F 0 8 0 i_X8 tyX8 tyX8_ok nmX8 rfl (by decide) rfl (mm 1 rfl) rfl dX8_clash_25 rfl rfl rfl (Nat.le_of_ble_eq_true rfl) rfl ?_
    refine V_aload_n (pc := 28) F dX8_clash_28 rfl 0 rfl ?_
    refine V_get (pc := 29) F 0 8 0 i_X8 rfl (by decide) rfl (mm 1 rfl) dX8_clash_29 rfl rfl ?_
    refine V_if_le (pc := 32) (tgt := 37) F dX8_clash_32 (by decide) (fun h4 => ?_) (fun h4 => ?_)
    · exact absurd h4 (show ¬ ((1 : Int32) ≤ (0 : Int32)) by decide)
    · refine V_iconst (v := 0) (pc := 35) F dX8_clash_35 (by decide) ?_
      obtain rfl := some_of hf
      exact V_ret F rfl rfl dX8_clash_36 rfl rfl
  · replace hf := ite_neg hf h3
    refine V_iload_n (pc := 8) F dX8_clash_8 rfl 2 rfl ?_
    obtain ⟨r5, g6, hf⟩ := bind_of hf
    refine V_Sc (rest := [.ref (a 0)]) (st2 := [.int r5, .ref (a 0)]) (pc := 9) F (M_X8_isDirection l D cy N x2 r5 g6) (va_cwS 1 F.ts gX8_clash_X8_isDirection rfl rfl rfl hd_X8_isDirection ⟨Nat.le_of_ble_eq_true rfl, Nat.le_of_ble_eq_true rfl⟩) rfl dX8_clash_9 (Nat.le_of_ble_eq_true rfl) (Nat.zero_le _) (Nat.zero_le _) rfl rfl ?_
    refine V_if_eq (pc := 12) (tgt := 24) F dX8_clash_12 (by decide) (fun h7 => ?_) (fun h7 => ?_)
    · replace hf := ite_pos hf h7
      refine V_iconst (v := 1) (pc := 24) F dX8_clash_24 (by decide) ?_
      refine V_put (w2 := wX8 cy a (1, v.2)) (pc := 25) F 0 8 0 i_X8 tyX8 tyX8_ok nmX8 rfl (by decide) rfl (mm 1 rfl) rfl dX8_clash_25 rfl rfl rfl (Nat.le_of_ble_eq_true rfl) rfl ?_
      refine V_aload_n (pc := 28) F dX8_clash_28 rfl 0 rfl ?_
      refine V_get (pc := 29) F 0 8 0 i_X8 rfl (by decide) rfl (mm 1 rfl) dX8_clash_29 rfl rfl ?_
      refine V_if_le (pc := 32) (tgt := 37) F dX8_clash_32 (by decide) (fun h8 => ?_) (fun h8 => ?_)
      · exact absurd h8 (show ¬ ((1 : Int32) ≤ (0 : Int32)) by decide)
      · refine V_iconst (v := 0) (pc := 35) F dX8_clash_35 (by decide) ?_
        obtain rfl := some_of hf
        exact V_ret F rfl rfl dX8_clash_36 rfl rfl
    · replace hf := ite_neg hf h7
      refine V_iload_n (pc := 15) F dX8_clash_15 rfl 1 rfl ?_
      refine V_iload_n (pc := 16) F dX8_clash_16 rfl 2 rfl ?_
      refine V_icmp_eq (pc := 17) (tgt := 24) F dX8_clash_17 (by decide) (fun h9 => ?_) (fun h9 => ?_)
      · replace hf := ite_pos hf h9
        refine V_iconst (v := 1) (pc := 24) F dX8_clash_24 (by decide) ?_
        refine V_put (w2 := wX8 cy a (1, v.2)) (pc := 25) F 0 8 0 i_X8 tyX8 tyX8_ok nmX8 rfl (by decide) rfl (mm 1 rfl) rfl dX8_clash_25 rfl rfl rfl (Nat.le_of_ble_eq_true rfl) rfl ?_
        refine V_aload_n (pc := 28) F dX8_clash_28 rfl 0 rfl ?_
        refine V_get (pc := 29) F 0 8 0 i_X8 rfl (by decide) rfl (mm 1 rfl) dX8_clash_29 rfl rfl ?_
        refine V_if_le (pc := 32) (tgt := 37) F dX8_clash_32 (by decide) (fun h10 => ?_) (fun h10 => ?_)
        · exact absurd h10 (show ¬ ((1 : Int32) ≤ (0 : Int32)) by decide)
        · refine V_iconst (v := 0) (pc := 35) F dX8_clash_35 (by decide) ?_
          obtain rfl := some_of hf
          exact V_ret F rfl rfl dX8_clash_36 rfl rfl
      · replace hf := ite_neg hf h9
        refine V_iconst (v := 0) (pc := 20) F dX8_clash_20 (by decide) ?_
        refine V_goto (pc := 21) (tgt := 25) F dX8_clash_21 (by decide) ?_
        refine V_put (w2 := wX8 cy a (0, v.2)) (pc := 25) F 0 8 0 i_X8 tyX8 tyX8_ok nmX8 rfl (by decide) rfl (mm 1 rfl) rfl dX8_clash_25 rfl rfl rfl (Nat.le_of_ble_eq_true rfl) rfl ?_
        refine V_aload_n (pc := 28) F dX8_clash_28 rfl 0 rfl ?_
        refine V_get (pc := 29) F 0 8 0 i_X8 rfl (by decide) rfl (mm 1 rfl) dX8_clash_29 rfl rfl ?_
        refine V_if_le (pc := 32) (tgt := 37) F dX8_clash_32 (by decide) (fun h11 => ?_) (fun h11 => ?_)
        · refine V_aload_n (pc := 37) F dX8_clash_37 rfl 0 rfl ?_
          obtain ⟨r12, g13, hf⟩ := bind_of hf
          refine V_V (w2 := wX8 cy a r12) (rest := []) (st2 := []) (pc := 38) F 8 (M_X8_save l D cy N a (0, v.2) r12 g13) (cwV 0 F.ts gX8_clash_X8_save rfl rfl rfl hd_X8_save ⟨Nat.le_of_ble_eq_true rfl, Nat.le_of_ble_eq_true rfl⟩) rfl dX8_clash_38 Fit.whole fstX8 rfl rfl (Nat.le_of_ble_eq_true rfl) (Nat.zero_le _) (Nat.zero_le _) rfl rfl rfl ?_
          refine V_aload_n (pc := 41) F dX8_clash_41 rfl 0 rfl ?_
          refine V_iload_n (pc := 42) F dX8_clash_42 rfl 1 rfl ?_
          refine V_iload_n (pc := 43) F dX8_clash_43 rfl 2 rfl ?_
          obtain ⟨r14, g15, hf⟩ := bind_of hf
          refine V_V (w2 := wX8 cy a r12) (rest := []) (st2 := [.int r14]) (pc := 44) F 8 (M_X8_doClash l D cy N a r12 x1 x2 r14 g15) (cwV 2 F.ts gX8_clash_X8_doClash rfl rfl rfl hd_X8_doClash ⟨Nat.le_of_ble_eq_true rfl, Nat.le_of_ble_eq_true rfl⟩) rfl dX8_clash_44 Fit.whole rfl rfl rfl (Nat.le_of_ble_eq_true rfl) (Nat.zero_le _) (Nat.zero_le _) rfl rfl rfl ?_
          refine V_if_eq (pc := 47) (tgt := 54) F dX8_clash_47 (by decide) (fun h16 => ?_) (fun h16 => ?_)
          · replace hf := ite_pos hf h16
            refine V_iconst (v := 1) (pc := 54) F dX8_clash_54 (by decide) ?_
            refine V_istore_n (L2 := [(3, .int 1), (0, .ref (a 0)), (1, .int x1), (2, .int x2)]) (pc := 55) F dX8_clash_55 rfl (by decide) rfl ?_
            refine V_aload_n (pc := 56) F dX8_clash_56 rfl 1 rfl ?_
            refine V_iload_n (pc := 57) F dX8_clash_57 rfl 2 rfl ?_
            refine V_iload_n (pc := 58) F dX8_clash_58 rfl 3 rfl ?_
            refine V_iload_n (pc := 59) F dX8_clash_59 rfl 0 rfl ?_
            obtain ⟨r17, g18, hf⟩ := bind_of hf
            refine V_V (w2 := wX8 cy a r17) (rest := []) (st2 := []) (pc := 60) F 8 (M_X8_setClash l D cy N a r12 x1 x2 1 r17 g18) (cwV 3 F.ts gX8_clash_X8_setClash rfl rfl rfl hd_X8_setClash ⟨Nat.le_of_ble_eq_true rfl, Nat.le_of_ble_eq_true rfl⟩) rfl dX8_clash_60 Fit.whole fstX8 rfl rfl (Nat.le_of_ble_eq_true rfl) (Nat.zero_le _) (Nat.zero_le _) rfl rfl rfl ?_
            refine V_iload_n (pc := 63) F dX8_clash_63 rfl 0 rfl ?_
            obtain rfl := some_of hf
            exact V_ret F rfl rfl dX8_clash_64 rfl rfl
          · replace hf := ite_neg hf h16
            refine V_iconst (v := 0) (pc := 50) F dX8_clash_50 (by decide) ?_
            refine V_goto (pc := 51) (tgt := 55) F dX8_clash_51 (by decide) ?_
            refine V_istore_n (L2 := [(3, .int 0), (0, .ref (a 0)), (1, .int x1), (2, .int x2)]) (pc := 55) F dX8_clash_55 rfl (by decide) rfl ?_
            refine V_aload_n (pc := 56) F dX8_clash_56 rfl 1 rfl ?_
            refine V_iload_n (pc := 57) F dX8_clash_57 rfl 2 rfl ?_
            refine V_iload_n (pc := 58) F dX8_clash_58 rfl 3 rfl ?_
            refine V_iload_n (pc := 59) F dX8_clash_59 rfl 0 rfl ?_
            obtain ⟨r19, g20, hf⟩ := bind_of hf
            refine V_V (w2 := wX8 cy a r19) (rest := []) (st2 := []) (pc := 60) F 8 (M_X8_setClash l D cy N a r12 x1 x2 0 r19 g20) (cwV 3 F.ts gX8_clash_X8_setClash rfl rfl rfl hd_X8_setClash ⟨Nat.le_of_ble_eq_true rfl, Nat.le_of_ble_eq_true rfl⟩) rfl dX8_clash_60 Fit.whole fstX8 rfl rfl (Nat.le_of_ble_eq_true rfl) (Nat.zero_le _) (Nat.zero_le _) rfl rfl rfl ?_
            refine V_iload_n (pc := 63) F dX8_clash_63 rfl 0 rfl ?_
            obtain rfl := some_of hf
            exact V_ret F rfl rfl dX8_clash_64 rfl rfl
        · exact absurd h11 (show ¬ (¬ ((0 : Int32) ≤ (0 : Int32))) by decide)
