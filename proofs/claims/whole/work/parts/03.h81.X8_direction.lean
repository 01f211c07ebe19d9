theorem hd_X8_direction : yX8_direction.cls = RX8 ∧ yX8_direction.cls ≠ "java/lang/invoke/MethodHandle" ∧ yX8_direction.cls ≠ "java/lang/invoke/VarHandle" ∧ (parseMethodDescriptor yX8_direction.desc).map (fun d => d.parameters.length) = some 2 := by decide +kernel
def fX8_direction (N : Nat) (v : SX8) (x1 : Int32) (x2 : Int32) : Option (Int32 × SX8) :=
  (fX8_isDirection N x1).bind fun r1 =>
    if r1 = 0 then
      some (0, (1, v.2))
    else
      (fX8_in N x2 0 5).bind fun r5 =>
        if r5 = 0 then
          some (0, (1, v.2))
        else
          (fX8_toldDirection N (0, v.2) x1 x2).bind fun r10 =>
            some (r10, (0, v.2))
set_option maxHeartbeats 8000000 in
set_option maxRecDepth 100000 in
theorem M_X8_direction (l : Launch) (D : va_G) (cy : Nat → ClassId) (N : Nat) (a : Nat → Nat) (v : SX8) (x1 : Int32) (x2 : Int32) (o : Int32 × SX8) (hf : fX8_direction N v x1 x2 = some o) : okM l yX8_direction wsX8_direction (rmz 5 110) D cy [.ref (a 0), .int x1, .int x2] (wX8 cy a v) (wX8 cy a o.2) (some (.int o.1)) := by
  refine okM_of (own := RX8) (nme := "direction") (cc := cX8_direction) (maxL := 3) (ret := (some .int)) (by decide) rfl rfl rfl (Nat.le_of_ble_eq_true rfl) ?_
  intro p e s m args below meth c A F
  have i_X8 : ∀ w ∈ u_ws RX8 TX8 13, w ∈ wsX8_direction := fun _ h => List.mem_cons_of_mem _ (List.mem_append_right _ h)
  unfold fX8_direction at hf
  refine V.eq rfl (show lv_args 0 [.ref (a 0), .int x1, .int x2] = [(0, .ref (a 0)), (1, .int x1), (2, .int x2)] from rfl) rfl ?_
  refine V_aload_n (pc := 0) F dX8_direction_0 rfl 0 rfl ?_
  refine V_iload_n (pc := 1) F dX8_direction_1 rfl 1 rfl ?_
  obtain ⟨r1, g2, hf⟩ := bind_of hf
  refine V_Sc (rest := [.ref (a 0)]) (st2 := [.int r1, .ref (a 0)]) (pc := 2) F (M_X8_isDirection l D cy N x1 r1 g2) (va_cwS 1 F.ts gX8_direction_X8_isDirection rfl rfl rfl hd_X8_isDirection ⟨Nat.le_of_ble_eq_true rfl, Nat.le_of_ble_eq_true rfl⟩) rfl dX8_direction_2 (Nat.le_of_ble_eq_true rfl) (Nat.zero_le _) (Nat.zero_le _) rfl rfl ?_
  refine V_if_eq (pc := 5) (tgt := 21) F dX8_direction_5 (by decide) (fun h3 => ?_) (fun h3 => ?_)
  · replace hf := ite_pos hf h3
    refine V_iconst (v := 1) (pc := 21) F dX8_direction_21 (by decide) ?_
    refine V_put (w2 := wX8 cy a (1, v.2)) (pc := 22) F 0 8 0 i_X8 tyX8 tyX8_ok nmX8 rfl (by decide) rfl (mm 1 rfl) rfl dX8_direction_22 rfl rfl rfl (Nat.le_of_ble_eq_true rfl) rfl ?_
    refine V_aload_n (pc := 25) F dX8_direction_25 rfl 0 rfl ?_
    refine V_get (pc := 26) F 0 8 0 i_X8 rfl (by decide) rfl (mm 1 rfl) dX8_direction_26 rfl rfl ?_
    refine V_if_le (pc := 29) (tgt := 36) F dX8_direction_29 (by decide) (fun h4 => ?_) (fun h4 => ?_)
    · exact absurd h4 (show ¬ ((1 : Int32) ≤ (0 : Int32)) by decide)
    · refine V_iconst (v := 0) (pc := 32) F dX8_direction_32 (by decide) ?_
      refine V_goto (pc := 33) (tgt := 42) F dX8_direction_33 (by decide) ?_
      obtain rfl := some_of hf
      exact V_ret F rfl rfl dX8_direction_42 rfl rfl
  · replace hf := ite_neg hf h3
    refine V_iload_n (pc := 8) F dX8_direction_8 rfl 2 rfl ?_
    refine V_iconst (v := 0) (pc := 9) F dX8_direction_9 (by decide) ?_
    refine V_iconst (v := 5) (pc := 10) F dX8_direction_10 (by decide) ?_
    obtain ⟨r5, g6, hf⟩ := bind_of hf
    refine V_Sc (rest := [.ref (a 0)]) (st2 := [.int r5, .ref (a 0)]) (pc := 11) F (M_X8_in l D cy N x2 0 5 r5 g6) (va_cwS 3 F.ts gX8_direction_X8_in rfl rfl rfl hd_X8_in ⟨Nat.le_of_ble_eq_true rfl, Nat.le_of_ble_eq_true rfl⟩) rfl dX8_direction_11 (Nat.le_of_ble_eq_true rfl) (Nat.zero_le _) (Nat.zero_le _) rfl rfl ?_
    refine V_if_eq (pc := 14) (tgt := 21) F dX8_direction_14 (by decide) (fun h7 => ?_) (fun h7 => ?_)
    · replace hf := ite_pos hf h7
      refine V_iconst (v := 1) (pc := 21) F dX8_direction_21 (by decide) ?_
      refine V_put (w2 := wX8 cy a (1, v.2)) (pc := 22) F 0 8 0 i_X8 tyX8 tyX8_ok nmX8 rfl (by decide) rfl (mm 1 rfl) rfl dX8_direction_22 rfl rfl rfl (Nat.le_of_ble_eq_true rfl) rfl ?_
      refine V_aload_n (pc := 25) F dX8_direction_25 rfl 0 rfl ?_
      refine V_get (pc := 26) F 0 8 0 i_X8 rfl (by decide) rfl (mm 1 rfl) dX8_direction_26 rfl rfl ?_
      refine V_if_le (pc := 29) (tgt := 36) F dX8_direction_29 (by decide) (fun h8 => ?_) (fun h8 => ?_)
      · exact absurd h8 (show ¬ ((1 : Int32) ≤ (0 : Int32)) by decide)
      · refine V_iconst (v := 0) (pc := 32) F dX8_direction_32 (by decide) ?_
        refine V_goto (pc := 33) (tgt := 42) F dX8_direction_33 (by decide) ?_
        obtain rfl := some_of hf
        exact V_ret F rfl rfl dX8_direction_42 rfl rfl
    · replace hf := ite_neg hf h7
      refine V_iconst (v := 0) (pc := 17) F dX8_direction_17 (by decide) ?_
      refine V_goto (pc := 18) (tgt := 22) F dX8_direction_18 (by decide) ?_
      refine V_put (w2 := wX8 cy a (0, v.2)) (pc := 22) F 0 8 0 i_X8 tyX8 tyX8_ok nmX8 rfl (by decide) rfl (mm 1 rfl) rfl dX8_direction_22 rfl rfl rfl (Nat.le_of_ble_eq_true rfl) rfl ?_
      refine V_aload_n (pc := 25) F dX8_direction_25 rfl 0 rfl ?_
      refine V_get (pc := 26) F 0 8 0 i_X8 rfl (by decide) rfl (mm 1 rfl) dX8_direction_26 rfl rfl ?_
      refine V_if_le (pc := 29) (tgt := 36) F dX8_direction_29 (by decide) (fun h9 => ?_) (fun h9 => ?_)
      · refine V_aload_n (pc := 36) F dX8_direction_36 rfl 0 rfl ?_
        refine V_iload_n (pc := 37) F dX8_direction_37 rfl 1 rfl ?_
        refine V_iload_n (pc := 38) F dX8_direction_38 rfl 2 rfl ?_
        obtain ⟨r10, g11, hf⟩ := bind_of hf
        refine V_V (w2 := wX8 cy a (0, v.2)) (rest := []) (st2 := [.int r10]) (pc := 39) F 8 (M_X8_toldDirection l D cy N a (0, v.2) x1 x2 r10 g11) (cwV 2 F.ts gX8_direction_X8_toldDirection rfl rfl rfl hd_X8_toldDirection ⟨Nat.le_of_ble_eq_true rfl, Nat.le_of_ble_eq_true rfl⟩) rfl dX8_direction_39 Fit.whole rfl rfl rfl (Nat.le_of_ble_eq_true rfl) (Nat.zero_le _) (Nat.zero_le _) rfl rfl rfl ?_
        obtain rfl := some_of hf
        exact V_ret F rfl rfl dX8_direction_42 rfl rfl
      · exact absurd h9 (show ¬ (¬ ((0 : Int32) ≤ (0 : Int32))) by decide)
