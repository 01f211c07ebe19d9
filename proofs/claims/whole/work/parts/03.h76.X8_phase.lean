theorem hd_X8_phase : yX8_phase.cls = RX8 ∧ yX8_phase.cls ≠ "java/lang/invoke/MethodHandle" ∧ yX8_phase.cls ≠ "java/lang/invoke/VarHandle" ∧ (parseMethodDescriptor yX8_phase.desc).map (fun d => d.parameters.length) = some 2 := by decide +kernel
def fX8_phase (N : Nat) (v : SX8) (x1 : Int32) (x2 : Int32) : Option (Int32 × SX8) :=
  (fX8_isPhase N v x1).bind fun r1 =>
    if r1 = 0 then
      some (0, (1, v.2))
    else
      (fX8_in N x2 0 5).bind fun r4 =>
        if r4 = 0 then
          some (0, (2, v.2))
        else
          (fX8_toldPhase N (0, v.2) x1 x2).bind fun r9 =>
            some (r9, (0, v.2))
set_option maxHeartbeats 8000000 in
set_option maxRecDepth 100000 in
theorem M_X8_phase (l : Launch) (D : va_G) (cy : Nat → ClassId) (N : Nat) (a : Nat → Nat) (v : SX8) (x1 : Int32) (x2 : Int32) (o : Int32 × SX8) (hf : fX8_phase N v x1 x2 = some o) : okM l yX8_phase wsX8_phase (rmz 5 110) D cy [.ref (a 0), .int x1, .int x2] (wX8 cy a v) (wX8 cy a o.2) (some (.int o.1)) := by
  refine okM_of (own := RX8) (nme := "phase") (cc := cX8_phase) (maxL := 3) (ret := (some .int)) (by decide) rfl rfl rfl (Nat.le_of_ble_eq_true rfl) ?_
  intro p e s m args below meth c A F
  have i_X8 : ∀ w ∈ u_ws RX8 TX8 13, w ∈ wsX8_phase := fun _ h => List.mem_cons_of_mem _ (List.mem_append_right _ h)
  unfold fX8_phase at hf
  refine V.eq rfl (show lv_args 0 [.ref (a 0), .int x1, .int x2] = [(0, .ref (a 0)), (1, .int x1), (2, .int x2)] from rfl) rfl ?_
  refine V_aload_n (pc := 0) F dX8_phase_0 rfl 0 rfl ?_
  refine V_aload_n (pc := 1) F dX8_phase_1 rfl 0 rfl ?_
  refine V_iload_n (pc := 2) F dX8_phase_2 rfl 1 rfl ?_
  obtain ⟨r1, g2, hf⟩ := bind_of hf
  refine V_V (w2 := wX8 cy a v) (rest := [.ref (a 0)]) (st2 := [.int r1, .ref (a 0)]) (pc := 3) F 8 (M_X8_isPhase l D cy N a v x1 r1 g2) (cwV 1 F.ts gX8_phase_X8_isPhase rfl rfl rfl hd_X8_isPhase ⟨Nat.le_of_ble_eq_true rfl, Nat.le_of_ble_eq_true rfl⟩) rfl dX8_phase_3 Fit.whole rfl rfl rfl (Nat.le_of_ble_eq_true rfl) (Nat.zero_le _) (Nat.zero_le _) rfl rfl rfl ?_
  refine V_if_ne (pc := 6) (tgt := 13) F dX8_phase_6 (by decide) (fun h3 => ?_) (fun h3 => ?_)
  · replace hf := ite_neg hf h3
    refine V_iload_n (pc := 13) F dX8_phase_13 rfl 2 rfl ?_
    refine V_iconst (v := 0) (pc := 14) F dX8_phase_14 (by decide) ?_
    refine V_iconst (v := 5) (pc := 15) F dX8_phase_15 (by decide) ?_
    obtain ⟨r4, g5, hf⟩ := bind_of hf
    refine V_Sc (rest := [.ref (a 0)]) (st2 := [.int r4, .ref (a 0)]) (pc := 16) F (M_X8_in l D cy N x2 0 5 r4 g5) (va_cwS 3 F.ts gX8_phase_X8_in rfl rfl rfl hd_X8_in ⟨Nat.le_of_ble_eq_true rfl, Nat.le_of_ble_eq_true rfl⟩) rfl dX8_phase_16 (Nat.le_of_ble_eq_true rfl) (Nat.zero_le _) (Nat.zero_le _) rfl rfl ?_
    refine V_if_eq (pc := 19) (tgt := 26) F dX8_phase_19 (by decide) (fun h6 => ?_) (fun h6 => ?_)
    · replace hf := ite_pos hf h6
      refine V_iconst (v := 2) (pc := 26) F dX8_phase_26 (by decide) ?_
      refine V_put (w2 := wX8 cy a (2, v.2)) (pc := 27) F 0 8 0 i_X8 tyX8 tyX8_ok nmX8 rfl (by decide) rfl (mm 1 rfl) rfl dX8_phase_27 rfl rfl rfl (Nat.le_of_ble_eq_true rfl) rfl ?_
      refine V_aload_n (pc := 30) F dX8_phase_30 rfl 0 rfl ?_
      refine V_get (pc := 31) F 0 8 0 i_X8 rfl (by decide) rfl (mm 1 rfl) dX8_phase_31 rfl rfl ?_
      refine V_if_le (pc := 34) (tgt := 41) F dX8_phase_34 (by decide) (fun h7 => ?_) (fun h7 => ?_)
      · exact absurd h7 (show ¬ ((2 : Int32) ≤ (0 : Int32)) by decide)
      · refine V_iconst (v := 0) (pc := 37) F dX8_phase_37 (by decide) ?_
        refine V_goto (pc := 38) (tgt := 47) F dX8_phase_38 (by decide) ?_
        obtain rfl := some_of hf
        exact V_ret F rfl rfl dX8_phase_47 rfl rfl
    · replace hf := ite_neg hf h6
      refine V_iconst (v := 0) (pc := 22) F dX8_phase_22 (by decide) ?_
      refine V_goto (pc := 23) (tgt := 27) F dX8_phase_23 (by decide) ?_
      refine V_put (w2 := wX8 cy a (0, v.2)) (pc := 27) F 0 8 0 i_X8 tyX8 tyX8_ok nmX8 rfl (by decide) rfl (mm 1 rfl) rfl dX8_phase_27 rfl rfl rfl (Nat.le_of_ble_eq_true rfl) rfl ?_
      refine V_aload_n (pc := 30) F dX8_phase_30 rfl 0 rfl ?_
      refine V_get (pc := 31) F 0 8 0 i_X8 rfl (by decide) rfl (mm 1 rfl) dX8_phase_31 rfl rfl ?_
      refine V_if_le (pc := 34) (tgt := 41) F dX8_phase_34 (by decide) (fun h8 => ?_) (fun h8 => ?_)
      · refine V_aload_n (pc := 41) F dX8_phase_41 rfl 0 rfl ?_
        refine V_iload_n (pc := 42) F dX8_phase_42 rfl 1 rfl ?_
        refine V_iload_n (pc := 43) F dX8_phase_43 rfl 2 rfl ?_
        obtain ⟨r9, g10, hf⟩ := bind_of hf
        refine V_V (w2 := wX8 cy a (0, v.2)) (rest := []) (st2 := [.int r9]) (pc := 44) F 8 (M_X8_toldPhase l D cy N a (0, v.2) x1 x2 r9 g10) (cwV 2 F.ts gX8_phase_X8_toldPhase rfl rfl rfl hd_X8_toldPhase ⟨Nat.le_of_ble_eq_true rfl, Nat.le_of_ble_eq_true rfl⟩) rfl dX8_phase_44 Fit.whole rfl rfl rfl (Nat.le_of_ble_eq_true rfl) (Nat.zero_le _) (Nat.zero_le _) rfl rfl rfl ?_
        obtain rfl := some_of hf
        exact V_ret F rfl rfl dX8_phase_47 rfl rfl
      · exact absurd h8 (show ¬ (¬ ((0 : Int32) ≤ (0 : Int32))) by decide)
  · replace hf := ite_pos hf h3
    refine V_iconst (v := 1) (pc := 9) F dX8_phase_9 (by decide) ?_
    refine V_goto (pc := 10) (tgt := 27) F dX8_phase_10 (by decide) ?_
    refine V_put (w2 := wX8 cy a (1, v.2)) (pc := 27) F 0 8 0 i_X8 tyX8 tyX8_ok nmX8 rfl (by decide) rfl (mm 1 rfl) rfl dX8_phase_27 rfl rfl rfl (Nat.le_of_ble_eq_true rfl) rfl ?_
    refine V_aload_n (pc := 30) F dX8_phase_30 rfl 0 rfl ?_
    refine V_get (pc := 31) F 0 8 0 i_X8 rfl (by decide) rfl (mm 1 rfl) dX8_phase_31 rfl rfl ?_
    refine V_if_le (pc := 34) (tgt := 41) F dX8_phase_34 (by decide) (fun h11 => ?_) (fun h11 => ?_)
    · exact absurd h11 (show ¬ ((1 : Int32) ≤ (0 : Int32)) by decide)
    · refine V_iconst (v := 0) (pc := 37) F dX8_phase_37 (by decide) ?_
      refine V_goto (pc := 38) (tgt := 47) F dX8_phase_38 (by decide) ?_
      obtain rfl := some_of hf
      exact V_ret F rfl rfl dX8_phase_47 rfl rfl
