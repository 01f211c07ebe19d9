theorem hd_X8_rounds : yX8_rounds.cls = RX8 ∧ yX8_rounds.cls ≠ "java/lang/invoke/MethodHandle" ∧ yX8_rounds.cls ≠ "java/lang/invoke/VarHandle" ∧ (parseMethodDescriptor yX8_rounds.desc).map (fun d => d.parameters.length) = some 1 := by decide +kernel
def fX8_rounds (N : Nat) (v : SX8) (x1 : Int32) : Option (Int32 × SX8) :=
  (fX8_isDirection N x1).bind fun r1 =>
    if r1 = 0 then
      some (0, (1, v.2))
    else
      (fX8_roundsOf N (0, v.2) x1).bind fun r6 =>
        some (r6, (0, v.2))
set_option maxHeartbeats 8000000 in
set_option maxRecDepth 100000 in
theorem M_X8_rounds (l : Launch) (D : va_G) (cy : Nat → ClassId) (N : Nat) (a : Nat → Nat) (v : SX8) (x1 : Int32) (o : Int32 × SX8) (hf : fX8_rounds N v x1 = some o) : okM l yX8_rounds wsX8_rounds (rmz 7 166) D cy [.ref (a 0), .int x1] (wX8 cy a v) (wX8 cy a o.2) (some (.int o.1)) := by
  refine okM_of (own := RX8) (nme := "rounds") (cc := cX8_rounds) (maxL := 2) (ret := (some .int)) (by decide) rfl rfl rfl (Nat.le_of_ble_eq_true rfl) ?_
  intro p e s m args below meth c A F
  have i_X8 : ∀ w ∈ u_ws RX8 TX8 13, w ∈ wsX8_rounds := fun _ h => List.mem_cons_of_mem _ (List.mem_append_right _ h)
  unfold fX8_rounds at hf
  refine V.eq rfl (show lv_args 0 [.ref (a 0), .int x1] = [(0, .ref (a 0)), (1, .int x1)] from rfl) rfl ?_
  refine V_aload_n (pc := 0) F dX8_rounds_0 rfl 0 rfl ?_
  refine V_iload_n (pc := 1) F dX8_rounds_1 rfl 1 rfl ?_
  obtain ⟨r1, g2, hf⟩ := bind_of hf
  refine V_Sc (rest := [.ref (a 0)]) (st2 := [.int r1, .ref (a 0)]) (pc := 2) F (M_X8_isDirection l D cy N x1 r1 g2) (va_cwS 1 F.ts gX8_rounds_X8_isDirection rfl rfl rfl hd_X8_isDirection ⟨Nat.le_of_ble_eq_true rfl, Nat.le_of_ble_eq_true rfl⟩) rfl dX8_rounds_2 (Nat.le_of_ble_eq_true rfl) (Nat.zero_le _) (Nat.zero_le _) rfl rfl ?_
  refine V_if_eq (pc := 5) (tgt := 12) F dX8_rounds_5 (by decide) (fun h3 => ?_) (fun h3 => ?_)
  · replace hf := ite_pos hf h3
    refine V_iconst (v := 1) (pc := 12) F dX8_rounds_12 (by decide) ?_
    refine V_put (w2 := wX8 cy a (1, v.2)) (pc := 13) F 0 8 0 i_X8 tyX8 tyX8_ok nmX8 rfl (by decide) rfl (mm 1 rfl) rfl dX8_rounds_13 rfl rfl rfl (Nat.le_of_ble_eq_true rfl) rfl ?_
    refine V_aload_n (pc := 16) F dX8_rounds_16 rfl 0 rfl ?_
    refine V_get (pc := 17) F 0 8 0 i_X8 rfl (by decide) rfl (mm 1 rfl) dX8_rounds_17 rfl rfl ?_
    refine V_if_le (pc := 20) (tgt := 27) F dX8_rounds_20 (by decide) (fun h4 => ?_) (fun h4 => ?_)
    · exact absurd h4 (show ¬ ((1 : Int32) ≤ (0 : Int32)) by decide)
    · refine V_iconst (v := 0) (pc := 23) F dX8_rounds_23 (by decide) ?_
      refine V_goto (pc := 24) (tgt := 32) F dX8_rounds_24 (by decide) ?_
      obtain rfl := some_of hf
      exact V_ret F rfl rfl dX8_rounds_32 rfl rfl
  · replace hf := ite_neg hf h3
    refine V_iconst (v := 0) (pc := 8) F dX8_rounds_8 (by decide) ?_
    refine V_goto (pc := 9) (tgt := 13) F dX8_rounds_9 (by decide) ?_
    refine V_put (w2 := wX8 cy a (0, v.2)) (pc := 13) F 0 8 0 i_X8 tyX8 tyX8_ok nmX8 rfl (by decide) rfl (mm 1 rfl) rfl dX8_rounds_13 rfl rfl rfl (Nat.le_of_ble_eq_true rfl) rfl ?_
    refine V_aload_n (pc := 16) F dX8_rounds_16 rfl 0 rfl ?_
    refine V_get (pc := 17) F 0 8 0 i_X8 rfl (by decide) rfl (mm 1 rfl) dX8_rounds_17 rfl rfl ?_
    refine V_if_le (pc := 20) (tgt := 27) F dX8_rounds_20 (by decide) (fun h5 => ?_) (fun h5 => ?_)
    · refine V_aload_n (pc := 27) F dX8_rounds_27 rfl 0 rfl ?_
      refine V_iload_n (pc := 28) F dX8_rounds_28 rfl 1 rfl ?_
      obtain ⟨r6, g7, hf⟩ := bind_of hf
      refine V_V (w2 := wX8 cy a (0, v.2)) (rest := []) (st2 := [.int r6]) (pc := 29) F 8 (M_X8_roundsOf l D cy N a (0, v.2) x1 r6 g7) (cwV 1 F.ts gX8_rounds_X8_roundsOf rfl rfl rfl hd_X8_roundsOf ⟨Nat.le_of_ble_eq_true rfl, Nat.le_of_ble_eq_true rfl⟩) rfl dX8_rounds_29 Fit.whole rfl rfl rfl (Nat.le_of_ble_eq_true rfl) (Nat.zero_le _) (Nat.zero_le _) rfl rfl rfl ?_
      obtain rfl := some_of hf
      exact V_ret F rfl rfl dX8_rounds_32 rfl rfl
    · exact absurd h5 (show ¬ (¬ ((0 : Int32) ≤ (0 : Int32))) by decide)
