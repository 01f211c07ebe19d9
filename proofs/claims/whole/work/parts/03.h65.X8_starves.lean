theorem hd_X8_starves : yX8_starves.cls = RX8 ∧ yX8_starves.cls ≠ "java/lang/invoke/MethodHandle" ∧ yX8_starves.cls ≠ "java/lang/invoke/VarHandle" ∧ (parseMethodDescriptor yX8_starves.desc).map (fun d => d.parameters.length) = some 2 := by decide +kernel
def fX8_starves (N : Nat) (v : SX8) (x1 : Int32) (x2 : Int32) : Option (Int32 × SX8) :=
  (fX8_isPhase N v x2).bind fun r1 =>
    if r1 = 0 then
      some (0, (1, v.2))
    else
      (fX8_isDirection N x1).bind fun r4 =>
        if r4 = 0 then
          some (0, (2, v.2))
        else
          (fX8_canStarve N (0, v.2) x2 x1).bind fun r9 =>
            if r9 = 0 then
              some (0, (0, v.2))
            else
              some (1, (0, v.2))
set_option maxHeartbeats 8000000 in
set_option maxRecDepth 100000 in
theorem M_X8_starves (l : Launch) (D : va_G) (cy : Nat → ClassId) (N : Nat) (a : Nat → Nat) (v : SX8) (x1 : Int32) (x2 : Int32) (o : Int32 × SX8) (hf : fX8_starves N v x1 x2 = some o) : okM l yX8_starves wsX8_starves (rmz 7 167) D cy [.ref (a 0), .int x1, .int x2] (wX8 cy a v) (wX8 cy a o.2) (some (.int o.1)) := by
  refine okM_of (own := RX8) (nme := "starves") (cc := cX8_starves) (maxL := 3) (ret := (some .int)) (by decide) rfl rfl rfl (Nat.le_of_ble_eq_true rfl) ?_
  intro p e s m args below meth c A F
  have i_X8 : ∀ w ∈ u_ws RX8 TX8 13, w ∈ wsX8_starves := fun _ h => List.mem_cons_of_mem _ (List.mem_append_right _ h)
  unfold fX8_starves at hf
  refine V.eq rfl (show lv_args 0 [.ref (a 0), .int x1, .int x2] = [(0, .ref (a 0)), (1, .int x1), (2, .int x2)] from rfl) rfl ?_
  refine V_aload_n (pc := 0) F dX8_starves_0 rfl 0 rfl ?_
  refine V_aload_n (pc := 1) F dX8_starves_1 rfl 0 rfl ?_
  refine V_iload_n (pc := 2) F dX8_starves_2 rfl 2 rfl ?_
  obtain ⟨r1, g2, hf⟩ := bind_of hf
  refine V_V (w2 := wX8 cy a v) (rest := [.ref (a 0)]) (st2 := [.int r1, .ref (a 0)]) (pc := 3) F 8 (M_X8_isPhase l D cy N a v x2 r1 g2) (cwV 1 F.ts gX8_starves_X8_isPhase rfl rfl rfl hd_X8_isPhase ⟨Nat.le_of_ble_eq_true rfl, Nat.le_of_ble_eq_true rfl⟩) rfl dX8_starves_3 Fit.whole rfl rfl rfl (Nat.le_of_ble_eq_true rfl) (Nat.zero_le _) (Nat.zero_le _) rfl rfl rfl ?_
  refine V_if_ne (pc := 6) (tgt := 13) F dX8_starves_6 (by decide) (fun h3 => ?_) (fun h3 => ?_)
  · replace hf := ite_neg hf h3
    refine V_iload_n (pc := 13) F dX8_starves_13 rfl 1 rfl ?_
    obtain ⟨r4, g5, hf⟩ := bind_of hf
    refine V_Sc (rest := [.ref (a 0)]) (st2 := [.int r4, .ref (a 0)]) (pc := 14) F (M_X8_isDirection l D cy N x1 r4 g5) (va_cwS 1 F.ts gX8_starves_X8_isDirection rfl rfl rfl hd_X8_isDirection ⟨Nat.le_of_ble_eq_true rfl, Nat.le_of_ble_eq_true rfl⟩) rfl dX8_starves_14 (Nat.le_of_ble_eq_true rfl) (Nat.zero_le _) (Nat.zero_le _) rfl rfl ?_
    refine V_if_eq (pc := 17) (tgt := 24) F dX8_starves_17 (by decide) (fun h6 => ?_) (fun h6 => ?_)
    · replace hf := ite_pos hf h6
      refine V_iconst (v := 2) (pc := 24) F dX8_starves_24 (by decide) ?_
      refine V_put (w2 := wX8 cy a (2, v.2)) (pc := 25) F 0 8 0 i_X8 tyX8 tyX8_ok nmX8 rfl (by decide) rfl (mm 1 rfl) rfl dX8_starves_25 rfl rfl rfl (Nat.le_of_ble_eq_true rfl) rfl ?_
      refine V_aload_n (pc := 28) F dX8_starves_28 rfl 0 rfl ?_
      refine V_get (pc := 29) F 0 8 0 i_X8 rfl (by decide) rfl (mm 1 rfl) dX8_starves_29 rfl rfl ?_
      refine V_if_le (pc := 32) (tgt := 39) F dX8_starves_32 (by decide) (fun h7 => ?_) (fun h7 => ?_)
      · exact absurd h7 (show ¬ ((2 : Int32) ≤ (0 : Int32)) by decide)
      · refine V_iconst (v := 0) (pc := 35) F dX8_starves_35 (by decide) ?_
        refine V_goto (pc := 36) (tgt := 53) F dX8_starves_36 (by decide) ?_
        obtain rfl := some_of hf
        exact V_ret F rfl rfl dX8_starves_53 rfl rfl
    · replace hf := ite_neg hf h6
      refine V_iconst (v := 0) (pc := 20) F dX8_starves_20 (by decide) ?_
      refine V_goto (pc := 21) (tgt := 25) F dX8_starves_21 (by decide) ?_
      refine V_put (w2 := wX8 cy a (0, v.2)) (pc := 25) F 0 8 0 i_X8 tyX8 tyX8_ok nmX8 rfl (by decide) rfl (mm 1 rfl) rfl dX8_starves_25 rfl rfl rfl (Nat.le_of_ble_eq_true rfl) rfl ?_
      refine V_aload_n (pc := 28) F dX8_starves_28 rfl 0 rfl ?_
      refine V_get (pc := 29) F 0 8 0 i_X8 rfl (by decide) rfl (mm 1 rfl) dX8_starves_29 rfl rfl ?_
      refine V_if_le (pc := 32) (tgt := 39) F dX8_starves_32 (by decide) (fun h8 => ?_) (fun h8 => ?_)
      · refine V_aload_n (pc := 39) F dX8_starves_39 rfl 0 rfl ?_
        refine V_iload_n (pc := 40) F dX8_starves_40 rfl 2 rfl ?_
        refine V_iload_n (pc := 41) F dX8_starves_41 rfl 1 rfl ?_
        obtain ⟨r9, g10, hf⟩ := bind_of hf
        refine V_V (w2 := wX8 cy a (0, v.2)) (rest := []) (st2 := [.int r9]) (pc := 42) F 8 (M_X8_canStarve l D cy N a (0, v.2) x2 x1 r9 g10) (cwV 2 F.ts gX8_starves_X8_canStarve rfl rfl rfl hd_X8_canStarve ⟨Nat.le_of_ble_eq_true rfl, Nat.le_of_ble_eq_true rfl⟩) rfl dX8_starves_42 Fit.whole rfl rfl rfl (Nat.le_of_ble_eq_true rfl) (Nat.zero_le _) (Nat.zero_le _) rfl rfl rfl ?_
        refine V_if_eq (pc := 45) (tgt := 52) F dX8_starves_45 (by decide) (fun h11 => ?_) (fun h11 => ?_)
        · replace hf := ite_pos hf h11
          refine V_iconst (v := 0) (pc := 52) F dX8_starves_52 (by decide) ?_
          obtain rfl := some_of hf
          exact V_ret F rfl rfl dX8_starves_53 rfl rfl
        · replace hf := ite_neg hf h11
          refine V_iconst (v := 1) (pc := 48) F dX8_starves_48 (by decide) ?_
          refine V_goto (pc := 49) (tgt := 53) F dX8_starves_49 (by decide) ?_
          obtain rfl := some_of hf
          exact V_ret F rfl rfl dX8_starves_53 rfl rfl
      · exact absurd h8 (show ¬ (¬ ((0 : Int32) ≤ (0 : Int32))) by decide)
  · replace hf := ite_pos hf h3
    refine V_iconst (v := 1) (pc := 9) F dX8_starves_9 (by decide) ?_
    refine V_goto (pc := 10) (tgt := 25) F dX8_starves_10 (by decide) ?_
    refine V_put (w2 := wX8 cy a (1, v.2)) (pc := 25) F 0 8 0 i_X8 tyX8 tyX8_ok nmX8 rfl (by decide) rfl (mm 1 rfl) rfl dX8_starves_25 rfl rfl rfl (Nat.le_of_ble_eq_true rfl) rfl ?_
    refine V_aload_n (pc := 28) F dX8_starves_28 rfl 0 rfl ?_
    refine V_get (pc := 29) F 0 8 0 i_X8 rfl (by decide) rfl (mm 1 rfl) dX8_starves_29 rfl rfl ?_
    refine V_if_le (pc := 32) (tgt := 39) F dX8_starves_32 (by decide) (fun h12 => ?_) (fun h12 => ?_)
    · exact absurd h12 (show ¬ ((1 : Int32) ≤ (0 : Int32)) by decide)
    · refine V_iconst (v := 0) (pc := 35) F dX8_starves_35 (by decide) ?_
      refine V_goto (pc := 36) (tgt := 53) F dX8_starves_36 (by decide) ?_
      obtain rfl := some_of hf
      exact V_ret F rfl rfl dX8_starves_53 rfl rfl
