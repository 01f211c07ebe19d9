theorem hd_X8_shortest : yX8_shortest.cls = RX8 ∧ yX8_shortest.cls ≠ "java/lang/invoke/MethodHandle" ∧ yX8_shortest.cls ≠ "java/lang/invoke/VarHandle" ∧ (parseMethodDescriptor yX8_shortest.desc).map (fun d => d.parameters.length) = some 2 := by decide +kernel
def fX8_shortest (N : Nat) (v : SX8) (x1 : Int32) (x2 : Int32) : Option (Int32 × SX8) :=
  (fX8_layShortest N v x1).bind fun r1 =>
    chk x2 8 (
      if (r1.2.2.2.2.2.2.2.2.2.2.1 x2.toNatClampNeg) < 9999 then
        chk x2 8 (
          some ((r1.2.2.2.2.2.2.2.2.2.2.1 x2.toNatClampNeg), r1)
        )
      else
        some ((-1), r1)
    )
set_option maxHeartbeats 8000000 in
set_option maxRecDepth 100000 in
theorem M_X8_shortest (l : Launch) (D : va_G) (cy : Nat → ClassId) (N : Nat) (a : Nat → Nat) (v : SX8) (x1 : Int32) (x2 : Int32) (o : Int32 × SX8) (hf : fX8_shortest N v x1 x2 = some o) : okM l yX8_shortest wsX8_shortest (rmz 5 118) D cy [.ref (a 0), .int x1, .int x2] (wX8 cy a v) (wX8 cy a o.2) (some (.int o.1)) := by
  refine okM_of (own := RX8) (nme := "shortest") (cc := cX8_shortest) (maxL := 3) (ret := (some .int)) (by decide) rfl rfl rfl (Nat.le_of_ble_eq_true rfl) ?_
  intro p e s m args below meth c A F
  have i_X8 : ∀ w ∈ u_ws RX8 TX8 13, w ∈ wsX8_shortest := fun _ h => List.mem_cons_of_mem _ (List.mem_append_right _ h)
  unfold fX8_shortest at hf
  refine V.eq rfl (show lv_args 0 [.ref (a 0), .int x1, .int x2] = [(0, .ref (a 0)), (1, .int x1), (2, .int x2)] from rfl) rfl ?_
  refine V_aload_n (pc := 0) F dX8_shortest_0 rfl 0 rfl ?_
  refine V_iload_n (pc := 1) F dX8_shortest_1 rfl 1 rfl ?_
  obtain ⟨r1, g2, hf⟩ := bind_of hf
  refine V_V (w2 := wX8 cy a r1) (rest := []) (st2 := []) (pc := 2) F 8 (M_X8_layShortest l D cy N a v x1 r1 g2) (cwV 1 F.ts gX8_shortest_X8_layShortest rfl rfl rfl hd_X8_layShortest ⟨Nat.le_of_ble_eq_true rfl, Nat.le_of_ble_eq_true rfl⟩) rfl dX8_shortest_2 Fit.whole fstX8 rfl rfl (Nat.le_of_ble_eq_true rfl) (Nat.zero_le _) (Nat.zero_le _) rfl rfl rfl ?_
  refine V_aload_n (pc := 5) F dX8_shortest_5 rfl 0 rfl ?_
  refine V_get (pc := 6) F 0 8 10 i_X8 rfl (by decide) rfl (mm 1 rfl) dX8_shortest_6 rfl rfl ?_
  refine V_iload_n (pc := 9) F dX8_shortest_9 rfl 2 rfl ?_
  obtain ⟨c3, hf⟩ := chk_some hf
  refine V_iald (pc := 10) F 5 rfl c3 dX8_shortest_10 ?_
  refine V_sipush (v := 9999) (pc := 11) F dX8_shortest_11 (by decide) ?_
  refine V_icmp_lt (pc := 14) (tgt := 21) F dX8_shortest_14 (by decide) (fun h4 => ?_) (fun h4 => ?_)
  · replace hf := ite_pos hf h4
    refine V_aload_n (pc := 21) F dX8_shortest_21 rfl 0 rfl ?_
    refine V_get (pc := 22) F 0 8 10 i_X8 rfl (by decide) rfl (mm 1 rfl) dX8_shortest_22 rfl rfl ?_
    refine V_iload_n (pc := 25) F dX8_shortest_25 rfl 2 rfl ?_
    obtain ⟨c5, hf⟩ := chk_some hf
    refine V_iald (pc := 26) F 5 rfl c5 dX8_shortest_26 ?_
    obtain rfl := some_of hf
    exact V_ret F rfl rfl dX8_shortest_27 rfl rfl
  · replace hf := ite_neg hf h4
    refine V_iconst (v := (-1)) (pc := 17) F dX8_shortest_17 (by decide) ?_
    refine V_goto (pc := 18) (tgt := 27) F dX8_shortest_18 (by decide) ?_
    obtain rfl := some_of hf
    exact V_ret F rfl rfl dX8_shortest_27 rfl rfl
theorem hd_X8_starves : yX8_starves.cls = RX8 ∧ yX8_starves.cls ≠ "java/lang/invoke/MethodHandle" ∧ yX8_starves.cls ≠ "java/lang/invoke/VarHandle" ∧ (parseMethodDescriptor yX8_starves.desc).map (fun d => d.parameters.length) = some 2 := by decide +kernel
def fX8_starves (N : Nat) (v : SX8) (x1 : Int32) (x2 : Int32) : Option (Int32 × SX8) :=
  (fX8_isPhase N v x2).bind fun r1 =>
    if r1 = 0 then
      some (0, (1, v.2))
    else
      (fX8_isDirection N x1).bind fun r4 =>
        if r4 = 0 then
          some (0, (2, v.2))
        else
          (fX8_canStarve N (0, v.2) x2 x1).bind fun r9 =>
            if r9 = 0 then
              some (0, (0, v.2))
            else
              some (1, (0, v.2))
set_option maxHeartbeats 8000000 in
set_option maxRecDepth 100000 in
theorem M_X8_starves (l : Launch) (D : va_G) (cy : Nat → ClassId) (N : Nat) (a : Nat → Nat) (v : SX8) (x1 : Int32) (x2 : Int32) (o : Int32 × SX8) (hf : fX8_starves N v x1 x2 = some o) : okM l yX8_starves wsX8_starves (rmz 7 167) D cy [.ref (a 0), .int x1, .int x2] (wX8 cy a v) (wX8 cy a o.2) (some (.int o.1)) := by
  refine okM_of (own := RX8) (nme := "starves") (cc := cX8_starves) (maxL := 3) (ret := (some .int)) (by decide) rfl rfl rfl (Nat.le_of_ble_eq_true rfl) ?_
  intro p e s m args below meth c A F
  have i_X8 : ∀ w ∈ u_ws RX8 TX8 13, w ∈ wsX8_starves := fun _ h => List.mem_cons_of_mem _ (List.mem_append_right _ h)
  unfold fX8_starves at hf
  refine V.eq rfl (show lv_args 0 [.ref (a 0), .int x1, .int x2] = [(0, .ref (a 0)), (1, .int x1), (2, .int x2)] from rfl) rfl ?_
  refine V_aload_n (pc := 0) F dX8_starves_0 rfl 0 rfl ?_
  refine V_aload_n (pc := 1) F dX8_starves_1 rfl 0 rfl ?_
  refine V_iload_n (pc := 2) F dX8_starves_2 rfl 2 rfl ?_
  obtain ⟨r1, g2, hf⟩ := bind_of hf
  refine V_V (w2 := wX8 cy a v) (rest := [.ref (a 0)]) (st2 := [.int r1, .ref (a 0)]) (pc := 3) F 8 (M_X8_isPhase l D cy N a v x2 r1 g2) (cwV 1 F.ts gX8_starves_X8_isPhase rfl rfl rfl hd_X8_isPhase ⟨Nat.le_of_ble_eq_true rfl, Nat.le_of_ble_eq_true rfl⟩) rfl dX8_starves_3 Fit.whole rfl rfl rfl (Nat.le_of_ble_eq_true rfl) (Nat.zero_le _) (Nat.zero_le _) rfl rfl rfl ?_
  refine V_if_ne (pc := 6) (tgt := 13) F dX8_starves_6 (by decide) (fun h3 => ?_) (fun h3 => ?_)
  · replace hf := ite_neg hf h3
    refine V_iload_n (pc := 13) F dX8_starves_13 rfl 1 rfl ?_
    obtain ⟨r4, g5, hf⟩ := bind_of hf
    refine V_Sc (rest := [.ref (a 0)]) (st2 := [.int r4, .ref (a 0)]) (pc := 14) F (M_X8_isDirection l D cy N x1 r4 g5) (va_cwS 1 F.ts gX8_starves_X8_isDirection rfl rfl rfl hd_X8_isDirection ⟨Nat.le_of_ble_eq_true rfl, Nat.le_of_ble_eq_true rfl⟩) rfl dX8_starves_14 (Nat.le_of_ble_eq_true rfl) (Nat.zero_le _) (Nat.zero_le _) rfl rfl ?_
    refine V_if_eq (pc := 17) (tgt := 24) F dX8_starves_17 (by decide) (fun h6 => ?_) (fun h6 => ?_)
    · replace hf := ite_pos hf h6
      refine V_iconst (v := 2) (pc := 24) F dX8_starves_24 (by decide) ?_
      refine V_put (w2 := wX8 cy a (2, v.2)) (pc := 25) F 0 8 0 i_X8 tyX8 tyX8_ok nmX8 rfl (by decide) rfl (mm 1 rfl) rfl dX8_starves_25 rfl rfl rfl (Nat.le_of_ble_eq_true rfl) rfl ?_
      refine V_aload_n (pc := 28) F dX8_starves_28 rfl 0 rfl ?_
      refine V_get (pc := 29) F 0 8 0 i_X8 rfl (by decide) rfl (mm 1 rfl) dX8_starves_29 rfl rfl ?_
      refine V_if_le (pc := 32) (tgt := 39) F dX8_starves_32 (by decide) (fun h7 => ?_) (fun h7 => ?_)
      · exact absurd h7 (show ¬ ((2 : Int32) ≤ (0 : Int32)) by decide)
      · refine V_iconst (v := 0) (pc := 35) F dX8_starves_35 (by decide) ?_
        refine V_goto (pc := 36) (tgt := 53) F dX8_starves_36 (by decide) ?_
        obtain rfl := some_of hf
        exact V_ret F rfl rfl dX8_starves_53 rfl rfl
    · replace hf := ite_neg hf h6
      refine V_iconst (v := 0) (pc := 20) F dX8_starves_20 (by decide) ?_
      refine V_goto (pc := 21) (tgt := 25) F dX8_starves_21 (by decide) ?_
      refine V_put (w2 := wX8 cy a (0, v.2)) (pc := 25) F 0 8 0 i_X8 tyX8 tyX8_ok nmX8 rfl (by decide) rfl (mm 1 rfl) rfl dX8_starves_25 rfl rfl rfl (Nat.le_of_ble_eq_true rfl) rfl ?_
      refine V_aload_n (pc := 28) F dX8_starves_28 rfl 0 rfl ?_
      refine V_get (pc := 29) F 0 8 0 i_X8 rfl (by decide) rfl (mm 1 rfl) dX8_starves_29 rfl rfl ?_
      refine V_if_le (pc := 32) (tgt := 39) F dX8_starves_32 (by decide) (fun h8 => ?_) (fun h8 => ?_)
      · refine V_aload_n (pc := 39) F dX8_starves_39 rfl 0 rfl ?_
        refine V_iload_n (pc := 40) F dX8_starves_40 rfl 2 rfl ?_
        refine V_iload_n (pc := 41) F dX8_starves_41 rfl 1 rfl ?_
        obtain ⟨r9, g10, hf⟩ := bind_of hf
        refine V_V (w2 := wX8 cy a (0, v.2)) (rest := []) (st2 := [.int r9]) (pc := 42) F 8 (M_X8_canStarve l D cy N a (0, v.2) x2 x1 r9 g10) (cwV 2 F.ts gX8_starves_X8_canStarve rfl rfl rfl hd_X8_canStarve ⟨Nat.le_of_ble_eq_true rfl, Nat.le_of_ble_eq_true rfl⟩) rfl dX8_starves_42 Fit.whole rfl rfl rfl (Nat.le_of_ble_eq_true rfl) (Nat.zero_le _) (Nat.zero_le _) rfl rfl rfl ?_
        refine V_if_eq (pc := 45) (tgt := 52) F dX8_starves_45 (by decide) (fun h11 => ?_) (fun h11 => ?_)
        · replace hf := ite_pos hf h11
          refine V_iconst (v := 0) (pc := 52) F dX8_starves_52 (by decide) ?_
          obtain rfl := some_of hf
          exact V_ret F rfl rfl dX8_starves_53 rfl rfl
        · replace hf := ite_neg hf h11
          refine V_iconst (v := 1) (pc := 48) F dX8_starves_48 (by decide) ?_
          refine V_goto (pc := 49) (tgt := 53) F dX8_starves_49 (by decide) ?_
          obtain rfl := some_of hf
          exact V_ret F rfl rfl dX8_starves_53 rfl rfl
      · exact absurd h8 (show ¬ (¬ ((0 : Int32) ≤ (0 : Int32))) by decide)
  · replace hf := ite_pos hf h3
    refine V_iconst (v := 1) (pc := 9) F dX8_starves_9 (by decide) ?_
    refine V_goto (pc := 10) (tgt := 25) F dX8_starves_10 (by decide) ?_
    refine V_put (w2 := wX8 cy a (1, v.2)) (pc := 25) F 0 8 0 i_X8 tyX8 tyX8_ok nmX8 rfl (by decide) rfl (mm 1 rfl) rfl dX8_starves_25 rfl rfl rfl (Nat.le_of_ble_eq_true rfl) rfl ?_
    refine V_aload_n (pc := 28) F dX8_starves_28 rfl 0 rfl ?_
    refine V_get (pc := 29) F 0 8 0 i_X8 rfl (by decide) rfl (mm 1 rfl) dX8_starves_29 rfl rfl ?_
    refine V_if_le (pc := 32) (tgt := 39) F dX8_starves_32 (by decide) (fun h12 => ?_) (fun h12 => ?_)
    · exact absurd h12 (show ¬ ((1 : Int32) ≤ (0 : Int32)) by decide)
    · refine V_iconst (v := 0) (pc := 35) F dX8_starves_35 (by decide) ?_
      refine V_goto (pc := 36) (tgt := 53) F dX8_starves_36 (by decide) ?_
      obtain rfl := some_of hf
      exact V_ret F rfl rfl dX8_starves_53 rfl rfl
theorem hd_X8_rounds : yX8_rounds.cls = RX8 ∧ yX8_rounds.cls ≠ "java/lang/invoke/MethodHandle" ∧ yX8_rounds.cls ≠ "java/lang/invoke/VarHandle" ∧ (parseMethodDescriptor yX8_rounds.desc).map (fun d => d.parameters.length) = some 1 := by decide +kernel
def fX8_rounds (N : Nat) (v : SX8) (x1 : Int32) : Option (Int32 × SX8) :=
  (fX8_isDirection N x1).bind fun r1 =>
    if r1 = 0 then
      some (0, (1, v.2))
    else
      (fX8_roundsOf N (0, v.2) x1).bind fun r6 =>
        some (r6, (0, v.2))
set_option maxHeartbeats 8000000 in
set_option maxRecDepth 100000 in
theorem M_X8_rounds (l : Launch) (D : va_G) (cy : Nat → ClassId) (N : Nat) (a : Nat → Nat) (v : SX8) (x1 : Int32) (o : Int32 × SX8) (hf : fX8_rounds N v x1 = some o) : okM l yX8_rounds wsX8_rounds (rmz 7 166) D cy [.ref (a 0), .int x1] (wX8 cy a v) (wX8 cy a o.2) (some (.int o.1)) := by
  refine okM_of (own := RX8) (nme := "rounds") (cc := cX8_rounds) (maxL := 2) (ret := (some .int)) (by decide) rfl rfl rfl (Nat.le_of_ble_eq_true rfl) ?_
  intro p e s m args below meth c A F
  have i_X8 : ∀ w ∈ u_ws RX8 TX8 13, w ∈ wsX8_rounds := fun _ h => List.mem_cons_of_mem _ (List.mem_append_right _ h)
  unfold fX8_rounds at hf
  refine V.eq rfl (show lv_args 0 [.ref (a 0), .int x1] = [(0, .ref (a 0)), (1, .int x1)] from rfl) rfl ?_
  refine V_aload_n (pc := 0) F dX8_rounds_0 rfl 0 rfl ?_
  refine V_iload_n (pc := 1) F dX8_rounds_1 rfl 1 rfl ?_
  obtain ⟨r1, g2, hf⟩ := bind_of hf
  refine V_Sc (rest := [.ref (a 0)]) (st2 := [.int r1, .ref (a 0)]) (pc := 2) F (M_X8_isDirection l D cy N x1 r1 g2) (va_cwS 1 F.ts gX8_rounds_X8_isDirection rfl rfl rfl hd_X8_isDirection ⟨Nat.le_of_ble_eq_true rfl, Nat.le_of_ble_eq_true rfl⟩) rfl dX8_rounds_2 (Nat.le_of_ble_eq_true rfl) (Nat.zero_le _) (Nat.zero_le _) rfl rfl ?_
  refine V_if_eq (pc := 5) (tgt := 12) F dX8_rounds_5 (by decide) (fun h3 => ?_) (fun h3 => ?_)
  · replace hf := ite_pos hf h3
    refine V_iconst (v := 1) (pc := 12) F dX8_rounds_12 (by decide) ?_
    refine V_put (w2 := wX8 cy a (1, v.2)) (pc := 13) F 0 8 0 i_X8 tyX8 tyX8_ok nmX8 rfl (by decide) rfl (mm 1 rfl) rfl dX8_rounds_13 rfl rfl rfl (Nat.le_of_ble_eq_true rfl) rfl ?_
    refine V_aload_n (pc := 16) F dX8_rounds_16 rfl 0 rfl ?_
    refine V_get (pc := 17) F 0 8 0 i_X8 rfl (by decide) rfl (mm 1 rfl) dX8_rounds_17 rfl rfl ?_
    refine V_if_le (pc := 20) (tgt := 27) F dX8_rounds_20 (by decide) (fun h4 => ?_) (fun h4 => ?_)
    · exact absurd h4 (show ¬ ((1 : Int32) ≤ (0 : Int32)) by decide)
    · refine V_iconst (v := 0) (pc := 23) F dX8_rounds_23 (by decide) ?_
      refine V_goto (pc := 24) (tgt := 32) F dX8_rounds_24 (by decide) ?_
      obtain rfl := some_of hf
      exact V_ret F rfl rfl dX8_rounds_32 rfl rfl
  · replace hf := ite_neg hf h3
    refine V_iconst (v := 0) (pc := 8) F dX8_rounds_8 (by decide) ?_
    refine V_goto (pc := 9) (tgt := 13) F dX8_rounds_9 (by decide) ?_
    refine V_put (w2 := wX8 cy a (0, v.2)) (pc := 13) F 0 8 0 i_X8 tyX8 tyX8_ok nmX8 rfl (by decide) rfl (mm 1 rfl) rfl dX8_rounds_13 rfl rfl rfl (Nat.le_of_ble_eq_true rfl) rfl ?_
    refine V_aload_n (pc := 16) F dX8_rounds_16 rfl 0 rfl ?_
    refine V_get (pc := 17) F 0 8 0 i_X8 rfl (by decide) rfl (mm 1 rfl) dX8_rounds_17 rfl rfl ?_
    refine V_if_le (pc := 20) (tgt := 27) F dX8_rounds_20 (by decide) (fun h5 => ?_) (fun h5 => ?_)
    · refine V_aload_n (pc := 27) F dX8_rounds_27 rfl 0 rfl ?_
      refine V_iload_n (pc := 28) F dX8_rounds_28 rfl 1 rfl ?_
      obtain ⟨r6, g7, hf⟩ := bind_of hf
      refine V_V (w2 := wX8 cy a (0, v.2)) (rest := []) (st2 := [.int r6]) (pc := 29) F 8 (M_X8_roundsOf l D cy N a (0, v.2) x1 r6 g7) (cwV 1 F.ts gX8_rounds_X8_roundsOf rfl rfl rfl hd_X8_roundsOf ⟨Nat.le_of_ble_eq_true rfl, Nat.le_of_ble_eq_true rfl⟩) rfl dX8_rounds_29 Fit.whole rfl rfl rfl (Nat.le_of_ble_eq_true rfl) (Nat.zero_le _) (Nat.zero_le _) rfl rfl rfl ?_
      obtain rfl := some_of hf
      exact V_ret F rfl rfl dX8_rounds_32 rfl rfl
    · exact absurd h5 (show ¬ (¬ ((0 : Int32) ≤ (0 : Int32))) by decide)
theorem hd_X8_waitFor : yX8_waitFor.cls = RX8 ∧ yX8_waitFor.cls ≠ "java/lang/invoke/MethodHandle" ∧ yX8_waitFor.cls ≠ "java/lang/invoke/VarHandle" ∧ (parseMethodDescriptor yX8_waitFor.desc).map (fun d => d.parameters.length) = some 3 := by decide +kernel
def fX8_waitFor (N : Nat) (v : SX8) (x1 : Int32) (x2 : Int32) (x3 : Int32) : Option (Int32 × SX8) :=
  (fX8_isPhase N v x2).bind fun r1 =>
    if r1 = 0 then
      some (0, (1, v.2))
    else
      (fX8_isDirection N x1).bind fun r4 =>
        if r4 = 0 then
          some (0, (2, v.2))
        else
          if x3 = 0 then
            (fX8_shortest N (0, v.2) x1 x2).bind fun r10 =>
              some (r10.1, r10.2)
          else
            (fX8_longest N (0, v.2) x1 x2).bind fun r12 =>
              some (r12.1, r12.2)
set_option maxHeartbeats 8000000 in
set_option maxRecDepth 100000 in
theorem M_X8_waitFor (l : Launch) (D : va_G) (cy : Nat → ClassId) (N : Nat) (a : Nat → Nat) (v : SX8) (x1 : Int32) (x2 : Int32) (x3 : Int32) (o : Int32 × SX8) (hf : fX8_waitFor N v x1 x2 x3 = some o) : okM l yX8_waitFor wsX8_waitFor (rmz 9 215) D cy [.ref (a 0), .int x1, .int x2, .int x3] (wX8 cy a v) (wX8 cy a o.2) (some (.int o.1)) := by
  refine okM_of (own := RX8) (nme := "waitFor") (cc := cX8_waitFor) (maxL := 4) (ret := (some .int)) (by decide) rfl rfl rfl (Nat.le_of_ble_eq_true rfl) ?_
  intro p e s m args below meth c A F
  have i_X8 : ∀ w ∈ u_ws RX8 TX8 13, w ∈ wsX8_waitFor := fun _ h => List.mem_cons_of_mem _ (List.mem_append_right _ h)
  unfold fX8_waitFor at hf
  refine V.eq rfl (show lv_args 0 [.ref (a 0), .int x1, .int x2, .int x3] = [(0, .ref (a 0)), (1, .int x1), (2, .int x2), (3, .int x3)] from rfl) rfl ?_
  refine V_aload_n (pc := 0) F dX8_waitFor_0 rfl 0 rfl ?_
  refine V_aload_n (pc := 1) F dX8_waitFor_1 rfl 0 rfl ?_
  refine V_iload_n (pc := 2) F dX8_waitFor_2 rfl 2 rfl ?_
  obtain ⟨r1, g2, hf⟩ := bind_of hf
  refine V_V (w2 := wX8 cy a v) (rest := [.ref (a 0)]) (st2 := [.int r1, .ref (a 0)]) (pc := 3) F 8 (M_X8_isPhase l D cy N a v x2 r1 g2) (cwV 1 F.ts gX8_waitFor_X8_isPhase rfl rfl rfl hd_X8_isPhase ⟨Nat.le_of_ble_eq_true rfl, Nat.le_of_ble_eq_true rfl⟩) rfl dX8_waitFor_3 Fit.whole rfl rfl rfl (Nat.le_of_ble_eq_true rfl) (Nat.zero_le _) (Nat.zero_le _) rfl rfl rfl ?_
  refine V_if_ne (pc := 6) (tgt := 13) F dX8_waitFor_6 (by decide) (fun h3 => ?_) (fun h3 => ?_)
  · replace hf := ite_neg hf h3
    refine V_iload_n (pc := 13) F dX8_waitFor_13 rfl 1 rfl ?_
    obtain ⟨r4, g5, hf⟩ := bind_of hf
    refine V_Sc (rest := [.ref (a 0)]) (st2 := [.int r4, .ref (a 0)]) (pc := 14) F (M_X8_isDirection l D cy N x1 r4 g5) (va_cwS 1 F.ts gX8_waitFor_X8_isDirection rfl rfl rfl hd_X8_isDirection ⟨Nat.le_of_ble_eq_true rfl, Nat.le_of_ble_eq_true rfl⟩) rfl dX8_waitFor_14 (Nat.le_of_ble_eq_true rfl) (Nat.zero_le _) (Nat.zero_le _) rfl rfl ?_
    refine V_if_eq (pc := 17) (tgt := 24) F dX8_waitFor_17 (by decide) (fun h6 => ?_) (fun h6 => ?_)
    · replace hf := ite_pos hf h6
      refine V_iconst (v := 2) (pc := 24) F dX8_waitFor_24 (by decide) ?_
      refine V_put (w2 := wX8 cy a (2, v.2)) (pc := 25) F 0 8 0 i_X8 tyX8 tyX8_ok nmX8 rfl (by decide) rfl (mm 1 rfl) rfl dX8_waitFor_25 rfl rfl rfl (Nat.le_of_ble_eq_true rfl) rfl ?_
      refine V_aload_n (pc := 28) F dX8_waitFor_28 rfl 0 rfl ?_
      refine V_get (pc := 29) F 0 8 0 i_X8 rfl (by decide) rfl (mm 1 rfl) dX8_waitFor_29 rfl rfl ?_
      refine V_if_le (pc := 32) (tgt := 39) F dX8_waitFor_32 (by decide) (fun h7 => ?_) (fun h7 => ?_)
      · exact absurd h7 (show ¬ ((2 : Int32) ≤ (0 : Int32)) by decide)
      · refine V_iconst (v := 0) (pc := 35) F dX8_waitFor_35 (by decide) ?_
        refine V_goto (pc := 36) (tgt := 58) F dX8_waitFor_36 (by decide) ?_
        obtain rfl := some_of hf
        exact V_ret F rfl rfl dX8_waitFor_58 rfl rfl
    · replace hf := ite_neg hf h6
      refine V_iconst (v := 0) (pc := 20) F dX8_waitFor_20 (by decide) ?_
      refine V_goto (pc := 21) (tgt := 25) F dX8_waitFor_21 (by decide) ?_
      refine V_put (w2 := wX8 cy a (0, v.2)) (pc := 25) F 0 8 0 i_X8 tyX8 tyX8_ok nmX8 rfl (by decide) rfl (mm 1 rfl) rfl dX8_waitFor_25 rfl rfl rfl (Nat.le_of_ble_eq_true rfl) rfl ?_
      refine V_aload_n (pc := 28) F dX8_waitFor_28 rfl 0 rfl ?_
      refine V_get (pc := 29) F 0 8 0 i_X8 rfl (by decide) rfl (mm 1 rfl) dX8_waitFor_29 rfl rfl ?_
      refine V_if_le (pc := 32) (tgt := 39) F dX8_waitFor_32 (by decide) (fun h8 => ?_) (fun h8 => ?_)
      · refine V_iload_n (pc := 39) F dX8_waitFor_39 rfl 3 rfl ?_
        refine V_if_eq (pc := 40) (tgt := 52) F dX8_waitFor_40 (by decide) (fun h9 => ?_) (fun h9 => ?_)
        · replace hf := ite_pos hf h9
          refine V_aload_n (pc := 52) F dX8_waitFor_52 rfl 0 rfl ?_
          refine V_iload_n (pc := 53) F dX8_waitFor_53 rfl 1 rfl ?_
          refine V_iload_n (pc := 54) F dX8_waitFor_54 rfl 2 rfl ?_
          obtain ⟨r10, g11, hf⟩ := bind_of hf
          refine V_V (w2 := wX8 cy a r10.2) (rest := []) (st2 := [.int r10.1]) (pc := 55) F 8 (M_X8_shortest l D cy N a (0, v.2) x1 x2 r10 g11) (cwV 2 F.ts gX8_waitFor_X8_shortest rfl rfl rfl hd_X8_shortest ⟨Nat.le_of_ble_eq_true rfl, Nat.le_of_ble_eq_true rfl⟩) rfl dX8_waitFor_55 Fit.whole fstX8 rfl rfl (Nat.le_of_ble_eq_true rfl) (Nat.zero_le _) (Nat.zero_le _) rfl rfl rfl ?_
          obtain rfl := some_of hf
          exact V_ret F rfl rfl dX8_waitFor_58 rfl rfl
        · replace hf := ite_neg hf h9
          refine V_aload_n (pc := 43) F dX8_waitFor_43 rfl 0 rfl ?_
          refine V_iload_n (pc := 44) F dX8_waitFor_44 rfl 1 rfl ?_
          refine V_iload_n (pc := 45) F dX8_waitFor_45 rfl 2 rfl ?_
          obtain ⟨r12, g13, hf⟩ := bind_of hf
          refine V_V (w2 := wX8 cy a r12.2) (rest := []) (st2 := [.int r12.1]) (pc := 46) F 8 (M_X8_longest l D cy N a (0, v.2) x1 x2 r12 g13) (cwV 2 F.ts gX8_waitFor_X8_longest rfl rfl rfl hd_X8_longest ⟨Nat.le_of_ble_eq_true rfl, Nat.le_of_ble_eq_true rfl⟩) rfl dX8_waitFor_46 Fit.whole fstX8 rfl rfl (Nat.le_of_ble_eq_true rfl) (Nat.zero_le _) (Nat.zero_le _) rfl rfl rfl ?_
          refine V_goto (pc := 49) (tgt := 58) F dX8_waitFor_49 (by decide) ?_
          obtain rfl := some_of hf
          exact V_ret F rfl rfl dX8_waitFor_58 rfl rfl
      · exact absurd h8 (show ¬ (¬ ((0 : Int32) ≤ (0 : Int32))) by decide)
  · replace hf := ite_pos hf h3
    refine V_iconst (v := 1) (pc := 9) F dX8_waitFor_9 (by decide) ?_
    refine V_goto (pc := 10) (tgt := 25) F dX8_waitFor_10 (by decide) ?_
    refine V_put (w2 := wX8 cy a (1, v.2)) (pc := 25) F 0 8 0 i_X8 tyX8 tyX8_ok nmX8 rfl (by decide) rfl (mm 1 rfl) rfl dX8_waitFor_25 rfl rfl rfl (Nat.le_of_ble_eq_true rfl) rfl ?_
    refine V_aload_n (pc := 28) F dX8_waitFor_28 rfl 0 rfl ?_
    refine V_get (pc := 29) F 0 8 0 i_X8 rfl (by decide) rfl (mm 1 rfl) dX8_waitFor_29 rfl rfl ?_
    refine V_if_le (pc := 32) (tgt := 39) F dX8_waitFor_32 (by decide) (fun h14 => ?_) (fun h14 => ?_)
    · exact absurd h14 (show ¬ ((1 : Int32) ≤ (0 : Int32)) by decide)
    · refine V_iconst (v := 0) (pc := 35) F dX8_waitFor_35 (by decide) ?_
      refine V_goto (pc := 36) (tgt := 58) F dX8_waitFor_36 (by decide) ?_
      obtain rfl := some_of hf
      exact V_ret F rfl rfl dX8_waitFor_58 rfl rfl
theorem hd_X8_greensOf : yX8_greensOf.cls = RX8 ∧ yX8_greensOf.cls ≠ "java/lang/invoke/MethodHandle" ∧ yX8_greensOf.cls ≠ "java/lang/invoke/VarHandle" ∧ (parseMethodDescriptor yX8_greensOf.desc).map (fun d => d.parameters.length) = some 1 := by decide +kernel
def fX8_greensOf_L4 (N : Nat) (v : SX8) (z1 : Int32) : Nat → Int32 → Int32 → Option (Int32)
  | 0, _, _ => none
  | n + 1, z2, z3 =>
    chk 0 143 (
      if (v.2.1 (0 : Int32).toNatClampNeg) ≤ z3 then
        some z2
      else
        if ((z1 >>> (z3 &&& 31)) &&& 1) = 1 then
          (fX8_greens N v z3).bind fun r4 =>
            fX8_greensOf_L4 N v z1 n (z2 ||| r4) (z3 + 1)
        else
          fX8_greensOf_L4 N v z1 n (z2 ||| 0) (z3 + 1)
    )
def fX8_greensOf (N : Nat) (v : SX8) (x1 : Int32) : Option (Int32) :=
  (fX8_greensOf_L4 N v x1 N 0 0).bind fun u6 =>
    some u6
set_option maxHeartbeats 8000000 in
set_option maxRecDepth 100000 in
theorem M_X8_greensOf (l : Launch) (D : va_G) (cy : Nat → ClassId) (N : Nat) (a : Nat → Nat) (v : SX8) (x1 : Int32) (o : Int32) (hf : fX8_greensOf N v x1 = some o) : okM l yX8_greensOf wsX8_greensOf (rmz 2 43) D cy [.ref (a 0), .int x1] (wX8 cy a v) (wX8 cy a v) (some (.int o)) := by
  refine okM_of (own := RX8) (nme := "greensOf") (cc := cX8_greensOf) (maxL := 4) (ret := (some .int)) (by decide) rfl rfl rfl (Nat.le_of_ble_eq_true rfl) ?_
  intro p e s m args below meth c A F
  have i_X8 : ∀ w ∈ u_ws RX8 TX8 13, w ∈ wsX8_greensOf := fun _ h => List.mem_cons_of_mem _ (List.mem_append_right _ h)
  have K4 : ∀ (n : Nat) (v : SX8) (z1 : Int32) (z2 : Int32) (z3 : Int32) (u : Int32), fX8_greensOf_L4 N v z1 n z2 z3 = some u → V p l e (rmz 2 43) s m args below meth c 4 D A 0 0 (MQ below (ok_Q D (wX8 cy a v) (some (.int o)) A) args s 0 0 A) (wX8 cy a v) [(2, .int u)] [] 41 → V p l e (rmz 2 43) s m args below meth c 4 D A 0 0 (MQ below (ok_Q D (wX8 cy a v) (some (.int o)) A) args s 0 0 A) (wX8 cy a v) [(0, .ref (a 0)), (1, .int z1), (2, .int z2), (3, .int z3)] [] 4 := by
    intro n
    induction n with
    | zero =>
      intro v z1 z2 z3 u hf hk
      exact nomatch (show (none : Option (Int32)) = some u from hf)
    | succ n ih =>
      intro v z1 z2 z3 u hf hk
      rw [fX8_greensOf_L4] at hf
      refine V_iload_n (pc := 4) F dX8_greensOf_4 rfl 3 rfl ?_
      refine V_aload_n (pc := 5) F dX8_greensOf_5 rfl 0 rfl ?_
      refine V_get (pc := 6) F 0 8 1 i_X8 rfl (by decide) rfl (mm 1 rfl) dX8_greensOf_6 rfl rfl ?_
      refine V_iconst (v := 0) (pc := 9) F dX8_greensOf_9 (by decide) ?_
      obtain ⟨c1, hf⟩ := chk_some hf
      refine V_iald (pc := 10) F 1 rfl c1 dX8_greensOf_10 ?_
      refine V_icmp_ge (pc := 11) (tgt := 41) F dX8_greensOf_11 (by decide) (fun h2 => ?_) (fun h2 => ?_)
      · replace hf := ite_pos hf h2
        obtain rfl := some_of hf
        exact V.sub [2] rfl hk
      · replace hf := ite_neg hf h2
        refine V_iload_n (pc := 14) F dX8_greensOf_14 rfl 2 rfl ?_
        refine V_iload_n (pc := 15) F dX8_greensOf_15 rfl 1 rfl ?_
        refine V_iload_n (pc := 16) F dX8_greensOf_16 rfl 3 rfl ?_
        refine V_ishr (pc := 17) F dX8_greensOf_17 ?_
        refine V_iconst (v := 1) (pc := 18) F dX8_greensOf_18 (by decide) ?_
        refine V_iand (pc := 19) F dX8_greensOf_19 ?_
        refine V_iconst (v := 1) (pc := 20) F dX8_greensOf_20 (by decide) ?_
        refine V_icmp_ne (pc := 21) (tgt := 32) F dX8_greensOf_21 (by decide) (fun h3 => ?_) (fun h3 => ?_)
        · replace hf := ite_neg hf h3
          refine V_iconst (v := 0) (pc := 32) F dX8_greensOf_32 (by decide) ?_
          refine V_ior (pc := 33) F dX8_greensOf_33 ?_
          refine V_istore_n (L2 := [(2, .int (z2 ||| 0)), (0, .ref (a 0)), (1, .int z1), (3, .int z3)]) (pc := 34) F dX8_greensOf_34 rfl (by decide) rfl ?_
          refine V_iinc (v := (z3 + 1)) (L2 := [(3, .int (z3 + 1)), (2, .int (z2 ||| 0)), (0, .ref (a 0)), (1, .int z1)]) (pc := 35) F dX8_greensOf_35 3 rfl rfl (by decide) rfl ?_
          refine V_goto (pc := 38) (tgt := 4) F dX8_greensOf_38 (by decide) ?_
          refine V.sub [2, 3, 1, 0] rfl ?_
          exact ih v z1 (z2 ||| 0) (z3 + 1) _ hf hk
        · replace hf := ite_pos hf h3
          refine V_aload_n (pc := 24) F dX8_greensOf_24 rfl 0 rfl ?_
          refine V_iload_n (pc := 25) F dX8_greensOf_25 rfl 3 rfl ?_
          obtain ⟨r4, g5, hf⟩ := bind_of hf
          refine V_V (w2 := wX8 cy a v) (rest := [.int z2]) (st2 := [.int r4, .int z2]) (pc := 26) F 8 (M_X8_greens l D cy N a v z3 r4 g5) (cwV 1 F.ts gX8_greensOf_X8_greens rfl rfl rfl hd_X8_greens ⟨Nat.le_of_ble_eq_true rfl, Nat.le_of_ble_eq_true rfl⟩) rfl dX8_greensOf_26 Fit.whole rfl rfl rfl (Nat.le_of_ble_eq_true rfl) (Nat.zero_le _) (Nat.zero_le _) rfl rfl rfl ?_
          refine V_goto (pc := 29) (tgt := 33) F dX8_greensOf_29 (by decide) ?_
          refine V_ior (pc := 33) F dX8_greensOf_33 ?_
          refine V_istore_n (L2 := [(2, .int (z2 ||| r4)), (0, .ref (a 0)), (1, .int z1), (3, .int z3)]) (pc := 34) F dX8_greensOf_34 rfl (by decide) rfl ?_
          refine V_iinc (v := (z3 + 1)) (L2 := [(3, .int (z3 + 1)), (2, .int (z2 ||| r4)), (0, .ref (a 0)), (1, .int z1)]) (pc := 35) F dX8_greensOf_35 3 rfl rfl (by decide) rfl ?_
          refine V_goto (pc := 38) (tgt := 4) F dX8_greensOf_38 (by decide) ?_
          refine V.sub [2, 3, 1, 0] rfl ?_
          exact ih v z1 (z2 ||| r4) (z3 + 1) _ hf hk
  unfold fX8_greensOf at hf
  refine V.eq rfl (show lv_args 0 [.ref (a 0), .int x1] = [(0, .ref (a 0)), (1, .int x1)] from rfl) rfl ?_
  refine V_iconst (v := 0) (pc := 0) F dX8_greensOf_0 (by decide) ?_
  refine V_istore_n (L2 := [(2, .int 0), (0, .ref (a 0)), (1, .int x1)]) (pc := 1) F dX8_greensOf_1 rfl (by decide) rfl ?_
  refine V_iconst (v := 0) (pc := 2) F dX8_greensOf_2 (by decide) ?_
  refine V_istore_n (L2 := [(3, .int 0), (2, .int 0), (0, .ref (a 0)), (1, .int x1)]) (pc := 3) F dX8_greensOf_3 rfl (by decide) rfl ?_
  refine V.sub [2, 3, 1, 0] rfl ?_
  obtain ⟨u6, g7, hf⟩ := bind_of hf
  refine K4 N v x1 0 0 u6 g7 ?_
  refine V_iload_n (pc := 41) F dX8_greensOf_41 rfl 0 rfl ?_
  obtain rfl := some_of hf
  exact V_ret F rfl rfl dX8_greensOf_42 rfl rfl
theorem hd_X8_slowestOne : yX8_slowestOne.cls = RX8 ∧ yX8_slowestOne.cls ≠ "java/lang/invoke/MethodHandle" ∧ yX8_slowestOne.cls ≠ "java/lang/invoke/VarHandle" ∧ (parseMethodDescriptor yX8_slowestOne.desc).map (fun d => d.parameters.length) = some 0 := by decide +kernel
def fX8_slowestOne_L52 (N : Nat) (z1 : Int32) (z4 : Int32) (z5 : Int32) : Nat → SX8 → Int32 → Int32 → Int32 → Option (SX8 × Int32 × Int32)
  | 0, _, _, _, _ => none
  | n + 1, v, z2, z3, z6 =>
    chk 0 143 (
      if (v.2.1 (0 : Int32).toNatClampNeg) ≤ z6 then
        some (v, z2, z3)
      else
        if z5 = 0 then
          some (v, z2, z3)
        else
          if ((z1 >>> (z6 &&& 31)) &&& 1) = 1 then
            (fX8_longest N v z4 z6).bind fun r14 =>
              if r14.1 ≤ z3 then
                if r14.1 ≤ z3 then
                  fX8_slowestOne_L52 N z1 z4 z5 n r14.2 z2 z3 (z6 + 1)
                else
                  fX8_slowestOne_L52 N z1 z4 z5 n r14.2 z2 r14.1 (z6 + 1)
              else
                if r14.1 ≤ z3 then
                  fX8_slowestOne_L52 N z1 z4 z5 n r14.2 z4 z3 (z6 + 1)
                else
                  fX8_slowestOne_L52 N z1 z4 z5 n r14.2 z4 r14.1 (z6 + 1)
          else
            if (-1) ≤ z3 then
              if (-1) ≤ z3 then
                fX8_slowestOne_L52 N z1 z4 z5 n v z2 z3 (z6 + 1)
              else
                fX8_slowestOne_L52 N z1 z4 z5 n v z2 (-1) (z6 + 1)
            else
              if (-1) ≤ z3 then
                fX8_slowestOne_L52 N z1 z4 z5 n v z4 z3 (z6 + 1)
              else
                fX8_slowestOne_L52 N z1 z4 z5 n v z4 (-1) (z6 + 1)
    )
def fX8_slowestOne_L12 (N : Nat) (z1 : Int32) : Nat → SX8 → Int32 → Int32 → Int32 → Option (SX8 × Int32)
  | 0, _, _, _, _ => none
  | n + 1, v, z2, z3, z4 =>
    if 6 ≤ z4 then
      some (v, z2)
    else
      (fX8_greensOf N v z1).bind fun r4 =>
        if ((r4 >>> (z4 &&& 31)) &&& 1) = 1 then
          (fX8_canStarveAnywhere N v z4).bind fun r21 =>
            if r21 = 0 then
              (fX8_slowestOne_L52 N z1 z4 1 N v z2 z3 0).bind fun u26 =>
                fX8_slowestOne_L12 N z1 n u26.1 u26.2.1 u26.2.2 (z4 + 1)
            else
              (fX8_slowestOne_L52 N z1 z4 0 N v z2 z3 0).bind fun u24 =>
                fX8_slowestOne_L12 N z1 n u24.1 u24.2.1 u24.2.2 (z4 + 1)
        else
          (fX8_slowestOne_L52 N z1 z4 0 N v z2 z3 0).bind fun u19 =>
            fX8_slowestOne_L12 N z1 n u19.1 u19.2.1 u19.2.2 (z4 + 1)
def fX8_slowestOne (N : Nat) (v : SX8) : Option (Int32 × SX8) :=
  (fX8_comers N v).bind fun r1 =>
    (fX8_slowestOne_L12 N r1 N v (-1) (-1) 0).bind fun u28 =>
      some (u28.2, u28.1)
set_option maxHeartbeats 8000000 in
set_option maxRecDepth 100000 in
theorem M_X8_slowestOne (l : Launch) (D : va_G) (cy : Nat → ClassId) (N : Nat) (a : Nat → Nat) (v : SX8) (o : Int32 × SX8) (hf : fX8_slowestOne N v = some o) : okM l yX8_slowestOne wsX8_slowestOne (rmz 9 215) D cy [.ref (a 0)] (wX8 cy a v) (wX8 cy a o.2) (some (.int o.1)) := by
  refine okM_of (own := RX8) (nme := "slowestOne") (cc := cX8_slowestOne) (maxL := 8) (ret := (some .int)) (by decide) rfl rfl rfl (Nat.le_of_ble_eq_true rfl) ?_
  intro p e s m args below meth c A F
  have i_X8 : ∀ w ∈ u_ws RX8 TX8 13, w ∈ wsX8_slowestOne := fun _ h => List.mem_cons_of_mem _ (List.mem_append_right _ h)
  have K52 : ∀ (n : Nat) (z1 : Int32) (z4 : Int32) (z5 : Int32) (v : SX8) (z2 : Int32) (z3 : Int32) (z6 : Int32) (u : SX8 × Int32 × Int32), fX8_slowestOne_L52 N z1 z4 z5 n v z2 z3 z6 = some u → V p l e (rmz 9 215) s m args below meth c 8 D A 0 0 (MQ below (ok_Q D (wX8 cy a o.2) (some (.int o.1)) A) args s 0 0 A) (wX8 cy a u.1) [(0, .ref (a 0)), (1, .int z1), (2, .int u.2.1), (3, .int u.2.2), (4, .int z4)] [] 124 → V p l e (rmz 9 215) s m args below meth c 8 D A 0 0 (MQ below (ok_Q D (wX8 cy a o.2) (some (.int o.1)) A) args s 0 0 A) (wX8 cy a v) [(0, .ref (a 0)), (1, .int z1), (2, .int z2), (3, .int z3), (4, .int z4), (5, .int z5), (6, .int z6)] [] 52 := by
    intro n
    induction n with
    | zero =>
      intro z1 z4 z5 v z2 z3 z6 u hf hk
      exact nomatch (show (none : Option (SX8 × Int32 × Int32)) = some u from hf)
    | succ n ih =>
      intro z1 z4 z5 v z2 z3 z6 u hf hk
      rw [fX8_slowestOne_L52] at hf
      refine V_iload (pc := 52) F dX8_slowestOne_52 6 rfl ?_
      refine V_aload_n (pc := 54) F dX8_slowestOne_54 rfl 0 rfl ?_
      refine V_get (pc := 55) F 0 8 1 i_X8 rfl (by decide) rfl (mm 1 rfl) dX8_slowestOne_55 rfl rfl ?_
      refine V_iconst (v := 0) (pc := 58) F dX8_slowestOne_58 (by decide) ?_
      obtain ⟨c7, hf⟩ := chk_some hf
      refine V_iald (pc := 59) F 1 rfl c7 dX8_slowestOne_59 ?_
      refine V_icmp_ge (pc := 60) (tgt := 124) F dX8_slowestOne_60 (by decide) (fun h8 => ?_) (fun h8 => ?_)
      · replace hf := ite_pos hf h8
        obtain rfl := some_of hf
        exact V.sub [0, 1, 2, 3, 4] rfl hk
      · replace hf := ite_neg hf h8
        refine V_iload (pc := 63) F dX8_slowestOne_63 5 rfl ?_
        refine V_if_eq (pc := 65) (tgt := 124) F dX8_slowestOne_65 (by decide) (fun h9 => ?_) (fun h9 => ?_)
        · replace hf := ite_pos hf h9
          obtain rfl := some_of hf
          exact V.sub [0, 1, 2, 3, 4] rfl hk
        · replace hf := ite_neg hf h9
          refine V_iload_n (pc := 68) F dX8_slowestOne_68 rfl 1 rfl ?_
          refine V_iload (pc := 69) F dX8_slowestOne_69 6 rfl ?_
          refine V_ishr (pc := 71) F dX8_slowestOne_71 ?_
          refine V_iconst (v := 1) (pc := 72) F dX8_slowestOne_72 (by decide) ?_
          refine V_iand (pc := 73) F dX8_slowestOne_73 ?_
          refine V_iconst (v := 1) (pc := 74) F dX8_slowestOne_74 (by decide) ?_
          refine V_icmp_ne (pc := 75) (tgt := 89) F dX8_slowestOne_75 (by decide) (fun h10 => ?_) (fun h10 => ?_)
          · replace hf := ite_neg hf h10
            refine V_iconst (v := (-1)) (pc := 89) F dX8_slowestOne_89 (by decide) ?_
            refine V_istore (L2 := [(7, .int (-1)), (0, .ref (a 0)), (1, .int z1), (2, .int z2), (3, .int z3), (4, .int z4), (5, .int z5), (6, .int z6)]) (pc := 90) F dX8_slowestOne_90 (by decide) rfl ?_
            refine V_iload (pc := 92) F dX8_slowestOne_92 0 rfl ?_
            refine V_iload_n (pc := 94) F dX8_slowestOne_94 rfl 4 rfl ?_
            refine V_icmp_le (pc := 95) (tgt := 103) F dX8_slowestOne_95 (by decide) (fun h11 => ?_) (fun h11 => ?_)
            · replace hf := ite_pos hf h11
              refine V_iload_n (pc := 103) F dX8_slowestOne_103 rfl 3 rfl ?_
              refine V_istore_n (L2 := [(2, .int z2), (7, .int (-1)), (0, .ref (a 0)), (1, .int z1), (3, .int z3), (4, .int z4), (5, .int z5), (6, .int z6)]) (pc := 104) F dX8_slowestOne_104 rfl (by decide) rfl ?_
              refine V_iload (pc := 105) F dX8_slowestOne_105 1 rfl ?_
              refine V_iload_n (pc := 107) F dX8_slowestOne_107 rfl 4 rfl ?_
              refine V_icmp_le (pc := 108) (tgt := 116) F dX8_slowestOne_108 (by decide) (fun h12 => ?_) (fun h12 => ?_)
              · replace hf := ite_pos hf h12
                refine V_iload_n (pc := 116) F dX8_slowestOne_116 rfl 4 rfl ?_
                refine V_istore_n (L2 := [(3, .int z3), (2, .int z2), (7, .int (-1)), (0, .ref (a 0)), (1, .int z1), (4, .int z4), (5, .int z5), (6, .int z6)]) (pc := 117) F dX8_slowestOne_117 rfl (by decide) rfl ?_
                refine V_iinc (v := (z6 + 1)) (L2 := [(6, .int (z6 + 1)), (3, .int z3), (2, .int z2), (7, .int (-1)), (0, .ref (a 0)), (1, .int z1), (4, .int z4), (5, .int z5)]) (pc := 118) F dX8_slowestOne_118 7 rfl rfl (by decide) rfl ?_
                refine V_goto (pc := 121) (tgt := 52) F dX8_slowestOne_121 (by decide) ?_
                refine V.sub [4, 5, 2, 1, 6, 7, 0] rfl ?_
                exact ih z1 z4 z5 v z2 z3 (z6 + 1) _ hf hk
              · replace hf := ite_neg hf h12
                refine V_iload (pc := 111) F dX8_slowestOne_111 1 rfl ?_
                refine V_goto (pc := 113) (tgt := 117) F dX8_slowestOne_113 (by decide) ?_
                refine V_istore_n (L2 := [(3, .int (-1)), (2, .int z2), (7, .int (-1)), (0, .ref (a 0)), (1, .int z1), (4, .int z4), (5, .int z5), (6, .int z6)]) (pc := 117) F dX8_slowestOne_117 rfl (by decide) rfl ?_
                refine V_iinc (v := (z6 + 1)) (L2 := [(6, .int (z6 + 1)), (3, .int (-1)), (2, .int z2), (7, .int (-1)), (0, .ref (a 0)), (1, .int z1), (4, .int z4), (5, .int z5)]) (pc := 118) F dX8_slowestOne_118 7 rfl rfl (by decide) rfl ?_
                refine V_goto (pc := 121) (tgt := 52) F dX8_slowestOne_121 (by decide) ?_
                refine V.sub [4, 5, 2, 1, 6, 7, 0] rfl ?_
                exact ih z1 z4 z5 v z2 (-1) (z6 + 1) _ hf hk
            · replace hf := ite_neg hf h11
              refine V_iload (pc := 98) F dX8_slowestOne_98 5 rfl ?_
              refine V_goto (pc := 100) (tgt := 104) F dX8_slowestOne_100 (by decide) ?_
              refine V_istore_n (L2 := [(2, .int z4), (7, .int (-1)), (0, .ref (a 0)), (1, .int z1), (3, .int z3), (4, .int z4), (5, .int z5), (6, .int z6)]) (pc := 104) F dX8_slowestOne_104 rfl (by decide) rfl ?_
              refine V_iload (pc := 105) F dX8_slowestOne_105 1 rfl ?_
              refine V_iload_n (pc := 107) F dX8_slowestOne_107 rfl 4 rfl ?_
              refine V_icmp_le (pc := 108) (tgt := 116) F dX8_slowestOne_108 (by decide) (fun h13 => ?_) (fun h13 => ?_)
              · replace hf := ite_pos hf h13
                refine V_iload_n (pc := 116) F dX8_slowestOne_116 rfl 4 rfl ?_
                refine V_istore_n (L2 := [(3, .int z3), (2, .int z4), (7, .int (-1)), (0, .ref (a 0)), (1, .int z1), (4, .int z4), (5, .int z5), (6, .int z6)]) (pc := 117) F dX8_slowestOne_117 rfl (by decide) rfl ?_
                refine V_iinc (v := (z6 + 1)) (L2 := [(6, .int (z6 + 1)), (3, .int z3), (2, .int z4), (7, .int (-1)), (0, .ref (a 0)), (1, .int z1), (4, .int z4), (5, .int z5)]) (pc := 118) F dX8_slowestOne_118 7 rfl rfl (by decide) rfl ?_
                refine V_goto (pc := 121) (tgt := 52) F dX8_slowestOne_121 (by decide) ?_
                refine V.sub [4, 5, 2, 1, 6, 7, 0] rfl ?_
                exact ih z1 z4 z5 v z4 z3 (z6 + 1) _ hf hk
              · replace hf := ite_neg hf h13
                refine V_iload (pc := 111) F dX8_slowestOne_111 1 rfl ?_
                refine V_goto (pc := 113) (tgt := 117) F dX8_slowestOne_113 (by decide) ?_
                refine V_istore_n (L2 := [(3, .int (-1)), (2, .int z4), (7, .int (-1)), (0, .ref (a 0)), (1, .int z1), (4, .int z4), (5, .int z5), (6, .int z6)]) (pc := 117) F dX8_slowestOne_117 rfl (by decide) rfl ?_
                refine V_iinc (v := (z6 + 1)) (L2 := [(6, .int (z6 + 1)), (3, .int (-1)), (2, .int z4), (7, .int (-1)), (0, .ref (a 0)), (1, .int z1), (4, .int z4), (5, .int z5)]) (pc := 118) F dX8_slowestOne_118 7 rfl rfl (by decide) rfl ?_
                refine V_goto (pc := 121) (tgt := 52) F dX8_slowestOne_121 (by decide) ?_
                refine V.sub [4, 5, 2, 1, 6, 7, 0] rfl ?_
                exact ih z1 z4 z5 v z4 (-1) (z6 + 1) _ hf hk
          · replace hf := ite_pos hf h10
            refine V_aload_n (pc := 78) F dX8_slowestOne_78 rfl 0 rfl ?_
            refine V_iload (pc := 79) F dX8_slowestOne_79 4 rfl ?_
            refine V_iload (pc := 81) F dX8_slowestOne_81 6 rfl ?_
            obtain ⟨r14, g15, hf⟩ := bind_of hf
            refine V_V (w2 := wX8 cy a r14.2) (rest := []) (st2 := [.int r14.1]) (pc := 83) F 8 (M_X8_longest l D cy N a v z4 z6 r14 g15) (cwV 2 F.ts gX8_slowestOne_X8_longest rfl rfl rfl hd_X8_longest ⟨Nat.le_of_ble_eq_true rfl, Nat.le_of_ble_eq_true rfl⟩) rfl dX8_slowestOne_83 Fit.whole fstX8 rfl rfl (Nat.le_of_ble_eq_true rfl) (Nat.zero_le _) (Nat.zero_le _) rfl rfl rfl ?_
            refine V_goto (pc := 86) (tgt := 90) F dX8_slowestOne_86 (by decide) ?_
            refine V_istore (L2 := [(7, .int r14.1), (0, .ref (a 0)), (1, .int z1), (2, .int z2), (3, .int z3), (4, .int z4), (5, .int z5), (6, .int z6)]) (pc := 90) F dX8_slowestOne_90 (by decide) rfl ?_
            refine V_iload (pc := 92) F dX8_slowestOne_92 0 rfl ?_
            refine V_iload_n (pc := 94) F dX8_slowestOne_94 rfl 4 rfl ?_
            refine V_icmp_le (pc := 95) (tgt := 103) F dX8_slowestOne_95 (by decide) (fun h16 => ?_) (fun h16 => ?_)
            · replace hf := ite_pos hf h16
              refine V_iload_n (pc := 103) F dX8_slowestOne_103 rfl 3 rfl ?_
              refine V_istore_n (L2 := [(2, .int z2), (7, .int r14.1), (0, .ref (a 0)), (1, .int z1), (3, .int z3), (4, .int z4), (5, .int z5), (6, .int z6)]) (pc := 104) F dX8_slowestOne_104 rfl (by decide) rfl ?_
              refine V_iload (pc := 105) F dX8_slowestOne_105 1 rfl ?_
              refine V_iload_n (pc := 107) F dX8_slowestOne_107 rfl 4 rfl ?_
              refine V_icmp_le (pc := 108) (tgt := 116) F dX8_slowestOne_108 (by decide) (fun h17 => ?_) (fun h17 => ?_)
              · replace hf := ite_pos hf h17
                refine V_iload_n (pc := 116) F dX8_slowestOne_116 rfl 4 rfl ?_
                refine V_istore_n (L2 := [(3, .int z3), (2, .int z2), (7, .int r14.1), (0, .ref (a 0)), (1, .int z1), (4, .int z4), (5, .int z5), (6, .int z6)]) (pc := 117) F dX8_slowestOne_117 rfl (by decide) rfl ?_
                refine V_iinc (v := (z6 + 1)) (L2 := [(6, .int (z6 + 1)), (3, .int z3), (2, .int z2), (7, .int r14.1), (0, .ref (a 0)), (1, .int z1), (4, .int z4), (5, .int z5)]) (pc := 118) F dX8_slowestOne_118 7 rfl rfl (by decide) rfl ?_
                refine V_goto (pc := 121) (tgt := 52) F dX8_slowestOne_121 (by decide) ?_
                refine V.sub [4, 5, 2, 1, 6, 7, 0] rfl ?_
                exact ih z1 z4 z5 r14.2 z2 z3 (z6 + 1) _ hf hk
              · replace hf := ite_neg hf h17
                refine V_iload (pc := 111) F dX8_slowestOne_111 1 rfl ?_
                refine V_goto (pc := 113) (tgt := 117) F dX8_slowestOne_113 (by decide) ?_
                refine V_istore_n (L2 := [(3, .int r14.1), (2, .int z2), (7, .int r14.1), (0, .ref (a 0)), (1, .int z1), (4, .int z4), (5, .int z5), (6, .int z6)]) (pc := 117) F dX8_slowestOne_117 rfl (by decide) rfl ?_
                refine V_iinc (v := (z6 + 1)) (L2 := [(6, .int (z6 + 1)), (3, .int r14.1), (2, .int z2), (7, .int r14.1), (0, .ref (a 0)), (1, .int z1), (4, .int z4), (5, .int z5)]) (pc := 118) F dX8_slowestOne_118 7 rfl rfl (by decide) rfl ?_
                refine V_goto (pc := 121) (tgt := 52) F dX8_slowestOne_121 (by decide) ?_
                refine V.sub [4, 5, 2, 1, 6, 7, 0] rfl ?_
                exact ih z1 z4 z5 r14.2 z2 r14.1 (z6 + 1) _ hf hk
            · replace hf := ite_neg hf h16
              refine V_iload (pc := 98) F dX8_slowestOne_98 5 rfl ?_
              refine V_goto (pc := 100) (tgt := 104) F dX8_slowestOne_100 (by decide) ?_
              refine V_istore_n (L2 := [(2, .int z4), (7, .int r14.1), (0, .ref (a 0)), (1, .int z1), (3, .int z3), (4, .int z4), (5, .int z5), (6, .int z6)]) (pc := 104) F dX8_slowestOne_104 rfl (by decide) rfl ?_
              refine V_iload (pc := 105) F dX8_slowestOne_105 1 rfl ?_
              refine V_iload_n (pc := 107) F dX8_slowestOne_107 rfl 4 rfl ?_
              refine V_icmp_le (pc := 108) (tgt := 116) F dX8_slowestOne_108 (by decide) (fun h18 => ?_) (fun h18 => ?_)
              · replace hf := ite_pos hf h18
                refine V_iload_n (pc := 116) F dX8_slowestOne_116 rfl 4 rfl ?_
                refine V_istore_n (L2 := [(3, .int z3), (2, .int z4), (7, .int r14.1), (0, .ref (a 0)), (1, .int z1), (4, .int z4), (5, .int z5), (6, .int z6)]) (pc := 117) F dX8_slowestOne_117 rfl (by decide) rfl ?_
                refine V_iinc (v := (z6 + 1)) (L2 := [(6, .int (z6 + 1)), (3, .int z3), (2, .int z4), (7, .int r14.1), (0, .ref (a 0)), (1, .int z1), (4, .int z4), (5, .int z5)]) (pc := 118) F dX8_slowestOne_118 7 rfl rfl (by decide) rfl ?_
                refine V_goto (pc := 121) (tgt := 52) F dX8_slowestOne_121 (by decide) ?_
                refine V.sub [4, 5, 2, 1, 6, 7, 0] rfl ?_
                exact ih z1 z4 z5 r14.2 z4 z3 (z6 + 1) _ hf hk
              · replace hf := ite_neg hf h18
                refine V_iload (pc := 111) F dX8_slowestOne_111 1 rfl ?_
                refine V_goto (pc := 113) (tgt := 117) F dX8_slowestOne_113 (by decide) ?_
                refine V_istore_n (L2 := [(3, .int r14.1), (2, .int z4), (7, .int r14.1), (0, .ref (a 0)), (1, .int z1), (4, .int z4), (5, .int z5), (6, .int z6)]) (pc := 117) F dX8_slowestOne_117 rfl (by decide) rfl ?_
                refine V_iinc (v := (z6 + 1)) (L2 := [(6, .int (z6 + 1)), (3, .int r14.1), (2, .int z4), (7, .int r14.1), (0, .ref (a 0)), (1, .int z1), (4, .int z4), (5, .int z5)]) (pc := 118) F dX8_slowestOne_118 7 rfl rfl (by decide) rfl ?_
                refine V_goto (pc := 121) (tgt := 52) F dX8_slowestOne_121 (by decide) ?_
                refine V.sub [4, 5, 2, 1, 6, 7, 0] rfl ?_
                exact ih z1 z4 z5 r14.2 z4 r14.1 (z6 + 1) _ hf hk
  have K12 : ∀ (n : Nat) (z1 : Int32) (v : SX8) (z2 : Int32) (z3 : Int32) (z4 : Int32) (u : SX8 × Int32), fX8_slowestOne_L12 N z1 n v z2 z3 z4 = some u → V p l e (rmz 9 215) s m args below meth c 8 D A 0 0 (MQ below (ok_Q D (wX8 cy a o.2) (some (.int o.1)) A) args s 0 0 A) (wX8 cy a u.1) [(2, .int u.2)] [] 130 → V p l e (rmz 9 215) s m args below meth c 8 D A 0 0 (MQ below (ok_Q D (wX8 cy a o.2) (some (.int o.1)) A) args s 0 0 A) (wX8 cy a v) [(0, .ref (a 0)), (1, .int z1), (2, .int z2), (3, .int z3), (4, .int z4)] [] 12 := by
    intro n
    induction n with
    | zero =>
      intro z1 v z2 z3 z4 u hf hk
      exact nomatch (show (none : Option (SX8 × Int32)) = some u from hf)
    | succ n ih =>
      intro z1 v z2 z3 z4 u hf hk
      rw [fX8_slowestOne_L12] at hf
      refine V_iload (pc := 12) F dX8_slowestOne_12 4 rfl ?_
      refine V_bipush (v := 6) (pc := 14) F dX8_slowestOne_14 (by decide) ?_
      refine V_icmp_ge (pc := 16) (tgt := 130) F dX8_slowestOne_16 (by decide) (fun h3 => ?_) (fun h3 => ?_)
      · replace hf := ite_pos hf h3
        obtain rfl := some_of hf
        exact V.sub [2] rfl hk
      · replace hf := ite_neg hf h3
        refine V_aload_n (pc := 19) F dX8_slowestOne_19 rfl 0 rfl ?_
        refine V_iload_n (pc := 20) F dX8_slowestOne_20 rfl 1 rfl ?_
        obtain ⟨r4, g5, hf⟩ := bind_of hf
        refine V_V (w2 := wX8 cy a v) (rest := []) (st2 := [.int r4]) (pc := 21) F 8 (M_X8_greensOf l D cy N a v z1 r4 g5) (cwV 1 F.ts gX8_slowestOne_X8_greensOf rfl rfl rfl hd_X8_greensOf ⟨Nat.le_of_ble_eq_true rfl, Nat.le_of_ble_eq_true rfl⟩) rfl dX8_slowestOne_21 Fit.whole rfl rfl rfl (Nat.le_of_ble_eq_true rfl) (Nat.zero_le _) (Nat.zero_le _) rfl rfl rfl ?_
        refine V_iload (pc := 24) F dX8_slowestOne_24 4 rfl ?_
        refine V_ishr (pc := 26) F dX8_slowestOne_26 ?_
        refine V_iconst (v := 1) (pc := 27) F dX8_slowestOne_27 (by decide) ?_
        refine V_iand (pc := 28) F dX8_slowestOne_28 ?_
        refine V_iconst (v := 1) (pc := 29) F dX8_slowestOne_29 (by decide) ?_
        refine V_icmp_ne (pc := 30) (tgt := 46) F dX8_slowestOne_30 (by decide) (fun h6 => ?_) (fun h6 => ?_)
        · replace hf := ite_neg hf h6
          refine V_iconst (v := 0) (pc := 46) F dX8_slowestOne_46 (by decide) ?_
          refine V_istore (L2 := [(5, .int 0), (0, .ref (a 0)), (1, .int z1), (2, .int z2), (3, .int z3), (4, .int z4)]) (pc := 47) F dX8_slowestOne_47 (by decide) rfl ?_
          refine V_iconst (v := 0) (pc := 49) F dX8_slowestOne_49 (by decide) ?_
          refine V_istore (L2 := [(6, .int 0), (5, .int 0), (0, .ref (a 0)), (1, .int z1), (2, .int z2), (3, .int z3), (4, .int z4)]) (pc := 50) F dX8_slowestOne_50 (by decide) rfl ?_
          refine V.sub [2, 3, 4, 5, 6, 1, 0] rfl ?_
          obtain ⟨u19, g20, hf⟩ := bind_of hf
          refine K52 N z1 z4 0 v z2 z3 0 u19 g20 ?_
          refine V_iinc (v := (z4 + 1)) (L2 := [(4, .int (z4 + 1)), (0, .ref (a 0)), (1, .int z1), (2, .int u19.2.1), (3, .int u19.2.2)]) (pc := 124) F dX8_slowestOne_124 4 rfl rfl (by decide) rfl ?_
          refine V_goto (pc := 127) (tgt := 12) F dX8_slowestOne_127 (by decide) ?_
          refine V.sub [1, 2, 3, 4, 0] rfl ?_
          exact ih z1 u19.1 u19.2.1 u19.2.2 (z4 + 1) _ hf hk
        · replace hf := ite_pos hf h6
          refine V_aload_n (pc := 33) F dX8_slowestOne_33 rfl 0 rfl ?_
          refine V_iload (pc := 34) F dX8_slowestOne_34 4 rfl ?_
          obtain ⟨r21, g22, hf⟩ := bind_of hf
          refine V_V (w2 := wX8 cy a v) (rest := []) (st2 := [.int r21]) (pc := 36) F 8 (M_X8_canStarveAnywhere l D cy N a v z4 r21 g22) (cwV 1 F.ts gX8_slowestOne_X8_canStarveAnywhere rfl rfl rfl hd_X8_canStarveAnywhere ⟨Nat.le_of_ble_eq_true rfl, Nat.le_of_ble_eq_true rfl⟩) rfl dX8_slowestOne_36 Fit.whole rfl rfl rfl (Nat.le_of_ble_eq_true rfl) (Nat.zero_le _) (Nat.zero_le _) rfl rfl rfl ?_
          refine V_if_ne (pc := 39) (tgt := 46) F dX8_slowestOne_39 (by decide) (fun h23 => ?_) (fun h23 => ?_)
          · replace hf := ite_neg hf h23
            refine V_iconst (v := 0) (pc := 46) F dX8_slowestOne_46 (by decide) ?_
            refine V_istore (L2 := [(5, .int 0), (0, .ref (a 0)), (1, .int z1), (2, .int z2), (3, .int z3), (4, .int z4)]) (pc := 47) F dX8_slowestOne_47 (by decide) rfl ?_
            refine V_iconst (v := 0) (pc := 49) F dX8_slowestOne_49 (by decide) ?_
            refine V_istore (L2 := [(6, .int 0), (5, .int 0), (0, .ref (a 0)), (1, .int z1), (2, .int z2), (3, .int z3), (4, .int z4)]) (pc := 50) F dX8_slowestOne_50 (by decide) rfl ?_
            refine V.sub [2, 3, 4, 5, 6, 1, 0] rfl ?_
            obtain ⟨u24, g25, hf⟩ := bind_of hf
            refine K52 N z1 z4 0 v z2 z3 0 u24 g25 ?_
            refine V_iinc (v := (z4 + 1)) (L2 := [(4, .int (z4 + 1)), (0, .ref (a 0)), (1, .int z1), (2, .int u24.2.1), (3, .int u24.2.2)]) (pc := 124) F dX8_slowestOne_124 4 rfl rfl (by decide) rfl ?_
            refine V_goto (pc := 127) (tgt := 12) F dX8_slowestOne_127 (by decide) ?_
            refine V.sub [1, 2, 3, 4, 0] rfl ?_
            exact ih z1 u24.1 u24.2.1 u24.2.2 (z4 + 1) _ hf hk
          · replace hf := ite_pos hf h23
            refine V_iconst (v := 1) (pc := 42) F dX8_slowestOne_42 (by decide) ?_
            refine V_goto (pc := 43) (tgt := 47) F dX8_slowestOne_43 (by decide) ?_
            refine V_istore (L2 := [(5, .int 1), (0, .ref (a 0)), (1, .int z1), (2, .int z2), (3, .int z3), (4, .int z4)]) (pc := 47) F dX8_slowestOne_47 (by decide) rfl ?_
            refine V_iconst (v := 0) (pc := 49) F dX8_slowestOne_49 (by decide) ?_
            refine V_istore (L2 := [(6, .int 0), (5, .int 1), (0, .ref (a 0)), (1, .int z1), (2, .int z2), (3, .int z3), (4, .int z4)]) (pc := 50) F dX8_slowestOne_50 (by decide) rfl ?_
            refine V.sub [2, 3, 4, 5, 6, 1, 0] rfl ?_
            obtain ⟨u26, g27, hf⟩ := bind_of hf
            refine K52 N z1 z4 1 v z2 z3 0 u26 g27 ?_
            refine V_iinc (v := (z4 + 1)) (L2 := [(4, .int (z4 + 1)), (0, .ref (a 0)), (1, .int z1), (2, .int u26.2.1), (3, .int u26.2.2)]) (pc := 124) F dX8_slowestOne_124 4 rfl rfl (by decide) rfl ?_
            refine V_goto (pc := 127) (tgt := 12) F dX8_slowestOne_127 (by decide) ?_
            refine V.sub [1, 2, 3, 4, 0] rfl ?_
            exact ih z1 u26.1 u26.2.1 u26.2.2 (z4 + 1) _ hf hk
  unfold fX8_slowestOne at hf
  refine V.eq rfl (show lv_args 0 [.ref (a 0)] = [(0, .ref (a 0))] from rfl) rfl ?_
  refine V_aload_n (pc := 0) F dX8_slowestOne_0 rfl 0 rfl ?_
  obtain ⟨r1, g2, hf⟩ := bind_of hf
  refine V_V (w2 := wX8 cy a v) (rest := []) (st2 := [.int r1]) (pc := 1) F 8 (M_X8_comers l D cy N a v r1 g2) (cwV 0 F.ts gX8_slowestOne_X8_comers rfl rfl rfl hd_X8_comers ⟨Nat.le_of_ble_eq_true rfl, Nat.le_of_ble_eq_true rfl⟩) rfl dX8_slowestOne_1 Fit.whole rfl rfl rfl (Nat.le_of_ble_eq_true rfl) (Nat.zero_le _) (Nat.zero_le _) rfl rfl rfl ?_
  refine V_istore_n (L2 := [(1, .int r1), (0, .ref (a 0))]) (pc := 4) F dX8_slowestOne_4 rfl (by decide) rfl ?_
  refine V_iconst (v := (-1)) (pc := 5) F dX8_slowestOne_5 (by decide) ?_
  refine V_istore_n (L2 := [(2, .int (-1)), (1, .int r1), (0, .ref (a 0))]) (pc := 6) F dX8_slowestOne_6 rfl (by decide) rfl ?_
  refine V_iconst (v := (-1)) (pc := 7) F dX8_slowestOne_7 (by decide) ?_
  refine V_istore_n (L2 := [(3, .int (-1)), (2, .int (-1)), (1, .int r1), (0, .ref (a 0))]) (pc := 8) F dX8_slowestOne_8 rfl (by decide) rfl ?_
  refine V_iconst (v := 0) (pc := 9) F dX8_slowestOne_9 (by decide) ?_
  refine V_istore (L2 := [(4, .int 0), (3, .int (-1)), (2, .int (-1)), (1, .int r1), (0, .ref (a 0))]) (pc := 10) F dX8_slowestOne_10 (by decide) rfl ?_
  refine V.sub [4, 3, 2, 1, 0] rfl ?_
  obtain ⟨u28, g29, hf⟩ := bind_of hf
  refine K12 N r1 v (-1) (-1) 0 u28 g29 ?_
  refine V_iload_n (pc := 130) F dX8_slowestOne_130 rfl 0 rfl ?_
  obtain rfl := some_of hf
  exact V_ret F rfl rfl dX8_slowestOne_131 rfl rfl
theorem hd_X8_slowest : yX8_slowest.cls = RX8 ∧ yX8_slowest.cls ≠ "java/lang/invoke/MethodHandle" ∧ yX8_slowest.cls ≠ "java/lang/invoke/VarHandle" ∧ (parseMethodDescriptor yX8_slowest.desc).map (fun d => d.parameters.length) = some 0 := by decide +kernel
def fX8_slowest (N : Nat) (v : SX8) : Option (Int32 × SX8) :=
  (fX8_slowestOne N (0, v.2)).bind fun r1 =>
    some (r1.1, r1.2)
set_option maxHeartbeats 8000000 in
set_option maxRecDepth 100000 in
theorem M_X8_slowest (l : Launch) (D : va_G) (cy : Nat → ClassId) (N : Nat) (a : Nat → Nat) (v : SX8) (o : Int32 × SX8) (hf : fX8_slowest N v = some o) : okM l yX8_slowest wsX8_slowest (rmz 10 242) D cy [.ref (a 0)] (wX8 cy a v) (wX8 cy a o.2) (some (.int o.1)) := by
  refine okM_of (own := RX8) (nme := "slowest") (cc := cX8_slowest) (maxL := 1) (ret := (some .int)) (by decide) rfl rfl rfl (Nat.le_of_ble_eq_true rfl) ?_
  intro p e s m args below meth c A F
  have i_X8 : ∀ w ∈ u_ws RX8 TX8 13, w ∈ wsX8_slowest := fun _ h => List.mem_cons_of_mem _ (List.mem_append_right _ h)
  unfold fX8_slowest at hf
  refine V.eq rfl (show lv_args 0 [.ref (a 0)] = [(0, .ref (a 0))] from rfl) rfl ?_
  refine V_aload_n (pc := 0) F dX8_slowest_0 rfl 0 rfl ?_
  refine V_iconst (v := 0) (pc := 1) F dX8_slowest_1 (by decide) ?_
  refine V_put (w2 := wX8 cy a (0, v.2)) (pc := 2) F 0 8 0 i_X8 tyX8 tyX8_ok nmX8 rfl (by decide) rfl (mm 1 rfl) rfl dX8_slowest_2 rfl rfl rfl (Nat.le_of_ble_eq_true rfl) rfl ?_
  refine V_aload_n (pc := 5) F dX8_slowest_5 rfl 0 rfl ?_
  obtain ⟨r1, g2, hf⟩ := bind_of hf
  refine V_V (w2 := wX8 cy a r1.2) (rest := []) (st2 := [.int r1.1]) (pc := 6) F 8 (M_X8_slowestOne l D cy N a (0, v.2) r1 g2) (cwV 0 F.ts gX8_slowest_X8_slowestOne rfl rfl rfl hd_X8_slowestOne ⟨Nat.le_of_ble_eq_true rfl, Nat.le_of_ble_eq_true rfl⟩) rfl dX8_slowest_6 Fit.whole fstX8 rfl rfl (Nat.le_of_ble_eq_true rfl) (Nat.zero_le _) (Nat.zero_le _) rfl rfl rfl ?_
  obtain rfl := some_of hf
  exact V_ret F rfl rfl dX8_slowest_9 rfl rfl
theorem hd_X8_helps : yX8_helps.cls = RX8 ∧ yX8_helps.cls ≠ "java/lang/invoke/MethodHandle" ∧ yX8_helps.cls ≠ "java/lang/invoke/VarHandle" ∧ (parseMethodDescriptor yX8_helps.desc).map (fun d => d.parameters.length) = some 3 := by decide +kernel
def fX8_helps_L14 (N : Nat) (z1 : Int32) (z2 : Int32) (z3 : Int32) (z4 : Int32) : Nat → SX8 → Int32 → Option (SX8)
  | 0, _, _ => none
  | n + 1, v, z5 =>
    if 10 ≤ z5 then
      some v
    else
      chk (z4 + z5) 143 (
        chk z5 10 (
          nmd (upd v.2.2.2.2.2.2.2.2.2.2.2.1 z5.toNatClampNeg (v.2.1 (z4 + z5).toNatClampNeg)) fun f4 =>
          fX8_helps_L14 N z1 z2 z3 z4 n (v.1, v.2.1, v.2.2.1, v.2.2.2.1, v.2.2.2.2.1, v.2.2.2.2.2.1, v.2.2.2.2.2.2.1, v.2.2.2.2.2.2.2.1, v.2.2.2.2.2.2.2.2.1, v.2.2.2.2.2.2.2.2.2.1, v.2.2.2.2.2.2.2.2.2.2.1, f4, v.2.2.2.2.2.2.2.2.2.2.2.2) (z5 + 1)
        )
      )
def fX8_helps_L48 (N : Nat) (z1 : Int32) (z2 : Int32) (z3 : Int32) (z4 : Int32) : Nat → SX8 → Int32 → Option (SX8)
  | 0, _, _ => none
  | n + 1, v, z5 =>
    if z5 < 2 then
      some v
    else
      chk (z5 - 2) 10 (
        chk (z4 + z5) 143 (
          nmd (upd v.2.1 (z4 + z5).toNatClampNeg (v.2.2.2.2.2.2.2.2.2.2.2.1 (z5 - 2).toNatClampNeg)) fun f11 =>
          fX8_helps_L48 N z1 z2 z3 z4 n (v.1, f11, v.2.2) (z5 + (-1))
        )
      )
def fX8_helps_L153 (N : Nat) (z4 : Int32) (z5 : Int32) : Nat → SX8 → Int32 → Option (SX8)
  | 0, _, _ => none
  | n + 1, v, z6 =>
    if 10 ≤ z6 then
      some v
    else
      chk z6 10 (
        chk (z4 + z6) 143 (
          nmd (upd v.2.1 (z4 + z6).toNatClampNeg (v.2.2.2.2.2.2.2.2.2.2.2.1 z6.toNatClampNeg)) fun f35 =>
          fX8_helps_L153 N z4 z5 n (v.1, f35, v.2.2) (z6 + 1)
        )
      )
def fX8_helps (N : Nat) (v : SX8) (x1 : Int32) (x2 : Int32) (x3 : Int32) : Option (Int32 × SX8) :=
  (fX8_helps_L14 N x1 x2 x3 (((31 : Int32) + ((14 : Int32) * x2)) + 4) N v 0).bind fun u6 =>
    (fX8_helps_L48 N x1 x2 x3 (((31 : Int32) + ((14 : Int32) * x2)) + 4) N u6 9).bind fun u13 =>
      chk (((31 : Int32) + ((14 : Int32) * x2)) + 4) 143 (
        nmd (upd u13.2.1 (((31 : Int32) + ((14 : Int32) * x2)) + 4).toNatClampNeg x3) fun f16 =>
        chk ((((31 : Int32) + ((14 : Int32) * x2)) + 4) + 1) 143 (
          nmd (upd f16 ((((31 : Int32) + ((14 : Int32) * x2)) + 4) + 1).toNatClampNeg ((1 : Int32) <<< (x1 &&& 31))) fun f19 =>
          chk (((31 : Int32) + ((14 : Int32) * x2)) + 3) 143 (
            chk (((31 : Int32) + ((14 : Int32) * x2)) + 3) 143 (
              nmd (upd f19 (((31 : Int32) + ((14 : Int32) * x2)) + 3).toNatClampNeg ((f19 (((31 : Int32) + ((14 : Int32) * x2)) + 3).toNatClampNeg) + 1)) fun f23 =>
              (fX8_canStarveAnywhere N (u13.1, f23, u13.2.2) x1).bind fun r25 =>
                if r25 = 0 then
                  chk (((31 : Int32) + ((14 : Int32) * x2)) + 3) 143 (
                    chk (((31 : Int32) + ((14 : Int32) * x2)) + 3) 143 (
                      nmd (upd f23 (((31 : Int32) + ((14 : Int32) * x2)) + 3).toNatClampNeg ((f23 (((31 : Int32) + ((14 : Int32) * x2)) + 3).toNatClampNeg) - 1)) fun f41 =>
                      (fX8_helps_L153 N (((31 : Int32) + ((14 : Int32) * x2)) + 4) 1 N (u13.1, f41, u13.2.2) 0).bind fun u43 =>
                        some (1, u43)
                    )
                  )
                else
                  chk (((31 : Int32) + ((14 : Int32) * x2)) + 3) 143 (
                    chk (((31 : Int32) + ((14 : Int32) * x2)) + 3) 143 (
                      nmd (upd f23 (((31 : Int32) + ((14 : Int32) * x2)) + 3).toNatClampNeg ((f23 (((31 : Int32) + ((14 : Int32) * x2)) + 3).toNatClampNeg) - 1)) fun f30 =>
                      (fX8_helps_L153 N (((31 : Int32) + ((14 : Int32) * x2)) + 4) 0 N (u13.1, f30, u13.2.2) 0).bind fun u37 =>
                        some (0, u37)
                    )
                  )
            )
          )
        )
      )
set_option maxHeartbeats 8000000 in
set_option maxRecDepth 100000 in
theorem M_X8_helps (l : Launch) (D : va_G) (cy : Nat → ClassId) (N : Nat) (a : Nat → Nat) (v : SX8) (x1 : Int32) (x2 : Int32) (x3 : Int32) (o : Int32 × SX8) (hf : fX8_helps N v x1 x2 x3 = some o) : okM l yX8_helps wsX8_helps (rmz 8 191) D cy [.ref (a 0), .int x1, .int x2, .int x3] (wX8 cy a v) (wX8 cy a o.2) (some (.int o.1)) := by
  refine okM_of (own := RX8) (nme := "helps") (cc := cX8_helps) (maxL := 7) (ret := (some .boolean)) (by decide) rfl rfl rfl (Nat.le_of_ble_eq_true rfl) ?_
  intro p e s m args below meth c A F
  have i_X8 : ∀ w ∈ u_ws RX8 TX8 13, w ∈ wsX8_helps := fun _ h => List.mem_cons_of_mem _ (List.mem_append_right _ h)
  have K14 : ∀ (n : Nat) (z1 : Int32) (z2 : Int32) (z3 : Int32) (z4 : Int32) (v : SX8) (z5 : Int32) (u : SX8), fX8_helps_L14 N z1 z2 z3 z4 n v z5 = some u → V p l e (rmz 8 191) s m args below meth c 7 D A 0 0 (MQ below (ok_Q D (wX8 cy a o.2) (some (.int o.1)) A) args s 0 0 A) (wX8 cy a u) [(0, .ref (a 0)), (1, .int z1), (2, .int z2), (3, .int z3), (4, .int z4)] [] 44 → V p l e (rmz 8 191) s m args below meth c 7 D A 0 0 (MQ below (ok_Q D (wX8 cy a o.2) (some (.int o.1)) A) args s 0 0 A) (wX8 cy a v) [(0, .ref (a 0)), (1, .int z1), (2, .int z2), (3, .int z3), (4, .int z4), (5, .int z5)] [] 14 := by
    intro n
    induction n with
    | zero =>
      intro z1 z2 z3 z4 v z5 u hf hk
      exact nomatch (show (none : Option (SX8)) = some u from hf)
    | succ n ih =>
      intro z1 z2 z3 z4 v z5 u hf hk
      rw [fX8_helps_L14] at hf
      refine V_iload (pc := 14) F dX8_helps_14 5 rfl ?_
      refine V_bipush (v := 10) (pc := 16) F dX8_helps_16 (by decide) ?_
      refine V_icmp_ge (pc := 18) (tgt := 44) F dX8_helps_18 (by decide) (fun h1 => ?_) (fun h1 => ?_)
      · replace hf := ite_pos hf h1
        obtain rfl := some_of hf
        exact V.sub [0, 1, 2, 3, 4] rfl hk
      · replace hf := ite_neg hf h1
        refine V_aload_n (pc := 21) F dX8_helps_21 rfl 0 rfl ?_
        refine V_get (pc := 22) F 0 8 11 i_X8 rfl (by decide) rfl (mm 1 rfl) dX8_helps_22 rfl rfl ?_
        refine V_iload (pc := 25) F dX8_helps_25 5 rfl ?_
        refine V_aload_n (pc := 27) F dX8_helps_27 rfl 0 rfl ?_
        refine V_get (pc := 28) F 0 8 1 i_X8 rfl (by decide) rfl (mm 2 rfl) dX8_helps_28 rfl rfl ?_
        refine V_iload (pc := 31) F dX8_helps_31 4 rfl ?_
        refine V_iload (pc := 33) F dX8_helps_33 5 rfl ?_
        refine V_iadd (pc := 35) F dX8_helps_35 ?_
        obtain ⟨c2, hf⟩ := chk_some hf
        refine V_iald (pc := 36) F 1 rfl c2 dX8_helps_36 ?_
        obtain ⟨c3, hf⟩ := chk_some hf
        obtain ⟨f4, e5, hf⟩ := nmd_of hf
        refine V_iast (w2 := wX8 cy a (v.1, v.2.1, v.2.2.1, v.2.2.2.1, v.2.2.2.2.1, v.2.2.2.2.2.1, v.2.2.2.2.2.2.1, v.2.2.2.2.2.2.2.1, v.2.2.2.2.2.2.2.2.1, v.2.2.2.2.2.2.2.2.2.1, v.2.2.2.2.2.2.2.2.2.2.1, f4, v.2.2.2.2.2.2.2.2.2.2.2.2)) (pc := 37) F 6 rfl c3 e5 dX8_helps_37 rfl ?_
        refine V_iinc (v := (z5 + 1)) (L2 := [(5, .int (z5 + 1)), (0, .ref (a 0)), (1, .int z1), (2, .int z2), (3, .int z3), (4, .int z4)]) (pc := 38) F dX8_helps_38 5 rfl rfl (by decide) rfl ?_
        refine V_goto (pc := 41) (tgt := 14) F dX8_helps_41 (by decide) ?_
        refine V.sub [1, 2, 3, 4, 5, 0] rfl ?_
        exact ih z1 z2 z3 z4 (v.1, v.2.1, v.2.2.1, v.2.2.2.1, v.2.2.2.2.1, v.2.2.2.2.2.1, v.2.2.2.2.2.2.1, v.2.2.2.2.2.2.2.1, v.2.2.2.2.2.2.2.2.1, v.2.2.2.2.2.2.2.2.2.1, v.2.2.2.2.2.2.2.2.2.2.1, f4, v.2.2.2.2.2.2.2.2.2.2.2.2) (z5 + 1) _ hf hk
  have K48 : ∀ (n : Nat) (z1 : Int32) (z2 : Int32) (z3 : Int32) (z4 : Int32) (v : SX8) (z5 : Int32) (u : SX8), fX8_helps_L48 N z1 z2 z3 z4 n v z5 = some u → V p l e (rmz 8 191) s m args below meth c 7 D A 0 0 (MQ below (ok_Q D (wX8 cy a o.2) (some (.int o.1)) A) args s 0 0 A) (wX8 cy a u) [(0, .ref (a 0)), (1, .int z1), (2, .int z2), (3, .int z3), (4, .int z4)] [] 79 → V p l e (rmz 8 191) s m args below meth c 7 D A 0 0 (MQ below (ok_Q D (wX8 cy a o.2) (some (.int o.1)) A) args s 0 0 A) (wX8 cy a v) [(0, .ref (a 0)), (1, .int z1), (2, .int z2), (3, .int z3), (4, .int z4), (5, .int z5)] [] 48 := by
    intro n
    induction n with
    | zero =>
      intro z1 z2 z3 z4 v z5 u hf hk
      exact nomatch (show (none : Option (SX8)) = some u from hf)
    | succ n ih =>
      intro z1 z2 z3 z4 v z5 u hf hk
      rw [fX8_helps_L48] at hf
      refine V_iload (pc := 48) F dX8_helps_48 5 rfl ?_
      refine V_iconst (v := 2) (pc := 50) F dX8_helps_50 (by decide) ?_
      refine V_icmp_lt (pc := 51) (tgt := 79) F dX8_helps_51 (by decide) (fun h8 => ?_) (fun h8 => ?_)
      · replace hf := ite_pos hf h8
        obtain rfl := some_of hf
        exact V.sub [0, 1, 2, 3, 4] rfl hk
      · replace hf := ite_neg hf h8
        refine V_aload_n (pc := 54) F dX8_helps_54 rfl 0 rfl ?_
        refine V_get (pc := 55) F 0 8 1 i_X8 rfl (by decide) rfl (mm 2 rfl) dX8_helps_55 rfl rfl ?_
        refine V_iload (pc := 58) F dX8_helps_58 4 rfl ?_
        refine V_iload (pc := 60) F dX8_helps_60 5 rfl ?_
        refine V_iadd (pc := 62) F dX8_helps_62 ?_
        refine V_aload_n (pc := 63) F dX8_helps_63 rfl 0 rfl ?_
        refine V_get (pc := 64) F 0 8 11 i_X8 rfl (by decide) rfl (mm 1 rfl) dX8_helps_64 rfl rfl ?_
        refine V_iload (pc := 67) F dX8_helps_67 5 rfl ?_
        refine V_iconst (v := 2) (pc := 69) F dX8_helps_69 (by decide) ?_
        refine V_isub (pc := 70) F dX8_helps_70 ?_
        obtain ⟨c9, hf⟩ := chk_some hf
        refine V_iald (pc := 71) F 6 rfl c9 dX8_helps_71 ?_
        obtain ⟨c10, hf⟩ := chk_some hf
        obtain ⟨f11, e12, hf⟩ := nmd_of hf
        refine V_iast (w2 := wX8 cy a (v.1, f11, v.2.2)) (pc := 72) F 1 rfl c10 e12 dX8_helps_72 rfl ?_
        refine V_iinc (v := (z5 + (-1))) (L2 := [(5, .int (z5 + (-1))), (0, .ref (a 0)), (1, .int z1), (2, .int z2), (3, .int z3), (4, .int z4)]) (pc := 73) F dX8_helps_73 5 rfl rfl (by decide) rfl ?_
        refine V_goto (pc := 76) (tgt := 48) F dX8_helps_76 (by decide) ?_
        refine V.sub [1, 2, 3, 4, 5, 0] rfl ?_
        exact ih z1 z2 z3 z4 (v.1, f11, v.2.2) (z5 + (-1)) _ hf hk
  have K153 : ∀ (n : Nat) (z4 : Int32) (z5 : Int32) (v : SX8) (z6 : Int32) (u : SX8), fX8_helps_L153 N z4 z5 n v z6 = some u → V p l e (rmz 8 191) s m args below meth c 7 D A 0 0 (MQ below (ok_Q D (wX8 cy a o.2) (some (.int o.1)) A) args s 0 0 A) (wX8 cy a u) [(5, .int z5)] [] 183 → V p l e (rmz 8 191) s m args below meth c 7 D A 0 0 (MQ below (ok_Q D (wX8 cy a o.2) (some (.int o.1)) A) args s 0 0 A) (wX8 cy a v) [(0, .ref (a 0)), (4, .int z4), (5, .int z5), (6, .int z6)] [] 153 := by
    intro n
    induction n with
    | zero =>
      intro z4 z5 v z6 u hf hk
      exact nomatch (show (none : Option (SX8)) = some u from hf)
    | succ n ih =>
      intro z4 z5 v z6 u hf hk
      rw [fX8_helps_L153] at hf
      refine V_iload (pc := 153) F dX8_helps_153 3 rfl ?_
      refine V_bipush (v := 10) (pc := 155) F dX8_helps_155 (by decide) ?_
      refine V_icmp_ge (pc := 157) (tgt := 183) F dX8_helps_157 (by decide) (fun h32 => ?_) (fun h32 => ?_)
      · replace hf := ite_pos hf h32
        obtain rfl := some_of hf
        exact V.sub [2] rfl hk
      · replace hf := ite_neg hf h32
        refine V_aload_n (pc := 160) F dX8_helps_160 rfl 0 rfl ?_
        refine V_get (pc := 161) F 0 8 1 i_X8 rfl (by decide) rfl (mm 2 rfl) dX8_helps_161 rfl rfl ?_
        refine V_iload (pc := 164) F dX8_helps_164 1 rfl ?_
        refine V_iload (pc := 166) F dX8_helps_166 3 rfl ?_
        refine V_iadd (pc := 168) F dX8_helps_168 ?_
        refine V_aload_n (pc := 169) F dX8_helps_169 rfl 0 rfl ?_
        refine V_get (pc := 170) F 0 8 11 i_X8 rfl (by decide) rfl (mm 1 rfl) dX8_helps_170 rfl rfl ?_
        refine V_iload (pc := 173) F dX8_helps_173 3 rfl ?_
        obtain ⟨c33, hf⟩ := chk_some hf
        refine V_iald (pc := 175) F 6 rfl c33 dX8_helps_175 ?_
        obtain ⟨c34, hf⟩ := chk_some hf
        obtain ⟨f35, e36, hf⟩ := nmd_of hf
        refine V_iast (w2 := wX8 cy a (v.1, f35, v.2.2)) (pc := 176) F 1 rfl c34 e36 dX8_helps_176 rfl ?_
        refine V_iinc (v := (z6 + 1)) (L2 := [(6, .int (z6 + 1)), (0, .ref (a 0)), (4, .int z4), (5, .int z5)]) (pc := 177) F dX8_helps_177 3 rfl rfl (by decide) rfl ?_
        refine V_goto (pc := 180) (tgt := 153) F dX8_helps_180 (by decide) ?_
        refine V.sub [1, 2, 3, 0] rfl ?_
        exact ih z4 z5 (v.1, f35, v.2.2) (z6 + 1) _ hf hk
  unfold fX8_helps at hf
  refine V.eq rfl (show lv_args 0 [.ref (a 0), .int x1, .int x2, .int x3] = [(0, .ref (a 0)), (1, .int x1), (2, .int x2), (3, .int x3)] from rfl) rfl ?_
  refine V_bipush (v := 31) (pc := 0) F dX8_helps_0 (by decide) ?_
  refine V_bipush (v := 14) (pc := 2) F dX8_helps_2 (by decide) ?_
  refine V_iload_n (pc := 4) F dX8_helps_4 rfl 2 rfl ?_
  refine V_imul (pc := 5) F dX8_helps_5 ?_
  refine V_iadd (pc := 6) F dX8_helps_6 ?_
  refine V_iconst (v := 4) (pc := 7) F dX8_helps_7 (by decide) ?_
  refine V_iadd (pc := 8) F dX8_helps_8 ?_
  refine V_istore (L2 := [(4, .int (((31 : Int32) + ((14 : Int32) * x2)) + 4)), (0, .ref (a 0)), (1, .int x1), (2, .int x2), (3, .int x3)]) (pc := 9) F dX8_helps_9 (by decide) rfl ?_
  refine V_iconst (v := 0) (pc := 11) F dX8_helps_11 (by decide) ?_
  refine V_istore (L2 := [(5, .int 0), (4, .int (((31 : Int32) + ((14 : Int32) * x2)) + 4)), (0, .ref (a 0)), (1, .int x1), (2, .int x2), (3, .int x3)]) (pc := 12) F dX8_helps_12 (by decide) rfl ?_
  refine V.sub [2, 3, 4, 5, 1, 0] rfl ?_
  obtain ⟨u6, g7, hf⟩ := bind_of hf
  refine K14 N x1 x2 x3 (((31 : Int32) + ((14 : Int32) * x2)) + 4) v 0 u6 g7 ?_
  refine V_bipush (v := 9) (pc := 44) F dX8_helps_44 (by decide) ?_
  refine V_istore (L2 := [(5, .int 9), (0, .ref (a 0)), (1, .int x1), (2, .int x2), (3, .int x3), (4, .int (((31 : Int32) + ((14 : Int32) * x2)) + 4))]) (pc := 46) F dX8_helps_46 (by decide) rfl ?_
  refine V.sub [1, 2, 3, 4, 5, 0] rfl ?_
  obtain ⟨u13, g14, hf⟩ := bind_of hf
  refine K48 N x1 x2 x3 (((31 : Int32) + ((14 : Int32) * x2)) + 4) u6 9 u13 g14 ?_
  refine V_aload_n (pc := 79) F dX8_helps_79 rfl 0 rfl ?_
  refine V_get (pc := 80) F 0 8 1 i_X8 rfl (by decide) rfl (mm 2 rfl) dX8_helps_80 rfl rfl ?_
  refine V_iload (pc := 83) F dX8_helps_83 4 rfl ?_
  refine V_iload_n (pc := 85) F dX8_helps_85 rfl 3 rfl ?_
  obtain ⟨c15, hf⟩ := chk_some hf
  obtain ⟨f16, e17, hf⟩ := nmd_of hf
  refine V_iast (w2 := wX8 cy a (u13.1, f16, u13.2.2)) (pc := 86) F 1 rfl c15 e17 dX8_helps_86 rfl ?_
  refine V_aload_n (pc := 87) F dX8_helps_87 rfl 0 rfl ?_
  refine V_get (pc := 88) F 0 8 1 i_X8 rfl (by decide) rfl (mm 2 rfl) dX8_helps_88 rfl rfl ?_
  refine V_iload (pc := 91) F dX8_helps_91 4 rfl ?_
  refine V_iconst (v := 1) (pc := 93) F dX8_helps_93 (by decide) ?_
  refine V_iadd (pc := 94) F dX8_helps_94 ?_
  refine V_iconst (v := 1) (pc := 95) F dX8_helps_95 (by decide) ?_
  refine V_iload_n (pc := 96) F dX8_helps_96 rfl 1 rfl ?_
  refine V_ishl (pc := 97) F dX8_helps_97 ?_
  obtain ⟨c18, hf⟩ := chk_some hf
  obtain ⟨f19, e20, hf⟩ := nmd_of hf
  refine V_iast (w2 := wX8 cy a (u13.1, f19, u13.2.2)) (pc := 98) F 1 rfl c18 e20 dX8_helps_98 rfl ?_
  refine V_aload_n (pc := 99) F dX8_helps_99 rfl 0 rfl ?_
  refine V_get (pc := 100) F 0 8 1 i_X8 rfl (by decide) rfl (mm 2 rfl) dX8_helps_100 rfl rfl ?_
  refine V_bipush (v := 31) (pc := 103) F dX8_helps_103 (by decide) ?_
  refine V_bipush (v := 14) (pc := 105) F dX8_helps_105 (by decide) ?_
  refine V_iload_n (pc := 107) F dX8_helps_107 rfl 2 rfl ?_
  refine V_imul (pc := 108) F dX8_helps_108 ?_
  refine V_iadd (pc := 109) F dX8_helps_109 ?_
  refine V_iconst (v := 3) (pc := 110) F dX8_helps_110 (by decide) ?_
  refine V_iadd (pc := 111) F dX8_helps_111 ?_
  refine V_dup2_11 (pc := 112) F dX8_helps_112 rfl rfl ?_
  obtain ⟨c21, hf⟩ := chk_some hf
  refine V_iald (pc := 113) F 1 rfl c21 dX8_helps_113 ?_
  refine V_iconst (v := 1) (pc := 114) F dX8_helps_114 (by decide) ?_
  refine V_iadd (pc := 115) F dX8_helps_115 ?_
  obtain ⟨c22, hf⟩ := chk_some hf
  obtain ⟨f23, e24, hf⟩ := nmd_of hf
  refine V_iast (w2 := wX8 cy a (u13.1, f23, u13.2.2)) (pc := 116) F 1 rfl c22 e24 dX8_helps_116 rfl ?_
  refine V_aload_n (pc := 117) F dX8_helps_117 rfl 0 rfl ?_
  refine V_iload_n (pc := 118) F dX8_helps_118 rfl 1 rfl ?_
  obtain ⟨r25, g26, hf⟩ := bind_of hf
  refine V_V (w2 := wX8 cy a (u13.1, f23, u13.2.2)) (rest := []) (st2 := [.int r25]) (pc := 119) F 8 (M_X8_canStarveAnywhere l D cy N a (u13.1, f23, u13.2.2) x1 r25 g26) (cwV 1 F.ts gX8_helps_X8_canStarveAnywhere rfl rfl rfl hd_X8_canStarveAnywhere ⟨Nat.le_of_ble_eq_true rfl, Nat.le_of_ble_eq_true rfl⟩) rfl dX8_helps_119 Fit.whole rfl rfl rfl (Nat.le_of_ble_eq_true rfl) (Nat.zero_le _) (Nat.zero_le _) rfl rfl rfl ?_
  refine V_if_ne (pc := 122) (tgt := 129) F dX8_helps_122 (by decide) (fun h27 => ?_) (fun h27 => ?_)
  · replace hf := ite_neg hf h27
    refine V_iconst (v := 0) (pc := 129) F dX8_helps_129 (by decide) ?_
    refine V_istore (L2 := [(5, .int 0), (0, .ref (a 0)), (1, .int x1), (2, .int x2), (3, .int x3), (4, .int (((31 : Int32) + ((14 : Int32) * x2)) + 4))]) (pc := 130) F dX8_helps_130 (by decide) rfl ?_
    refine V_aload_n (pc := 132) F dX8_helps_132 rfl 1 rfl ?_
    refine V_get (pc := 133) F 0 8 1 i_X8 rfl (by decide) rfl (mm 2 rfl) dX8_helps_133 rfl rfl ?_
    refine V_bipush (v := 31) (pc := 136) F dX8_helps_136 (by decide) ?_
    refine V_bipush (v := 14) (pc := 138) F dX8_helps_138 (by decide) ?_
    refine V_iload_n (pc := 140) F dX8_helps_140 rfl 3 rfl ?_
    refine V_imul (pc := 141) F dX8_helps_141 ?_
    refine V_iadd (pc := 142) F dX8_helps_142 ?_
    refine V_iconst (v := 3) (pc := 143) F dX8_helps_143 (by decide) ?_
    refine V_iadd (pc := 144) F dX8_helps_144 ?_
    refine V_dup2_11 (pc := 145) F dX8_helps_145 rfl rfl ?_
    obtain ⟨c28, hf⟩ := chk_some hf
    refine V_iald (pc := 146) F 1 rfl c28 dX8_helps_146 ?_
    refine V_iconst (v := 1) (pc := 147) F dX8_helps_147 (by decide) ?_
    refine V_isub (pc := 148) F dX8_helps_148 ?_
    obtain ⟨c29, hf⟩ := chk_some hf
    obtain ⟨f30, e31, hf⟩ := nmd_of hf
    refine V_iast (w2 := wX8 cy a (u13.1, f30, u13.2.2)) (pc := 149) F 1 rfl c29 e31 dX8_helps_149 rfl ?_
    refine V_iconst (v := 0) (pc := 150) F dX8_helps_150 (by decide) ?_
    refine V_istore (L2 := [(6, .int 0), (5, .int 0), (0, .ref (a 0)), (1, .int x1), (2, .int x2), (3, .int x3), (4, .int (((31 : Int32) + ((14 : Int32) * x2)) + 4))]) (pc := 151) F dX8_helps_151 (by decide) rfl ?_
    refine V.sub [2, 6, 1, 0] rfl ?_
    obtain ⟨u37, g38, hf⟩ := bind_of hf
    refine K153 N (((31 : Int32) + ((14 : Int32) * x2)) + 4) 0 (u13.1, f30, u13.2.2) 0 u37 g38 ?_
    refine V_iload (pc := 183) F dX8_helps_183 0 rfl ?_
    obtain rfl := some_of hf
    exact V_ret F rfl rfl dX8_helps_185 rfl rfl
  · replace hf := ite_pos hf h27
    refine V_iconst (v := 1) (pc := 125) F dX8_helps_125 (by decide) ?_
    refine V_goto (pc := 126) (tgt := 130) F dX8_helps_126 (by decide) ?_
    refine V_istore (L2 := [(5, .int 1), (0, .ref (a 0)), (1, .int x1), (2, .int x2), (3, .int x3), (4, .int (((31 : Int32) + ((14 : Int32) * x2)) + 4))]) (pc := 130) F dX8_helps_130 (by decide) rfl ?_
    refine V_aload_n (pc := 132) F dX8_helps_132 rfl 1 rfl ?_
    refine V_get (pc := 133) F 0 8 1 i_X8 rfl (by decide) rfl (mm 2 rfl) dX8_helps_133 rfl rfl ?_
    refine V_bipush (v := 31) (pc := 136) F dX8_helps_136 (by decide) ?_
    refine V_bipush (v := 14) (pc := 138) F dX8_helps_138 (by decide) ?_
    refine V_iload_n (pc := 140) F dX8_helps_140 rfl 3 rfl ?_
    refine V_imul (pc := 141) F dX8_helps_141 ?_
    refine V_iadd (pc := 142) F dX8_helps_142 ?_
    refine V_iconst (v := 3) (pc := 143) F dX8_helps_143 (by decide) ?_
    refine V_iadd (pc := 144) F dX8_helps_144 ?_
    refine V_dup2_11 (pc := 145) F dX8_helps_145 rfl rfl ?_
    obtain ⟨c39, hf⟩ := chk_some hf
    refine V_iald (pc := 146) F 1 rfl c39 dX8_helps_146 ?_
    refine V_iconst (v := 1) (pc := 147) F dX8_helps_147 (by decide) ?_
    refine V_isub (pc := 148) F dX8_helps_148 ?_
    obtain ⟨c40, hf⟩ := chk_some hf
    obtain ⟨f41, e42, hf⟩ := nmd_of hf
    refine V_iast (w2 := wX8 cy a (u13.1, f41, u13.2.2)) (pc := 149) F 1 rfl c40 e42 dX8_helps_149 rfl ?_
    refine V_iconst (v := 0) (pc := 150) F dX8_helps_150 (by decide) ?_
    refine V_istore (L2 := [(6, .int 0), (5, .int 1), (0, .ref (a 0)), (1, .int x1), (2, .int x2), (3, .int x3), (4, .int (((31 : Int32) + ((14 : Int32) * x2)) + 4))]) (pc := 151) F dX8_helps_151 (by decide) rfl ?_
    refine V.sub [2, 6, 1, 0] rfl ?_
    obtain ⟨u43, g44, hf⟩ := bind_of hf
    refine K153 N (((31 : Int32) + ((14 : Int32) * x2)) + 4) 1 (u13.1, f41, u13.2.2) 0 u43 g44 ?_
    refine V_iload (pc := 183) F dX8_helps_183 0 rfl ?_
    obtain rfl := some_of hf
    exact V_ret F rfl rfl dX8_helps_185 rfl rfl
theorem hd_X8_remedyFor : yX8_remedyFor.cls = RX8 ∧ yX8_remedyFor.cls ≠ "java/lang/invoke/MethodHandle" ∧ yX8_remedyFor.cls ≠ "java/lang/invoke/VarHandle" ∧ (parseMethodDescriptor yX8_remedyFor.desc).map (fun d => d.parameters.length) = some 2 := by decide +kernel
def fX8_remedyFor_L12 (N : Nat) (z1 : Int32) (z2 : Int32) : Nat → SX8 → Int32 → Option ((Int32 × SX8) ⊕ (SX8))
  | 0, _, _ => none
  | n + 1, v, z3 =>
    chk 0 143 (
      if (v.2.1 (0 : Int32).toNatClampNeg) ≤ z3 then
        some (.inr v)
      else
        if z3 = z2 then
          fX8_remedyFor_L12 N z1 z2 n v (z3 + 1)
        else
          (fX8_helps N v z1 z2 z3).bind fun r7 =>
            if r7.1 = 0 then
              fX8_remedyFor_L12 N z1 z2 n r7.2 (z3 + 1)
            else
              some (.inl (z3, r7.2))
    )
def fX8_remedyFor (N : Nat) (v : SX8) (x1 : Int32) (x2 : Int32) : Option (Int32 × SX8) :=
  (fX8_canStarveAnywhere N v x1).bind fun r1 =>
    if r1 = 0 then
      some ((-1), v)
    else
      (fX8_remedyFor_L12 N x1 x2 N v 0).bind fun u10 => onS u10 (fun r => some r) fun q12 =>
        some ((-1), q12)
set_option maxHeartbeats 8000000 in
set_option maxRecDepth 100000 in
theorem M_X8_remedyFor (l : Launch) (D : va_G) (cy : Nat → ClassId) (N : Nat) (a : Nat → Nat) (v : SX8) (x1 : Int32) (x2 : Int32) (o : Int32 × SX8) (hf : fX8_remedyFor N v x1 x2 = some o) : okM l yX8_remedyFor wsX8_remedyFor (rmz 9 217) D cy [.ref (a 0), .int x1, .int x2] (wX8 cy a v) (wX8 cy a o.2) (some (.int o.1)) := by
  refine okM_of (own := RX8) (nme := "remedyFor") (cc := cX8_remedyFor) (maxL := 4) (ret := (some .int)) (by decide) rfl rfl rfl (Nat.le_of_ble_eq_true rfl) ?_
  intro p e s m args below meth c A F
  have i_X8 : ∀ w ∈ u_ws RX8 TX8 13, w ∈ wsX8_remedyFor := fun _ h => List.mem_cons_of_mem _ (List.mem_append_right _ h)
  have K12 : ∀ (n : Nat) (z1 : Int32) (z2 : Int32) (v : SX8) (z3 : Int32) (u : (Int32 × SX8) ⊕ (SX8)), fX8_remedyFor_L12 N z1 z2 n v z3 = some u → (∀ r, u = .inl r → r = o) → (∀ q, u = .inr q → V p l e (rmz 9 217) s m args below meth c 4 D A 0 0 (MQ below (ok_Q D (wX8 cy a o.2) (some (.int o.1)) A) args s 0 0 A) (wX8 cy a q) [] [] 45) → V p l e (rmz 9 217) s m args below meth c 4 D A 0 0 (MQ below (ok_Q D (wX8 cy a o.2) (some (.int o.1)) A) args s 0 0 A) (wX8 cy a v) [(0, .ref (a 0)), (1, .int z1), (2, .int z2), (3, .int z3)] [] 12 := by
    intro n
    induction n with
    | zero =>
      intro z1 z2 v z3 u hf hr hk
      exact nomatch (show (none : Option ((Int32 × SX8) ⊕ (SX8))) = some u from hf)
    | succ n ih =>
      intro z1 z2 v z3 u hf hr hk
      rw [fX8_remedyFor_L12] at hf
      refine V_iload_n (pc := 12) F dX8_remedyFor_12 rfl 3 rfl ?_
      refine V_aload_n (pc := 13) F dX8_remedyFor_13 rfl 0 rfl ?_
      refine V_get (pc := 14) F 0 8 1 i_X8 rfl (by decide) rfl (mm 1 rfl) dX8_remedyFor_14 rfl rfl ?_
      refine V_iconst (v := 0) (pc := 17) F dX8_remedyFor_17 (by decide) ?_
      obtain ⟨c4, hf⟩ := chk_some hf
      refine V_iald (pc := 18) F 1 rfl c4 dX8_remedyFor_18 ?_
      refine V_icmp_ge (pc := 19) (tgt := 45) F dX8_remedyFor_19 (by decide) (fun h5 => ?_) (fun h5 => ?_)
      · replace hf := ite_pos hf h5
        exact V.sub [] rfl (hk _ (some_of hf).symm)
      · replace hf := ite_neg hf h5
        refine V_iload_n (pc := 22) F dX8_remedyFor_22 rfl 3 rfl ?_
        refine V_iload_n (pc := 23) F dX8_remedyFor_23 rfl 2 rfl ?_
        refine V_icmp_eq (pc := 24) (tgt := 39) F dX8_remedyFor_24 (by decide) (fun h6 => ?_) (fun h6 => ?_)
        · replace hf := ite_pos hf h6
          refine V_iinc (v := (z3 + 1)) (L2 := [(3, .int (z3 + 1)), (0, .ref (a 0)), (1, .int z1), (2, .int z2)]) (pc := 39) F dX8_remedyFor_39 3 rfl rfl (by decide) rfl ?_
          refine V_goto (pc := 42) (tgt := 12) F dX8_remedyFor_42 (by decide) ?_
          refine V.sub [1, 2, 3, 0] rfl ?_
          exact ih z1 z2 v (z3 + 1) _ hf hr hk
        · replace hf := ite_neg hf h6
          refine V_aload_n (pc := 27) F dX8_remedyFor_27 rfl 0 rfl ?_
          refine V_iload_n (pc := 28) F dX8_remedyFor_28 rfl 1 rfl ?_
          refine V_iload_n (pc := 29) F dX8_remedyFor_29 rfl 2 rfl ?_
          refine V_iload_n (pc := 30) F dX8_remedyFor_30 rfl 3 rfl ?_
          obtain ⟨r7, g8, hf⟩ := bind_of hf
          refine V_V (w2 := wX8 cy a r7.2) (rest := []) (st2 := [.int r7.1]) (pc := 31) F 8 (M_X8_helps l D cy N a v z1 z2 z3 r7 g8) (cwV 3 F.ts gX8_remedyFor_X8_helps rfl rfl rfl hd_X8_helps ⟨Nat.le_of_ble_eq_true rfl, Nat.le_of_ble_eq_true rfl⟩) rfl dX8_remedyFor_31 Fit.whole fstX8 rfl rfl (Nat.le_of_ble_eq_true rfl) (Nat.zero_le _) (Nat.zero_le _) rfl rfl rfl ?_
          refine V_if_eq (pc := 34) (tgt := 39) F dX8_remedyFor_34 (by decide) (fun h9 => ?_) (fun h9 => ?_)
          · replace hf := ite_pos hf h9
            refine V_iinc (v := (z3 + 1)) (L2 := [(3, .int (z3 + 1)), (0, .ref (a 0)), (1, .int z1), (2, .int z2)]) (pc := 39) F dX8_remedyFor_39 3 rfl rfl (by decide) rfl ?_
            refine V_goto (pc := 42) (tgt := 12) F dX8_remedyFor_42 (by decide) ?_
            refine V.sub [1, 2, 3, 0] rfl ?_
            exact ih z1 z2 r7.2 (z3 + 1) _ hf hr hk
          · replace hf := ite_neg hf h9
            refine V_iload_n (pc := 37) F dX8_remedyFor_37 rfl 3 rfl ?_
            obtain rfl := hr _ (some_of hf).symm
            exact V_ret F rfl rfl dX8_remedyFor_38 rfl rfl
  unfold fX8_remedyFor at hf
  refine V.eq rfl (show lv_args 0 [.ref (a 0), .int x1, .int x2] = [(0, .ref (a 0)), (1, .int x1), (2, .int x2)] from rfl) rfl ?_
  refine V_aload_n (pc := 0) F dX8_remedyFor_0 rfl 0 rfl ?_
  refine V_iload_n (pc := 1) F dX8_remedyFor_1 rfl 1 rfl ?_
  obtain ⟨r1, g2, hf⟩ := bind_of hf
  refine V_V (w2 := wX8 cy a v) (rest := []) (st2 := [.int r1]) (pc := 2) F 8 (M_X8_canStarveAnywhere l D cy N a v x1 r1 g2) (cwV 1 F.ts gX8_remedyFor_X8_canStarveAnywhere rfl rfl rfl hd_X8_canStarveAnywhere ⟨Nat.le_of_ble_eq_true rfl, Nat.le_of_ble_eq_true rfl⟩) rfl dX8_remedyFor_2 Fit.whole rfl rfl rfl (Nat.le_of_ble_eq_true rfl) (Nat.zero_le _) (Nat.zero_le _) rfl rfl rfl ?_
  refine V_if_ne (pc := 5) (tgt := 10) F dX8_remedyFor_5 (by decide) (fun h3 => ?_) (fun h3 => ?_)
  · replace hf := ite_neg hf h3
    refine V_iconst (v := 0) (pc := 10) F dX8_remedyFor_10 (by decide) ?_
    refine V_istore_n (L2 := [(3, .int 0), (0, .ref (a 0)), (1, .int x1), (2, .int x2)]) (pc := 11) F dX8_remedyFor_11 rfl (by decide) rfl ?_
    refine V.sub [1, 2, 3, 0] rfl ?_
    obtain ⟨u10, g11, hf⟩ := bind_of hf
    refine K12 N x1 x2 v 0 u10 g11 (fun r h13 => ?_) (fun q12 h13 => ?_)
    · subst h13
      replace hf := onS_inl hf
      exact some_of hf
    · subst h13
      replace hf := onS_inr hf
      refine V_iconst (v := (-1)) (pc := 45) F dX8_remedyFor_45 (by decide) ?_
      obtain rfl := some_of hf
      exact V_ret F rfl rfl dX8_remedyFor_46 rfl rfl
  · replace hf := ite_pos hf h3
    refine V_iconst (v := (-1)) (pc := 8) F dX8_remedyFor_8 (by decide) ?_
    obtain rfl := some_of hf
    exact V_ret F rfl rfl dX8_remedyFor_9 rfl rfl
theorem hd_X8_remedy : yX8_remedy.cls = RX8 ∧ yX8_remedy.cls ≠ "java/lang/invoke/MethodHandle" ∧ yX8_remedy.cls ≠ "java/lang/invoke/VarHandle" ∧ (parseMethodDescriptor yX8_remedy.desc).map (fun d => d.parameters.length) = some 2 := by decide +kernel
def fX8_remedy (N : Nat) (v : SX8) (x1 : Int32) (x2 : Int32) : Option (Int32 × SX8) :=
  (fX8_isPhase N v x2).bind fun r1 =>
    if r1 = 0 then
      some (0, (1, v.2))
    else
      (fX8_isDirection N x1).bind fun r4 =>
        if r4 = 0 then
          some (0, (2, v.2))
        else
          (fX8_remedyFor N (0, v.2) x1 x2).bind fun r9 =>
            some (r9.1, r9.2)
set_option maxHeartbeats 8000000 in
set_option maxRecDepth 100000 in
theorem M_X8_remedy (l : Launch) (D : va_G) (cy : Nat → ClassId) (N : Nat) (a : Nat → Nat) (v : SX8) (x1 : Int32) (x2 : Int32) (o : Int32 × SX8) (hf : fX8_remedy N v x1 x2 = some o) : okM l yX8_remedy wsX8_remedy (rmz 10 240) D cy [.ref (a 0), .int x1, .int x2] (wX8 cy a v) (wX8 cy a o.2) (some (.int o.1)) := by
  refine okM_of (own := RX8) (nme := "remedy") (cc := cX8_remedy) (maxL := 3) (ret := (some .int)) (by decide) rfl rfl rfl (Nat.le_of_ble_eq_true rfl) ?_
  intro p e s m args below meth c A F
  have i_X8 : ∀ w ∈ u_ws RX8 TX8 13, w ∈ wsX8_remedy := fun _ h => List.mem_cons_of_mem _ (List.mem_append_right _ h)
  unfold fX8_remedy at hf
  refine V.eq rfl (show lv_args 0 [.ref (a 0), .int x1, .int x2] = [(0, .ref (a 0)), (1, .int x1), (2, .int x2)] from rfl) rfl ?_
  refine V_aload_n (pc := 0) F dX8_remedy_0 rfl 0 rfl ?_
  refine V_aload_n (pc := 1) F dX8_remedy_1 rfl 0 rfl ?_
  refine V_iload_n (pc := 2) F dX8_remedy_2 rfl 2 rfl ?_
  obtain ⟨r1, g2, hf⟩ := bind_of hf
  refine V_V (w2 := wX8 cy a v) (rest := [.ref (a 0)]) (st2 := [.int r1, .ref (a 0)]) (pc := 3) F 8 (M_X8_isPhase l D cy N a v x2 r1 g2) (cwV 1 F.ts gX8_remedy_X8_isPhase rfl rfl rfl hd_X8_isPhase ⟨Nat.le_of_ble_eq_true rfl, Nat.le_of_ble_eq_true rfl⟩) rfl dX8_remedy_3 Fit.whole rfl rfl rfl (Nat.le_of_ble_eq_true rfl) (Nat.zero_le _) (Nat.zero_le _) rfl rfl rfl ?_
  refine V_if_ne (pc := 6) (tgt := 13) F dX8_remedy_6 (by decide) (fun h3 => ?_) (fun h3 => ?_)
  · replace hf := ite_neg hf h3
    refine V_iload_n (pc := 13) F dX8_remedy_13 rfl 1 rfl ?_
    obtain ⟨r4, g5, hf⟩ := bind_of hf
    refine V_Sc (rest := [.ref (a 0)]) (st2 := [.int r4, .ref (a 0)]) (pc := 14) F (M_X8_isDirection l D cy N x1 r4 g5) (va_cwS 1 F.ts gX8_remedy_X8_isDirection rfl rfl rfl hd_X8_isDirection ⟨Nat.le_of_ble_eq_true rfl, Nat.le_of_ble_eq_true rfl⟩) rfl dX8_remedy_14 (Nat.le_of_ble_eq_true rfl) (Nat.zero_le _) (Nat.zero_le _) rfl rfl ?_
    refine V_if_eq (pc := 17) (tgt := 24) F dX8_remedy_17 (by decide) (fun h6 => ?_) (fun h6 => ?_)
    · replace hf := ite_pos hf h6
      refine V_iconst (v := 2) (pc := 24) F dX8_remedy_24 (by decide) ?_
      refine V_put (w2 := wX8 cy a (2, v.2)) (pc := 25) F 0 8 0 i_X8 tyX8 tyX8_ok nmX8 rfl (by decide) rfl (mm 1 rfl) rfl dX8_remedy_25 rfl rfl rfl (Nat.le_of_ble_eq_true rfl) rfl ?_
      refine V_aload_n (pc := 28) F dX8_remedy_28 rfl 0 rfl ?_
      refine V_get (pc := 29) F 0 8 0 i_X8 rfl (by decide) rfl (mm 1 rfl) dX8_remedy_29 rfl rfl ?_
      refine V_if_le (pc := 32) (tgt := 39) F dX8_remedy_32 (by decide) (fun h7 => ?_) (fun h7 => ?_)
      · exact absurd h7 (show ¬ ((2 : Int32) ≤ (0 : Int32)) by decide)
      · refine V_iconst (v := 0) (pc := 35) F dX8_remedy_35 (by decide) ?_
        refine V_goto (pc := 36) (tgt := 45) F dX8_remedy_36 (by decide) ?_
        obtain rfl := some_of hf
        exact V_ret F rfl rfl dX8_remedy_45 rfl rfl
    · replace hf := ite_neg hf h6
      refine V_iconst (v := 0) (pc := 20) F dX8_remedy_20 (by decide) ?_
      refine V_goto (pc := 21) (tgt := 25) F dX8_remedy_21 (by decide) ?_
      refine V_put (w2 := wX8 cy a (0, v.2)) (pc := 25) F 0 8 0 i_X8 tyX8 tyX8_ok nmX8 rfl (by decide) rfl (mm 1 rfl) rfl dX8_remedy_25 rfl rfl rfl (Nat.le_of_ble_eq_true rfl) rfl ?_
      refine V_aload_n (pc := 28) F dX8_remedy_28 rfl 0 rfl ?_
      refine V_get (pc := 29) F 0 8 0 i_X8 rfl (by decide) rfl (mm 1 rfl) dX8_remedy_29 rfl rfl ?_
      refine V_if_le (pc := 32) (tgt := 39) F dX8_remedy_32 (by decide) (fun h8 => ?_) (fun h8 => ?_)
      · refine V_aload_n (pc := 39) F dX8_remedy_39 rfl 0 rfl ?_
        refine V_iload_n (pc := 40) F dX8_remedy_40 rfl 1 rfl ?_
        refine V_iload_n (pc := 41) F dX8_remedy_41 rfl 2 rfl ?_
        obtain ⟨r9, g10, hf⟩ := bind_of hf
        refine V_V (w2 := wX8 cy a r9.2) (rest := []) (st2 := [.int r9.1]) (pc := 42) F 8 (M_X8_remedyFor l D cy N a (0, v.2) x1 x2 r9 g10) (cwV 2 F.ts gX8_remedy_X8_remedyFor rfl rfl rfl hd_X8_remedyFor ⟨Nat.le_of_ble_eq_true rfl, Nat.le_of_ble_eq_true rfl⟩) rfl dX8_remedy_42 Fit.whole fstX8 rfl rfl (Nat.le_of_ble_eq_true rfl) (Nat.zero_le _) (Nat.zero_le _) rfl rfl rfl ?_
        obtain rfl := some_of hf
        exact V_ret F rfl rfl dX8_remedy_45 rfl rfl
      · exact absurd h8 (show ¬ (¬ ((0 : Int32) ≤ (0 : Int32))) by decide)
  · replace hf := ite_pos hf h3
    refine V_iconst (v := 1) (pc := 9) F dX8_remedy_9 (by decide) ?_
    refine V_goto (pc := 10) (tgt := 25) F dX8_remedy_10 (by decide) ?_
    refine V_put (w2 := wX8 cy a (1, v.2)) (pc := 25) F 0 8 0 i_X8 tyX8 tyX8_ok nmX8 rfl (by decide) rfl (mm 1 rfl) rfl dX8_remedy_25 rfl rfl rfl (Nat.le_of_ble_eq_true rfl) rfl ?_
    refine V_aload_n (pc := 28) F dX8_remedy_28 rfl 0 rfl ?_
    refine V_get (pc := 29) F 0 8 0 i_X8 rfl (by decide) rfl (mm 1 rfl) dX8_remedy_29 rfl rfl ?_
    refine V_if_le (pc := 32) (tgt := 39) F dX8_remedy_32 (by decide) (fun h11 => ?_) (fun h11 => ?_)
    · exact absurd h11 (show ¬ ((1 : Int32) ≤ (0 : Int32)) by decide)
    · refine V_iconst (v := 0) (pc := 35) F dX8_remedy_35 (by decide) ?_
      refine V_goto (pc := 36) (tgt := 45) F dX8_remedy_36 (by decide) ?_
      obtain rfl := some_of hf
      exact V_ret F rfl rfl dX8_remedy_45 rfl rfl
theorem hd_X8_doesClash : yX8_doesClash.cls = RX8 ∧ yX8_doesClash.cls ≠ "java/lang/invoke/MethodHandle" ∧ yX8_doesClash.cls ≠ "java/lang/invoke/VarHandle" ∧ (parseMethodDescriptor yX8_doesClash.desc).map (fun d => d.parameters.length) = some 1 := by decide +kernel
def fX8_doesClash_L4 (N : Nat) (v : SX8) (z1 : Int32) : Nat → Int32 → Int32 → Option (Int32)
  | 0, _, _ => none
  | n + 1, z2, z3 =>
    if 6 ≤ z3 then
      some z2
    else
      if z2 = 0 then
        (fX8_hasGreen N v z1 z3).bind fun r3 =>
          if r3 = 0 then
            fX8_doesClash_L4 N v z1 n 0 (z3 + 1)
          else
            chk ((7 : Int32) + z3) 143 (
              (fX8_greens N v z1).bind fun r7 =>
                if ((v.2.1 ((7 : Int32) + z3).toNatClampNeg) &&& r7) = 0 then
                  fX8_doesClash_L4 N v z1 n 0 (z3 + 1)
                else
                  fX8_doesClash_L4 N v z1 n 1 (z3 + 1)
            )
      else
        fX8_doesClash_L4 N v z1 n 1 (z3 + 1)
def fX8_doesClash (N : Nat) (v : SX8) (x1 : Int32) : Option (Int32) :=
  (fX8_doesClash_L4 N v x1 N 0 0).bind fun u10 =>
    must (decide (u10 = 0 ∨ u10 = 1)) (
      some u10
    )
set_option maxHeartbeats 8000000 in
set_option maxRecDepth 100000 in
theorem M_X8_doesClash (l : Launch) (D : va_G) (cy : Nat → ClassId) (N : Nat) (a : Nat → Nat) (v : SX8) (x1 : Int32) (o : Int32) (hf : fX8_doesClash N v x1 = some o) : okM l yX8_doesClash wsX8_doesClash (rmz 3 65) D cy [.ref (a 0), .int x1] (wX8 cy a v) (wX8 cy a v) (some (.int o)) := by
  refine okM_of (own := RX8) (nme := "doesClash") (cc := cX8_doesClash) (maxL := 4) (ret := (some .boolean)) (by decide) rfl rfl rfl (Nat.le_of_ble_eq_true rfl) ?_
  intro p e s m args below meth c A F
  have i_X8 : ∀ w ∈ u_ws RX8 TX8 13, w ∈ wsX8_doesClash := fun _ h => List.mem_cons_of_mem _ (List.mem_append_right _ h)
  have K4 : ∀ (n : Nat) (v : SX8) (z1 : Int32) (z2 : Int32) (z3 : Int32) (u : Int32), fX8_doesClash_L4 N v z1 n z2 z3 = some u → V p l e (rmz 3 65) s m args below meth c 4 D A 0 0 (MQ below (ok_Q D (wX8 cy a v) (some (.int o)) A) args s 0 0 A) (wX8 cy a v) [(2, .int u)] [] 53 → V p l e (rmz 3 65) s m args below meth c 4 D A 0 0 (MQ below (ok_Q D (wX8 cy a v) (some (.int o)) A) args s 0 0 A) (wX8 cy a v) [(0, .ref (a 0)), (1, .int z1), (2, .int z2), (3, .int z3)] [] 4 := by
    intro n
    induction n with
    | zero =>
      intro v z1 z2 z3 u hf hk
      exact nomatch (show (none : Option (Int32)) = some u from hf)
    | succ n ih =>
      intro v z1 z2 z3 u hf hk
      rw [fX8_doesClash_L4] at hf
      refine V_iload_n (pc := 4) F dX8_doesClash_4 rfl 3 rfl ?_
      refine V_bipush (v := 6) (pc := 5) F dX8_doesClash_5 (by decide) ?_
      refine V_icmp_ge (pc := 7) (tgt := 53) F dX8_doesClash_7 (by decide) (fun h1 => ?_) (fun h1 => ?_)
      · replace hf := ite_pos hf h1
        obtain rfl := some_of hf
        exact V.sub [2] rfl hk
      · replace hf := ite_neg hf h1
        refine V_iload_n (pc := 10) F dX8_doesClash_10 rfl 2 rfl ?_
        refine V_if_ne (pc := 11) (tgt := 41) F dX8_doesClash_11 (by decide) (fun h2 => ?_) (fun h2 => ?_)
        · replace hf := ite_neg hf h2
          refine V_iconst (v := 1) (pc := 41) F dX8_doesClash_41 (by decide) ?_
          refine V_goto (pc := 42) (tgt := 46) F dX8_doesClash_42 (by decide) ?_
          refine V_istore_n (L2 := [(2, .int 1), (0, .ref (a 0)), (1, .int z1), (3, .int z3)]) (pc := 46) F dX8_doesClash_46 rfl (by decide) rfl ?_
          refine V_iinc (v := (z3 + 1)) (L2 := [(3, .int (z3 + 1)), (2, .int 1), (0, .ref (a 0)), (1, .int z1)]) (pc := 47) F dX8_doesClash_47 3 rfl rfl (by decide) rfl ?_
          refine V_goto (pc := 50) (tgt := 4) F dX8_doesClash_50 (by decide) ?_
          refine V.sub [2, 3, 1, 0] rfl ?_
          exact ih v z1 1 (z3 + 1) _ hf hk
        · replace hf := ite_pos hf h2
          refine V_aload_n (pc := 14) F dX8_doesClash_14 rfl 0 rfl ?_
          refine V_iload_n (pc := 15) F dX8_doesClash_15 rfl 1 rfl ?_
          refine V_iload_n (pc := 16) F dX8_doesClash_16 rfl 3 rfl ?_
          obtain ⟨r3, g4, hf⟩ := bind_of hf
          refine V_V (w2 := wX8 cy a v) (rest := []) (st2 := [.int r3]) (pc := 17) F 8 (M_X8_hasGreen l D cy N a v z1 z3 r3 g4) (cwV 2 F.ts gX8_doesClash_X8_hasGreen rfl rfl rfl hd_X8_hasGreen ⟨Nat.le_of_ble_eq_true rfl, Nat.le_of_ble_eq_true rfl⟩) rfl dX8_doesClash_17 Fit.whole rfl rfl rfl (Nat.le_of_ble_eq_true rfl) (Nat.zero_le _) (Nat.zero_le _) rfl rfl rfl ?_
          refine V_if_eq (pc := 20) (tgt := 45) F dX8_doesClash_20 (by decide) (fun h5 => ?_) (fun h5 => ?_)
          · replace hf := ite_pos hf h5
            refine V_iconst (v := 0) (pc := 45) F dX8_doesClash_45 (by decide) ?_
            refine V_istore_n (L2 := [(2, .int 0), (0, .ref (a 0)), (1, .int z1), (3, .int z3)]) (pc := 46) F dX8_doesClash_46 rfl (by decide) rfl ?_
            refine V_iinc (v := (z3 + 1)) (L2 := [(3, .int (z3 + 1)), (2, .int 0), (0, .ref (a 0)), (1, .int z1)]) (pc := 47) F dX8_doesClash_47 3 rfl rfl (by decide) rfl ?_
            refine V_goto (pc := 50) (tgt := 4) F dX8_doesClash_50 (by decide) ?_
            refine V.sub [2, 3, 1, 0] rfl ?_
            exact ih v z1 0 (z3 + 1) _ hf hk
          · replace hf := ite_neg hf h5
            refine V_aload_n (pc := 23) F dX8_doesClash_23 rfl 0 rfl ?_
            refine V_get (pc := 24) F 0 8 1 i_X8 rfl (by decide) rfl (mm 1 rfl) dX8_doesClash_24 rfl rfl ?_
            refine V_bipush (v := 7) (pc := 27) F dX8_doesClash_27 (by decide) ?_
            refine V_iload_n (pc := 29) F dX8_doesClash_29 rfl 3 rfl ?_
            refine V_iadd (pc := 30) F dX8_doesClash_30 ?_
            obtain ⟨c6, hf⟩ := chk_some hf
            refine V_iald (pc := 31) F 1 rfl c6 dX8_doesClash_31 ?_
            refine V_aload_n (pc := 32) F dX8_doesClash_32 rfl 0 rfl ?_
            refine V_iload_n (pc := 33) F dX8_doesClash_33 rfl 1 rfl ?_
            obtain ⟨r7, g8, hf⟩ := bind_of hf
            refine V_V (w2 := wX8 cy a v) (rest := [.int (v.2.1 ((7 : Int32) + z3).toNatClampNeg)]) (st2 := [.int r7, .int (v.2.1 ((7 : Int32) + z3).toNatClampNeg)]) (pc := 34) F 8 (M_X8_greens l D cy N a v z1 r7 g8) (cwV 1 F.ts gX8_doesClash_X8_greens rfl rfl rfl hd_X8_greens ⟨Nat.le_of_ble_eq_true rfl, Nat.le_of_ble_eq_true rfl⟩) rfl dX8_doesClash_34 Fit.whole rfl rfl rfl (Nat.le_of_ble_eq_true rfl) (Nat.zero_le _) (Nat.zero_le _) rfl rfl rfl ?_
            refine V_iand (pc := 37) F dX8_doesClash_37 ?_
            refine V_if_eq (pc := 38) (tgt := 45) F dX8_doesClash_38 (by decide) (fun h9 => ?_) (fun h9 => ?_)
            · replace hf := ite_pos hf h9
              refine V_iconst (v := 0) (pc := 45) F dX8_doesClash_45 (by decide) ?_
              refine V_istore_n (L2 := [(2, .int 0), (0, .ref (a 0)), (1, .int z1), (3, .int z3)]) (pc := 46) F dX8_doesClash_46 rfl (by decide) rfl ?_
              refine V_iinc (v := (z3 + 1)) (L2 := [(3, .int (z3 + 1)), (2, .int 0), (0, .ref (a 0)), (1, .int z1)]) (pc := 47) F dX8_doesClash_47 3 rfl rfl (by decide) rfl ?_
              refine V_goto (pc := 50) (tgt := 4) F dX8_doesClash_50 (by decide) ?_
              refine V.sub [2, 3, 1, 0] rfl ?_
              exact ih v z1 0 (z3 + 1) _ hf hk
            · replace hf := ite_neg hf h9
              refine V_iconst (v := 1) (pc := 41) F dX8_doesClash_41 (by decide) ?_
              refine V_goto (pc := 42) (tgt := 46) F dX8_doesClash_42 (by decide) ?_
              refine V_istore_n (L2 := [(2, .int 1), (0, .ref (a 0)), (1, .int z1), (3, .int z3)]) (pc := 46) F dX8_doesClash_46 rfl (by decide) rfl ?_
              refine V_iinc (v := (z3 + 1)) (L2 := [(3, .int (z3 + 1)), (2, .int 1), (0, .ref (a 0)), (1, .int z1)]) (pc := 47) F dX8_doesClash_47 3 rfl rfl (by decide) rfl ?_
              refine V_goto (pc := 50) (tgt := 4) F dX8_doesClash_50 (by decide) ?_
              refine V.sub [2, 3, 1, 0] rfl ?_
              exact ih v z1 1 (z3 + 1) _ hf hk
  unfold fX8_doesClash at hf
  refine V.eq rfl (show lv_args 0 [.ref (a 0), .int x1] = [(0, .ref (a 0)), (1, .int x1)] from rfl) rfl ?_
  refine V_iconst (v := 0) (pc := 0) F dX8_doesClash_0 (by decide) ?_
  refine V_istore_n (L2 := [(2, .int 0), (0, .ref (a 0)), (1, .int x1)]) (pc := 1) F dX8_doesClash_1 rfl (by decide) rfl ?_
  refine V_iconst (v := 0) (pc := 2) F dX8_doesClash_2 (by decide) ?_
  refine V_istore_n (L2 := [(3, .int 0), (2, .int 0), (0, .ref (a 0)), (1, .int x1)]) (pc := 3) F dX8_doesClash_3 rfl (by decide) rfl ?_
  refine V.sub [2, 3, 1, 0] rfl ?_
  obtain ⟨u10, g11, hf⟩ := bind_of hf
  refine K4 N v x1 0 0 u10 g11 ?_
  refine V_iload_n (pc := 53) F dX8_doesClash_53 rfl 0 rfl ?_
  obtain ⟨c12, hf⟩ := must_some hf
  obtain rfl := some_of hf
  exact V_ret F rfl (nar_bool (of_decide_eq_true c12)) dX8_doesClash_54 rfl rfl
theorem hd_X8_toldPhase : yX8_toldPhase.cls = RX8 ∧ yX8_toldPhase.cls ≠ "java/lang/invoke/MethodHandle" ∧ yX8_toldPhase.cls ≠ "java/lang/invoke/VarHandle" ∧ (parseMethodDescriptor yX8_toldPhase.desc).map (fun d => d.parameters.length) = some 2 := by decide +kernel
def fX8_toldPhase (N : Nat) (v : SX8) (x1 : Int32) (x2 : Int32) : Option (Int32) :=
  if x2 = 0 then
    (fX8_greens N v x1).bind fun r2 =>
      some r2
  else
  if x2 = 1 then
    (fX8_of N v x1 1).bind fun r5 =>
      some r5
  else
  if x2 = 2 then
    (fX8_rules N v x1).bind fun r8 =>
      some r8
  else
  if x2 = 3 then
    (fX8_doesClash N v x1).bind fun r11 =>
      if r11 = 0 then
        some 0
      else
        some 1
  else
  if x2 = 4 then
    (fX8_comers N v).bind fun r15 =>
      some ((r15 >>> (x1 &&& 31)) &&& 1)
  else
  (fX8_of N v x1 2).bind fun r17 =>
    some r17
set_option maxHeartbeats 8000000 in
set_option maxRecDepth 100000 in
theorem M_X8_toldPhase (l : Launch) (D : va_G) (cy : Nat → ClassId) (N : Nat) (a : Nat → Nat) (v : SX8) (x1 : Int32) (x2 : Int32) (o : Int32) (hf : fX8_toldPhase N v x1 x2 = some o) : okM l yX8_toldPhase wsX8_toldPhase (rmz 4 88) D cy [.ref (a 0), .int x1, .int x2] (wX8 cy a v) (wX8 cy a v) (some (.int o)) := by
  refine okM_of (own := RX8) (nme := "toldPhase") (cc := cX8_toldPhase) (maxL := 3) (ret := (some .int)) (by decide) rfl rfl rfl (Nat.le_of_ble_eq_true rfl) ?_
  intro p e s m args below meth c A F
  unfold fX8_toldPhase at hf
  refine V.eq rfl (show lv_args 0 [.ref (a 0), .int x1, .int x2] = [(0, .ref (a 0)), (1, .int x1), (2, .int x2)] from rfl) rfl ?_
  refine V_iload_n (pc := 0) F dX8_toldPhase_0 rfl 2 rfl ?_
  by_cases h1 : x2 = 0
  · replace hf := ite_pos hf h1
    refine V_tableIn (pc := 1) (tgt := 36) F dX8_toldPhase_1 (by rw [h1]; decide) (by rw [h1]; decide) (by rw [h1]; rfl) (by decide) ?_
    refine V_aload_n (pc := 36) F dX8_toldPhase_36 rfl 0 rfl ?_
    refine V_iload_n (pc := 37) F dX8_toldPhase_37 rfl 1 rfl ?_
    obtain ⟨r2, g3, hf⟩ := bind_of hf
    refine V_V (w2 := wX8 cy a v) (rest := []) (st2 := [.int r2]) (pc := 38) F 8 (M_X8_greens l D cy N a v x1 r2 g3) (cwV 1 F.ts gX8_toldPhase_X8_greens rfl rfl rfl hd_X8_greens ⟨Nat.le_of_ble_eq_true rfl, Nat.le_of_ble_eq_true rfl⟩) rfl dX8_toldPhase_38 Fit.whole rfl rfl rfl (Nat.le_of_ble_eq_true rfl) (Nat.zero_le _) (Nat.zero_le _) rfl rfl rfl ?_
    obtain rfl := some_of hf
    exact V_ret F rfl rfl dX8_toldPhase_41 rfl rfl
  replace hf := ite_neg hf h1
  by_cases h4 : x2 = 1
  · replace hf := ite_pos hf h4
    refine V_tableIn (pc := 1) (tgt := 42) F dX8_toldPhase_1 (by rw [h4]; decide) (by rw [h4]; decide) (by rw [h4]; rfl) (by decide) ?_
    refine V_aload_n (pc := 42) F dX8_toldPhase_42 rfl 0 rfl ?_
    refine V_iload_n (pc := 43) F dX8_toldPhase_43 rfl 1 rfl ?_
    refine V_iconst (v := 1) (pc := 44) F dX8_toldPhase_44 (by decide) ?_
    obtain ⟨r5, g6, hf⟩ := bind_of hf
    refine V_V (w2 := wX8 cy a v) (rest := []) (st2 := [.int r5]) (pc := 45) F 8 (M_X8_of l D cy N a v x1 1 r5 g6) (cwV 2 F.ts gX8_toldPhase_X8_of rfl rfl rfl hd_X8_of ⟨Nat.le_of_ble_eq_true rfl, Nat.le_of_ble_eq_true rfl⟩) rfl dX8_toldPhase_45 Fit.whole rfl rfl rfl (Nat.le_of_ble_eq_true rfl) (Nat.zero_le _) (Nat.zero_le _) rfl rfl rfl ?_
    obtain rfl := some_of hf
    exact V_ret F rfl rfl dX8_toldPhase_48 rfl rfl
  replace hf := ite_neg hf h4
  by_cases h7 : x2 = 2
  · replace hf := ite_pos hf h7
    refine V_tableIn (pc := 1) (tgt := 49) F dX8_toldPhase_1 (by rw [h7]; decide) (by rw [h7]; decide) (by rw [h7]; rfl) (by decide) ?_
    refine V_aload_n (pc := 49) F dX8_toldPhase_49 rfl 0 rfl ?_
    refine V_iload_n (pc := 50) F dX8_toldPhase_50 rfl 1 rfl ?_
    obtain ⟨r8, g9, hf⟩ := bind_of hf
    refine V_V (w2 := wX8 cy a v) (rest := []) (st2 := [.int r8]) (pc := 51) F 8 (M_X8_rules l D cy N a v x1 r8 g9) (cwV 1 F.ts gX8_toldPhase_X8_rules rfl rfl rfl hd_X8_rules ⟨Nat.le_of_ble_eq_true rfl, Nat.le_of_ble_eq_true rfl⟩) rfl dX8_toldPhase_51 Fit.whole rfl rfl rfl (Nat.le_of_ble_eq_true rfl) (Nat.zero_le _) (Nat.zero_le _) rfl rfl rfl ?_
    obtain rfl := some_of hf
    exact V_ret F rfl rfl dX8_toldPhase_54 rfl rfl
  replace hf := ite_neg hf h7
  by_cases h10 : x2 = 3
  · replace hf := ite_pos hf h10
    refine V_tableIn (pc := 1) (tgt := 55) F dX8_toldPhase_1 (by rw [h10]; decide) (by rw [h10]; decide) (by rw [h10]; rfl) (by decide) ?_
    refine V_aload_n (pc := 55) F dX8_toldPhase_55 rfl 0 rfl ?_
    refine V_iload_n (pc := 56) F dX8_toldPhase_56 rfl 1 rfl ?_
    obtain ⟨r11, g12, hf⟩ := bind_of hf
    refine V_V (w2 := wX8 cy a v) (rest := []) (st2 := [.int r11]) (pc := 57) F 8 (M_X8_doesClash l D cy N a v x1 r11 g12) (cwV 1 F.ts gX8_toldPhase_X8_doesClash rfl rfl rfl hd_X8_doesClash ⟨Nat.le_of_ble_eq_true rfl, Nat.le_of_ble_eq_true rfl⟩) rfl dX8_toldPhase_57 Fit.whole rfl rfl rfl (Nat.le_of_ble_eq_true rfl) (Nat.zero_le _) (Nat.zero_le _) rfl rfl rfl ?_
    refine V_if_eq (pc := 60) (tgt := 67) F dX8_toldPhase_60 (by decide) (fun h13 => ?_) (fun h13 => ?_)
    · replace hf := ite_pos hf h13
      refine V_iconst (v := 0) (pc := 67) F dX8_toldPhase_67 (by decide) ?_
      obtain rfl := some_of hf
      exact V_ret F rfl rfl dX8_toldPhase_68 rfl rfl
    · replace hf := ite_neg hf h13
      refine V_iconst (v := 1) (pc := 63) F dX8_toldPhase_63 (by decide) ?_
      refine V_goto (pc := 64) (tgt := 68) F dX8_toldPhase_64 (by decide) ?_
      obtain rfl := some_of hf
      exact V_ret F rfl rfl dX8_toldPhase_68 rfl rfl
  replace hf := ite_neg hf h10
  by_cases h14 : x2 = 4
  · replace hf := ite_pos hf h14
    refine V_tableIn (pc := 1) (tgt := 69) F dX8_toldPhase_1 (by rw [h14]; decide) (by rw [h14]; decide) (by rw [h14]; rfl) (by decide) ?_
    refine V_aload_n (pc := 69) F dX8_toldPhase_69 rfl 0 rfl ?_
    obtain ⟨r15, g16, hf⟩ := bind_of hf
    refine V_V (w2 := wX8 cy a v) (rest := []) (st2 := [.int r15]) (pc := 70) F 8 (M_X8_comers l D cy N a v r15 g16) (cwV 0 F.ts gX8_toldPhase_X8_comers rfl rfl rfl hd_X8_comers ⟨Nat.le_of_ble_eq_true rfl, Nat.le_of_ble_eq_true rfl⟩) rfl dX8_toldPhase_70 Fit.whole rfl rfl rfl (Nat.le_of_ble_eq_true rfl) (Nat.zero_le _) (Nat.zero_le _) rfl rfl rfl ?_
    refine V_iload_n (pc := 73) F dX8_toldPhase_73 rfl 1 rfl ?_
    refine V_ishr (pc := 74) F dX8_toldPhase_74 ?_
    refine V_iconst (v := 1) (pc := 75) F dX8_toldPhase_75 (by decide) ?_
    refine V_iand (pc := 76) F dX8_toldPhase_76 ?_
    obtain rfl := some_of hf
    exact V_ret F rfl rfl dX8_toldPhase_77 rfl rfl
  replace hf := ite_neg hf h14
  refine V_tableOut (pc := 1) (tgt := 78) F dX8_toldPhase_1 (by have q0 := lv_neT h1 (a := 0) rfl; have q1 := lv_neT h4 (a := 1) rfl; have q2 := lv_neT h7 (a := 2) rfl; have q3 := lv_neT h10 (a := 3) rfl; have q4 := lv_neT h14 (a := 4) rfl; omega) (by decide) ?_
  refine V_aload_n (pc := 78) F dX8_toldPhase_78 rfl 0 rfl ?_
  refine V_iload_n (pc := 79) F dX8_toldPhase_79 rfl 1 rfl ?_
  refine V_iconst (v := 2) (pc := 80) F dX8_toldPhase_80 (by decide) ?_
  obtain ⟨r17, g18, hf⟩ := bind_of hf
  refine V_V (w2 := wX8 cy a v) (rest := []) (st2 := [.int r17]) (pc := 81) F 8 (M_X8_of l D cy N a v x1 2 r17 g18) (cwV 2 F.ts gX8_toldPhase_X8_of rfl rfl rfl hd_X8_of ⟨Nat.le_of_ble_eq_true rfl, Nat.le_of_ble_eq_true rfl⟩) rfl dX8_toldPhase_81 Fit.whole rfl rfl rfl (Nat.le_of_ble_eq_true rfl) (Nat.zero_le _) (Nat.zero_le _) rfl rfl rfl ?_
  obtain rfl := some_of hf
  exact V_ret F rfl rfl dX8_toldPhase_84 rfl rfl
theorem hd_X8_phase : yX8_phase.cls = RX8 ∧ yX8_phase.cls ≠ "java/lang/invoke/MethodHandle" ∧ yX8_phase.cls ≠ "java/lang/invoke/VarHandle" ∧ (parseMethodDescriptor yX8_phase.desc).map (fun d => d.parameters.length) = some 2 := by decide +kernel
def fX8_phase (N : Nat) (v : SX8) (x1 : Int32) (x2 : Int32) : Option (Int32 × SX8) :=
  (fX8_isPhase N v x1).bind fun r1 =>
    if r1 = 0 then
      some (0, (1, v.2))
    else
      (fX8_in N x2 0 5).bind fun r4 =>
        if r4 = 0 then
          some (0, (2, v.2))
        else
          (fX8_toldPhase N (0, v.2) x1 x2).bind fun r9 =>
            some (r9, (0, v.2))
set_option maxHeartbeats 8000000 in
set_option maxRecDepth 100000 in
theorem M_X8_phase (l : Launch) (D : va_G) (cy : Nat → ClassId) (N : Nat) (a : Nat → Nat) (v : SX8) (x1 : Int32) (x2 : Int32) (o : Int32 × SX8) (hf : fX8_phase N v x1 x2 = some o) : okM l yX8_phase wsX8_phase (rmz 5 110) D cy [.ref (a 0), .int x1, .int x2] (wX8 cy a v) (wX8 cy a o.2) (some (.int o.1)) := by
  refine okM_of (own := RX8) (nme := "phase") (cc := cX8_phase) (maxL := 3) (ret := (some .int)) (by decide) rfl rfl rfl (Nat.le_of_ble_eq_true rfl) ?_
  intro p e s m args below meth c A F
  have i_X8 : ∀ w ∈ u_ws RX8 TX8 13, w ∈ wsX8_phase := fun _ h => List.mem_cons_of_mem _ (List.mem_append_right _ h)
  unfold fX8_phase at hf
  refine V.eq rfl (show lv_args 0 [.ref (a 0), .int x1, .int x2] = [(0, .ref (a 0)), (1, .int x1), (2, .int x2)] from rfl) rfl ?_
  refine V_aload_n (pc := 0) F dX8_phase_0 rfl 0 rfl ?_
  refine V_aload_n (pc := 1) F dX8_phase_1 rfl 0 rfl ?_
  refine V_iload_n (pc := 2) F dX8_phase_2 rfl 1 rfl ?_
  obtain ⟨r1, g2, hf⟩ := bind_of hf
  refine V_V (w2 := wX8 cy a v) (rest := [.ref (a 0)]) (st2 := [.int r1, .ref (a 0)]) (pc := 3) F 8 (M_X8_isPhase l D cy N a v x1 r1 g2) (cwV 1 F.ts gX8_phase_X8_isPhase rfl rfl rfl hd_X8_isPhase ⟨Nat.le_of_ble_eq_true rfl, Nat.le_of_ble_eq_true rfl⟩) rfl dX8_phase_3 Fit.whole rfl rfl rfl (Nat.le_of_ble_eq_true rfl) (Nat.zero_le _) (Nat.zero_le _) rfl rfl rfl ?_
  refine V_if_ne (pc := 6) (tgt := 13) F dX8_phase_6 (by decide) (fun h3 => ?_) (fun h3 => ?_)
  · replace hf := ite_neg hf h3
    refine V_iload_n (pc := 13) F dX8_phase_13 rfl 2 rfl ?_
    refine V_iconst (v := 0) (pc := 14) F dX8_phase_14 (by decide) ?_
    refine V_iconst (v := 5) (pc := 15) F dX8_phase_15 (by decide) ?_
    obtain ⟨r4, g5, hf⟩ := bind_of hf
    refine V_Sc (rest := [.ref (a 0)]) (st2 := [.int r4, .ref (a 0)]) (pc := 16) F (M_X8_in l D cy N x2 0 5 r4 g5) (va_cwS 3 F.ts gX8_phase_X8_in rfl rfl rfl hd_X8_in ⟨Nat.le_of_ble_eq_true rfl, Nat.le_of_ble_eq_true rfl⟩) rfl dX8_phase_16 (Nat.le_of_ble_eq_true rfl) (Nat.zero_le _) (Nat.zero_le _) rfl rfl ?_
    refine V_if_eq (pc := 19) (tgt := 26) F dX8_phase_19 (by decide) (fun h6 => ?_) (fun h6 => ?_)
    · replace hf := ite_pos hf h6
      refine V_iconst (v := 2) (pc := 26) F dX8_phase_26 (by decide) ?_
      refine V_put (w2 := wX8 cy a (2, v.2)) (pc := 27) F 0 8 0 i_X8 tyX8 tyX8_ok nmX8 rfl (by decide) rfl (mm 1 rfl) rfl dX8_phase_27 rfl rfl rfl (Nat.le_of_ble_eq_true rfl) rfl ?_
      refine V_aload_n (pc := 30) F dX8_phase_30 rfl 0 rfl ?_
      refine V_get (pc := 31) F 0 8 0 i_X8 rfl (by decide) rfl (mm 1 rfl) dX8_phase_31 rfl rfl ?_
      refine V_if_le (pc := 34) (tgt := 41) F dX8_phase_34 (by decide) (fun h7 => ?_) (fun h7 => ?_)
      · exact absurd h7 (show ¬ ((2 : Int32) ≤ (0 : Int32)) by decide)
      · refine V_iconst (v := 0) (pc := 37) F dX8_phase_37 (by decide) ?_
        refine V_goto (pc := 38) (tgt := 47) F dX8_phase_38 (by decide) ?_
        obtain rfl := some_of hf
        exact V_ret F rfl rfl dX8_phase_47 rfl rfl
    · replace hf := ite_neg hf h6
      refine V_iconst (v := 0) (pc := 22) F dX8_phase_22 (by decide) ?_
      refine V_goto (pc := 23) (tgt := 27) F dX8_phase_23 (by decide) ?_
      refine V_put (w2 := wX8 cy a (0, v.2)) (pc := 27) F 0 8 0 i_X8 tyX8 tyX8_ok nmX8 rfl (by decide) rfl (mm 1 rfl) rfl dX8_phase_27 rfl rfl rfl (Nat.le_of_ble_eq_true rfl) rfl ?_
      refine V_aload_n (pc := 30) F dX8_phase_30 rfl 0 rfl ?_
      refine V_get (pc := 31) F 0 8 0 i_X8 rfl (by decide) rfl (mm 1 rfl) dX8_phase_31 rfl rfl ?_
      refine V_if_le (pc := 34) (tgt := 41) F dX8_phase_34 (by decide) (fun h8 => ?_) (fun h8 => ?_)
      · refine V_aload_n (pc := 41) F dX8_phase_41 rfl 0 rfl ?_
        refine V_iload_n (pc := 42) F dX8_phase_42 rfl 1 rfl ?_
        refine V_iload_n (pc := 43) F dX8_phase_43 rfl 2 rfl ?_
        obtain ⟨r9, g10, hf⟩ := bind_of hf
        refine V_V (w2 := wX8 cy a (0, v.2)) (rest := []) (st2 := [.int r9]) (pc := 44) F 8 (M_X8_toldPhase l D cy N a (0, v.2) x1 x2 r9 g10) (cwV 2 F.ts gX8_phase_X8_toldPhase rfl rfl rfl hd_X8_toldPhase ⟨Nat.le_of_ble_eq_true rfl, Nat.le_of_ble_eq_true rfl⟩) rfl dX8_phase_44 Fit.whole rfl rfl rfl (Nat.le_of_ble_eq_true rfl) (Nat.zero_le _) (Nat.zero_le _) rfl rfl rfl ?_
        obtain rfl := some_of hf
        exact V_ret F rfl rfl dX8_phase_47 rfl rfl
      · exact absurd h8 (show ¬ (¬ ((0 : Int32) ≤ (0 : Int32))) by decide)
  · replace hf := ite_pos hf h3
    refine V_iconst (v := 1) (pc := 9) F dX8_phase_9 (by decide) ?_
    refine V_goto (pc := 10) (tgt := 27) F dX8_phase_10 (by decide) ?_
    refine V_put (w2 := wX8 cy a (1, v.2)) (pc := 27) F 0 8 0 i_X8 tyX8 tyX8_ok nmX8 rfl (by decide) rfl (mm 1 rfl) rfl dX8_phase_27 rfl rfl rfl (Nat.le_of_ble_eq_true rfl) rfl ?_
    refine V_aload_n (pc := 30) F dX8_phase_30 rfl 0 rfl ?_
    refine V_get (pc := 31) F 0 8 0 i_X8 rfl (by decide) rfl (mm 1 rfl) dX8_phase_31 rfl rfl ?_
    refine V_if_le (pc := 34) (tgt := 41) F dX8_phase_34 (by decide) (fun h11 => ?_) (fun h11 => ?_)
    · exact absurd h11 (show ¬ ((1 : Int32) ≤ (0 : Int32)) by decide)
    · refine V_iconst (v := 0) (pc := 37) F dX8_phase_37 (by decide) ?_
      refine V_goto (pc := 38) (tgt := 47) F dX8_phase_38 (by decide) ?_
      obtain rfl := some_of hf
      exact V_ret F rfl rfl dX8_phase_47 rfl rfl
theorem hd_X8_toldRule : yX8_toldRule.cls = RX8 ∧ yX8_toldRule.cls ≠ "java/lang/invoke/MethodHandle" ∧ yX8_toldRule.cls ≠ "java/lang/invoke/VarHandle" ∧ (parseMethodDescriptor yX8_toldRule.desc).map (fun d => d.parameters.length) = some 3 := by decide +kernel
def fX8_toldRule (N : Nat) (v : SX8) (x1 : Int32) (x2 : Int32) (x3 : Int32) : Option (Int32) :=
  if x3 = 0 then
    (fX8_goal N v x1 x2).bind fun r8 =>
      some r8
  else
    if x3 = 1 then
      (fX8_askers N v x1 x2).bind fun r6 =>
        some r6
    else
      (fX8_holds N v x1 x2).bind fun r3 =>
        if r3 = 0 then
          some 0
        else
          some 1
set_option maxHeartbeats 8000000 in
set_option maxRecDepth 100000 in
theorem M_X8_toldRule (l : Launch) (D : va_G) (cy : Nat → ClassId) (N : Nat) (a : Nat → Nat) (v : SX8) (x1 : Int32) (x2 : Int32) (x3 : Int32) (o : Int32) (hf : fX8_toldRule N v x1 x2 x3 = some o) : okM l yX8_toldRule wsX8_toldRule (rmz 3 66) D cy [.ref (a 0), .int x1, .int x2, .int x3] (wX8 cy a v) (wX8 cy a v) (some (.int o)) := by
  refine okM_of (own := RX8) (nme := "toldRule") (cc := cX8_toldRule) (maxL := 4) (ret := (some .int)) (by decide) rfl rfl rfl (Nat.le_of_ble_eq_true rfl) ?_
  intro p e s m args below meth c A F
  unfold fX8_toldRule at hf
  refine V.eq rfl (show lv_args 0 [.ref (a 0), .int x1, .int x2, .int x3] = [(0, .ref (a 0)), (1, .int x1), (2, .int x2), (3, .int x3)] from rfl) rfl ?_
  refine V_iload_n (pc := 0) F dX8_toldRule_0 rfl 3 rfl ?_
  refine V_if_ne (pc := 1) (tgt := 13) F dX8_toldRule_1 (by decide) (fun h1 => ?_) (fun h1 => ?_)
  · replace hf := ite_neg hf h1
    refine V_iload_n (pc := 13) F dX8_toldRule_13 rfl 3 rfl ?_
    refine V_iconst (v := 1) (pc := 14) F dX8_toldRule_14 (by decide) ?_
    refine V_icmp_ne (pc := 15) (tgt := 27) F dX8_toldRule_15 (by decide) (fun h2 => ?_) (fun h2 => ?_)
    · replace hf := ite_neg hf h2
      refine V_aload_n (pc := 27) F dX8_toldRule_27 rfl 0 rfl ?_
      refine V_iload_n (pc := 28) F dX8_toldRule_28 rfl 1 rfl ?_
      refine V_iload_n (pc := 29) F dX8_toldRule_29 rfl 2 rfl ?_
      obtain ⟨r3, g4, hf⟩ := bind_of hf
      refine V_V (w2 := wX8 cy a v) (rest := []) (st2 := [.int r3]) (pc := 30) F 8 (M_X8_holds l D cy N a v x1 x2 r3 g4) (cwV 2 F.ts gX8_toldRule_X8_holds rfl rfl rfl hd_X8_holds ⟨Nat.le_of_ble_eq_true rfl, Nat.le_of_ble_eq_true rfl⟩) rfl dX8_toldRule_30 Fit.whole rfl rfl rfl (Nat.le_of_ble_eq_true rfl) (Nat.zero_le _) (Nat.zero_le _) rfl rfl rfl ?_
      refine V_if_eq (pc := 33) (tgt := 40) F dX8_toldRule_33 (by decide) (fun h5 => ?_) (fun h5 => ?_)
      · replace hf := ite_pos hf h5
        refine V_iconst (v := 0) (pc := 40) F dX8_toldRule_40 (by decide) ?_
        obtain rfl := some_of hf
        exact V_ret F rfl rfl dX8_toldRule_41 rfl rfl
      · replace hf := ite_neg hf h5
        refine V_iconst (v := 1) (pc := 36) F dX8_toldRule_36 (by decide) ?_
        refine V_goto (pc := 37) (tgt := 41) F dX8_toldRule_37 (by decide) ?_
        obtain rfl := some_of hf
        exact V_ret F rfl rfl dX8_toldRule_41 rfl rfl
    · replace hf := ite_pos hf h2
      refine V_aload_n (pc := 18) F dX8_toldRule_18 rfl 0 rfl ?_
      refine V_iload_n (pc := 19) F dX8_toldRule_19 rfl 1 rfl ?_
      refine V_iload_n (pc := 20) F dX8_toldRule_20 rfl 2 rfl ?_
      obtain ⟨r6, g7, hf⟩ := bind_of hf
      refine V_V (w2 := wX8 cy a v) (rest := []) (st2 := [.int r6]) (pc := 21) F 8 (M_X8_askers l D cy N a v x1 x2 r6 g7) (cwV 2 F.ts gX8_toldRule_X8_askers rfl rfl rfl hd_X8_askers ⟨Nat.le_of_ble_eq_true rfl, Nat.le_of_ble_eq_true rfl⟩) rfl dX8_toldRule_21 Fit.whole rfl rfl rfl (Nat.le_of_ble_eq_true rfl) (Nat.zero_le _) (Nat.zero_le _) rfl rfl rfl ?_
      refine V_goto (pc := 24) (tgt := 41) F dX8_toldRule_24 (by decide) ?_
      obtain rfl := some_of hf
      exact V_ret F rfl rfl dX8_toldRule_41 rfl rfl
  · replace hf := ite_pos hf h1
    refine V_aload_n (pc := 4) F dX8_toldRule_4 rfl 0 rfl ?_
    refine V_iload_n (pc := 5) F dX8_toldRule_5 rfl 1 rfl ?_
    refine V_iload_n (pc := 6) F dX8_toldRule_6 rfl 2 rfl ?_
    obtain ⟨r8, g9, hf⟩ := bind_of hf
    refine V_V (w2 := wX8 cy a v) (rest := []) (st2 := [.int r8]) (pc := 7) F 8 (M_X8_goal l D cy N a v x1 x2 r8 g9) (cwV 2 F.ts gX8_toldRule_X8_goal rfl rfl rfl hd_X8_goal ⟨Nat.le_of_ble_eq_true rfl, Nat.le_of_ble_eq_true rfl⟩) rfl dX8_toldRule_7 Fit.whole rfl rfl rfl (Nat.le_of_ble_eq_true rfl) (Nat.zero_le _) (Nat.zero_le _) rfl rfl rfl ?_
    refine V_goto (pc := 10) (tgt := 41) F dX8_toldRule_10 (by decide) ?_
    obtain rfl := some_of hf
    exact V_ret F rfl rfl dX8_toldRule_41 rfl rfl
theorem hd_X8_rule : yX8_rule.cls = RX8 ∧ yX8_rule.cls ≠ "java/lang/invoke/MethodHandle" ∧ yX8_rule.cls ≠ "java/lang/invoke/VarHandle" ∧ (parseMethodDescriptor yX8_rule.desc).map (fun d => d.parameters.length) = some 3 := by decide +kernel
def fX8_rule (N : Nat) (v : SX8) (x1 : Int32) (x2 : Int32) (x3 : Int32) : Option (Int32 × SX8) :=
  (fX8_isPhase N v x1).bind fun r1 =>
    if r1 = 0 then
      some (0, (1, v.2))
    else
      (fX8_rules N v x1).bind fun r5 =>
        (fX8_in N x2 0 (r5 - 1)).bind fun r7 =>
          if r7 = 0 then
            some (0, (1, v.2))
          else
            (fX8_in N x3 0 2).bind fun r10 =>
              if r10 = 0 then
                some (0, (2, v.2))
              else
                (fX8_toldRule N (0, v.2) x1 x2 x3).bind fun r15 =>
                  some (r15, (0, v.2))
set_option maxHeartbeats 8000000 in
set_option maxRecDepth 100000 in
theorem M_X8_rule (l : Launch) (D : va_G) (cy : Nat → ClassId) (N : Nat) (a : Nat → Nat) (v : SX8) (x1 : Int32) (x2 : Int32) (x3 : Int32) (o : Int32 × SX8) (hf : fX8_rule N v x1 x2 x3 = some o) : okM l yX8_rule wsX8_rule (rmz 4 89) D cy [.ref (a 0), .int x1, .int x2, .int x3] (wX8 cy a v) (wX8 cy a o.2) (some (.int o.1)) := by
  refine okM_of (own := RX8) (nme := "rule") (cc := cX8_rule) (maxL := 4) (ret := (some .int)) (by decide) rfl rfl rfl (Nat.le_of_ble_eq_true rfl) ?_
  intro p e s m args below meth c A F
  have i_X8 : ∀ w ∈ u_ws RX8 TX8 13, w ∈ wsX8_rule := fun _ h => List.mem_cons_of_mem _ (List.mem_append_right _ h)
  unfold fX8_rule at hf
  refine V.eq rfl (show lv_args 0 [.ref (a 0), .int x1, .int x2, .int x3] = [(0, .ref (a 0)), (1, .int x1), (2, .int x2), (3, .int x3)] from rfl) rfl ?_
  refine V_aload_n (pc := 0) F dX8_rule_0 rfl 0 rfl ?_
  refine V_aload_n (pc := 1) F dX8_rule_1 rfl 0 rfl ?_
  refine V_iload_n (pc := 2) F dX8_rule_2 rfl 1 rfl ?_
  obtain ⟨r1, g2, hf⟩ := bind_of hf
  refine V_V (w2 := wX8 cy a v) (rest := [.ref (a 0)]) (st2 := [.int r1, .ref (a 0)]) (pc := 3) F 8 (M_X8_isPhase l D cy N a v x1 r1 g2) (cwV 1 F.ts gX8_rule_X8_isPhase rfl rfl rfl hd_X8_isPhase ⟨Nat.le_of_ble_eq_true rfl, Nat.le_of_ble_eq_true rfl⟩) rfl dX8_rule_3 Fit.whole rfl rfl rfl (Nat.le_of_ble_eq_true rfl) (Nat.zero_le _) (Nat.zero_le _) rfl rfl rfl ?_
  refine V_if_eq (pc := 6) (tgt := 24) F dX8_rule_6 (by decide) (fun h3 => ?_) (fun h3 => ?_)
  · replace hf := ite_pos hf h3
    refine V_iconst (v := 1) (pc := 24) F dX8_rule_24 (by decide) ?_
    refine V_goto (pc := 25) (tgt := 42) F dX8_rule_25 (by decide) ?_
    refine V_put (w2 := wX8 cy a (1, v.2)) (pc := 42) F 0 8 0 i_X8 tyX8 tyX8_ok nmX8 rfl (by decide) rfl (mm 1 rfl) rfl dX8_rule_42 rfl rfl rfl (Nat.le_of_ble_eq_true rfl) rfl ?_
    refine V_aload_n (pc := 45) F dX8_rule_45 rfl 0 rfl ?_
    refine V_get (pc := 46) F 0 8 0 i_X8 rfl (by decide) rfl (mm 1 rfl) dX8_rule_46 rfl rfl ?_
    refine V_if_le (pc := 49) (tgt := 56) F dX8_rule_49 (by decide) (fun h4 => ?_) (fun h4 => ?_)
    · exact absurd h4 (show ¬ ((1 : Int32) ≤ (0 : Int32)) by decide)
    · refine V_iconst (v := 0) (pc := 52) F dX8_rule_52 (by decide) ?_
      refine V_goto (pc := 53) (tgt := 63) F dX8_rule_53 (by decide) ?_
      obtain rfl := some_of hf
      exact V_ret F rfl rfl dX8_rule_63 rfl rfl
  · replace hf := ite_neg hf h3
    refine V_iload_n (pc := 9) F dX8_rule_9 rfl 2 rfl ?_
    refine V_iconst (v := 0) (pc := 10) F dX8_rule_10 (by decide) ?_
    refine V_aload_n (pc := 11) F dX8_rule_11 rfl 0 rfl ?_
    refine V_iload_n (pc := 12) F dX8_rule_12 rfl 1 rfl ?_
    obtain ⟨r5, g6, hf⟩ := bind_of hf
    refine V_V (w2 := wX8 cy a v) (rest := [.int 0, .int x2, .ref (a 0)]) (st2 := [.int r5, .int 0, .int x2, .ref (a 0)]) (pc := 13) F 8 (M_X8_rules l D cy N a v x1 r5 g6) (cwV 1 F.ts gX8_rule_X8_rules rfl rfl rfl hd_X8_rules ⟨Nat.le_of_ble_eq_true rfl, Nat.le_of_ble_eq_true rfl⟩) rfl dX8_rule_13 Fit.whole rfl rfl rfl (Nat.le_of_ble_eq_true rfl) (Nat.zero_le _) (Nat.zero_le _) rfl rfl rfl ?_
    refine V_iconst (v := 1) (pc := 16) F dX8_rule_16 (by decide) ?_
    refine V_isub (pc := 17) F dX8_rule_17 ?_
    obtain ⟨r7, g8, hf⟩ := bind_of hf
    refine V_Sc (rest := [.ref (a 0)]) (st2 := [.int r7, .ref (a 0)]) (pc := 18) F (M_X8_in l D cy N x2 0 (r5 - 1) r7 g8) (va_cwS 3 F.ts gX8_rule_X8_in rfl rfl rfl hd_X8_in ⟨Nat.le_of_ble_eq_true rfl, Nat.le_of_ble_eq_true rfl⟩) rfl dX8_rule_18 (Nat.le_of_ble_eq_true rfl) (Nat.zero_le _) (Nat.zero_le _) rfl rfl ?_
    refine V_if_ne (pc := 21) (tgt := 28) F dX8_rule_21 (by decide) (fun h9 => ?_) (fun h9 => ?_)
    · replace hf := ite_neg hf h9
      refine V_iload_n (pc := 28) F dX8_rule_28 rfl 3 rfl ?_
      refine V_iconst (v := 0) (pc := 29) F dX8_rule_29 (by decide) ?_
      refine V_iconst (v := 2) (pc := 30) F dX8_rule_30 (by decide) ?_
      obtain ⟨r10, g11, hf⟩ := bind_of hf
      refine V_Sc (rest := [.ref (a 0)]) (st2 := [.int r10, .ref (a 0)]) (pc := 31) F (M_X8_in l D cy N x3 0 2 r10 g11) (va_cwS 3 F.ts gX8_rule_X8_in rfl rfl rfl hd_X8_in ⟨Nat.le_of_ble_eq_true rfl, Nat.le_of_ble_eq_true rfl⟩) rfl dX8_rule_31 (Nat.le_of_ble_eq_true rfl) (Nat.zero_le _) (Nat.zero_le _) rfl rfl ?_
      refine V_if_eq (pc := 34) (tgt := 41) F dX8_rule_34 (by decide) (fun h12 => ?_) (fun h12 => ?_)
      · replace hf := ite_pos hf h12
        refine V_iconst (v := 2) (pc := 41) F dX8_rule_41 (by decide) ?_
        refine V_put (w2 := wX8 cy a (2, v.2)) (pc := 42) F 0 8 0 i_X8 tyX8 tyX8_ok nmX8 rfl (by decide) rfl (mm 1 rfl) rfl dX8_rule_42 rfl rfl rfl (Nat.le_of_ble_eq_true rfl) rfl ?_
        refine V_aload_n (pc := 45) F dX8_rule_45 rfl 0 rfl ?_
        refine V_get (pc := 46) F 0 8 0 i_X8 rfl (by decide) rfl (mm 1 rfl) dX8_rule_46 rfl rfl ?_
        refine V_if_le (pc := 49) (tgt := 56) F dX8_rule_49 (by decide) (fun h13 => ?_) (fun h13 => ?_)
        · exact absurd h13 (show ¬ ((2 : Int32) ≤ (0 : Int32)) by decide)
        · refine V_iconst (v := 0) (pc := 52) F dX8_rule_52 (by decide) ?_
          refine V_goto (pc := 53) (tgt := 63) F dX8_rule_53 (by decide) ?_
          obtain rfl := some_of hf
          exact V_ret F rfl rfl dX8_rule_63 rfl rfl
      · replace hf := ite_neg hf h12
        refine V_iconst (v := 0) (pc := 37) F dX8_rule_37 (by decide) ?_
        refine V_goto (pc := 38) (tgt := 42) F dX8_rule_38 (by decide) ?_
        refine V_put (w2 := wX8 cy a (0, v.2)) (pc := 42) F 0 8 0 i_X8 tyX8 tyX8_ok nmX8 rfl (by decide) rfl (mm 1 rfl) rfl dX8_rule_42 rfl rfl rfl (Nat.le_of_ble_eq_true rfl) rfl ?_
        refine V_aload_n (pc := 45) F dX8_rule_45 rfl 0 rfl ?_
        refine V_get (pc := 46) F 0 8 0 i_X8 rfl (by decide) rfl (mm 1 rfl) dX8_rule_46 rfl rfl ?_
        refine V_if_le (pc := 49) (tgt := 56) F dX8_rule_49 (by decide) (fun h14 => ?_) (fun h14 => ?_)
        · refine V_aload_n (pc := 56) F dX8_rule_56 rfl 0 rfl ?_
          refine V_iload_n (pc := 57) F dX8_rule_57 rfl 1 rfl ?_
          refine V_iload_n (pc := 58) F dX8_rule_58 rfl 2 rfl ?_
          refine V_iload_n (pc := 59) F dX8_rule_59 rfl 3 rfl ?_
          obtain ⟨r15, g16, hf⟩ := bind_of hf
          refine V_V (w2 := wX8 cy a (0, v.2)) (rest := []) (st2 := [.int r15]) (pc := 60) F 8 (M_X8_toldRule l D cy N a (0, v.2) x1 x2 x3 r15 g16) (cwV 3 F.ts gX8_rule_X8_toldRule rfl rfl rfl hd_X8_toldRule ⟨Nat.le_of_ble_eq_true rfl, Nat.le_of_ble_eq_true rfl⟩) rfl dX8_rule_60 Fit.whole rfl rfl rfl (Nat.le_of_ble_eq_true rfl) (Nat.zero_le _) (Nat.zero_le _) rfl rfl rfl ?_
          obtain rfl := some_of hf
          exact V_ret F rfl rfl dX8_rule_63 rfl rfl
        · exact absurd h14 (show ¬ (¬ ((0 : Int32) ≤ (0 : Int32))) by decide)
    · replace hf := ite_pos hf h9
      refine V_iconst (v := 1) (pc := 24) F dX8_rule_24 (by decide) ?_
      refine V_goto (pc := 25) (tgt := 42) F dX8_rule_25 (by decide) ?_
      refine V_put (w2 := wX8 cy a (1, v.2)) (pc := 42) F 0 8 0 i_X8 tyX8 tyX8_ok nmX8 rfl (by decide) rfl (mm 1 rfl) rfl dX8_rule_42 rfl rfl rfl (Nat.le_of_ble_eq_true rfl) rfl ?_
      refine V_aload_n (pc := 45) F dX8_rule_45 rfl 0 rfl ?_
      refine V_get (pc := 46) F 0 8 0 i_X8 rfl (by decide) rfl (mm 1 rfl) dX8_rule_46 rfl rfl ?_
      refine V_if_le (pc := 49) (tgt := 56) F dX8_rule_49 (by decide) (fun h17 => ?_) (fun h17 => ?_)
      · exact absurd h17 (show ¬ ((1 : Int32) ≤ (0 : Int32)) by decide)
      · refine V_iconst (v := 0) (pc := 52) F dX8_rule_52 (by decide) ?_
        refine V_goto (pc := 53) (tgt := 63) F dX8_rule_53 (by decide) ?_
        obtain rfl := some_of hf
        exact V_ret F rfl rfl dX8_rule_63 rfl rfl
theorem hd_X8_phasesWith : yX8_phasesWith.cls = RX8 ∧ yX8_phasesWith.cls ≠ "java/lang/invoke/MethodHandle" ∧ yX8_phasesWith.cls ≠ "java/lang/invoke/VarHandle" ∧ (parseMethodDescriptor yX8_phasesWith.desc).map (fun d => d.parameters.length) = some 1 := by decide +kernel
def fX8_phasesWith_L4 (N : Nat) (v : SX8) (z1 : Int32) : Nat → Int32 → Int32 → Option (Int32)
  | 0, _, _ => none
  | n + 1, z2, z3 =>
    chk 0 143 (
      if (v.2.1 (0 : Int32).toNatClampNeg) ≤ z3 then
        some z2
      else
        (fX8_hasGreen N v z3 z1).bind fun r3 =>
          if r3 = 0 then
            fX8_phasesWith_L4 N v z1 n (z2 ||| 0) (z3 + 1)
          else
            fX8_phasesWith_L4 N v z1 n (z2 ||| ((1 : Int32) <<< (z3 &&& 31))) (z3 + 1)
    )
def fX8_phasesWith (N : Nat) (v : SX8) (x1 : Int32) : Option (Int32) :=
  (fX8_phasesWith_L4 N v x1 N 0 0).bind fun u6 =>
    some u6
set_option maxHeartbeats 8000000 in
set_option maxRecDepth 100000 in
theorem M_X8_phasesWith (l : Launch) (D : va_G) (cy : Nat → ClassId) (N : Nat) (a : Nat → Nat) (v : SX8) (x1 : Int32) (o : Int32) (hf : fX8_phasesWith N v x1 = some o) : okM l yX8_phasesWith wsX8_phasesWith (rmz 3 65) D cy [.ref (a 0), .int x1] (wX8 cy a v) (wX8 cy a v) (some (.int o)) := by
  refine okM_of (own := RX8) (nme := "phasesWith") (cc := cX8_phasesWith) (maxL := 4) (ret := (some .int)) (by decide) rfl rfl rfl (Nat.le_of_ble_eq_true rfl) ?_
  intro p e s m args below meth c A F
  have i_X8 : ∀ w ∈ u_ws RX8 TX8 13, w ∈ wsX8_phasesWith := fun _ h => List.mem_cons_of_mem _ (List.mem_append_right _ h)
  have K4 : ∀ (n : Nat) (v : SX8) (z1 : Int32) (z2 : Int32) (z3 : Int32) (u : Int32), fX8_phasesWith_L4 N v z1 n z2 z3 = some u → V p l e (rmz 3 65) s m args below meth c 4 D A 0 0 (MQ below (ok_Q D (wX8 cy a v) (some (.int o)) A) args s 0 0 A) (wX8 cy a v) [(2, .int u)] [] 39 → V p l e (rmz 3 65) s m args below meth c 4 D A 0 0 (MQ below (ok_Q D (wX8 cy a v) (some (.int o)) A) args s 0 0 A) (wX8 cy a v) [(0, .ref (a 0)), (1, .int z1), (2, .int z2), (3, .int z3)] [] 4 := by
    intro n
    induction n with
    | zero =>
      intro v z1 z2 z3 u hf hk
      exact nomatch (show (none : Option (Int32)) = some u from hf)
    | succ n ih =>
      intro v z1 z2 z3 u hf hk
      rw [fX8_phasesWith_L4] at hf
      refine V_iload_n (pc := 4) F dX8_phasesWith_4 rfl 3 rfl ?_
      refine V_aload_n (pc := 5) F dX8_phasesWith_5 rfl 0 rfl ?_
      refine V_get (pc := 6) F 0 8 1 i_X8 rfl (by decide) rfl (mm 1 rfl) dX8_phasesWith_6 rfl rfl ?_
      refine V_iconst (v := 0) (pc := 9) F dX8_phasesWith_9 (by decide) ?_
      obtain ⟨c1, hf⟩ := chk_some hf
      refine V_iald (pc := 10) F 1 rfl c1 dX8_phasesWith_10 ?_
      refine V_icmp_ge (pc := 11) (tgt := 39) F dX8_phasesWith_11 (by decide) (fun h2 => ?_) (fun h2 => ?_)
      · replace hf := ite_pos hf h2
        obtain rfl := some_of hf
        exact V.sub [2] rfl hk
      · replace hf := ite_neg hf h2
        refine V_iload_n (pc := 14) F dX8_phasesWith_14 rfl 2 rfl ?_
        refine V_aload_n (pc := 15) F dX8_phasesWith_15 rfl 0 rfl ?_
        refine V_iload_n (pc := 16) F dX8_phasesWith_16 rfl 3 rfl ?_
        refine V_iload_n (pc := 17) F dX8_phasesWith_17 rfl 1 rfl ?_
        obtain ⟨r3, g4, hf⟩ := bind_of hf
        refine V_V (w2 := wX8 cy a v) (rest := [.int z2]) (st2 := [.int r3, .int z2]) (pc := 18) F 8 (M_X8_hasGreen l D cy N a v z3 z1 r3 g4) (cwV 2 F.ts gX8_phasesWith_X8_hasGreen rfl rfl rfl hd_X8_hasGreen ⟨Nat.le_of_ble_eq_true rfl, Nat.le_of_ble_eq_true rfl⟩) rfl dX8_phasesWith_18 Fit.whole rfl rfl rfl (Nat.le_of_ble_eq_true rfl) (Nat.zero_le _) (Nat.zero_le _) rfl rfl rfl ?_
        refine V_if_eq (pc := 21) (tgt := 30) F dX8_phasesWith_21 (by decide) (fun h5 => ?_) (fun h5 => ?_)
        · replace hf := ite_pos hf h5
          refine V_iconst (v := 0) (pc := 30) F dX8_phasesWith_30 (by decide) ?_
          refine V_ior (pc := 31) F dX8_phasesWith_31 ?_
          refine V_istore_n (L2 := [(2, .int (z2 ||| 0)), (0, .ref (a 0)), (1, .int z1), (3, .int z3)]) (pc := 32) F dX8_phasesWith_32 rfl (by decide) rfl ?_
          refine V_iinc (v := (z3 + 1)) (L2 := [(3, .int (z3 + 1)), (2, .int (z2 ||| 0)), (0, .ref (a 0)), (1, .int z1)]) (pc := 33) F dX8_phasesWith_33 3 rfl rfl (by decide) rfl ?_
          refine V_goto (pc := 36) (tgt := 4) F dX8_phasesWith_36 (by decide) ?_
          refine V.sub [2, 3, 1, 0] rfl ?_
          exact ih v z1 (z2 ||| 0) (z3 + 1) _ hf hk
        · replace hf := ite_neg hf h5
          refine V_iconst (v := 1) (pc := 24) F dX8_phasesWith_24 (by decide) ?_
          refine V_iload_n (pc := 25) F dX8_phasesWith_25 rfl 3 rfl ?_
          refine V_ishl (pc := 26) F dX8_phasesWith_26 ?_
          refine V_goto (pc := 27) (tgt := 31) F dX8_phasesWith_27 (by decide) ?_
          refine V_ior (pc := 31) F dX8_phasesWith_31 ?_
          refine V_istore_n (L2 := [(2, .int (z2 ||| ((1 : Int32) <<< (z3 &&& 31)))), (0, .ref (a 0)), (1, .int z1), (3, .int z3)]) (pc := 32) F dX8_phasesWith_32 rfl (by decide) rfl ?_
          refine V_iinc (v := (z3 + 1)) (L2 := [(3, .int (z3 + 1)), (2, .int (z2 ||| ((1 : Int32) <<< (z3 &&& 31)))), (0, .ref (a 0)), (1, .int z1)]) (pc := 33) F dX8_phasesWith_33 3 rfl rfl (by decide) rfl ?_
          refine V_goto (pc := 36) (tgt := 4) F dX8_phasesWith_36 (by decide) ?_
          refine V.sub [2, 3, 1, 0] rfl ?_
          exact ih v z1 (z2 ||| ((1 : Int32) <<< (z3 &&& 31))) (z3 + 1) _ hf hk
  unfold fX8_phasesWith at hf
  refine V.eq rfl (show lv_args 0 [.ref (a 0), .int x1] = [(0, .ref (a 0)), (1, .int x1)] from rfl) rfl ?_
  refine V_iconst (v := 0) (pc := 0) F dX8_phasesWith_0 (by decide) ?_
  refine V_istore_n (L2 := [(2, .int 0), (0, .ref (a 0)), (1, .int x1)]) (pc := 1) F dX8_phasesWith_1 rfl (by decide) rfl ?_
  refine V_iconst (v := 0) (pc := 2) F dX8_phasesWith_2 (by decide) ?_
  refine V_istore_n (L2 := [(3, .int 0), (2, .int 0), (0, .ref (a 0)), (1, .int x1)]) (pc := 3) F dX8_phasesWith_3 rfl (by decide) rfl ?_
  refine V.sub [2, 3, 1, 0] rfl ?_
  obtain ⟨u6, g7, hf⟩ := bind_of hf
  refine K4 N v x1 0 0 u6 g7 ?_
  refine V_iload_n (pc := 39) F dX8_phasesWith_39 rfl 0 rfl ?_
  obtain rfl := some_of hf
  exact V_ret F rfl rfl dX8_phasesWith_40 rfl rfl
