theorem hd_X7_rounds : yX7_rounds.cls = RX7 ∧ yX7_rounds.cls ≠ "java/lang/invoke/MethodHandle" ∧ yX7_rounds.cls ≠ "java/lang/invoke/VarHandle" ∧ (parseMethodDescriptor yX7_rounds.desc).map (fun d => d.parameters.length) = some 1 := by decide +kernel
def fX7_rounds (N : Nat) (v : SX7) (x1 : Int32) : Option ((String × SX7) ⊕ (Int32 × SX7)) :=
  (fX7_checkDirection N x1).bind fun r1 => onS r1 (fun E => some (.inl (E, v))) fun q3 =>
    (fX7_study N v x1).bind fun r4 =>
      (fX3_roundPhases N r4.2.2.2 r4.1.1 x1).bind fun r6 =>
        some (.inr (r6, r4))
set_option maxHeartbeats 8000000 in
set_option maxRecDepth 100000 in
theorem M_X7_rounds (l : Launch) (D : va_G) (cy : Nat → ClassId) (N : Nat) (a : Nat → Nat) (v : SX7) (x1 : Int32) (o : Int32 × SX7) (hf : fX7_rounds N v x1 = some (.inr o)) : okM l yX7_rounds wsX7_rounds (rmz 5 119) D cy [.ref (a 0), .int x1] (wX7 cy a v) (wX7 cy a o.2) (some (.int o.1)) := by
  refine okM_of (own := RX7) (nme := "rounds") (cc := cX7_rounds) (maxL := 2) (ret := (some .int)) (by decide) rfl rfl rfl (Nat.le_of_ble_eq_true rfl) ?_
  intro p e s m args below meth c A F
  have i_X1 : ∀ w ∈ u_ws RX1 TX1 10, w ∈ wsX7_rounds := fun _ h => List.mem_cons_of_mem _ (List.mem_append_left _ (List.mem_append_left _ (List.mem_append_left _ (List.mem_append_left _ (List.mem_append_right _ h)))))
  have i_X7 : ∀ w ∈ u_ws RX7 TX7 4, w ∈ wsX7_rounds := fun _ h => List.mem_cons_of_mem _ (List.mem_append_left _ (List.mem_append_left _ (List.mem_append_left _ (List.mem_append_left _ (List.mem_append_left _ (List.mem_append_right _ h))))))
  unfold fX7_rounds at hf
  refine V.eq rfl (show lv_args 0 [.ref (a 0), .int x1] = [(0, .ref (a 0)), (1, .int x1)] from rfl) rfl ?_
  refine V_iload_n (pc := 0) F dX7_rounds_0 rfl 1 rfl ?_
  obtain ⟨r1, g2, hf⟩ := bind_of hf
  rcases r1 with E | q3
  · replace hf := onS_inl hf
    exact nomatch some_of hf
  replace hf := onS_inr hf
  refine V_Sc (rest := []) (st2 := []) (pc := 1) F (M_X7_checkDirection l D cy N x1 q3 g2) (va_cwS 1 F.ts gX7_rounds_X7_checkDirection rfl rfl rfl hd_X7_checkDirection ⟨Nat.le_of_ble_eq_true rfl, Nat.le_of_ble_eq_true rfl⟩) rfl dX7_rounds_1 (Nat.le_of_ble_eq_true rfl) (Nat.zero_le _) (Nat.zero_le _) rfl rfl ?_
  refine V_aload_n (pc := 4) F dX7_rounds_4 rfl 0 rfl ?_
  refine V_iload_n (pc := 5) F dX7_rounds_5 rfl 1 rfl ?_
  obtain ⟨r4, g5, hf⟩ := bind_of hf
  refine V_V (w2 := wX7 cy a r4) (rest := []) (st2 := []) (pc := 6) F 7 (M_X7_study l D cy N a v x1 r4 g5) (cwV 1 F.ts gX7_rounds_X7_study rfl rfl rfl hd_X7_study ⟨Nat.le_of_ble_eq_true rfl, Nat.le_of_ble_eq_true rfl⟩) rfl dX7_rounds_6 Fit.whole fstX7 rfl rfl (Nat.le_of_ble_eq_true rfl) (Nat.zero_le _) (Nat.zero_le _) rfl rfl rfl ?_
  refine V_aload_n (pc := 9) F dX7_rounds_9 rfl 0 rfl ?_
  refine V_get (pc := 10) F 0 7 3 i_X7 rfl (by decide) rfl (mm 1 rfl) dX7_rounds_10 rfl rfl ?_
  refine V_aload_n (pc := 13) F dX7_rounds_13 rfl 0 rfl ?_
  refine V_get (pc := 14) F 0 7 0 i_X7 rfl (by decide) rfl (mm 2 rfl) dX7_rounds_14 rfl rfl ?_
  refine V_get (pc := 17) F 1 1 0 i_X1 rfl (by decide) rfl (mm 3 rfl) dX7_rounds_17 rfl rfl ?_
  refine V_iload_n (pc := 20) F dX7_rounds_20 rfl 1 rfl ?_
  obtain ⟨r6, g7, hf⟩ := bind_of hf
  refine V_V2 (w2 := wX7 cy a r4) (rest := []) (st2 := [.int r6]) (pc := 21) F 3 (M_X3_roundPhases l D cy N (fun i => a (i + 27)) (fun i => a (i + 2)) r4.2.2.2 r4.1.1 x1 r6 g7) (cwV 2 F.ts gX7_rounds_X3_roundPhases rfl rfl rfl hd_X3_roundPhases ⟨Nat.le_of_ble_eq_true rfl, Nat.le_of_ble_eq_true rfl⟩) rfl dX7_rounds_21 (Fit2.right (Fit2.swap (Fit.right (Fit.left Fit.whole)) (Fit.right (Fit.left Fit.whole)))) rfl rfl rfl rfl (Nat.le_of_ble_eq_true rfl) (Nat.zero_le _) (Nat.zero_le _) rfl rfl rfl ?_
  obtain rfl := Sum.inr.inj (some_of hf)
  exact V_ret F rfl rfl dX7_rounds_24 rfl rfl

set_option maxHeartbeats 8000000 in
set_option maxRecDepth 100000 in
theorem T_X7_rounds (l : Launch) (hfl : l.stackTraces = false) (D : va_G) (cy : Nat → ClassId) (N : Nat) (a : Nat → Nat) (v : SX7) (x1 : Int32) (o : String × SX7) (hf : fX7_rounds N v x1 = some (.inl o)) : okT l yX7_rounds wsX7_rounds (rmx 7 119) D cy [.ref (a 0), .int x1] (wX7 cy a v) (wX7 cy a o.2) o.1 := by
  refine okT_of hfl (own := RX7) (nme := "rounds") (cc := cX7_rounds) (maxL := 2) (ret := (some .int)) (by decide) rfl rfl rfl (Nat.le_of_ble_eq_true rfl) ?_
  intro p e s m args below meth c A F FT
  have i_X1 : ∀ w ∈ u_ws RX1 TX1 10, w ∈ wsX7_rounds := fun _ h => List.mem_cons_of_mem _ (List.mem_append_left _ (List.mem_append_left _ (List.mem_append_left _ (List.mem_append_left _ (List.mem_append_right _ h)))))
  have i_X7 : ∀ w ∈ u_ws RX7 TX7 4, w ∈ wsX7_rounds := fun _ h => List.mem_cons_of_mem _ (List.mem_append_left _ (List.mem_append_left _ (List.mem_append_left _ (List.mem_append_left _ (List.mem_append_left _ (List.mem_append_right _ h))))))
  unfold fX7_rounds at hf
  refine V.eq rfl (show lv_args 0 [.ref (a 0), .int x1] = [(0, .ref (a 0)), (1, .int x1)] from rfl) rfl ?_
  refine V_iload_n (pc := 0) F dX7_rounds_0 rfl 1 rfl ?_
  obtain ⟨r1, g2, hf⟩ := bind_of hf
  rcases r1 with E | q3
  · replace hf := onS_inl hf
    obtain rfl := Sum.inl.inj (some_of hf)
    exact T_Sc (rest := []) (pc := 1) F FT (T_X7_checkDirection l hfl D cy N x1 E g2) (va_cwS 1 F.ts gX7_rounds_X7_checkDirection rfl rfl rfl hd_X7_checkDirection ⟨Nat.le_of_ble_eq_true rfl, Nat.le_of_ble_eq_true rfl⟩) rfl dX7_rounds_1 (Nat.le_of_ble_eq_true rfl) (Nat.le_of_ble_eq_true rfl) (Nat.le_of_ble_eq_true rfl) rfl rfl
  replace hf := onS_inr hf
  refine V_Sc (rest := []) (st2 := []) (pc := 1) F (M_X7_checkDirection l D cy N x1 q3 g2) (va_cwS 1 F.ts gX7_rounds_X7_checkDirection rfl rfl rfl hd_X7_checkDirection ⟨Nat.le_of_ble_eq_true rfl, Nat.le_of_ble_eq_true rfl⟩) rfl dX7_rounds_1 (Nat.le_of_ble_eq_true rfl) (Nat.zero_le _) (Nat.zero_le _) rfl rfl ?_
  refine V_aload_n (pc := 4) F dX7_rounds_4 rfl 0 rfl ?_
  refine V_iload_n (pc := 5) F dX7_rounds_5 rfl 1 rfl ?_
  obtain ⟨r4, g5, hf⟩ := bind_of hf
  refine V_V (w2 := wX7 cy a r4) (rest := []) (st2 := []) (pc := 6) F 7 (M_X7_study l D cy N a v x1 r4 g5) (cwV 1 F.ts gX7_rounds_X7_study rfl rfl rfl hd_X7_study ⟨Nat.le_of_ble_eq_true rfl, Nat.le_of_ble_eq_true rfl⟩) rfl dX7_rounds_6 Fit.whole fstX7 rfl rfl (Nat.le_of_ble_eq_true rfl) (Nat.zero_le _) (Nat.zero_le _) rfl rfl rfl ?_
  refine V_aload_n (pc := 9) F dX7_rounds_9 rfl 0 rfl ?_
  refine V_get (pc := 10) F 0 7 3 i_X7 rfl (by decide) rfl (mm 1 rfl) dX7_rounds_10 rfl rfl ?_
  refine V_aload_n (pc := 13) F dX7_rounds_13 rfl 0 rfl ?_
  refine V_get (pc := 14) F 0 7 0 i_X7 rfl (by decide) rfl (mm 2 rfl) dX7_rounds_14 rfl rfl ?_
  refine V_get (pc := 17) F 1 1 0 i_X1 rfl (by decide) rfl (mm 3 rfl) dX7_rounds_17 rfl rfl ?_
  refine V_iload_n (pc := 20) F dX7_rounds_20 rfl 1 rfl ?_
  obtain ⟨r6, g7, hf⟩ := bind_of hf
  refine V_V2 (w2 := wX7 cy a r4) (rest := []) (st2 := [.int r6]) (pc := 21) F 3 (M_X3_roundPhases l D cy N (fun i => a (i + 27)) (fun i => a (i + 2)) r4.2.2.2 r4.1.1 x1 r6 g7) (cwV 2 F.ts gX7_rounds_X3_roundPhases rfl rfl rfl hd_X3_roundPhases ⟨Nat.le_of_ble_eq_true rfl, Nat.le_of_ble_eq_true rfl⟩) rfl dX7_rounds_21 (Fit2.right (Fit2.swap (Fit.right (Fit.left Fit.whole)) (Fit.right (Fit.left Fit.whole)))) rfl rfl rfl rfl (Nat.le_of_ble_eq_true rfl) (Nat.zero_le _) (Nat.zero_le _) rfl rfl rfl ?_
  exact nomatch some_of hf
theorem hd_X7_waitFor : yX7_waitFor.cls = RX7 ∧ yX7_waitFor.cls ≠ "java/lang/invoke/MethodHandle" ∧ yX7_waitFor.cls ≠ "java/lang/invoke/VarHandle" ∧ (parseMethodDescriptor yX7_waitFor.desc).map (fun d => d.parameters.length) = some 3 := by decide +kernel
def fX7_waitFor (N : Nat) (v : SX7) (x1 : Int32) (x2 : Int32) (x3 : Int32) : Option ((String × SX7) ⊕ (Int32 × SX7)) :=
  (fX7_checkPhase N v x2).bind fun r1 => onS r1 (fun E => some (.inl (E, v))) fun q3 =>
    (fX7_checkDirection N x1).bind fun r4 => onS r4 (fun E => some (.inl (E, v))) fun q6 =>
      (fX7_study N v x1).bind fun r7 =>
        if x3 = 0 then
          (fX3_shortestFrom N r7.2.2.2 x1 x2).bind fun r10 =>
            some (.inr (r10, r7))
        else
          (fX3_longestFrom N r7.2.2.2 x1 x2).bind fun r12 =>
            some (.inr (r12, r7))
set_option maxHeartbeats 8000000 in
set_option maxRecDepth 100000 in
theorem M_X7_waitFor (l : Launch) (D : va_G) (cy : Nat → ClassId) (N : Nat) (a : Nat → Nat) (v : SX7) (x1 : Int32) (x2 : Int32) (x3 : Int32) (o : Int32 × SX7) (hf : fX7_waitFor N v x1 x2 x3 = some (.inr o)) : okM l yX7_waitFor wsX7_waitFor (rmz 5 119) D cy [.ref (a 0), .int x1, .int x2, .int x3] (wX7 cy a v) (wX7 cy a o.2) (some (.int o.1)) := by
  refine okM_of (own := RX7) (nme := "waitFor") (cc := cX7_waitFor) (maxL := 4) (ret := (some .int)) (by decide) rfl rfl rfl (Nat.le_of_ble_eq_true rfl) ?_
  intro p e s m args below meth c A F
  have i_X7 : ∀ w ∈ u_ws RX7 TX7 4, w ∈ wsX7_waitFor := fun _ h => List.mem_cons_of_mem _ (List.mem_append_left _ (List.mem_append_left _ (List.mem_append_left _ (List.mem_append_left _ (List.mem_append_left _ (List.mem_append_left _ (List.mem_append_right _ h)))))))
  unfold fX7_waitFor at hf
  refine V.eq rfl (show lv_args 0 [.ref (a 0), .int x1, .int x2, .int x3] = [(0, .ref (a 0)), (1, .int x1), (2, .int x2), (3, .int x3)] from rfl) rfl ?_
  refine V_aload_n (pc := 0) F dX7_waitFor_0 rfl 0 rfl ?_
  refine V_iload_n (pc := 1) F dX7_waitFor_1 rfl 2 rfl ?_
  obtain ⟨r1, g2, hf⟩ := bind_of hf
  rcases r1 with E | q3
  · replace hf := onS_inl hf
    exact nomatch some_of hf
  replace hf := onS_inr hf
  refine V_V (w2 := wX7 cy a v) (rest := []) (st2 := []) (pc := 2) F 7 (M_X7_checkPhase l D cy N a v x2 q3 g2) (cwV 1 F.ts gX7_waitFor_X7_checkPhase rfl rfl rfl hd_X7_checkPhase ⟨Nat.le_of_ble_eq_true rfl, Nat.le_of_ble_eq_true rfl⟩) rfl dX7_waitFor_2 Fit.whole rfl rfl rfl (Nat.le_of_ble_eq_true rfl) (Nat.zero_le _) (Nat.zero_le _) rfl rfl rfl ?_
  refine V_iload_n (pc := 5) F dX7_waitFor_5 rfl 1 rfl ?_
  obtain ⟨r4, g5, hf⟩ := bind_of hf
  rcases r4 with E | q6
  · replace hf := onS_inl hf
    exact nomatch some_of hf
  replace hf := onS_inr hf
  refine V_Sc (rest := []) (st2 := []) (pc := 6) F (M_X7_checkDirection l D cy N x1 q6 g5) (va_cwS 1 F.ts gX7_waitFor_X7_checkDirection rfl rfl rfl hd_X7_checkDirection ⟨Nat.le_of_ble_eq_true rfl, Nat.le_of_ble_eq_true rfl⟩) rfl dX7_waitFor_6 (Nat.le_of_ble_eq_true rfl) (Nat.zero_le _) (Nat.zero_le _) rfl rfl ?_
  refine V_aload_n (pc := 9) F dX7_waitFor_9 rfl 0 rfl ?_
  refine V_iload_n (pc := 10) F dX7_waitFor_10 rfl 1 rfl ?_
  obtain ⟨r7, g8, hf⟩ := bind_of hf
  refine V_V (w2 := wX7 cy a r7) (rest := []) (st2 := []) (pc := 11) F 7 (M_X7_study l D cy N a v x1 r7 g8) (cwV 1 F.ts gX7_waitFor_X7_study rfl rfl rfl hd_X7_study ⟨Nat.le_of_ble_eq_true rfl, Nat.le_of_ble_eq_true rfl⟩) rfl dX7_waitFor_11 Fit.whole fstX7 rfl rfl (Nat.le_of_ble_eq_true rfl) (Nat.zero_le _) (Nat.zero_le _) rfl rfl rfl ?_
  refine V_iload_n (pc := 14) F dX7_waitFor_14 rfl 3 rfl ?_
  refine V_if_eq (pc := 15) (tgt := 30) F dX7_waitFor_15 (by decide) (fun h9 => ?_) (fun h9 => ?_)
  · replace hf := ite_pos hf h9
    refine V_aload_n (pc := 30) F dX7_waitFor_30 rfl 0 rfl ?_
    refine V_get (pc := 31) F 0 7 3 i_X7 rfl (by decide) rfl (mm 1 rfl) dX7_waitFor_31 rfl rfl ?_
    refine V_iload_n (pc := 34) F dX7_waitFor_34 rfl 1 rfl ?_
    refine V_iload_n (pc := 35) F dX7_waitFor_35 rfl 2 rfl ?_
    obtain ⟨r10, g11, hf⟩ := bind_of hf
    refine V_V (w2 := wX7 cy a r7) (rest := []) (st2 := [.int r10]) (pc := 36) F 3 (M_X3_shortestFrom l D cy N (fun i => a (i + 27)) r7.2.2.2 x1 x2 r10 g11) (cwV 2 F.ts gX7_waitFor_X3_shortestFrom rfl rfl rfl hd_X3_shortestFrom ⟨Nat.le_of_ble_eq_true rfl, Nat.le_of_ble_eq_true rfl⟩) rfl dX7_waitFor_36 (Fit.right (Fit.right (Fit.right (Fit.left Fit.whole)))) rfl rfl rfl (Nat.le_of_ble_eq_true rfl) (Nat.zero_le _) (Nat.zero_le _) rfl rfl rfl ?_
    obtain rfl := Sum.inr.inj (some_of hf)
    exact V_ret F rfl rfl dX7_waitFor_39 rfl rfl
  · replace hf := ite_neg hf h9
    refine V_aload_n (pc := 18) F dX7_waitFor_18 rfl 0 rfl ?_
    refine V_get (pc := 19) F 0 7 3 i_X7 rfl (by decide) rfl (mm 1 rfl) dX7_waitFor_19 rfl rfl ?_
    refine V_iload_n (pc := 22) F dX7_waitFor_22 rfl 1 rfl ?_
    refine V_iload_n (pc := 23) F dX7_waitFor_23 rfl 2 rfl ?_
    obtain ⟨r12, g13, hf⟩ := bind_of hf
    refine V_V (w2 := wX7 cy a r7) (rest := []) (st2 := [.int r12]) (pc := 24) F 3 (M_X3_longestFrom l D cy N (fun i => a (i + 27)) r7.2.2.2 x1 x2 r12 g13) (cwV 2 F.ts gX7_waitFor_X3_longestFrom rfl rfl rfl hd_X3_longestFrom ⟨Nat.le_of_ble_eq_true rfl, Nat.le_of_ble_eq_true rfl⟩) rfl dX7_waitFor_24 (Fit.right (Fit.right (Fit.right (Fit.left Fit.whole)))) rfl rfl rfl (Nat.le_of_ble_eq_true rfl) (Nat.zero_le _) (Nat.zero_le _) rfl rfl rfl ?_
    refine V_goto (pc := 27) (tgt := 39) F dX7_waitFor_27 (by decide) ?_
    obtain rfl := Sum.inr.inj (some_of hf)
    exact V_ret F rfl rfl dX7_waitFor_39 rfl rfl

set_option maxHeartbeats 8000000 in
set_option maxRecDepth 100000 in
theorem T_X7_waitFor (l : Launch) (hfl : l.stackTraces = false) (D : va_G) (cy : Nat → ClassId) (N : Nat) (a : Nat → Nat) (v : SX7) (x1 : Int32) (x2 : Int32) (x3 : Int32) (o : String × SX7) (hf : fX7_waitFor N v x1 x2 x3 = some (.inl o)) : okT l yX7_waitFor wsX7_waitFor (rmx 7 119) D cy [.ref (a 0), .int x1, .int x2, .int x3] (wX7 cy a v) (wX7 cy a o.2) o.1 := by
  refine okT_of hfl (own := RX7) (nme := "waitFor") (cc := cX7_waitFor) (maxL := 4) (ret := (some .int)) (by decide) rfl rfl rfl (Nat.le_of_ble_eq_true rfl) ?_
  intro p e s m args below meth c A F FT
  have i_X7 : ∀ w ∈ u_ws RX7 TX7 4, w ∈ wsX7_waitFor := fun _ h => List.mem_cons_of_mem _ (List.mem_append_left _ (List.mem_append_left _ (List.mem_append_left _ (List.mem_append_left _ (List.mem_append_left _ (List.mem_append_left _ (List.mem_append_right _ h)))))))
  unfold fX7_waitFor at hf
  refine V.eq rfl (show lv_args 0 [.ref (a 0), .int x1, .int x2, .int x3] = [(0, .ref (a 0)), (1, .int x1), (2, .int x2), (3, .int x3)] from rfl) rfl ?_
  refine V_aload_n (pc := 0) F dX7_waitFor_0 rfl 0 rfl ?_
  refine V_iload_n (pc := 1) F dX7_waitFor_1 rfl 2 rfl ?_
  obtain ⟨r1, g2, hf⟩ := bind_of hf
  rcases r1 with E | q3
  · replace hf := onS_inl hf
    obtain rfl := Sum.inl.inj (some_of hf)
    exact T_V (rest := []) (pc := 2) F FT 7 (T_X7_checkPhase l hfl D cy N a v x2 E g2) (cwV 1 F.ts gX7_waitFor_X7_checkPhase rfl rfl rfl hd_X7_checkPhase ⟨Nat.le_of_ble_eq_true rfl, Nat.le_of_ble_eq_true rfl⟩) rfl dX7_waitFor_2 Fit.whole rfl rfl rfl (Nat.le_of_ble_eq_true rfl) (Nat.le_of_ble_eq_true rfl) (Nat.le_of_ble_eq_true rfl) rfl rfl
  replace hf := onS_inr hf
  refine V_V (w2 := wX7 cy a v) (rest := []) (st2 := []) (pc := 2) F 7 (M_X7_checkPhase l D cy N a v x2 q3 g2) (cwV 1 F.ts gX7_waitFor_X7_checkPhase rfl rfl rfl hd_X7_checkPhase ⟨Nat.le_of_ble_eq_true rfl, Nat.le_of_ble_eq_true rfl⟩) rfl dX7_waitFor_2 Fit.whole rfl rfl rfl (Nat.le_of_ble_eq_true rfl) (Nat.zero_le _) (Nat.zero_le _) rfl rfl rfl ?_
  refine V_iload_n (pc := 5) F dX7_waitFor_5 rfl 1 rfl ?_
  obtain ⟨r4, g5, hf⟩ := bind_of hf
  rcases r4 with E | q6
  · replace hf := onS_inl hf
    obtain rfl := Sum.inl.inj (some_of hf)
    exact T_Sc (rest := []) (pc := 6) F FT (T_X7_checkDirection l hfl D cy N x1 E g5) (va_cwS 1 F.ts gX7_waitFor_X7_checkDirection rfl rfl rfl hd_X7_checkDirection ⟨Nat.le_of_ble_eq_true rfl, Nat.le_of_ble_eq_true rfl⟩) rfl dX7_waitFor_6 (Nat.le_of_ble_eq_true rfl) (Nat.le_of_ble_eq_true rfl) (Nat.le_of_ble_eq_true rfl) rfl rfl
  replace hf := onS_inr hf
  refine V_Sc (rest := []) (st2 := []) (pc := 6) F (M_X7_checkDirection l D cy N x1 q6 g5) (va_cwS 1 F.ts gX7_waitFor_X7_checkDirection rfl rfl rfl hd_X7_checkDirection ⟨Nat.le_of_ble_eq_true rfl, Nat.le_of_ble_eq_true rfl⟩) rfl dX7_waitFor_6 (Nat.le_of_ble_eq_true rfl) (Nat.zero_le _) (Nat.zero_le _) rfl rfl ?_
  refine V_aload_n (pc := 9) F dX7_waitFor_9 rfl 0 rfl ?_
  refine V_iload_n (pc := 10) F dX7_waitFor_10 rfl 1 rfl ?_
  obtain ⟨r7, g8, hf⟩ := bind_of hf
  refine V_V (w2 := wX7 cy a r7) (rest := []) (st2 := []) (pc := 11) F 7 (M_X7_study l D cy N a v x1 r7 g8) (cwV 1 F.ts gX7_waitFor_X7_study rfl rfl rfl hd_X7_study ⟨Nat.le_of_ble_eq_true rfl, Nat.le_of_ble_eq_true rfl⟩) rfl dX7_waitFor_11 Fit.whole fstX7 rfl rfl (Nat.le_of_ble_eq_true rfl) (Nat.zero_le _) (Nat.zero_le _) rfl rfl rfl ?_
  refine V_iload_n (pc := 14) F dX7_waitFor_14 rfl 3 rfl ?_
  refine V_if_eq (pc := 15) (tgt := 30) F dX7_waitFor_15 (by decide) (fun h9 => ?_) (fun h9 => ?_)
  · replace hf := ite_pos hf h9
    refine V_aload_n (pc := 30) F dX7_waitFor_30 rfl 0 rfl ?_
    refine V_get (pc := 31) F 0 7 3 i_X7 rfl (by decide) rfl (mm 1 rfl) dX7_waitFor_31 rfl rfl ?_
    refine V_iload_n (pc := 34) F dX7_waitFor_34 rfl 1 rfl ?_
    refine V_iload_n (pc := 35) F dX7_waitFor_35 rfl 2 rfl ?_
    obtain ⟨r10, g11, hf⟩ := bind_of hf
    refine V_V (w2 := wX7 cy a r7) (rest := []) (st2 := [.int r10]) (pc := 36) F 3 (M_X3_shortestFrom l D cy N (fun i => a (i + 27)) r7.2.2.2 x1 x2 r10 g11) (cwV 2 F.ts gX7_waitFor_X3_shortestFrom rfl rfl rfl hd_X3_shortestFrom ⟨Nat.le_of_ble_eq_true rfl, Nat.le_of_ble_eq_true rfl⟩) rfl dX7_waitFor_36 (Fit.right (Fit.right (Fit.right (Fit.left Fit.whole)))) rfl rfl rfl (Nat.le_of_ble_eq_true rfl) (Nat.zero_le _) (Nat.zero_le _) rfl rfl rfl ?_
    exact nomatch some_of hf
  · replace hf := ite_neg hf h9
    refine V_aload_n (pc := 18) F dX7_waitFor_18 rfl 0 rfl ?_
    refine V_get (pc := 19) F 0 7 3 i_X7 rfl (by decide) rfl (mm 1 rfl) dX7_waitFor_19 rfl rfl ?_
    refine V_iload_n (pc := 22) F dX7_waitFor_22 rfl 1 rfl ?_
    refine V_iload_n (pc := 23) F dX7_waitFor_23 rfl 2 rfl ?_
    obtain ⟨r12, g13, hf⟩ := bind_of hf
    refine V_V (w2 := wX7 cy a r7) (rest := []) (st2 := [.int r12]) (pc := 24) F 3 (M_X3_longestFrom l D cy N (fun i => a (i + 27)) r7.2.2.2 x1 x2 r12 g13) (cwV 2 F.ts gX7_waitFor_X3_longestFrom rfl rfl rfl hd_X3_longestFrom ⟨Nat.le_of_ble_eq_true rfl, Nat.le_of_ble_eq_true rfl⟩) rfl dX7_waitFor_24 (Fit.right (Fit.right (Fit.right (Fit.left Fit.whole)))) rfl rfl rfl (Nat.le_of_ble_eq_true rfl) (Nat.zero_le _) (Nat.zero_le _) rfl rfl rfl ?_
    refine V_goto (pc := 27) (tgt := 39) F dX7_waitFor_27 (by decide) ?_
    exact nomatch some_of hf
theorem hd_X7_slowest : yX7_slowest.cls = RX7 ∧ yX7_slowest.cls ≠ "java/lang/invoke/MethodHandle" ∧ yX7_slowest.cls ≠ "java/lang/invoke/VarHandle" ∧ (parseMethodDescriptor yX7_slowest.desc).map (fun d => d.parameters.length) = some 0 := by decide +kernel
def fX7_slowest_L10 (N : Nat) (v : SX7) : Nat → Int32 → Int32 → Int32 → Option (Int32)
  | 0, _, _, _ => none
  | n + 1, z1, z2, z3 =>
    if 6 ≤ z3 then
      some z1
    else
      (fX3_worstWait N v.2.2.2 v.1.1 z3).bind fun r4 =>
        if r4 ≤ z2 then
          fX7_slowest_L10 N v n z1 z2 (z3 + 1)
        else
          fX7_slowest_L10 N v n z3 r4 (z3 + 1)
def fX7_slowest (N : Nat) (v : SX7) : Option (Int32 × SX7) :=
  (fX7_studyAll N v).bind fun r1 =>
    (fX7_slowest_L10 N r1 N (-1) (-1) 0).bind fun u7 =>
      some (u7, r1)
set_option maxHeartbeats 8000000 in
set_option maxRecDepth 100000 in
theorem M_X7_slowest (l : Launch) (D : va_G) (cy : Nat → ClassId) (N : Nat) (a : Nat → Nat) (v : SX7) (o : Int32 × SX7) (hf : fX7_slowest N v = some o) : okM l yX7_slowest wsX7_slowest (rmz 5 119) D cy [.ref (a 0)] (wX7 cy a v) (wX7 cy a o.2) (some (.int o.1)) := by
  refine okM_of (own := RX7) (nme := "slowest") (cc := cX7_slowest) (maxL := 5) (ret := (some .int)) (by decide) rfl rfl rfl (Nat.le_of_ble_eq_true rfl) ?_
  intro p e s m args below meth c A F
  have i_X1 : ∀ w ∈ u_ws RX1 TX1 10, w ∈ wsX7_slowest := fun _ h => List.mem_cons_of_mem _ (List.mem_append_left _ (List.mem_append_left _ (List.mem_append_left _ (List.mem_append_right _ h))))
  have i_X7 : ∀ w ∈ u_ws RX7 TX7 4, w ∈ wsX7_slowest := fun _ h => List.mem_cons_of_mem _ (List.mem_append_left _ (List.mem_append_left _ (List.mem_append_left _ (List.mem_append_left _ (List.mem_append_right _ h)))))
  have K10 : ∀ (n : Nat) (v : SX7) (z1 : Int32) (z2 : Int32) (z3 : Int32) (u : Int32), fX7_slowest_L10 N v n z1 z2 z3 = some u → V p l e (rmz 5 119) s m args below meth c 5 D A 0 0 (MQ below (ok_Q D (wX7 cy a o.2) (some (.int o.1)) A) args s 0 0 A) (wX7 cy a v) [(1, .int u)] [] 50 → V p l e (rmz 5 119) s m args below meth c 5 D A 0 0 (MQ below (ok_Q D (wX7 cy a o.2) (some (.int o.1)) A) args s 0 0 A) (wX7 cy a v) [(0, .ref (a 0)), (1, .int z1), (2, .int z2), (3, .int z3)] [] 10 := by
    intro n
    induction n with
    | zero =>
      intro v z1 z2 z3 u hf hk
      exact nomatch (show (none : Option (Int32)) = some u from hf)
    | succ n ih =>
      intro v z1 z2 z3 u hf hk
      rw [fX7_slowest_L10] at hf
      refine V_iload_n (pc := 10) F dX7_slowest_10 rfl 3 rfl ?_
      refine V_bipush (v := 6) (pc := 11) F dX7_slowest_11 (by decide) ?_
      refine V_icmp_ge (pc := 13) (tgt := 50) F dX7_slowest_13 (by decide) (fun h3 => ?_) (fun h3 => ?_)
      · replace hf := ite_pos hf h3
        obtain rfl := some_of hf
        exact V.sub [1] rfl hk
      · replace hf := ite_neg hf h3
        refine V_aload_n (pc := 16) F dX7_slowest_16 rfl 0 rfl ?_
        refine V_get (pc := 17) F 0 7 3 i_X7 rfl (by decide) rfl (mm 1 rfl) dX7_slowest_17 rfl rfl ?_
        refine V_aload_n (pc := 20) F dX7_slowest_20 rfl 0 rfl ?_
        refine V_get (pc := 21) F 0 7 0 i_X7 rfl (by decide) rfl (mm 2 rfl) dX7_slowest_21 rfl rfl ?_
        refine V_get (pc := 24) F 1 1 0 i_X1 rfl (by decide) rfl (mm 3 rfl) dX7_slowest_24 rfl rfl ?_
        refine V_iload_n (pc := 27) F dX7_slowest_27 rfl 3 rfl ?_
        obtain ⟨r4, g5, hf⟩ := bind_of hf
        refine V_V2 (w2 := wX7 cy a v) (rest := []) (st2 := [.int r4]) (pc := 28) F 3 (M_X3_worstWait l D cy N (fun i => a (i + 27)) (fun i => a (i + 2)) v.2.2.2 v.1.1 z3 r4 g5) (cwV 2 F.ts gX7_slowest_X3_worstWait rfl rfl rfl hd_X3_worstWait ⟨Nat.le_of_ble_eq_true rfl, Nat.le_of_ble_eq_true rfl⟩) rfl dX7_slowest_28 (Fit2.right (Fit2.swap (Fit.right (Fit.left Fit.whole)) (Fit.right (Fit.left Fit.whole)))) rfl rfl rfl rfl (Nat.le_of_ble_eq_true rfl) (Nat.zero_le _) (Nat.zero_le _) rfl rfl rfl ?_
        refine V_istore (L2 := [(4, .int r4), (0, .ref (a 0)), (1, .int z1), (2, .int z2), (3, .int z3)]) (pc := 31) F dX7_slowest_31 (by decide) rfl ?_
        refine V_iload (pc := 33) F dX7_slowest_33 0 rfl ?_
        refine V_iload_n (pc := 35) F dX7_slowest_35 rfl 3 rfl ?_
        refine V_icmp_le (pc := 36) (tgt := 44) F dX7_slowest_36 (by decide) (fun h6 => ?_) (fun h6 => ?_)
        · replace hf := ite_pos hf h6
          refine V_iinc (v := (z3 + 1)) (L2 := [(3, .int (z3 + 1)), (4, .int r4), (0, .ref (a 0)), (1, .int z1), (2, .int z2)]) (pc := 44) F dX7_slowest_44 4 rfl rfl (by decide) rfl ?_
          refine V_goto (pc := 47) (tgt := 10) F dX7_slowest_47 (by decide) ?_
          refine V.sub [2, 3, 4, 0] rfl ?_
          exact ih v z1 z2 (z3 + 1) _ hf hk
        · replace hf := ite_neg hf h6
          refine V_iload (pc := 39) F dX7_slowest_39 0 rfl ?_
          refine V_istore_n (L2 := [(2, .int r4), (4, .int r4), (0, .ref (a 0)), (1, .int z1), (3, .int z3)]) (pc := 41) F dX7_slowest_41 rfl (by decide) rfl ?_
          refine V_iload_n (pc := 42) F dX7_slowest_42 rfl 4 rfl ?_
          refine V_istore_n (L2 := [(1, .int z3), (2, .int r4), (4, .int r4), (0, .ref (a 0)), (3, .int z3)]) (pc := 43) F dX7_slowest_43 rfl (by decide) rfl ?_
          refine V_iinc (v := (z3 + 1)) (L2 := [(3, .int (z3 + 1)), (1, .int z3), (2, .int r4), (4, .int r4), (0, .ref (a 0))]) (pc := 44) F dX7_slowest_44 4 rfl rfl (by decide) rfl ?_
          refine V_goto (pc := 47) (tgt := 10) F dX7_slowest_47 (by decide) ?_
          refine V.sub [4, 1, 2, 0] rfl ?_
          exact ih v z3 r4 (z3 + 1) _ hf hk
  unfold fX7_slowest at hf
  refine V.eq rfl (show lv_args 0 [.ref (a 0)] = [(0, .ref (a 0))] from rfl) rfl ?_
  refine V_aload_n (pc := 0) F dX7_slowest_0 rfl 0 rfl ?_
  obtain ⟨r1, g2, hf⟩ := bind_of hf
  refine V_V (w2 := wX7 cy a r1) (rest := []) (st2 := []) (pc := 1) F 7 (M_X7_studyAll l D cy N a v r1 g2) (cwV 0 F.ts gX7_slowest_X7_studyAll rfl rfl rfl hd_X7_studyAll ⟨Nat.le_of_ble_eq_true rfl, Nat.le_of_ble_eq_true rfl⟩) rfl dX7_slowest_1 Fit.whole fstX7 rfl rfl (Nat.le_of_ble_eq_true rfl) (Nat.zero_le _) (Nat.zero_le _) rfl rfl rfl ?_
  refine V_iconst (v := (-1)) (pc := 4) F dX7_slowest_4 (by decide) ?_
  refine V_istore_n (L2 := [(1, .int (-1)), (0, .ref (a 0))]) (pc := 5) F dX7_slowest_5 rfl (by decide) rfl ?_
  refine V_iconst (v := (-1)) (pc := 6) F dX7_slowest_6 (by decide) ?_
  refine V_istore_n (L2 := [(2, .int (-1)), (1, .int (-1)), (0, .ref (a 0))]) (pc := 7) F dX7_slowest_7 rfl (by decide) rfl ?_
  refine V_iconst (v := 0) (pc := 8) F dX7_slowest_8 (by decide) ?_
  refine V_istore_n (L2 := [(3, .int 0), (2, .int (-1)), (1, .int (-1)), (0, .ref (a 0))]) (pc := 9) F dX7_slowest_9 rfl (by decide) rfl ?_
  refine V.sub [3, 2, 1, 0] rfl ?_
  obtain ⟨u7, g8, hf⟩ := bind_of hf
  refine K10 N r1 (-1) (-1) 0 u7 g8 ?_
  refine V_iload_n (pc := 50) F dX7_slowest_50 rfl 0 rfl ?_
  obtain rfl := some_of hf
  exact V_ret F rfl rfl dX7_slowest_51 rfl rfl
theorem hd_X7_remedy : yX7_remedy.cls = RX7 ∧ yX7_remedy.cls ≠ "java/lang/invoke/MethodHandle" ∧ yX7_remedy.cls ≠ "java/lang/invoke/VarHandle" ∧ (parseMethodDescriptor yX7_remedy.desc).map (fun d => d.parameters.length) = some 2 := by decide +kernel
def fX7_remedy (N : Nat) (v : SX7) (x1 : Int32) (x2 : Int32) : Option ((String × SX7) ⊕ (Int32 × SX7)) :=
  (fX7_checkPhase N v x2).bind fun r1 => onS r1 (fun E => some (.inl (E, v))) fun q3 =>
    (fX7_checkDirection N x1).bind fun r4 => onS r4 (fun E => some (.inl (E, v))) fun q6 =>
      (fX7_study N v x1).bind fun r7 =>
        (fX3_remedyAt N r7.2.2.2 r7.1.1 r7.1.2.2.2.2.2.1 x1 x2).bind fun r9 =>
          some (.inr (r9, r7))
set_option maxHeartbeats 8000000 in
set_option maxRecDepth 100000 in
theorem M_X7_remedy (l : Launch) (D : va_G) (cy : Nat → ClassId) (N : Nat) (a : Nat → Nat) (v : SX7) (x1 : Int32) (x2 : Int32) (o : Int32 × SX7) (hf : fX7_remedy N v x1 x2 = some (.inr o)) : okM l yX7_remedy wsX7_remedy (rmz 5 119) D cy [.ref (a 0), .int x1, .int x2] (wX7 cy a v) (wX7 cy a o.2) (some (.int o.1)) := by
  refine okM_of (own := RX7) (nme := "remedy") (cc := cX7_remedy) (maxL := 3) (ret := (some .int)) (by decide) rfl rfl rfl (Nat.le_of_ble_eq_true rfl) ?_
  intro p e s m args below meth c A F
  have i_X1 : ∀ w ∈ u_ws RX1 TX1 10, w ∈ wsX7_remedy := fun _ h => List.mem_cons_of_mem _ (List.mem_append_left _ (List.mem_append_left _ (List.mem_append_left _ (List.mem_append_left _ (List.mem_append_left _ (List.mem_append_right _ h))))))
  have i_X7 : ∀ w ∈ u_ws RX7 TX7 4, w ∈ wsX7_remedy := fun _ h => List.mem_cons_of_mem _ (List.mem_append_left _ (List.mem_append_left _ (List.mem_append_left _ (List.mem_append_left _ (List.mem_append_left _ (List.mem_append_left _ (List.mem_append_right _ h)))))))
  unfold fX7_remedy at hf
  refine V.eq rfl (show lv_args 0 [.ref (a 0), .int x1, .int x2] = [(0, .ref (a 0)), (1, .int x1), (2, .int x2)] from rfl) rfl ?_
  refine V_aload_n (pc := 0) F dX7_remedy_0 rfl 0 rfl ?_
  refine V_iload_n (pc := 1) F dX7_remedy_1 rfl 2 rfl ?_
  obtain ⟨r1, g2, hf⟩ := bind_of hf
  rcases r1 with E | q3
  · replace hf := onS_inl hf
    exact nomatch some_of hf
  replace hf := onS_inr hf
  refine V_V (w2 := wX7 cy a v) (rest := []) (st2 := []) (pc := 2) F 7 (M_X7_checkPhase l D cy N a v x2 q3 g2) (cwV 1 F.ts gX7_remedy_X7_checkPhase rfl rfl rfl hd_X7_checkPhase ⟨Nat.le_of_ble_eq_true rfl, Nat.le_of_ble_eq_true rfl⟩) rfl dX7_remedy_2 Fit.whole rfl rfl rfl (Nat.le_of_ble_eq_true rfl) (Nat.zero_le _) (Nat.zero_le _) rfl rfl rfl ?_
  refine V_iload_n (pc := 5) F dX7_remedy_5 rfl 1 rfl ?_
  obtain ⟨r4, g5, hf⟩ := bind_of hf
  rcases r4 with E | q6
  · replace hf := onS_inl hf
    exact nomatch some_of hf
  replace hf := onS_inr hf
  refine V_Sc (rest := []) (st2 := []) (pc := 6) F (M_X7_checkDirection l D cy N x1 q6 g5) (va_cwS 1 F.ts gX7_remedy_X7_checkDirection rfl rfl rfl hd_X7_checkDirection ⟨Nat.le_of_ble_eq_true rfl, Nat.le_of_ble_eq_true rfl⟩) rfl dX7_remedy_6 (Nat.le_of_ble_eq_true rfl) (Nat.zero_le _) (Nat.zero_le _) rfl rfl ?_
  refine V_aload_n (pc := 9) F dX7_remedy_9 rfl 0 rfl ?_
  refine V_iload_n (pc := 10) F dX7_remedy_10 rfl 1 rfl ?_
  obtain ⟨r7, g8, hf⟩ := bind_of hf
  refine V_V (w2 := wX7 cy a r7) (rest := []) (st2 := []) (pc := 11) F 7 (M_X7_study l D cy N a v x1 r7 g8) (cwV 1 F.ts gX7_remedy_X7_study rfl rfl rfl hd_X7_study ⟨Nat.le_of_ble_eq_true rfl, Nat.le_of_ble_eq_true rfl⟩) rfl dX7_remedy_11 Fit.whole fstX7 rfl rfl (Nat.le_of_ble_eq_true rfl) (Nat.zero_le _) (Nat.zero_le _) rfl rfl rfl ?_
  refine V_aload_n (pc := 14) F dX7_remedy_14 rfl 0 rfl ?_
  refine V_get (pc := 15) F 0 7 3 i_X7 rfl (by decide) rfl (mm 1 rfl) dX7_remedy_15 rfl rfl ?_
  refine V_aload_n (pc := 18) F dX7_remedy_18 rfl 0 rfl ?_
  refine V_get (pc := 19) F 0 7 0 i_X7 rfl (by decide) rfl (mm 2 rfl) dX7_remedy_19 rfl rfl ?_
  refine V_get (pc := 22) F 1 1 0 i_X1 rfl (by decide) rfl (mm 3 rfl) dX7_remedy_22 rfl rfl ?_
  refine V_aload_n (pc := 25) F dX7_remedy_25 rfl 0 rfl ?_
  refine V_get (pc := 26) F 0 7 0 i_X7 rfl (by decide) rfl (mm 2 rfl) dX7_remedy_26 rfl rfl ?_
  refine V_get (pc := 29) F 1 1 5 i_X1 rfl (by decide) rfl (mm 4 rfl) dX7_remedy_29 rfl rfl ?_
  refine V_iload_n (pc := 32) F dX7_remedy_32 rfl 1 rfl ?_
  refine V_iload_n (pc := 33) F dX7_remedy_33 rfl 2 rfl ?_
  obtain ⟨r9, g10, hf⟩ := bind_of hf
  refine V_V2 (w2 := wX7 cy a r7) (rest := []) (st2 := [.int r9]) (pc := 34) F 3 (M_X3_remedyAt l D cy N (fun i => a (i + 27)) (fun i => a (i + 2)) r7.2.2.2 r7.1.1 r7.1.2.2.2.2.2.1 x1 x2 r9 g10) (cwV 4 F.ts gX7_remedy_X3_remedyAt rfl rfl rfl hd_X3_remedyAt ⟨Nat.le_of_ble_eq_true rfl, Nat.le_of_ble_eq_true rfl⟩) rfl dX7_remedy_34 (Fit2.right (Fit2.swap (Fit.right (Fit.left Fit.whole)) (Fit.right (Fit.left Fit.whole)))) rfl rfl rfl rfl (Nat.le_of_ble_eq_true rfl) (Nat.zero_le _) (Nat.zero_le _) rfl rfl rfl ?_
  obtain rfl := Sum.inr.inj (some_of hf)
  exact V_ret F rfl rfl dX7_remedy_37 rfl rfl

set_option maxHeartbeats 8000000 in
set_option maxRecDepth 100000 in
theorem T_X7_remedy (l : Launch) (hfl : l.stackTraces = false) (D : va_G) (cy : Nat → ClassId) (N : Nat) (a : Nat → Nat) (v : SX7) (x1 : Int32) (x2 : Int32) (o : String × SX7) (hf : fX7_remedy N v x1 x2 = some (.inl o)) : okT l yX7_remedy wsX7_remedy (rmx 7 119) D cy [.ref (a 0), .int x1, .int x2] (wX7 cy a v) (wX7 cy a o.2) o.1 := by
  refine okT_of hfl (own := RX7) (nme := "remedy") (cc := cX7_remedy) (maxL := 3) (ret := (some .int)) (by decide) rfl rfl rfl (Nat.le_of_ble_eq_true rfl) ?_
  intro p e s m args below meth c A F FT
  have i_X1 : ∀ w ∈ u_ws RX1 TX1 10, w ∈ wsX7_remedy := fun _ h => List.mem_cons_of_mem _ (List.mem_append_left _ (List.mem_append_left _ (List.mem_append_left _ (List.mem_append_left _ (List.mem_append_left _ (List.mem_append_right _ h))))))
  have i_X7 : ∀ w ∈ u_ws RX7 TX7 4, w ∈ wsX7_remedy := fun _ h => List.mem_cons_of_mem _ (List.mem_append_left _ (List.mem_append_left _ (List.mem_append_left _ (List.mem_append_left _ (List.mem_append_left _ (List.mem_append_left _ (List.mem_append_right _ h)))))))
  unfold fX7_remedy at hf
  refine V.eq rfl (show lv_args 0 [.ref (a 0), .int x1, .int x2] = [(0, .ref (a 0)), (1, .int x1), (2, .int x2)] from rfl) rfl ?_
  refine V_aload_n (pc := 0) F dX7_remedy_0 rfl 0 rfl ?_
  refine V_iload_n (pc := 1) F dX7_remedy_1 rfl 2 rfl ?_
  obtain ⟨r1, g2, hf⟩ := bind_of hf
  rcases r1 with E | q3
  · replace hf := onS_inl hf
    obtain rfl := Sum.inl.inj (some_of hf)
    exact T_V (rest := []) (pc := 2) F FT 7 (T_X7_checkPhase l hfl D cy N a v x2 E g2) (cwV 1 F.ts gX7_remedy_X7_checkPhase rfl rfl rfl hd_X7_checkPhase ⟨Nat.le_of_ble_eq_true rfl, Nat.le_of_ble_eq_true rfl⟩) rfl dX7_remedy_2 Fit.whole rfl rfl rfl (Nat.le_of_ble_eq_true rfl) (Nat.le_of_ble_eq_true rfl) (Nat.le_of_ble_eq_true rfl) rfl rfl
  replace hf := onS_inr hf
  refine V_V (w2 := wX7 cy a v) (rest := []) (st2 := []) (pc := 2) F 7 (M_X7_checkPhase l D cy N a v x2 q3 g2) (cwV 1 F.ts gX7_remedy_X7_checkPhase rfl rfl rfl hd_X7_checkPhase ⟨Nat.le_of_ble_eq_true rfl, Nat.le_of_ble_eq_true rfl⟩) rfl dX7_remedy_2 Fit.whole rfl rfl rfl (Nat.le_of_ble_eq_true rfl) (Nat.zero_le _) (Nat.zero_le _) rfl rfl rfl ?_
  refine V_iload_n (pc := 5) F dX7_remedy_5 rfl 1 rfl ?_
  obtain ⟨r4, g5, hf⟩ := bind_of hf
  rcases r4 with E | q6
  · replace hf := onS_inl hf
    obtain rfl := Sum.inl.inj (some_of hf)
    exact T_Sc (rest := []) (pc := 6) F FT (T_X7_checkDirection l hfl D cy N x1 E g5) (va_cwS 1 F.ts gX7_remedy_X7_checkDirection rfl rfl rfl hd_X7_checkDirection ⟨Nat.le_of_ble_eq_true rfl, Nat.le_of_ble_eq_true rfl⟩) rfl dX7_remedy_6 (Nat.le_of_ble_eq_true rfl) (Nat.le_of_ble_eq_true rfl) (Nat.le_of_ble_eq_true rfl) rfl rfl
  replace hf := onS_inr hf
  refine V_Sc (rest := []) (st2 := []) (pc := 6) F (M_X7_checkDirection l D cy N x1 q6 g5) (va_cwS 1 F.ts gX7_remedy_X7_checkDirection rfl rfl rfl hd_X7_checkDirection ⟨Nat.le_of_ble_eq_true rfl, Nat.le_of_ble_eq_true rfl⟩) rfl dX7_remedy_6 (Nat.le_of_ble_eq_true rfl) (Nat.zero_le _) (Nat.zero_le _) rfl rfl ?_
  refine V_aload_n (pc := 9) F dX7_remedy_9 rfl 0 rfl ?_
  refine V_iload_n (pc := 10) F dX7_remedy_10 rfl 1 rfl ?_
  obtain ⟨r7, g8, hf⟩ := bind_of hf
  refine V_V (w2 := wX7 cy a r7) (rest := []) (st2 := []) (pc := 11) F 7 (M_X7_study l D cy N a v x1 r7 g8) (cwV 1 F.ts gX7_remedy_X7_study rfl rfl rfl hd_X7_study ⟨Nat.le_of_ble_eq_true rfl, Nat.le_of_ble_eq_true rfl⟩) rfl dX7_remedy_11 Fit.whole fstX7 rfl rfl (Nat.le_of_ble_eq_true rfl) (Nat.zero_le _) (Nat.zero_le _) rfl rfl rfl ?_
  refine V_aload_n (pc := 14) F dX7_remedy_14 rfl 0 rfl ?_
  refine V_get (pc := 15) F 0 7 3 i_X7 rfl (by decide) rfl (mm 1 rfl) dX7_remedy_15 rfl rfl ?_
  refine V_aload_n (pc := 18) F dX7_remedy_18 rfl 0 rfl ?_
  refine V_get (pc := 19) F 0 7 0 i_X7 rfl (by decide) rfl (mm 2 rfl) dX7_remedy_19 rfl rfl ?_
  refine V_get (pc := 22) F 1 1 0 i_X1 rfl (by decide) rfl (mm 3 rfl) dX7_remedy_22 rfl rfl ?_
  refine V_aload_n (pc := 25) F dX7_remedy_25 rfl 0 rfl ?_
  refine V_get (pc := 26) F 0 7 0 i_X7 rfl (by decide) rfl (mm 2 rfl) dX7_remedy_26 rfl rfl ?_
  refine V_get (pc := 29) F 1 1 5 i_X1 rfl (by decide) rfl (mm 4 rfl) dX7_remedy_29 rfl rfl ?_
  refine V_iload_n (pc := 32) F dX7_remedy_32 rfl 1 rfl ?_
  refine V_iload_n (pc := 33) F dX7_remedy_33 rfl 2 rfl ?_
  obtain ⟨r9, g10, hf⟩ := bind_of hf
  refine V_V2 (w2 := wX7 cy a r7) (rest := []) (st2 := [.int r9]) (pc := 34) F 3 (M_X3_remedyAt l D cy N (fun i => a (i + 27)) (fun i => a (i + 2)) r7.2.2.2 r7.1.1 r7.1.2.2.2.2.2.1 x1 x2 r9 g10) (cwV 4 F.ts gX7_remedy_X3_remedyAt rfl rfl rfl hd_X3_remedyAt ⟨Nat.le_of_ble_eq_true rfl, Nat.le_of_ble_eq_true rfl⟩) rfl dX7_remedy_34 (Fit2.right (Fit2.swap (Fit.right (Fit.left Fit.whole)) (Fit.right (Fit.left Fit.whole)))) rfl rfl rfl rfl (Nat.le_of_ble_eq_true rfl) (Nat.zero_le _) (Nat.zero_le _) rfl rfl rfl ?_
  exact nomatch some_of hf
theorem hd_X7_safeShare : yX7_safeShare.cls = RX7 ∧ yX7_safeShare.cls ≠ "java/lang/invoke/MethodHandle" ∧ yX7_safeShare.cls ≠ "java/lang/invoke/VarHandle" ∧ (parseMethodDescriptor yX7_safeShare.desc).map (fun d => d.parameters.length) = some 0 := by decide +kernel
def fX7_safeShare (N : Nat) (v : SX7) : Option (UInt64) :=
  if v.1.1.2.2.2.2.2.2.1 = 0 then
    some FP.dconst1
  else
    (fX2_unsafePhases N v.1.1).bind fun r2 =>
      (fJ6_bitCount_0f7a4 N r2).bind fun r4 =>
        must (decide ((FP.ddiv (FP.i2d (v.1.1.2.2.2.2.2.2.1 - r4)) (FP.i2d v.1.1.2.2.2.2.2.2.1)) &&& 0x7fffffffffffffff ≤ 0x7ff0000000000000)) (
          some (FP.ddiv (FP.i2d (v.1.1.2.2.2.2.2.2.1 - r4)) (FP.i2d v.1.1.2.2.2.2.2.2.1))
        )
set_option maxHeartbeats 8000000 in
set_option maxRecDepth 100000 in
theorem M_X7_safeShare (l : Launch) (D : va_G) (cy : Nat → ClassId) (N : Nat) (a : Nat → Nat) (v : SX7) (o : UInt64) (hf : fX7_safeShare N v = some o) : okM l yX7_safeShare wsX7_safeShare (rmz 3 66) D cy [.ref (a 0)] (wX7 cy a v) (wX7 cy a v) (some (.double o)) := by
  refine okM_of (own := RX7) (nme := "safeShare") (cc := cX7_safeShare) (maxL := 3) (ret := (some .double)) (by decide) rfl rfl rfl (Nat.le_of_ble_eq_true rfl) ?_
  intro p e s m args below meth c A F
  have i_X1 : ∀ w ∈ u_ws RX1 TX1 10, w ∈ wsX7_safeShare := fun _ h => List.mem_cons_of_mem _ (List.mem_append_left _ (List.mem_append_left _ (List.mem_append_right _ h)))
  have i_X2 : ∀ w ∈ u_ws RX2 TX2 8, w ∈ wsX7_safeShare := fun _ h => List.mem_cons_of_mem _ (List.mem_append_left _ (List.mem_append_right _ h))
  have i_X7 : ∀ w ∈ u_ws RX7 TX7 4, w ∈ wsX7_safeShare := fun _ h => List.mem_cons_of_mem _ (List.mem_append_left _ (List.mem_append_left _ (List.mem_append_left _ (List.mem_append_right _ h))))
  unfold fX7_safeShare at hf
  refine V.eq rfl (show lv_args 0 [.ref (a 0)] = [(0, .ref (a 0))] from rfl) rfl ?_
  refine V_aload_n (pc := 0) F dX7_safeShare_0 rfl 0 rfl ?_
  refine V_get (pc := 1) F 0 7 0 i_X7 rfl (by decide) rfl (mm 1 rfl) dX7_safeShare_1 rfl rfl ?_
  refine V_get (pc := 4) F 1 1 0 i_X1 rfl (by decide) rfl (mm 2 rfl) dX7_safeShare_4 rfl rfl ?_
  refine V_get (pc := 7) F 2 2 6 i_X2 rfl (by decide) rfl (mm 3 rfl) dX7_safeShare_7 rfl rfl ?_
  refine V_istore_n (L2 := [(1, .int v.1.1.2.2.2.2.2.2.1), (0, .ref (a 0))]) (pc := 10) F dX7_safeShare_10 rfl (by decide) rfl ?_
  refine V_iload_n (pc := 11) F dX7_safeShare_11 rfl 0 rfl ?_
  refine V_if_ne (pc := 12) (tgt := 17) F dX7_safeShare_12 (by decide) (fun h1 => ?_) (fun h1 => ?_)
  · replace hf := ite_neg hf h1
    refine V_iload_n (pc := 17) F dX7_safeShare_17 rfl 0 rfl ?_
    refine V_aload_n (pc := 18) F dX7_safeShare_18 rfl 1 rfl ?_
    refine V_get (pc := 19) F 0 7 0 i_X7 rfl (by decide) rfl (mm 1 rfl) dX7_safeShare_19 rfl rfl ?_
    refine V_get (pc := 22) F 1 1 0 i_X1 rfl (by decide) rfl (mm 2 rfl) dX7_safeShare_22 rfl rfl ?_
    obtain ⟨r2, g3, hf⟩ := bind_of hf
    refine V_V (w2 := wX7 cy a v) (rest := [.int v.1.1.2.2.2.2.2.2.1]) (st2 := [.int r2, .int v.1.1.2.2.2.2.2.2.1]) (pc := 25) F 2 (M_X2_unsafePhases l D cy N (fun i => a (i + 2)) v.1.1 r2 g3) (cwV 0 F.ts gX7_safeShare_X2_unsafePhases rfl rfl rfl hd_X2_unsafePhases ⟨Nat.le_of_ble_eq_true rfl, Nat.le_of_ble_eq_true rfl⟩) rfl dX7_safeShare_25 (Fit.right (Fit.left (Fit.right (Fit.left Fit.whole)))) rfl rfl rfl (Nat.le_of_ble_eq_true rfl) (Nat.zero_le _) (Nat.zero_le _) rfl rfl rfl ?_
    obtain ⟨r4, g5, hf⟩ := bind_of hf
    refine V_Sc (rest := [.int v.1.1.2.2.2.2.2.2.1]) (st2 := [.int r4, .int v.1.1.2.2.2.2.2.2.1]) (pc := 28) F (M_J6_bitCount_0f7a4 l D cy N r2 r4 g5) (va_cwS 1 F.ts gX7_safeShare_J6_bitCount_0f7a4 rfl rfl rfl hd_J6_bitCount_0f7a4 ⟨Nat.le_of_ble_eq_true rfl, Nat.le_of_ble_eq_true rfl⟩) rfl dX7_safeShare_28 (Nat.le_of_ble_eq_true rfl) (Nat.zero_le _) (Nat.zero_le _) rfl rfl ?_
    refine V_isub (pc := 31) F dX7_safeShare_31 ?_
    refine V_istore_n (L2 := [(2, .int (v.1.1.2.2.2.2.2.2.1 - r4)), (1, .int v.1.1.2.2.2.2.2.2.1), (0, .ref (a 0))]) (pc := 32) F dX7_safeShare_32 rfl (by decide) rfl ?_
    refine V_iload_n (pc := 33) F dX7_safeShare_33 rfl 0 rfl ?_
    refine V_i2d (pc := 34) F dX7_safeShare_34 ?_
    refine V_iload_n (pc := 35) F dX7_safeShare_35 rfl 1 rfl ?_
    refine V_i2d (pc := 36) F dX7_safeShare_36 ?_
    obtain ⟨c6, hf⟩ := must_some hf
    refine V_ddiv (pc := 37) F dX7_safeShare_37 (n64_of c6) ?_
    obtain rfl := some_of hf
    exact V_dret F rfl dX7_safeShare_38 rfl rfl
  · replace hf := ite_pos hf h1
    refine V_dconst1 (pc := 15) F dX7_safeShare_15 ?_
    obtain rfl := some_of hf
    exact V_dret F rfl dX7_safeShare_16 rfl rfl
theorem hd_X7_mixDirection : yX7_mixDirection.cls = RX7 ∧ yX7_mixDirection.cls ≠ "java/lang/invoke/MethodHandle" ∧ yX7_mixDirection.cls ≠ "java/lang/invoke/VarHandle" ∧ (parseMethodDescriptor yX7_mixDirection.desc).map (fun d => d.parameters.length) = some 2 := by decide +kernel
def fX7_mixDirection_L6 (N : Nat) (v : SX7) (z3 : Int32) : Nat → Int64 → Int32 → Option (((String) ⊕ (Int64)) ⊕ (Int64))
  | 0, _, _ => none
  | n + 1, z4, z6 =>
    if 5 < z6 then
      some (.inr z4)
    else
      (fX7_direction N v z3 z6).bind fun r2 => onS r2 (fun E => some (.inl (.inl E))) fun q4 =>
        (fX7_mix N z4 ((q4).toInt64)).bind fun r5 =>
          fX7_mixDirection_L6 N v z3 n r5 (z6 + 1)
def fX7_mixDirection (N : Nat) (v : SX7) (x1 : Int64) (x3 : Int32) : Option ((String) ⊕ (Int64)) :=
  (fX7_mixDirection_L6 N v x3 N x1 0).bind fun u7 => onS u7 (fun r => some r) fun q9 =>
    (fX3_roundPhases N v.2.2.2 v.1.1 x3).bind fun r11 =>
      (fX7_mix N q9 ((r11).toInt64)).bind fun r13 =>
        some (.inr r13)
set_option maxHeartbeats 8000000 in
set_option maxRecDepth 100000 in
theorem M_X7_mixDirection (l : Launch) (D : va_G) (cy : Nat → ClassId) (N : Nat) (a : Nat → Nat) (v : SX7) (x1 : Int64) (x3 : Int32) (o : Int64) (hf : fX7_mixDirection N v x1 x3 = some (.inr o)) : okM l yX7_mixDirection wsX7_mixDirection (rmz 4 90) D cy [.ref (a 0), .long x1, .int x3] (wX7 cy a v) (wX7 cy a v) (some (.long o)) := by
  refine okM_of (own := RX7) (nme := "mixDirection") (cc := cX7_mixDirection) (maxL := 7) (ret := (some .long)) (by decide) rfl rfl rfl (Nat.le_of_ble_eq_true rfl) ?_
  intro p e s m args below meth c A F
  have i_X1 : ∀ w ∈ u_ws RX1 TX1 10, w ∈ wsX7_mixDirection := fun _ h => List.mem_cons_of_mem _ (List.mem_append_left _ (List.mem_append_left _ (List.mem_append_left _ (List.mem_append_left _ (List.mem_append_right _ h)))))
  have i_X7 : ∀ w ∈ u_ws RX7 TX7 4, w ∈ wsX7_mixDirection := fun _ h => List.mem_cons_of_mem _ (List.mem_append_left _ (List.mem_append_left _ (List.mem_append_left _ (List.mem_append_left _ (List.mem_append_left _ (List.mem_append_right _ h))))))
  have K6 : ∀ (n : Nat) (v : SX7) (z3 : Int32) (z4 : Int64) (z6 : Int32) (u : ((String) ⊕ (Int64)) ⊕ (Int64)), fX7_mixDirection_L6 N v z3 n z4 z6 = some u → (∀ r, u = .inl r → r = (.inr o)) → (∀ q, u = .inr q → V p l e (rmz 4 90) s m args below meth c 7 D A 0 0 (MQ below (ok_Q D (wX7 cy a v) (some (.long o)) A) args s 0 0 A) (wX7 cy a v) [(0, .ref (a 0)), (3, .int z3), (4, .long q)] [] 33) → V p l e (rmz 4 90) s m args below meth c 7 D A 0 0 (MQ below (ok_Q D (wX7 cy a v) (some (.long o)) A) args s 0 0 A) (wX7 cy a v) [(0, .ref (a 0)), (3, .int z3), (4, .long z4), (6, .int z6)] [] 6 := by
    intro n
    induction n with
    | zero =>
      intro v z3 z4 z6 u hf hr hk
      exact nomatch (show (none : Option (((String) ⊕ (Int64)) ⊕ (Int64))) = some u from hf)
    | succ n ih =>
      intro v z3 z4 z6 u hf hr hk
      rw [fX7_mixDirection_L6] at hf
      refine V_iload (pc := 6) F dX7_mixDirection_6 3 rfl ?_
      refine V_iconst (v := 5) (pc := 8) F dX7_mixDirection_8 (by decide) ?_
      refine V_icmp_gt (pc := 9) (tgt := 33) F dX7_mixDirection_9 (by decide) (fun h1 => ?_) (fun h1 => ?_)
      · replace hf := ite_pos hf h1
        exact V.sub [0, 1, 2] rfl (hk _ (some_of hf).symm)
      · replace hf := ite_neg hf h1
        refine V_lload (pc := 12) F dX7_mixDirection_12 2 rfl ?_
        refine V_aload_n (pc := 14) F dX7_mixDirection_14 rfl 0 rfl ?_
        refine V_iload_n (pc := 15) F dX7_mixDirection_15 rfl 1 rfl ?_
        refine V_iload (pc := 16) F dX7_mixDirection_16 3 rfl ?_
        obtain ⟨r2, g3, hf⟩ := bind_of hf
        rcases r2 with E | q4
        · replace hf := onS_inl hf
          exact nomatch hr _ (some_of hf).symm
        replace hf := onS_inr hf
        refine V_V (w2 := wX7 cy a v) (rest := [.long z4]) (st2 := [.int q4, .long z4]) (pc := 18) F 7 (M_X7_direction l D cy N a v z3 z6 q4 g3) (cwV 2 F.ts gX7_mixDirection_X7_direction rfl rfl rfl hd_X7_direction ⟨Nat.le_of_ble_eq_true rfl, Nat.le_of_ble_eq_true rfl⟩) rfl dX7_mixDirection_18 Fit.whole rfl rfl rfl (Nat.le_of_ble_eq_true rfl) (Nat.zero_le _) (Nat.zero_le _) rfl rfl rfl ?_
        refine V_i2l (pc := 21) F dX7_mixDirection_21 ?_
        obtain ⟨r5, g6, hf⟩ := bind_of hf
        refine V_Sc (rest := []) (st2 := [.long r5]) (pc := 22) F (M_X7_mix l D cy N z4 ((q4).toInt64) r5 g6) (va_cwS 2 F.ts gX7_mixDirection_X7_mix rfl rfl rfl hd_X7_mix ⟨Nat.le_of_ble_eq_true rfl, Nat.le_of_ble_eq_true rfl⟩) rfl dX7_mixDirection_22 (Nat.le_of_ble_eq_true rfl) (Nat.zero_le _) (Nat.zero_le _) rfl rfl ?_
        refine V_lstore (L2 := [(4, .long r5), (0, .ref (a 0)), (3, .int z3), (6, .int z6)]) (pc := 25) F dX7_mixDirection_25 (by decide) rfl ?_
        refine V_iinc (v := (z6 + 1)) (L2 := [(6, .int (z6 + 1)), (4, .long r5), (0, .ref (a 0)), (3, .int z3)]) (pc := 27) F dX7_mixDirection_27 3 rfl rfl (by decide) rfl ?_
        refine V_goto (pc := 30) (tgt := 6) F dX7_mixDirection_30 (by decide) ?_
        refine V.sub [2, 3, 1, 0] rfl ?_
        exact ih v z3 r5 (z6 + 1) _ hf hr hk
  unfold fX7_mixDirection at hf
  refine V.eq rfl (show lv_args 0 [.ref (a 0), .long x1, .int x3] = [(0, .ref (a 0)), (1, .long x1), (3, .int x3)] from rfl) rfl ?_
  refine V_lload_n (pc := 0) F dX7_mixDirection_0 rfl 1 rfl ?_
  refine V_lstore (L2 := [(4, .long x1), (0, .ref (a 0)), (1, .long x1), (3, .int x3)]) (pc := 1) F dX7_mixDirection_1 (by decide) rfl ?_
  refine V_iconst (v := 0) (pc := 3) F dX7_mixDirection_3 (by decide) ?_
  refine V_istore (L2 := [(6, .int 0), (4, .long x1), (0, .ref (a 0)), (1, .long x1), (3, .int x3)]) (pc := 4) F dX7_mixDirection_4 (by decide) rfl ?_
  refine V.sub [2, 4, 1, 0] rfl ?_
  obtain ⟨u7, g8, hf⟩ := bind_of hf
  refine K6 N v x3 x1 0 u7 g8 (fun r h10 => ?_) (fun q9 h10 => ?_)
  · subst h10
    replace hf := onS_inl hf
    exact some_of hf
  · subst h10
    replace hf := onS_inr hf
    refine V_lload (pc := 33) F dX7_mixDirection_33 2 rfl ?_
    refine V_aload_n (pc := 35) F dX7_mixDirection_35 rfl 0 rfl ?_
    refine V_get (pc := 36) F 0 7 3 i_X7 rfl (by decide) rfl (mm 1 rfl) dX7_mixDirection_36 rfl rfl ?_
    refine V_aload_n (pc := 39) F dX7_mixDirection_39 rfl 0 rfl ?_
    refine V_get (pc := 40) F 0 7 0 i_X7 rfl (by decide) rfl (mm 2 rfl) dX7_mixDirection_40 rfl rfl ?_
    refine V_get (pc := 43) F 1 1 0 i_X1 rfl (by decide) rfl (mm 3 rfl) dX7_mixDirection_43 rfl rfl ?_
    refine V_iload_n (pc := 46) F dX7_mixDirection_46 rfl 1 rfl ?_
    obtain ⟨r11, g12, hf⟩ := bind_of hf
    refine V_V2 (w2 := wX7 cy a v) (rest := [.long q9]) (st2 := [.int r11, .long q9]) (pc := 47) F 3 (M_X3_roundPhases l D cy N (fun i => a (i + 27)) (fun i => a (i + 2)) v.2.2.2 v.1.1 x3 r11 g12) (cwV 2 F.ts gX7_mixDirection_X3_roundPhases rfl rfl rfl hd_X3_roundPhases ⟨Nat.le_of_ble_eq_true rfl, Nat.le_of_ble_eq_true rfl⟩) rfl dX7_mixDirection_47 (Fit2.right (Fit2.swap (Fit.right (Fit.left Fit.whole)) (Fit.right (Fit.left Fit.whole)))) rfl rfl rfl rfl (Nat.le_of_ble_eq_true rfl) (Nat.zero_le _) (Nat.zero_le _) rfl rfl rfl ?_
    refine V_i2l (pc := 50) F dX7_mixDirection_50 ?_
    obtain ⟨r13, g14, hf⟩ := bind_of hf
    refine V_Sc (rest := []) (st2 := [.long r13]) (pc := 51) F (M_X7_mix l D cy N q9 ((r11).toInt64) r13 g14) (va_cwS 2 F.ts gX7_mixDirection_X7_mix rfl rfl rfl hd_X7_mix ⟨Nat.le_of_ble_eq_true rfl, Nat.le_of_ble_eq_true rfl⟩) rfl dX7_mixDirection_51 (Nat.le_of_ble_eq_true rfl) (Nat.zero_le _) (Nat.zero_le _) rfl rfl ?_
    obtain rfl := Sum.inr.inj (some_of hf)
    exact V_lret F rfl dX7_mixDirection_54 rfl rfl
theorem hd_X7_mixPhase : yX7_mixPhase.cls = RX7 ∧ yX7_mixPhase.cls ≠ "java/lang/invoke/MethodHandle" ∧ yX7_mixPhase.cls ≠ "java/lang/invoke/VarHandle" ∧ (parseMethodDescriptor yX7_mixPhase.desc).map (fun d => d.parameters.length) = some 2 := by decide +kernel
def fX7_mixPhase_L6 (N : Nat) (z3 : Int32) : Nat → SX7 → Int64 → Int32 → Option (((String × SX7) ⊕ (Int64 × SX7)) ⊕ (SX7 × Int64))
  | 0, _, _, _ => none
  | n + 1, v, z4, z6 =>
    if 5 < z6 then
      some (.inr (v, z4))
    else
      (fX7_phase N v z3 z6).bind fun r2 => onS r2 (fun E => some (.inl (.inl (E.1, E.2)))) fun q4 =>
        (fX7_mix N z4 ((q4.1).toInt64)).bind fun r5 =>
          fX7_mixPhase_L6 N z3 n q4.2 r5 (z6 + 1)
def fX7_mixPhase_L62 (N : Nat) (v : SX7) (z3 : Int32) (z6 : Int32) (z7 : Int32) : Nat → Int64 → Int32 → Option (((String × SX7) ⊕ (Int64 × SX7)) ⊕ (Int64))
  | 0, _, _ => none
  | n + 1, z4, z8 =>
    if 2 < z8 then
      some (.inr z4)
    else
      (fX7_rule N v z3 z7 z8).bind fun r13 => onS r13 (fun E => some (.inl (.inl (E, v)))) fun q15 =>
        (fX7_mix N z4 ((q15).toInt64)).bind fun r16 =>
          fX7_mixPhase_L62 N v z3 z6 z7 n r16 (z8 + 1)
def fX7_mixPhase_L52 (N : Nat) (v : SX7) (z3 : Int32) (z6 : Int32) : Nat → Int64 → Int32 → Option (((String × SX7) ⊕ (Int64 × SX7)) ⊕ (Int64))
  | 0, _, _ => none
  | n + 1, z4, z7 =>
    if z6 ≤ z7 then
      some (.inr z4)
    else
      (fX7_mixPhase_L62 N v z3 z6 z7 N z4 0).bind fun u18 => onS u18 (fun r => some (.inl r)) fun q20 =>
        fX7_mixPhase_L52 N v z3 z6 n q20 (z7 + 1)
def fX7_mixPhase (N : Nat) (v : SX7) (x1 : Int64) (x3 : Int32) : Option ((String × SX7) ⊕ (Int64 × SX7)) :=
  (fX7_mixPhase_L6 N x3 N v x1 0).bind fun u7 => onS u7 (fun r => some r) fun q9 =>
    (fX7_mixPhase_L52 N q9.1 x3 (rowAt 8 q9.1.1.1.2.2.2.1 x3) N q9.2 0).bind fun u22 => onS u22 (fun r => some r) fun q24 =>
      some (.inr (q24, q9.1))
set_option maxHeartbeats 8000000 in
set_option maxRecDepth 100000 in
theorem M_X7_mixPhase (l : Launch) (D : va_G) (cy : Nat → ClassId) (N : Nat) (a : Nat → Nat) (v : SX7) (x1 : Int64) (x3 : Int32) (o : Int64 × SX7) (hf : fX7_mixPhase N v x1 x3 = some (.inr o)) : okM l yX7_mixPhase wsX7_mixPhase (rmz 5 118) D cy [.ref (a 0), .long x1, .int x3] (wX7 cy a v) (wX7 cy a o.2) (some (.long o.1)) := by
  refine okM_of (own := RX7) (nme := "mixPhase") (cc := cX7_mixPhase) (maxL := 9) (ret := (some .long)) (by decide) rfl rfl rfl (Nat.le_of_ble_eq_true rfl) ?_
  intro p e s m args below meth c A F
  have i_X1 : ∀ w ∈ u_ws RX1 TX1 10, w ∈ wsX7_mixPhase := fun _ h => List.mem_cons_of_mem _ (List.mem_append_left _ (List.mem_append_left _ (List.mem_append_left _ (List.mem_append_left _ (List.mem_append_left _ (List.mem_append_right _ h))))))
  have i_X2 : ∀ w ∈ u_ws RX2 TX2 8, w ∈ wsX7_mixPhase := fun _ h => List.mem_cons_of_mem _ (List.mem_append_left _ (List.mem_append_left _ (List.mem_append_left _ (List.mem_append_left _ (List.mem_append_right _ h)))))
  have i_X7 : ∀ w ∈ u_ws RX7 TX7 4, w ∈ wsX7_mixPhase := fun _ h => List.mem_cons_of_mem _ (List.mem_append_left _ (List.mem_append_left _ (List.mem_append_left _ (List.mem_append_left _ (List.mem_append_left _ (List.mem_append_left _ (List.mem_append_right _ h)))))))
  have K6 : ∀ (n : Nat) (z3 : Int32) (v : SX7) (z4 : Int64) (z6 : Int32) (u : ((String × SX7) ⊕ (Int64 × SX7)) ⊕ (SX7 × Int64)), fX7_mixPhase_L6 N z3 n v z4 z6 = some u → (∀ r, u = .inl r → r = (.inr o)) → (∀ q, u = .inr q → V p l e (rmz 5 118) s m args below meth c 9 D A 0 0 (MQ below (ok_Q D (wX7 cy a o.2) (some (.long o.1)) A) args s 0 0 A) (wX7 cy a q.1) [(0, .ref (a 0)), (3, .int z3), (4, .long q.2)] [] 33) → V p l e (rmz 5 118) s m args below meth c 9 D A 0 0 (MQ below (ok_Q D (wX7 cy a o.2) (some (.long o.1)) A) args s 0 0 A) (wX7 cy a v) [(0, .ref (a 0)), (3, .int z3), (4, .long z4), (6, .int z6)] [] 6 := by
    intro n
    induction n with
    | zero =>
      intro z3 v z4 z6 u hf hr hk
      exact nomatch (show (none : Option (((String × SX7) ⊕ (Int64 × SX7)) ⊕ (SX7 × Int64))) = some u from hf)
    | succ n ih =>
      intro z3 v z4 z6 u hf hr hk
      rw [fX7_mixPhase_L6] at hf
      refine V_iload (pc := 6) F dX7_mixPhase_6 3 rfl ?_
      refine V_iconst (v := 5) (pc := 8) F dX7_mixPhase_8 (by decide) ?_
      refine V_icmp_gt (pc := 9) (tgt := 33) F dX7_mixPhase_9 (by decide) (fun h1 => ?_) (fun h1 => ?_)
      · replace hf := ite_pos hf h1
        exact V.sub [0, 1, 2] rfl (hk _ (some_of hf).symm)
      · replace hf := ite_neg hf h1
        refine V_lload (pc := 12) F dX7_mixPhase_12 2 rfl ?_
        refine V_aload_n (pc := 14) F dX7_mixPhase_14 rfl 0 rfl ?_
        refine V_iload_n (pc := 15) F dX7_mixPhase_15 rfl 1 rfl ?_
        refine V_iload (pc := 16) F dX7_mixPhase_16 3 rfl ?_
        obtain ⟨r2, g3, hf⟩ := bind_of hf
        rcases r2 with E | q4
        · replace hf := onS_inl hf
          exact nomatch hr _ (some_of hf).symm
        replace hf := onS_inr hf
        refine V_V (w2 := wX7 cy a q4.2) (rest := [.long z4]) (st2 := [.int q4.1, .long z4]) (pc := 18) F 7 (M_X7_phase l D cy N a v z3 z6 q4 g3) (cwV 2 F.ts gX7_mixPhase_X7_phase rfl rfl rfl hd_X7_phase ⟨Nat.le_of_ble_eq_true rfl, Nat.le_of_ble_eq_true rfl⟩) rfl dX7_mixPhase_18 Fit.whole fstX7 rfl rfl (Nat.le_of_ble_eq_true rfl) (Nat.zero_le _) (Nat.zero_le _) rfl rfl rfl ?_
        refine V_i2l (pc := 21) F dX7_mixPhase_21 ?_
        obtain ⟨r5, g6, hf⟩ := bind_of hf
        refine V_Sc (rest := []) (st2 := [.long r5]) (pc := 22) F (M_X7_mix l D cy N z4 ((q4.1).toInt64) r5 g6) (va_cwS 2 F.ts gX7_mixPhase_X7_mix rfl rfl rfl hd_X7_mix ⟨Nat.le_of_ble_eq_true rfl, Nat.le_of_ble_eq_true rfl⟩) rfl dX7_mixPhase_22 (Nat.le_of_ble_eq_true rfl) (Nat.zero_le _) (Nat.zero_le _) rfl rfl ?_
        refine V_lstore (L2 := [(4, .long r5), (0, .ref (a 0)), (3, .int z3), (6, .int z6)]) (pc := 25) F dX7_mixPhase_25 (by decide) rfl ?_
        refine V_iinc (v := (z6 + 1)) (L2 := [(6, .int (z6 + 1)), (4, .long r5), (0, .ref (a 0)), (3, .int z3)]) (pc := 27) F dX7_mixPhase_27 3 rfl rfl (by decide) rfl ?_
        refine V_goto (pc := 30) (tgt := 6) F dX7_mixPhase_30 (by decide) ?_
        refine V.sub [2, 3, 1, 0] rfl ?_
        exact ih z3 q4.2 r5 (z6 + 1) _ hf hr hk
  have K62 : ∀ (n : Nat) (v : SX7) (z3 : Int32) (z6 : Int32) (z7 : Int32) (z4 : Int64) (z8 : Int32) (u : ((String × SX7) ⊕ (Int64 × SX7)) ⊕ (Int64)), fX7_mixPhase_L62 N v z3 z6 z7 n z4 z8 = some u → (∀ r, u = .inl r → r = (.inr o)) → (∀ q, u = .inr q → V p l e (rmz 5 118) s m args below meth c 9 D A 0 0 (MQ below (ok_Q D (wX7 cy a o.2) (some (.long o.1)) A) args s 0 0 A) (wX7 cy a v) [(0, .ref (a 0)), (3, .int z3), (4, .long q), (6, .int z6), (7, .int z7)] [] 91) → V p l e (rmz 5 118) s m args below meth c 9 D A 0 0 (MQ below (ok_Q D (wX7 cy a o.2) (some (.long o.1)) A) args s 0 0 A) (wX7 cy a v) [(0, .ref (a 0)), (3, .int z3), (4, .long z4), (6, .int z6), (7, .int z7), (8, .int z8)] [] 62 := by
    intro n
    induction n with
    | zero =>
      intro v z3 z6 z7 z4 z8 u hf hr hk
      exact nomatch (show (none : Option (((String × SX7) ⊕ (Int64 × SX7)) ⊕ (Int64))) = some u from hf)
    | succ n ih =>
      intro v z3 z6 z7 z4 z8 u hf hr hk
      rw [fX7_mixPhase_L62] at hf
      refine V_iload (pc := 62) F dX7_mixPhase_62 5 rfl ?_
      refine V_iconst (v := 2) (pc := 64) F dX7_mixPhase_64 (by decide) ?_
      refine V_icmp_gt (pc := 65) (tgt := 91) F dX7_mixPhase_65 (by decide) (fun h12 => ?_) (fun h12 => ?_)
      · replace hf := ite_pos hf h12
        exact V.sub [0, 1, 2, 3, 4] rfl (hk _ (some_of hf).symm)
      · replace hf := ite_neg hf h12
        refine V_lload (pc := 68) F dX7_mixPhase_68 2 rfl ?_
        refine V_aload_n (pc := 70) F dX7_mixPhase_70 rfl 0 rfl ?_
        refine V_iload_n (pc := 71) F dX7_mixPhase_71 rfl 1 rfl ?_
        refine V_iload (pc := 72) F dX7_mixPhase_72 4 rfl ?_
        refine V_iload (pc := 74) F dX7_mixPhase_74 5 rfl ?_
        obtain ⟨r13, g14, hf⟩ := bind_of hf
        rcases r13 with E | q15
        · replace hf := onS_inl hf
          exact nomatch hr _ (some_of hf).symm
        replace hf := onS_inr hf
        refine V_V (w2 := wX7 cy a v) (rest := [.long z4]) (st2 := [.int q15, .long z4]) (pc := 76) F 7 (M_X7_rule l D cy N a v z3 z7 z8 q15 g14) (cwV 3 F.ts gX7_mixPhase_X7_rule rfl rfl rfl hd_X7_rule ⟨Nat.le_of_ble_eq_true rfl, Nat.le_of_ble_eq_true rfl⟩) rfl dX7_mixPhase_76 Fit.whole rfl rfl rfl (Nat.le_of_ble_eq_true rfl) (Nat.zero_le _) (Nat.zero_le _) rfl rfl rfl ?_
        refine V_i2l (pc := 79) F dX7_mixPhase_79 ?_
        obtain ⟨r16, g17, hf⟩ := bind_of hf
        refine V_Sc (rest := []) (st2 := [.long r16]) (pc := 80) F (M_X7_mix l D cy N z4 ((q15).toInt64) r16 g17) (va_cwS 2 F.ts gX7_mixPhase_X7_mix rfl rfl rfl hd_X7_mix ⟨Nat.le_of_ble_eq_true rfl, Nat.le_of_ble_eq_true rfl⟩) rfl dX7_mixPhase_80 (Nat.le_of_ble_eq_true rfl) (Nat.zero_le _) (Nat.zero_le _) rfl rfl ?_
        refine V_lstore (L2 := [(4, .long r16), (0, .ref (a 0)), (3, .int z3), (6, .int z6), (7, .int z7), (8, .int z8)]) (pc := 83) F dX7_mixPhase_83 (by decide) rfl ?_
        refine V_iinc (v := (z8 + 1)) (L2 := [(8, .int (z8 + 1)), (4, .long r16), (0, .ref (a 0)), (3, .int z3), (6, .int z6), (7, .int z7)]) (pc := 85) F dX7_mixPhase_85 5 rfl rfl (by decide) rfl ?_
        refine V_goto (pc := 88) (tgt := 62) F dX7_mixPhase_88 (by decide) ?_
        refine V.sub [2, 3, 1, 4, 5, 0] rfl ?_
        exact ih v z3 z6 z7 r16 (z8 + 1) _ hf hr hk
  have K52 : ∀ (n : Nat) (v : SX7) (z3 : Int32) (z6 : Int32) (z4 : Int64) (z7 : Int32) (u : ((String × SX7) ⊕ (Int64 × SX7)) ⊕ (Int64)), fX7_mixPhase_L52 N v z3 z6 n z4 z7 = some u → (∀ r, u = .inl r → r = (.inr o)) → (∀ q, u = .inr q → V p l e (rmz 5 118) s m args below meth c 9 D A 0 0 (MQ below (ok_Q D (wX7 cy a o.2) (some (.long o.1)) A) args s 0 0 A) (wX7 cy a v) [(4, .long q)] [] 97) → V p l e (rmz 5 118) s m args below meth c 9 D A 0 0 (MQ below (ok_Q D (wX7 cy a o.2) (some (.long o.1)) A) args s 0 0 A) (wX7 cy a v) [(0, .ref (a 0)), (3, .int z3), (4, .long z4), (6, .int z6), (7, .int z7)] [] 52 := by
    intro n
    induction n with
    | zero =>
      intro v z3 z6 z4 z7 u hf hr hk
      exact nomatch (show (none : Option (((String × SX7) ⊕ (Int64 × SX7)) ⊕ (Int64))) = some u from hf)
    | succ n ih =>
      intro v z3 z6 z4 z7 u hf hr hk
      rw [fX7_mixPhase_L52] at hf
      refine V_iload (pc := 52) F dX7_mixPhase_52 4 rfl ?_
      refine V_iload (pc := 54) F dX7_mixPhase_54 3 rfl ?_
      refine V_icmp_ge (pc := 56) (tgt := 97) F dX7_mixPhase_56 (by decide) (fun h11 => ?_) (fun h11 => ?_)
      · replace hf := ite_pos hf h11
        exact V.sub [2] rfl (hk _ (some_of hf).symm)
      · replace hf := ite_neg hf h11
        refine V_iconst (v := 0) (pc := 59) F dX7_mixPhase_59 (by decide) ?_
        refine V_istore (L2 := [(8, .int 0), (0, .ref (a 0)), (3, .int z3), (4, .long z4), (6, .int z6), (7, .int z7)]) (pc := 60) F dX7_mixPhase_60 (by decide) rfl ?_
        refine V.sub [1, 2, 3, 4, 5, 0] rfl ?_
        obtain ⟨u18, g19, hf⟩ := bind_of hf
        refine K62 N v z3 z6 z7 z4 0 u18 g19 (fun r h21 => ?_) (fun q20 h21 => ?_)
        · subst h21
          replace hf := onS_inl hf
          exact hr _ (some_of hf).symm
        · subst h21
          replace hf := onS_inr hf
          refine V_iinc (v := (z7 + 1)) (L2 := [(7, .int (z7 + 1)), (0, .ref (a 0)), (3, .int z3), (4, .long q20), (6, .int z6)]) (pc := 91) F dX7_mixPhase_91 4 rfl rfl (by decide) rfl ?_
          refine V_goto (pc := 94) (tgt := 52) F dX7_mixPhase_94 (by decide) ?_
          refine V.sub [1, 2, 3, 4, 0] rfl ?_
          exact ih v z3 z6 q20 (z7 + 1) _ hf hr hk
  unfold fX7_mixPhase at hf
  refine V.eq rfl (show lv_args 0 [.ref (a 0), .long x1, .int x3] = [(0, .ref (a 0)), (1, .long x1), (3, .int x3)] from rfl) rfl ?_
  refine V_lload_n (pc := 0) F dX7_mixPhase_0 rfl 1 rfl ?_
  refine V_lstore (L2 := [(4, .long x1), (0, .ref (a 0)), (1, .long x1), (3, .int x3)]) (pc := 1) F dX7_mixPhase_1 (by decide) rfl ?_
  refine V_iconst (v := 0) (pc := 3) F dX7_mixPhase_3 (by decide) ?_
  refine V_istore (L2 := [(6, .int 0), (4, .long x1), (0, .ref (a 0)), (1, .long x1), (3, .int x3)]) (pc := 4) F dX7_mixPhase_4 (by decide) rfl ?_
  refine V.sub [2, 4, 1, 0] rfl ?_
  obtain ⟨u7, g8, hf⟩ := bind_of hf
  refine K6 N x3 v x1 0 u7 g8 (fun r h10 => ?_) (fun q9 h10 => ?_)
  · subst h10
    replace hf := onS_inl hf
    exact some_of hf
  · subst h10
    replace hf := onS_inr hf
    refine V_aload_n (pc := 33) F dX7_mixPhase_33 rfl 0 rfl ?_
    refine V_get (pc := 34) F 0 7 0 i_X7 rfl (by decide) rfl (mm 1 rfl) dX7_mixPhase_34 rfl rfl ?_
    refine V_get (pc := 37) F 1 1 0 i_X1 rfl (by decide) rfl (mm 2 rfl) dX7_mixPhase_37 rfl rfl ?_
    refine V_get (pc := 40) F 2 2 3 i_X2 rfl (by decide) rfl (mm 3 rfl) dX7_mixPhase_40 rfl rfl ?_
    refine V_iload_n (pc := 43) F dX7_mixPhase_43 rfl 1 rfl ?_
    refine V_V (w2 := wX7 cy a q9.1) (rest := []) (st2 := [.int (rowAt 8 q9.1.1.1.2.2.2.1 x3)]) (pc := 44) F 5 (R_at l D cy (fun i => a (i + 9)) 8 q9.1.1.1.2.2.2.1 x3 (by decide)) (cwV 1 F.ts gX7_mixPhase_X5_at rfl rfl rfl hd_X5_at ⟨Nat.le_of_ble_eq_true rfl, Nat.le_of_ble_eq_true rfl⟩) rfl dX7_mixPhase_44 (Fit.right (Fit.left (Fit.right (Fit.left (Fit.right (Fit.right (Fit.right (Fit.right (Fit.left Fit.whole))))))))) rfl rfl rfl (Nat.le_of_ble_eq_true rfl) (Nat.zero_le _) (Nat.zero_le _) rfl rfl rfl ?_
    refine V_istore (L2 := [(6, .int (rowAt 8 q9.1.1.1.2.2.2.1 x3)), (0, .ref (a 0)), (3, .int x3), (4, .long q9.2)]) (pc := 47) F dX7_mixPhase_47 (by decide) rfl ?_
    refine V_iconst (v := 0) (pc := 49) F dX7_mixPhase_49 (by decide) ?_
    refine V_istore (L2 := [(7, .int 0), (6, .int (rowAt 8 q9.1.1.1.2.2.2.1 x3)), (0, .ref (a 0)), (3, .int x3), (4, .long q9.2)]) (pc := 50) F dX7_mixPhase_50 (by decide) rfl ?_
    refine V.sub [2, 3, 4, 1, 0] rfl ?_
    obtain ⟨u22, g23, hf⟩ := bind_of hf
    refine K52 N q9.1 x3 (rowAt 8 q9.1.1.1.2.2.2.1 x3) q9.2 0 u22 g23 (fun r h25 => ?_) (fun q24 h25 => ?_)
    · subst h25
      replace hf := onS_inl hf
      exact some_of hf
    · subst h25
      replace hf := onS_inr hf
      refine V_lload (pc := 97) F dX7_mixPhase_97 0 rfl ?_
      obtain rfl := Sum.inr.inj (some_of hf)
      exact V_lret F rfl dX7_mixPhase_99 rfl rfl
theorem hd_X7_mixProofs : yX7_mixProofs.cls = RX7 ∧ yX7_mixProofs.cls ≠ "java/lang/invoke/MethodHandle" ∧ yX7_mixProofs.cls ≠ "java/lang/invoke/VarHandle" ∧ (parseMethodDescriptor yX7_mixProofs.desc).map (fun d => d.parameters.length) = some 2 := by decide +kernel
def fX7_mixProofs_L6 (N : Nat) (v : SX7) (z3 : Int32) : Nat → Int64 → Int32 → Option (Int64)
  | 0, _, _ => none
  | n + 1, z4, z6 =>
    if 6 ≤ z6 then
      some z4
    else
      (fX3_starvesFrom N v.2.2.2 z6 z3).bind fun r2 =>
        if r2 = 0 then
          (fX7_mix N z4 0).bind fun r5 =>
            (fX3_longestFrom N v.2.2.2 z6 z3).bind fun r7 =>
              (fX7_mix N r5 ((r7).toInt64)).bind fun r9 =>
                (fX3_shortestFrom N v.2.2.2 z6 z3).bind fun r11 =>
                  (fX7_mix N r9 ((r11).toInt64)).bind fun r13 =>
                    (fX3_remedyAt N v.2.2.2 v.1.1 v.1.2.2.2.2.2.1 z6 z3).bind fun r15 =>
                      (fX7_mix N r13 ((r15).toInt64)).bind fun r17 =>
                        fX7_mixProofs_L6 N v z3 n r17 (z6 + 1)
        else
          (fX7_mix N z4 1).bind fun r19 =>
            (fX3_longestFrom N v.2.2.2 z6 z3).bind fun r21 =>
              (fX7_mix N r19 ((r21).toInt64)).bind fun r23 =>
                (fX3_shortestFrom N v.2.2.2 z6 z3).bind fun r25 =>
                  (fX7_mix N r23 ((r25).toInt64)).bind fun r27 =>
                    (fX3_remedyAt N v.2.2.2 v.1.1 v.1.2.2.2.2.2.1 z6 z3).bind fun r29 =>
                      (fX7_mix N r27 ((r29).toInt64)).bind fun r31 =>
                        fX7_mixProofs_L6 N v z3 n r31 (z6 + 1)
def fX7_mixProofs (N : Nat) (v : SX7) (x1 : Int64) (x3 : Int32) : Option (Int64) :=
  (fX7_mixProofs_L6 N v x3 N x1 0).bind fun u33 =>
    some u33
set_option maxHeartbeats 8000000 in
set_option maxRecDepth 100000 in
theorem M_X7_mixProofs (l : Launch) (D : va_G) (cy : Nat → ClassId) (N : Nat) (a : Nat → Nat) (v : SX7) (x1 : Int64) (x3 : Int32) (o : Int64) (hf : fX7_mixProofs N v x1 x3 = some o) : okM l yX7_mixProofs wsX7_mixProofs (rmz 4 100) D cy [.ref (a 0), .long x1, .int x3] (wX7 cy a v) (wX7 cy a v) (some (.long o)) := by
  refine okM_of (own := RX7) (nme := "mixProofs") (cc := cX7_mixProofs) (maxL := 7) (ret := (some .long)) (by decide) rfl rfl rfl (Nat.le_of_ble_eq_true rfl) ?_
  intro p e s m args below meth c A F
  have i_X1 : ∀ w ∈ u_ws RX1 TX1 10, w ∈ wsX7_mixProofs := fun _ h => List.mem_cons_of_mem _ (List.mem_append_left _ (List.mem_append_left _ (List.mem_append_left _ (List.mem_append_right _ h))))
  have i_X7 : ∀ w ∈ u_ws RX7 TX7 4, w ∈ wsX7_mixProofs := fun _ h => List.mem_cons_of_mem _ (List.mem_append_left _ (List.mem_append_left _ (List.mem_append_left _ (List.mem_append_left _ (List.mem_append_right _ h)))))
  have K6 : ∀ (n : Nat) (v : SX7) (z3 : Int32) (z4 : Int64) (z6 : Int32) (u : Int64), fX7_mixProofs_L6 N v z3 n z4 z6 = some u → V p l e (rmz 4 100) s m args below meth c 7 D A 0 0 (MQ below (ok_Q D (wX7 cy a v) (some (.long o)) A) args s 0 0 A) (wX7 cy a v) [(4, .long u)] [] 112 → V p l e (rmz 4 100) s m args below meth c 7 D A 0 0 (MQ below (ok_Q D (wX7 cy a v) (some (.long o)) A) args s 0 0 A) (wX7 cy a v) [(0, .ref (a 0)), (3, .int z3), (4, .long z4), (6, .int z6)] [] 6 := by
    intro n
    induction n with
    | zero =>
      intro v z3 z4 z6 u hf hk
      exact nomatch (show (none : Option (Int64)) = some u from hf)
    | succ n ih =>
      intro v z3 z4 z6 u hf hk
      rw [fX7_mixProofs_L6] at hf
      refine V_iload (pc := 6) F dX7_mixProofs_6 3 rfl ?_
      refine V_bipush (v := 6) (pc := 8) F dX7_mixProofs_8 (by decide) ?_
      refine V_icmp_ge (pc := 10) (tgt := 112) F dX7_mixProofs_10 (by decide) (fun h1 => ?_) (fun h1 => ?_)
      · replace hf := ite_pos hf h1
        obtain rfl := some_of hf
        exact V.sub [2] rfl hk
      · replace hf := ite_neg hf h1
        refine V_lload (pc := 13) F dX7_mixProofs_13 2 rfl ?_
        refine V_aload_n (pc := 15) F dX7_mixProofs_15 rfl 0 rfl ?_
        refine V_get (pc := 16) F 0 7 3 i_X7 rfl (by decide) rfl (mm 1 rfl) dX7_mixProofs_16 rfl rfl ?_
        refine V_iload (pc := 19) F dX7_mixProofs_19 3 rfl ?_
        refine V_iload_n (pc := 21) F dX7_mixProofs_21 rfl 1 rfl ?_
        obtain ⟨r2, g3, hf⟩ := bind_of hf
        refine V_V (w2 := wX7 cy a v) (rest := [.long z4]) (st2 := [.int r2, .long z4]) (pc := 22) F 3 (M_X3_starvesFrom l D cy N (fun i => a (i + 27)) v.2.2.2 z6 z3 r2 g3) (cwV 2 F.ts gX7_mixProofs_X3_starvesFrom rfl rfl rfl hd_X3_starvesFrom ⟨Nat.le_of_ble_eq_true rfl, Nat.le_of_ble_eq_true rfl⟩) rfl dX7_mixProofs_22 (Fit.right (Fit.right (Fit.right (Fit.left Fit.whole)))) rfl rfl rfl (Nat.le_of_ble_eq_true rfl) (Nat.zero_le _) (Nat.zero_le _) rfl rfl rfl ?_
        refine V_if_eq (pc := 25) (tgt := 32) F dX7_mixProofs_25 (by decide) (fun h4 => ?_) (fun h4 => ?_)
        · replace hf := ite_pos hf h4
          refine V_lconst (v := 0) (pc := 32) F dX7_mixProofs_32 (by decide) ?_
          obtain ⟨r5, g6, hf⟩ := bind_of hf
          refine V_Sc (rest := []) (st2 := [.long r5]) (pc := 33) F (M_X7_mix l D cy N z4 0 r5 g6) (va_cwS 2 F.ts gX7_mixProofs_X7_mix rfl rfl rfl hd_X7_mix ⟨Nat.le_of_ble_eq_true rfl, Nat.le_of_ble_eq_true rfl⟩) rfl dX7_mixProofs_33 (Nat.le_of_ble_eq_true rfl) (Nat.zero_le _) (Nat.zero_le _) rfl rfl ?_
          refine V_lstore (L2 := [(4, .long r5), (0, .ref (a 0)), (3, .int z3), (6, .int z6)]) (pc := 36) F dX7_mixProofs_36 (by decide) rfl ?_
          refine V_lload (pc := 38) F dX7_mixProofs_38 0 rfl ?_
          refine V_aload_n (pc := 40) F dX7_mixProofs_40 rfl 1 rfl ?_
          refine V_get (pc := 41) F 0 7 3 i_X7 rfl (by decide) rfl (mm 1 rfl) dX7_mixProofs_41 rfl rfl ?_
          refine V_iload (pc := 44) F dX7_mixProofs_44 3 rfl ?_
          refine V_iload_n (pc := 46) F dX7_mixProofs_46 rfl 2 rfl ?_
          obtain ⟨r7, g8, hf⟩ := bind_of hf
          refine V_V (w2 := wX7 cy a v) (rest := [.long r5]) (st2 := [.int r7, .long r5]) (pc := 47) F 3 (M_X3_longestFrom l D cy N (fun i => a (i + 27)) v.2.2.2 z6 z3 r7 g8) (cwV 2 F.ts gX7_mixProofs_X3_longestFrom rfl rfl rfl hd_X3_longestFrom ⟨Nat.le_of_ble_eq_true rfl, Nat.le_of_ble_eq_true rfl⟩) rfl dX7_mixProofs_47 (Fit.right (Fit.right (Fit.right (Fit.left Fit.whole)))) rfl rfl rfl (Nat.le_of_ble_eq_true rfl) (Nat.zero_le _) (Nat.zero_le _) rfl rfl rfl ?_
          refine V_i2l (pc := 50) F dX7_mixProofs_50 ?_
          obtain ⟨r9, g10, hf⟩ := bind_of hf
          refine V_Sc (rest := []) (st2 := [.long r9]) (pc := 51) F (M_X7_mix l D cy N r5 ((r7).toInt64) r9 g10) (va_cwS 2 F.ts gX7_mixProofs_X7_mix rfl rfl rfl hd_X7_mix ⟨Nat.le_of_ble_eq_true rfl, Nat.le_of_ble_eq_true rfl⟩) rfl dX7_mixProofs_51 (Nat.le_of_ble_eq_true rfl) (Nat.zero_le _) (Nat.zero_le _) rfl rfl ?_
          refine V_lstore (L2 := [(4, .long r9), (0, .ref (a 0)), (3, .int z3), (6, .int z6)]) (pc := 54) F dX7_mixProofs_54 (by decide) rfl ?_
          refine V_lload (pc := 56) F dX7_mixProofs_56 0 rfl ?_
          refine V_aload_n (pc := 58) F dX7_mixProofs_58 rfl 1 rfl ?_
          refine V_get (pc := 59) F 0 7 3 i_X7 rfl (by decide) rfl (mm 1 rfl) dX7_mixProofs_59 rfl rfl ?_
          refine V_iload (pc := 62) F dX7_mixProofs_62 3 rfl ?_
          refine V_iload_n (pc := 64) F dX7_mixProofs_64 rfl 2 rfl ?_
          obtain ⟨r11, g12, hf⟩ := bind_of hf
          refine V_V (w2 := wX7 cy a v) (rest := [.long r9]) (st2 := [.int r11, .long r9]) (pc := 65) F 3 (M_X3_shortestFrom l D cy N (fun i => a (i + 27)) v.2.2.2 z6 z3 r11 g12) (cwV 2 F.ts gX7_mixProofs_X3_shortestFrom rfl rfl rfl hd_X3_shortestFrom ⟨Nat.le_of_ble_eq_true rfl, Nat.le_of_ble_eq_true rfl⟩) rfl dX7_mixProofs_65 (Fit.right (Fit.right (Fit.right (Fit.left Fit.whole)))) rfl rfl rfl (Nat.le_of_ble_eq_true rfl) (Nat.zero_le _) (Nat.zero_le _) rfl rfl rfl ?_
          refine V_i2l (pc := 68) F dX7_mixProofs_68 ?_
          obtain ⟨r13, g14, hf⟩ := bind_of hf
          refine V_Sc (rest := []) (st2 := [.long r13]) (pc := 69) F (M_X7_mix l D cy N r9 ((r11).toInt64) r13 g14) (va_cwS 2 F.ts gX7_mixProofs_X7_mix rfl rfl rfl hd_X7_mix ⟨Nat.le_of_ble_eq_true rfl, Nat.le_of_ble_eq_true rfl⟩) rfl dX7_mixProofs_69 (Nat.le_of_ble_eq_true rfl) (Nat.zero_le _) (Nat.zero_le _) rfl rfl ?_
          refine V_lstore (L2 := [(4, .long r13), (0, .ref (a 0)), (3, .int z3), (6, .int z6)]) (pc := 72) F dX7_mixProofs_72 (by decide) rfl ?_
          refine V_lload (pc := 74) F dX7_mixProofs_74 0 rfl ?_
          refine V_aload_n (pc := 76) F dX7_mixProofs_76 rfl 1 rfl ?_
          refine V_get (pc := 77) F 0 7 3 i_X7 rfl (by decide) rfl (mm 1 rfl) dX7_mixProofs_77 rfl rfl ?_
          refine V_aload_n (pc := 80) F dX7_mixProofs_80 rfl 1 rfl ?_
          refine V_get (pc := 81) F 0 7 0 i_X7 rfl (by decide) rfl (mm 2 rfl) dX7_mixProofs_81 rfl rfl ?_
          refine V_get (pc := 84) F 1 1 0 i_X1 rfl (by decide) rfl (mm 3 rfl) dX7_mixProofs_84 rfl rfl ?_
          refine V_aload_n (pc := 87) F dX7_mixProofs_87 rfl 1 rfl ?_
          refine V_get (pc := 88) F 0 7 0 i_X7 rfl (by decide) rfl (mm 2 rfl) dX7_mixProofs_88 rfl rfl ?_
          refine V_get (pc := 91) F 1 1 5 i_X1 rfl (by decide) rfl (mm 4 rfl) dX7_mixProofs_91 rfl rfl ?_
          refine V_iload (pc := 94) F dX7_mixProofs_94 3 rfl ?_
          refine V_iload_n (pc := 96) F dX7_mixProofs_96 rfl 2 rfl ?_
          obtain ⟨r15, g16, hf⟩ := bind_of hf
          refine V_V2 (w2 := wX7 cy a v) (rest := [.long r13]) (st2 := [.int r15, .long r13]) (pc := 97) F 3 (M_X3_remedyAt l D cy N (fun i => a (i + 27)) (fun i => a (i + 2)) v.2.2.2 v.1.1 v.1.2.2.2.2.2.1 z6 z3 r15 g16) (cwV 4 F.ts gX7_mixProofs_X3_remedyAt rfl rfl rfl hd_X3_remedyAt ⟨Nat.le_of_ble_eq_true rfl, Nat.le_of_ble_eq_true rfl⟩) rfl dX7_mixProofs_97 (Fit2.right (Fit2.swap (Fit.right (Fit.left Fit.whole)) (Fit.right (Fit.left Fit.whole)))) rfl rfl rfl rfl (Nat.le_of_ble_eq_true rfl) (Nat.zero_le _) (Nat.zero_le _) rfl rfl rfl ?_
          refine V_i2l (pc := 100) F dX7_mixProofs_100 ?_
          obtain ⟨r17, g18, hf⟩ := bind_of hf
          refine V_Sc (rest := []) (st2 := [.long r17]) (pc := 101) F (M_X7_mix l D cy N r13 ((r15).toInt64) r17 g18) (va_cwS 2 F.ts gX7_mixProofs_X7_mix rfl rfl rfl hd_X7_mix ⟨Nat.le_of_ble_eq_true rfl, Nat.le_of_ble_eq_true rfl⟩) rfl dX7_mixProofs_101 (Nat.le_of_ble_eq_true rfl) (Nat.zero_le _) (Nat.zero_le _) rfl rfl ?_
          refine V_lstore (L2 := [(4, .long r17), (0, .ref (a 0)), (3, .int z3), (6, .int z6)]) (pc := 104) F dX7_mixProofs_104 (by decide) rfl ?_
          refine V_iinc (v := (z6 + 1)) (L2 := [(6, .int (z6 + 1)), (4, .long r17), (0, .ref (a 0)), (3, .int z3)]) (pc := 106) F dX7_mixProofs_106 3 rfl rfl (by decide) rfl ?_
          refine V_goto (pc := 109) (tgt := 6) F dX7_mixProofs_109 (by decide) ?_
          refine V.sub [2, 3, 1, 0] rfl ?_
          exact ih v z3 r17 (z6 + 1) _ hf hk
        · replace hf := ite_neg hf h4
          refine V_lconst (v := 1) (pc := 28) F dX7_mixProofs_28 (by decide) ?_
          refine V_goto (pc := 29) (tgt := 33) F dX7_mixProofs_29 (by decide) ?_
          obtain ⟨r19, g20, hf⟩ := bind_of hf
          refine V_Sc (rest := []) (st2 := [.long r19]) (pc := 33) F (M_X7_mix l D cy N z4 1 r19 g20) (va_cwS 2 F.ts gX7_mixProofs_X7_mix rfl rfl rfl hd_X7_mix ⟨Nat.le_of_ble_eq_true rfl, Nat.le_of_ble_eq_true rfl⟩) rfl dX7_mixProofs_33 (Nat.le_of_ble_eq_true rfl) (Nat.zero_le _) (Nat.zero_le _) rfl rfl ?_
          refine V_lstore (L2 := [(4, .long r19), (0, .ref (a 0)), (3, .int z3), (6, .int z6)]) (pc := 36) F dX7_mixProofs_36 (by decide) rfl ?_
          refine V_lload (pc := 38) F dX7_mixProofs_38 0 rfl ?_
          refine V_aload_n (pc := 40) F dX7_mixProofs_40 rfl 1 rfl ?_
          refine V_get (pc := 41) F 0 7 3 i_X7 rfl (by decide) rfl (mm 1 rfl) dX7_mixProofs_41 rfl rfl ?_
          refine V_iload (pc := 44) F dX7_mixProofs_44 3 rfl ?_
          refine V_iload_n (pc := 46) F dX7_mixProofs_46 rfl 2 rfl ?_
          obtain ⟨r21, g22, hf⟩ := bind_of hf
          refine V_V (w2 := wX7 cy a v) (rest := [.long r19]) (st2 := [.int r21, .long r19]) (pc := 47) F 3 (M_X3_longestFrom l D cy N (fun i => a (i + 27)) v.2.2.2 z6 z3 r21 g22) (cwV 2 F.ts gX7_mixProofs_X3_longestFrom rfl rfl rfl hd_X3_longestFrom ⟨Nat.le_of_ble_eq_true rfl, Nat.le_of_ble_eq_true rfl⟩) rfl dX7_mixProofs_47 (Fit.right (Fit.right (Fit.right (Fit.left Fit.whole)))) rfl rfl rfl (Nat.le_of_ble_eq_true rfl) (Nat.zero_le _) (Nat.zero_le _) rfl rfl rfl ?_
          refine V_i2l (pc := 50) F dX7_mixProofs_50 ?_
          obtain ⟨r23, g24, hf⟩ := bind_of hf
          refine V_Sc (rest := []) (st2 := [.long r23]) (pc := 51) F (M_X7_mix l D cy N r19 ((r21).toInt64) r23 g24) (va_cwS 2 F.ts gX7_mixProofs_X7_mix rfl rfl rfl hd_X7_mix ⟨Nat.le_of_ble_eq_true rfl, Nat.le_of_ble_eq_true rfl⟩) rfl dX7_mixProofs_51 (Nat.le_of_ble_eq_true rfl) (Nat.zero_le _) (Nat.zero_le _) rfl rfl ?_
          refine V_lstore (L2 := [(4, .long r23), (0, .ref (a 0)), (3, .int z3), (6, .int z6)]) (pc := 54) F dX7_mixProofs_54 (by decide) rfl ?_
          refine V_lload (pc := 56) F dX7_mixProofs_56 0 rfl ?_
          refine V_aload_n (pc := 58) F dX7_mixProofs_58 rfl 1 rfl ?_
          refine V_get (pc := 59) F 0 7 3 i_X7 rfl (by decide) rfl (mm 1 rfl) dX7_mixProofs_59 rfl rfl ?_
          refine V_iload (pc := 62) F dX7_mixProofs_62 3 rfl ?_
          refine V_iload_n (pc := 64) F dX7_mixProofs_64 rfl 2 rfl ?_
          obtain ⟨r25, g26, hf⟩ := bind_of hf
          refine V_V (w2 := wX7 cy a v) (rest := [.long r23]) (st2 := [.int r25, .long r23]) (pc := 65) F 3 (M_X3_shortestFrom l D cy N (fun i => a (i + 27)) v.2.2.2 z6 z3 r25 g26) (cwV 2 F.ts gX7_mixProofs_X3_shortestFrom rfl rfl rfl hd_X3_shortestFrom ⟨Nat.le_of_ble_eq_true rfl, Nat.le_of_ble_eq_true rfl⟩) rfl dX7_mixProofs_65 (Fit.right (Fit.right (Fit.right (Fit.left Fit.whole)))) rfl rfl rfl (Nat.le_of_ble_eq_true rfl) (Nat.zero_le _) (Nat.zero_le _) rfl rfl rfl ?_
          refine V_i2l (pc := 68) F dX7_mixProofs_68 ?_
          obtain ⟨r27, g28, hf⟩ := bind_of hf
          refine V_Sc (rest := []) (st2 := [.long r27]) (pc := 69) F (M_X7_mix l D cy N r23 ((r25).toInt64) r27 g28) (va_cwS 2 F.ts gX7_mixProofs_X7_mix rfl rfl rfl hd_X7_mix ⟨Nat.le_of_ble_eq_true rfl, Nat.le_of_ble_eq_true rfl⟩) rfl dX7_mixProofs_69 (Nat.le_of_ble_eq_true rfl) (Nat.zero_le _) (Nat.zero_le _) rfl rfl ?_
          refine V_lstore (L2 := [(4, .long r27), (0, .ref (a 0)), (3, .int z3), (6, .int z6)]) (pc := 72) F dX7_mixProofs_72 (by decide) rfl ?_
          refine V_lload (pc := 74) F dX7_mixProofs_74 0 rfl ?_
          refine V_aload_n (pc := 76) F dX7_mixProofs_76 rfl 1 rfl ?_
          refine V_get (pc := 77) F 0 7 3 i_X7 rfl (by decide) rfl (mm 1 rfl) dX7_mixProofs_77 rfl rfl ?_
          refine V_aload_n (pc := 80) F dX7_mixProofs_80 rfl 1 rfl ?_
          refine V_get (pc := 81) F 0 7 0 i_X7 rfl (by decide) rfl (mm 2 rfl) dX7_mixProofs_81 rfl rfl ?_
          refine V_get (pc := 84) F 1 1 0 i_X1 rfl (by decide) rfl (mm 3 rfl) dX7_mixProofs_84 rfl rfl ?_
          refine V_aload_n (pc := 87) F dX7_mixProofs_87 rfl 1 rfl ?_
          refine V_get (pc := 88) F 0 7 0 i_X7 rfl (by decide) rfl (mm 2 rfl) dX7_mixProofs_88 rfl rfl ?_
          refine V_get (pc := 91) F 1 1 5 i_X1 rfl (by decide) rfl (mm 4 rfl) dX7_mixProofs_91 rfl rfl ?_
          refine V_iload (pc := 94) F dX7_mixProofs_94 3 rfl ?_
          refine V_iload_n (pc := 96) F dX7_mixProofs_96 rfl 2 rfl ?_
          obtain ⟨r29, g30, hf⟩ := bind_of hf
          refine V_V2 (w2 := wX7 cy a v) (rest := [.long r27]) (st2 := [.int r29, .long r27]) (pc := 97) F 3 (M_X3_remedyAt l D cy N (fun i => a (i + 27)) (fun i => a (i + 2)) v.2.2.2 v.1.1 v.1.2.2.2.2.2.1 z6 z3 r29 g30) (cwV 4 F.ts gX7_mixProofs_X3_remedyAt rfl rfl rfl hd_X3_remedyAt ⟨Nat.le_of_ble_eq_true rfl, Nat.le_of_ble_eq_true rfl⟩) rfl dX7_mixProofs_97 (Fit2.right (Fit2.swap (Fit.right (Fit.left Fit.whole)) (Fit.right (Fit.left Fit.whole)))) rfl rfl rfl rfl (Nat.le_of_ble_eq_true rfl) (Nat.zero_le _) (Nat.zero_le _) rfl rfl rfl ?_
          refine V_i2l (pc := 100) F dX7_mixProofs_100 ?_
          obtain ⟨r31, g32, hf⟩ := bind_of hf
          refine V_Sc (rest := []) (st2 := [.long r31]) (pc := 101) F (M_X7_mix l D cy N r27 ((r29).toInt64) r31 g32) (va_cwS 2 F.ts gX7_mixProofs_X7_mix rfl rfl rfl hd_X7_mix ⟨Nat.le_of_ble_eq_true rfl, Nat.le_of_ble_eq_true rfl⟩) rfl dX7_mixProofs_101 (Nat.le_of_ble_eq_true rfl) (Nat.zero_le _) (Nat.zero_le _) rfl rfl ?_
          refine V_lstore (L2 := [(4, .long r31), (0, .ref (a 0)), (3, .int z3), (6, .int z6)]) (pc := 104) F dX7_mixProofs_104 (by decide) rfl ?_
          refine V_iinc (v := (z6 + 1)) (L2 := [(6, .int (z6 + 1)), (4, .long r31), (0, .ref (a 0)), (3, .int z3)]) (pc := 106) F dX7_mixProofs_106 3 rfl rfl (by decide) rfl ?_
          refine V_goto (pc := 109) (tgt := 6) F dX7_mixProofs_109 (by decide) ?_
          refine V.sub [2, 3, 1, 0] rfl ?_
          exact ih v z3 r31 (z6 + 1) _ hf hk
  unfold fX7_mixProofs at hf
  refine V.eq rfl (show lv_args 0 [.ref (a 0), .long x1, .int x3] = [(0, .ref (a 0)), (1, .long x1), (3, .int x3)] from rfl) rfl ?_
  refine V_lload_n (pc := 0) F dX7_mixProofs_0 rfl 1 rfl ?_
  refine V_lstore (L2 := [(4, .long x1), (0, .ref (a 0)), (1, .long x1), (3, .int x3)]) (pc := 1) F dX7_mixProofs_1 (by decide) rfl ?_
  refine V_iconst (v := 0) (pc := 3) F dX7_mixProofs_3 (by decide) ?_
  refine V_istore (L2 := [(6, .int 0), (4, .long x1), (0, .ref (a 0)), (1, .long x1), (3, .int x3)]) (pc := 4) F dX7_mixProofs_4 (by decide) rfl ?_
  refine V.sub [2, 4, 1, 0] rfl ?_
  obtain ⟨u33, g34, hf⟩ := bind_of hf
  refine K6 N v x3 x1 0 u33 g34 ?_
  refine V_lload (pc := 112) F dX7_mixProofs_112 0 rfl ?_
  obtain rfl := some_of hf
  exact V_lret F rfl dX7_mixProofs_114 rfl rfl
theorem hd_X7_bitsOfShare : yX7_bitsOfShare.cls ≠ "java/lang/invoke/MethodHandle" ∧ yX7_bitsOfShare.cls ≠ "java/lang/invoke/VarHandle" ∧ (parseMethodDescriptor yX7_bitsOfShare.desc).map (fun d => d.parameters.length) = some 1 := by decide +kernel
def fX7_bitsOfShare_L18 (N : Nat)  : Nat → UInt64 → Int64 → Int32 → Option (UInt64 × Int64)
  | 0, _, _, _ => none
  | n + 1, z2, z4, z6 =>
    if 1000 ≤ z6 then
      some (z2, z4)
    else
      if 0 ≤ (Op.cmpValue (FP.dcmp z2 FP.dconst1) .g) then
        some (z2, z4)
      else
        must (decide ((FP.dmul z2 (4611686018427387904)) &&& 0x7fffffffffffffff ≤ 0x7ff0000000000000)) (
          fX7_bitsOfShare_L18 N n (FP.dmul z2 (4611686018427387904)) (z4 - 1) (z6 + 1)
        )
def fX7_bitsOfShare (N : Nat) (x0 : UInt64) : Option (Int64) :=
  if 0 < (Op.cmpValue (FP.dcmp x0 FP.dconst0) .g) then
    (fX7_bitsOfShare_L18 N N x0 (1023) 0).bind fun u5 =>
      must (decide ((FP.dsub u5.1 FP.dconst1) &&& 0x7fffffffffffffff ≤ 0x7ff0000000000000)) (
        must (decide ((FP.dmul (FP.dsub u5.1 FP.dconst1) (4841369599423283200)) &&& 0x7fffffffffffffff ≤ 0x7ff0000000000000)) (
          some ((u5.2 <<< ((52 : Int32).toInt64 &&& 63)) ||| (FP.d2l (FP.dmul (FP.dsub u5.1 FP.dconst1) (4841369599423283200))))
        )
      )
  else
    some 0
set_option maxHeartbeats 8000000 in
set_option maxRecDepth 100000 in
theorem M_X7_bitsOfShare (l : Launch) (D : va_G) (cy : Nat → ClassId) (N : Nat) (x0 : UInt64) (o : Int64) (hf : fX7_bitsOfShare N x0 = some o) : okM l yX7_bitsOfShare wsX7_bitsOfShare (rmz 0 0) D cy [.double x0] ([] : va_W) ([] : va_W) (some (.long o)) := by
  refine okM_of (own := RX7) (nme := "bitsOfShare") (cc := cX7_bitsOfShare) (maxL := 7) (ret := (some .long)) (by decide) rfl rfl rfl (Nat.le_of_ble_eq_true rfl) ?_
  intro p e s m args below meth c A F
  have K18 : ∀ (n : Nat) (z2 : UInt64) (z4 : Int64) (z6 : Int32) (u : UInt64 × Int64), fX7_bitsOfShare_L18 N n z2 z4 z6 = some u → V p l e (rmz 0 0) s m args below meth c 7 D A 0 0 (MQ below (ok_Q D ([] : va_W) (some (.long o)) A) args s 0 0 A) ([] : va_W) [(2, .double u.1), (4, .long u.2)] [] 50 → V p l e (rmz 0 0) s m args below meth c 7 D A 0 0 (MQ below (ok_Q D ([] : va_W) (some (.long o)) A) args s 0 0 A) ([] : va_W) [(2, .double z2), (4, .long z4), (6, .int z6)] [] 18 := by
    intro n
    induction n with
    | zero =>
      intro z2 z4 z6 u hf hk
      exact nomatch (show (none : Option (UInt64 × Int64)) = some u from hf)
    | succ n ih =>
      intro z2 z4 z6 u hf hk
      rw [fX7_bitsOfShare_L18] at hf
      refine V_iload (pc := 18) F dX7_bitsOfShare_18 2 rfl ?_
      refine V_sipush (v := 1000) (pc := 20) F dX7_bitsOfShare_20 (by decide) ?_
      refine V_icmp_ge (pc := 23) (tgt := 50) F dX7_bitsOfShare_23 (by decide) (fun h2 => ?_) (fun h2 => ?_)
      · replace hf := ite_pos hf h2
        obtain rfl := some_of hf
        exact V.sub [0, 1] rfl hk
      · replace hf := ite_neg hf h2
        refine V_dload_n (pc := 26) F dX7_bitsOfShare_26 rfl 0 rfl ?_
        refine V_dconst1 (pc := 27) F dX7_bitsOfShare_27 ?_
        refine V_dcmp (pc := 28) F dX7_bitsOfShare_28 ?_
        refine V_if_ge (pc := 29) (tgt := 50) F dX7_bitsOfShare_29 (by decide) (fun h3 => ?_) (fun h3 => ?_)
        · replace hf := ite_pos hf h3
          obtain rfl := some_of hf
          exact V.sub [0, 1] rfl hk
        · replace hf := ite_neg hf h3
          refine V_dload_n (pc := 32) F dX7_bitsOfShare_32 rfl 0 rfl ?_
          refine V_ldc2d (v := (4611686018427387904)) (pc := 33) F dX7_bitsOfShare_33 (mm 2 rfl) ?_
          obtain ⟨c4, hf⟩ := must_some hf
          refine V_dmul (pc := 36) F dX7_bitsOfShare_36 (n64_of c4) ?_
          refine V_dstore_n (L2 := [(2, .double (FP.dmul z2 (4611686018427387904))), (4, .long z4), (6, .int z6)]) (pc := 37) F dX7_bitsOfShare_37 rfl (by decide) rfl ?_
          refine V_lload (pc := 38) F dX7_bitsOfShare_38 1 rfl ?_
          refine V_lconst (v := 1) (pc := 40) F dX7_bitsOfShare_40 (by decide) ?_
          refine V_lsub (pc := 41) F dX7_bitsOfShare_41 ?_
          refine V_lstore (L2 := [(4, .long (z4 - 1)), (2, .double (FP.dmul z2 (4611686018427387904))), (6, .int z6)]) (pc := 42) F dX7_bitsOfShare_42 (by decide) rfl ?_
          refine V_iinc (v := (z6 + 1)) (L2 := [(6, .int (z6 + 1)), (4, .long (z4 - 1)), (2, .double (FP.dmul z2 (4611686018427387904)))]) (pc := 44) F dX7_bitsOfShare_44 2 rfl rfl (by decide) rfl ?_
          refine V_goto (pc := 47) (tgt := 18) F dX7_bitsOfShare_47 (by decide) ?_
          refine V.sub [2, 1, 0] rfl ?_
          exact ih (FP.dmul z2 (4611686018427387904)) (z4 - 1) (z6 + 1) _ hf hk
  unfold fX7_bitsOfShare at hf
  refine V.eq rfl (show lv_args 0 [.double x0] = [(0, .double x0)] from rfl) rfl ?_
  refine V_dload_n (pc := 0) F dX7_bitsOfShare_0 rfl 0 rfl ?_
  refine V_dconst0 (pc := 1) F dX7_bitsOfShare_1 ?_
  refine V_dcmp (pc := 2) F dX7_bitsOfShare_2 ?_
  refine V_if_gt (pc := 3) (tgt := 8) F dX7_bitsOfShare_3 (by decide) (fun h1 => ?_) (fun h1 => ?_)
  · replace hf := ite_pos hf h1
    refine V_dload_n (pc := 8) F dX7_bitsOfShare_8 rfl 0 rfl ?_
    refine V_dstore_n (L2 := [(2, .double x0), (0, .double x0)]) (pc := 9) F dX7_bitsOfShare_9 rfl (by decide) rfl ?_
    refine V_ldc2 (v := (1023)) (pc := 10) F dX7_bitsOfShare_10 (mm 1 rfl) ?_
    refine V_lstore (L2 := [(4, .long (1023)), (2, .double x0), (0, .double x0)]) (pc := 13) F dX7_bitsOfShare_13 (by decide) rfl ?_
    refine V_iconst (v := 0) (pc := 15) F dX7_bitsOfShare_15 (by decide) ?_
    refine V_istore (L2 := [(6, .int 0), (4, .long (1023)), (2, .double x0), (0, .double x0)]) (pc := 16) F dX7_bitsOfShare_16 (by decide) rfl ?_
    refine V.sub [2, 1, 0] rfl ?_
    obtain ⟨u5, g6, hf⟩ := bind_of hf
    refine K18 N x0 (1023) 0 u5 g6 ?_
    refine V_lload (pc := 50) F dX7_bitsOfShare_50 1 rfl ?_
    refine V_bipush (v := 52) (pc := 52) F dX7_bitsOfShare_52 (by decide) ?_
    refine V_lshl (pc := 54) F dX7_bitsOfShare_54 ?_
    refine V_dload_n (pc := 55) F dX7_bitsOfShare_55 rfl 0 rfl ?_
    refine V_dconst1 (pc := 56) F dX7_bitsOfShare_56 ?_
    obtain ⟨c7, hf⟩ := must_some hf
    refine V_dsub (pc := 57) F dX7_bitsOfShare_57 (n64_of c7) ?_
    refine V_ldc2d (v := (4841369599423283200)) (pc := 58) F dX7_bitsOfShare_58 (mm 3 rfl) ?_
    obtain ⟨c8, hf⟩ := must_some hf
    refine V_dmul (pc := 61) F dX7_bitsOfShare_61 (n64_of c8) ?_
    refine V_d2l (pc := 62) F dX7_bitsOfShare_62 ?_
    refine V_lor (pc := 63) F dX7_bitsOfShare_63 ?_
    obtain rfl := some_of hf
    exact V_lret F rfl dX7_bitsOfShare_64 rfl rfl
  · replace hf := ite_neg hf h1
    refine V_lconst (v := 0) (pc := 6) F dX7_bitsOfShare_6 (by decide) ?_
    obtain rfl := some_of hf
    exact V_lret F rfl dX7_bitsOfShare_7 rfl rfl
theorem hd_X7_digest : yX7_digest.cls = RX7 ∧ yX7_digest.cls ≠ "java/lang/invoke/MethodHandle" ∧ yX7_digest.cls ≠ "java/lang/invoke/VarHandle" ∧ (parseMethodDescriptor yX7_digest.desc).map (fun d => d.parameters.length) = some 0 := by decide +kernel
def fX7_digest_L10 (N : Nat)  : Nat → SX7 → Int64 → Int32 → Option (((String × SX7) ⊕ (Int64 × SX7)) ⊕ (SX7 × Int64))
  | 0, _, _, _ => none
  | n + 1, v, z1, z3 =>
    if 11 < z3 then
      some (.inr (v, z1))
    else
      (fX7_count N v z3).bind fun r4 => onS r4 (fun E => some (.inl (.inl (E.1, E.2)))) fun q6 =>
        (fX7_mix N z1 ((q6.1).toInt64)).bind fun r7 =>
          fX7_digest_L10 N n q6.2 r7 (z3 + 1)
def fX7_digest_L51 (N : Nat) (v : SX7) : Nat → Int64 → Int32 → Option (((String × SX7) ⊕ (Int64 × SX7)) ⊕ (Int64))
  | 0, _, _ => none
  | n + 1, z1, z3 =>
    if 6 ≤ z3 then
      some (.inr z1)
    else
      (fX7_mixDirection N v z1 z3).bind fun r16 => onS r16 (fun E => some (.inl (.inl (E, v)))) fun q18 =>
        fX7_digest_L51 N v n q18 (z3 + 1)
def fX7_digest_L72 (N : Nat)  : Nat → SX7 → Int64 → Int32 → Option (((String × SX7) ⊕ (Int64 × SX7)) ⊕ (SX7 × Int64))
  | 0, _, _, _ => none
  | n + 1, v, z1, z3 =>
    if v.1.1.2.2.2.2.2.2.1 ≤ z3 then
      some (.inr (v, z1))
    else
      (fX7_mixPhase N v z1 z3).bind fun r24 => onS r24 (fun E => some (.inl (.inl (E.1, E.2)))) fun q26 =>
        (fX7_mixProofs N q26.2 q26.1 z3).bind fun r27 =>
          fX7_digest_L72 N n q26.2 r27 (z3 + 1)
def fX7_digest (N : Nat) (v : SX7) : Option ((String × SX7) ⊕ (Int64 × SX7)) :=
  (fX7_studyAll N v).bind fun r1 =>
    (fX7_digest_L10 N N r1 (2803) 0).bind fun u9 => onS u9 (fun r => some r) fun q11 =>
      (fX7_mix N q11.2 ((q11.1.1.1.2.2.2.2.2.2.2).toInt64)).bind fun r13 =>
        (fX7_digest_L51 N q11.1 N r13 0).bind fun u19 => onS u19 (fun r => some r) fun q21 =>
          (fX7_digest_L72 N N q11.1 q21 0).bind fun u29 => onS u29 (fun r => some r) fun q31 =>
            (fX7_slowest N q31.1).bind fun r33 =>
              (fX7_mix N q31.2 ((r33.1).toInt64)).bind fun r35 =>
                (fX7_safeShare N r33.2).bind fun r37 =>
                  (fX7_bitsOfShare N r37).bind fun r39 =>
                    (fX7_mix N r35 r39).bind fun r41 =>
                      (fX6_mixInto N r33.2.2.2.1 r41).bind fun r43 =>
                        some (.inr (r43, r33.2))
set_option maxHeartbeats 8000000 in
set_option maxRecDepth 100000 in
theorem M_X7_digest (l : Launch) (D : va_G) (cy : Nat → ClassId) (N : Nat) (a : Nat → Nat) (v : SX7) (o : Int64 × SX7) (hf : fX7_digest N v = some (.inr o)) : okM l yX7_digest wsX7_digest (rmz 6 146) D cy [.ref (a 0)] (wX7 cy a v) (wX7 cy a o.2) (some (.long o.1)) := by
  refine okM_of (own := RX7) (nme := "digest") (cc := cX7_digest) (maxL := 4) (ret := (some .long)) (by decide) rfl rfl rfl (Nat.le_of_ble_eq_true rfl) ?_
  intro p e s m args below meth c A F
  have i_X1 : ∀ w ∈ u_ws RX1 TX1 10, w ∈ wsX7_digest := fun _ h => List.mem_cons_of_mem _ (List.mem_append_left _ (List.mem_append_left _ (List.mem_append_left _ (List.mem_append_left _ (List.mem_append_left _ (List.mem_append_left _ (List.mem_append_left _ (List.mem_append_right _ h))))))))
  have i_X2 : ∀ w ∈ u_ws RX2 TX2 8, w ∈ wsX7_digest := fun _ h => List.mem_cons_of_mem _ (List.mem_append_left _ (List.mem_append_left _ (List.mem_append_left _ (List.mem_append_left _ (List.mem_append_left _ (List.mem_append_left _ (List.mem_append_right _ h)))))))
  have i_X7 : ∀ w ∈ u_ws RX7 TX7 4, w ∈ wsX7_digest := fun _ h => List.mem_cons_of_mem _ (List.mem_append_left _ (List.mem_append_left _ (List.mem_append_left _ (List.mem_append_left _ (List.mem_append_left _ (List.mem_append_left _ (List.mem_append_left _ (List.mem_append_left _ (List.mem_append_right _ h)))))))))
  have K10 : ∀ (n : Nat) (v : SX7) (z1 : Int64) (z3 : Int32) (u : ((String × SX7) ⊕ (Int64 × SX7)) ⊕ (SX7 × Int64)), fX7_digest_L10 N n v z1 z3 = some u → (∀ r, u = .inl r → r = (.inr o)) → (∀ q, u = .inr q → V p l e (rmz 6 146) s m args below meth c 4 D A 0 0 (MQ below (ok_Q D (wX7 cy a o.2) (some (.long o.1)) A) args s 0 0 A) (wX7 cy a q.1) [(0, .ref (a 0)), (1, .long q.2)] [] 33) → V p l e (rmz 6 146) s m args below meth c 4 D A 0 0 (MQ below (ok_Q D (wX7 cy a o.2) (some (.long o.1)) A) args s 0 0 A) (wX7 cy a v) [(0, .ref (a 0)), (1, .long z1), (3, .int z3)] [] 10 := by
    intro n
    induction n with
    | zero =>
      intro v z1 z3 u hf hr hk
      exact nomatch (show (none : Option (((String × SX7) ⊕ (Int64 × SX7)) ⊕ (SX7 × Int64))) = some u from hf)
    | succ n ih =>
      intro v z1 z3 u hf hr hk
      rw [fX7_digest_L10] at hf
      refine V_iload_n (pc := 10) F dX7_digest_10 rfl 2 rfl ?_
      refine V_bipush (v := 11) (pc := 11) F dX7_digest_11 (by decide) ?_
      refine V_icmp_gt (pc := 13) (tgt := 33) F dX7_digest_13 (by decide) (fun h3 => ?_) (fun h3 => ?_)
      · replace hf := ite_pos hf h3
        exact V.sub [0, 1] rfl (hk _ (some_of hf).symm)
      · replace hf := ite_neg hf h3
        refine V_lload_n (pc := 16) F dX7_digest_16 rfl 1 rfl ?_
        refine V_aload_n (pc := 17) F dX7_digest_17 rfl 0 rfl ?_
        refine V_iload_n (pc := 18) F dX7_digest_18 rfl 2 rfl ?_
        obtain ⟨r4, g5, hf⟩ := bind_of hf
        rcases r4 with E | q6
        · replace hf := onS_inl hf
          exact nomatch hr _ (some_of hf).symm
        replace hf := onS_inr hf
        refine V_V (w2 := wX7 cy a q6.2) (rest := [.long z1]) (st2 := [.int q6.1, .long z1]) (pc := 19) F 7 (M_X7_count l D cy N a v z3 q6 g5) (cwV 1 F.ts gX7_digest_X7_count rfl rfl rfl hd_X7_count ⟨Nat.le_of_ble_eq_true rfl, Nat.le_of_ble_eq_true rfl⟩) rfl dX7_digest_19 Fit.whole fstX7 rfl rfl (Nat.le_of_ble_eq_true rfl) (Nat.zero_le _) (Nat.zero_le _) rfl rfl rfl ?_
        refine V_i2l (pc := 22) F dX7_digest_22 ?_
        obtain ⟨r7, g8, hf⟩ := bind_of hf
        refine V_Sc (rest := []) (st2 := [.long r7]) (pc := 23) F (M_X7_mix l D cy N z1 ((q6.1).toInt64) r7 g8) (va_cwS 2 F.ts gX7_digest_X7_mix rfl rfl rfl hd_X7_mix ⟨Nat.le_of_ble_eq_true rfl, Nat.le_of_ble_eq_true rfl⟩) rfl dX7_digest_23 (Nat.le_of_ble_eq_true rfl) (Nat.zero_le _) (Nat.zero_le _) rfl rfl ?_
        refine V_lstore_n (L2 := [(1, .long r7), (0, .ref (a 0)), (3, .int z3)]) (pc := 26) F dX7_digest_26 rfl (by decide) rfl ?_
        refine V_iinc (v := (z3 + 1)) (L2 := [(3, .int (z3 + 1)), (1, .long r7), (0, .ref (a 0))]) (pc := 27) F dX7_digest_27 2 rfl rfl (by decide) rfl ?_
        refine V_goto (pc := 30) (tgt := 10) F dX7_digest_30 (by decide) ?_
        refine V.sub [2, 1, 0] rfl ?_
        exact ih q6.2 r7 (z3 + 1) _ hf hr hk
  have K51 : ∀ (n : Nat) (v : SX7) (z1 : Int64) (z3 : Int32) (u : ((String × SX7) ⊕ (Int64 × SX7)) ⊕ (Int64)), fX7_digest_L51 N v n z1 z3 = some u → (∀ r, u = .inl r → r = (.inr o)) → (∀ q, u = .inr q → V p l e (rmz 6 146) s m args below meth c 4 D A 0 0 (MQ below (ok_Q D (wX7 cy a o.2) (some (.long o.1)) A) args s 0 0 A) (wX7 cy a v) [(0, .ref (a 0)), (1, .long q)] [] 70) → V p l e (rmz 6 146) s m args below meth c 4 D A 0 0 (MQ below (ok_Q D (wX7 cy a o.2) (some (.long o.1)) A) args s 0 0 A) (wX7 cy a v) [(0, .ref (a 0)), (1, .long z1), (3, .int z3)] [] 51 := by
    intro n
    induction n with
    | zero =>
      intro v z1 z3 u hf hr hk
      exact nomatch (show (none : Option (((String × SX7) ⊕ (Int64 × SX7)) ⊕ (Int64))) = some u from hf)
    | succ n ih =>
      intro v z1 z3 u hf hr hk
      rw [fX7_digest_L51] at hf
      refine V_iload_n (pc := 51) F dX7_digest_51 rfl 2 rfl ?_
      refine V_bipush (v := 6) (pc := 52) F dX7_digest_52 (by decide) ?_
      refine V_icmp_ge (pc := 54) (tgt := 70) F dX7_digest_54 (by decide) (fun h15 => ?_) (fun h15 => ?_)
      · replace hf := ite_pos hf h15
        exact V.sub [0, 1] rfl (hk _ (some_of hf).symm)
      · replace hf := ite_neg hf h15
        refine V_aload_n (pc := 57) F dX7_digest_57 rfl 0 rfl ?_
        refine V_lload_n (pc := 58) F dX7_digest_58 rfl 1 rfl ?_
        refine V_iload_n (pc := 59) F dX7_digest_59 rfl 2 rfl ?_
        obtain ⟨r16, g17, hf⟩ := bind_of hf
        rcases r16 with E | q18
        · replace hf := onS_inl hf
          exact nomatch hr _ (some_of hf).symm
        replace hf := onS_inr hf
        refine V_V (w2 := wX7 cy a v) (rest := []) (st2 := [.long q18]) (pc := 60) F 7 (M_X7_mixDirection l D cy N a v z1 z3 q18 g17) (cwV 2 F.ts gX7_digest_X7_mixDirection rfl rfl rfl hd_X7_mixDirection ⟨Nat.le_of_ble_eq_true rfl, Nat.le_of_ble_eq_true rfl⟩) rfl dX7_digest_60 Fit.whole rfl rfl rfl (Nat.le_of_ble_eq_true rfl) (Nat.zero_le _) (Nat.zero_le _) rfl rfl rfl ?_
        refine V_lstore_n (L2 := [(1, .long q18), (0, .ref (a 0)), (3, .int z3)]) (pc := 63) F dX7_digest_63 rfl (by decide) rfl ?_
        refine V_iinc (v := (z3 + 1)) (L2 := [(3, .int (z3 + 1)), (1, .long q18), (0, .ref (a 0))]) (pc := 64) F dX7_digest_64 2 rfl rfl (by decide) rfl ?_
        refine V_goto (pc := 67) (tgt := 51) F dX7_digest_67 (by decide) ?_
        refine V.sub [2, 1, 0] rfl ?_
        exact ih v q18 (z3 + 1) _ hf hr hk
  have K72 : ∀ (n : Nat) (v : SX7) (z1 : Int64) (z3 : Int32) (u : ((String × SX7) ⊕ (Int64 × SX7)) ⊕ (SX7 × Int64)), fX7_digest_L72 N n v z1 z3 = some u → (∀ r, u = .inl r → r = (.inr o)) → (∀ q, u = .inr q → V p l e (rmz 6 146) s m args below meth c 4 D A 0 0 (MQ below (ok_Q D (wX7 cy a o.2) (some (.long o.1)) A) args s 0 0 A) (wX7 cy a q.1) [(0, .ref (a 0)), (1, .long q.2)] [] 106) → V p l e (rmz 6 146) s m args below meth c 4 D A 0 0 (MQ below (ok_Q D (wX7 cy a o.2) (some (.long o.1)) A) args s 0 0 A) (wX7 cy a v) [(0, .ref (a 0)), (1, .long z1), (3, .int z3)] [] 72 := by
    intro n
    induction n with
    | zero =>
      intro v z1 z3 u hf hr hk
      exact nomatch (show (none : Option (((String × SX7) ⊕ (Int64 × SX7)) ⊕ (SX7 × Int64))) = some u from hf)
    | succ n ih =>
      intro v z1 z3 u hf hr hk
      rw [fX7_digest_L72] at hf
      refine V_iload_n (pc := 72) F dX7_digest_72 rfl 2 rfl ?_
      refine V_aload_n (pc := 73) F dX7_digest_73 rfl 0 rfl ?_
      refine V_get (pc := 74) F 0 7 0 i_X7 rfl (by decide) rfl (mm 2 rfl) dX7_digest_74 rfl rfl ?_
      refine V_get (pc := 77) F 1 1 0 i_X1 rfl (by decide) rfl (mm 3 rfl) dX7_digest_77 rfl rfl ?_
      refine V_get (pc := 80) F 2 2 6 i_X2 rfl (by decide) rfl (mm 5 rfl) dX7_digest_80 rfl rfl ?_
      refine V_icmp_ge (pc := 83) (tgt := 106) F dX7_digest_83 (by decide) (fun h23 => ?_) (fun h23 => ?_)
      · replace hf := ite_pos hf h23
        exact V.sub [0, 1] rfl (hk _ (some_of hf).symm)
      · replace hf := ite_neg hf h23
        refine V_aload_n (pc := 86) F dX7_digest_86 rfl 0 rfl ?_
        refine V_lload_n (pc := 87) F dX7_digest_87 rfl 1 rfl ?_
        refine V_iload_n (pc := 88) F dX7_digest_88 rfl 2 rfl ?_
        obtain ⟨r24, g25, hf⟩ := bind_of hf
        rcases r24 with E | q26
        · replace hf := onS_inl hf
          exact nomatch hr _ (some_of hf).symm
        replace hf := onS_inr hf
        refine V_V (w2 := wX7 cy a q26.2) (rest := []) (st2 := [.long q26.1]) (pc := 89) F 7 (M_X7_mixPhase l D cy N a v z1 z3 q26 g25) (cwV 2 F.ts gX7_digest_X7_mixPhase rfl rfl rfl hd_X7_mixPhase ⟨Nat.le_of_ble_eq_true rfl, Nat.le_of_ble_eq_true rfl⟩) rfl dX7_digest_89 Fit.whole fstX7 rfl rfl (Nat.le_of_ble_eq_true rfl) (Nat.zero_le _) (Nat.zero_le _) rfl rfl rfl ?_
        refine V_lstore_n (L2 := [(1, .long q26.1), (0, .ref (a 0)), (3, .int z3)]) (pc := 92) F dX7_digest_92 rfl (by decide) rfl ?_
        refine V_aload_n (pc := 93) F dX7_digest_93 rfl 1 rfl ?_
        refine V_lload_n (pc := 94) F dX7_digest_94 rfl 0 rfl ?_
        refine V_iload_n (pc := 95) F dX7_digest_95 rfl 2 rfl ?_
        obtain ⟨r27, g28, hf⟩ := bind_of hf
        refine V_V (w2 := wX7 cy a q26.2) (rest := []) (st2 := [.long r27]) (pc := 96) F 7 (M_X7_mixProofs l D cy N a q26.2 q26.1 z3 r27 g28) (cwV 2 F.ts gX7_digest_X7_mixProofs rfl rfl rfl hd_X7_mixProofs ⟨Nat.le_of_ble_eq_true rfl, Nat.le_of_ble_eq_true rfl⟩) rfl dX7_digest_96 Fit.whole rfl rfl rfl (Nat.le_of_ble_eq_true rfl) (Nat.zero_le _) (Nat.zero_le _) rfl rfl rfl ?_
        refine V_lstore_n (L2 := [(1, .long r27), (0, .ref (a 0)), (3, .int z3)]) (pc := 99) F dX7_digest_99 rfl (by decide) rfl ?_
        refine V_iinc (v := (z3 + 1)) (L2 := [(3, .int (z3 + 1)), (1, .long r27), (0, .ref (a 0))]) (pc := 100) F dX7_digest_100 2 rfl rfl (by decide) rfl ?_
        refine V_goto (pc := 103) (tgt := 72) F dX7_digest_103 (by decide) ?_
        refine V.sub [2, 1, 0] rfl ?_
        exact ih q26.2 r27 (z3 + 1) _ hf hr hk
  unfold fX7_digest at hf
  refine V.eq rfl (show lv_args 0 [.ref (a 0)] = [(0, .ref (a 0))] from rfl) rfl ?_
  refine V_aload_n (pc := 0) F dX7_digest_0 rfl 0 rfl ?_
  obtain ⟨r1, g2, hf⟩ := bind_of hf
  refine V_V (w2 := wX7 cy a r1) (rest := []) (st2 := []) (pc := 1) F 7 (M_X7_studyAll l D cy N a v r1 g2) (cwV 0 F.ts gX7_digest_X7_studyAll rfl rfl rfl hd_X7_studyAll ⟨Nat.le_of_ble_eq_true rfl, Nat.le_of_ble_eq_true rfl⟩) rfl dX7_digest_1 Fit.whole fstX7 rfl rfl (Nat.le_of_ble_eq_true rfl) (Nat.zero_le _) (Nat.zero_le _) rfl rfl rfl ?_
  refine V_ldc2 (v := (2803)) (pc := 4) F dX7_digest_4 (mm 1 rfl) ?_
  refine V_lstore_n (L2 := [(1, .long (2803)), (0, .ref (a 0))]) (pc := 7) F dX7_digest_7 rfl (by decide) rfl ?_
  refine V_iconst (v := 0) (pc := 8) F dX7_digest_8 (by decide) ?_
  refine V_istore_n (L2 := [(3, .int 0), (1, .long (2803)), (0, .ref (a 0))]) (pc := 9) F dX7_digest_9 rfl (by decide) rfl ?_
  refine V.sub [2, 1, 0] rfl ?_
  obtain ⟨u9, g10, hf⟩ := bind_of hf
  refine K10 N r1 (2803) 0 u9 g10 (fun r h12 => ?_) (fun q11 h12 => ?_)
  · subst h12
    replace hf := onS_inl hf
    exact some_of hf
  · subst h12
    replace hf := onS_inr hf
    refine V_lload_n (pc := 33) F dX7_digest_33 rfl 1 rfl ?_
    refine V_aload_n (pc := 34) F dX7_digest_34 rfl 0 rfl ?_
    refine V_get (pc := 35) F 0 7 0 i_X7 rfl (by decide) rfl (mm 2 rfl) dX7_digest_35 rfl rfl ?_
    refine V_get (pc := 38) F 1 1 0 i_X1 rfl (by decide) rfl (mm 3 rfl) dX7_digest_38 rfl rfl ?_
    refine V_get (pc := 41) F 2 2 7 i_X2 rfl (by decide) rfl (mm 4 rfl) dX7_digest_41 rfl rfl ?_
    refine V_i2l (pc := 44) F dX7_digest_44 ?_
    obtain ⟨r13, g14, hf⟩ := bind_of hf
    refine V_Sc (rest := []) (st2 := [.long r13]) (pc := 45) F (M_X7_mix l D cy N q11.2 ((q11.1.1.1.2.2.2.2.2.2.2).toInt64) r13 g14) (va_cwS 2 F.ts gX7_digest_X7_mix rfl rfl rfl hd_X7_mix ⟨Nat.le_of_ble_eq_true rfl, Nat.le_of_ble_eq_true rfl⟩) rfl dX7_digest_45 (Nat.le_of_ble_eq_true rfl) (Nat.zero_le _) (Nat.zero_le _) rfl rfl ?_
    refine V_lstore_n (L2 := [(1, .long r13), (0, .ref (a 0))]) (pc := 48) F dX7_digest_48 rfl (by decide) rfl ?_
    refine V_iconst (v := 0) (pc := 49) F dX7_digest_49 (by decide) ?_
    refine V_istore_n (L2 := [(3, .int 0), (1, .long r13), (0, .ref (a 0))]) (pc := 50) F dX7_digest_50 rfl (by decide) rfl ?_
    refine V.sub [2, 1, 0] rfl ?_
    obtain ⟨u19, g20, hf⟩ := bind_of hf
    refine K51 N q11.1 r13 0 u19 g20 (fun r h22 => ?_) (fun q21 h22 => ?_)
    · subst h22
      replace hf := onS_inl hf
      exact some_of hf
    · subst h22
      replace hf := onS_inr hf
      refine V_iconst (v := 0) (pc := 70) F dX7_digest_70 (by decide) ?_
      refine V_istore_n (L2 := [(3, .int 0), (0, .ref (a 0)), (1, .long q21)]) (pc := 71) F dX7_digest_71 rfl (by decide) rfl ?_
      refine V.sub [1, 2, 0] rfl ?_
      obtain ⟨u29, g30, hf⟩ := bind_of hf
      refine K72 N q11.1 q21 0 u29 g30 (fun r h32 => ?_) (fun q31 h32 => ?_)
      · subst h32
        replace hf := onS_inl hf
        exact some_of hf
      · subst h32
        replace hf := onS_inr hf
        refine V_lload_n (pc := 106) F dX7_digest_106 rfl 1 rfl ?_
        refine V_aload_n (pc := 107) F dX7_digest_107 rfl 0 rfl ?_
        obtain ⟨r33, g34, hf⟩ := bind_of hf
        refine V_V (w2 := wX7 cy a r33.2) (rest := [.long q31.2]) (st2 := [.int r33.1, .long q31.2]) (pc := 108) F 7 (M_X7_slowest l D cy N a q31.1 r33 g34) (cwV 0 F.ts gX7_digest_X7_slowest rfl rfl rfl hd_X7_slowest ⟨Nat.le_of_ble_eq_true rfl, Nat.le_of_ble_eq_true rfl⟩) rfl dX7_digest_108 Fit.whole fstX7 rfl rfl (Nat.le_of_ble_eq_true rfl) (Nat.zero_le _) (Nat.zero_le _) rfl rfl rfl ?_
        refine V_i2l (pc := 111) F dX7_digest_111 ?_
        obtain ⟨r35, g36, hf⟩ := bind_of hf
        refine V_Sc (rest := []) (st2 := [.long r35]) (pc := 112) F (M_X7_mix l D cy N q31.2 ((r33.1).toInt64) r35 g36) (va_cwS 2 F.ts gX7_digest_X7_mix rfl rfl rfl hd_X7_mix ⟨Nat.le_of_ble_eq_true rfl, Nat.le_of_ble_eq_true rfl⟩) rfl dX7_digest_112 (Nat.le_of_ble_eq_true rfl) (Nat.zero_le _) (Nat.zero_le _) rfl rfl ?_
        refine V_lstore_n (L2 := [(1, .long r35), (0, .ref (a 0))]) (pc := 115) F dX7_digest_115 rfl (by decide) rfl ?_
        refine V_lload_n (pc := 116) F dX7_digest_116 rfl 0 rfl ?_
        refine V_aload_n (pc := 117) F dX7_digest_117 rfl 1 rfl ?_
        obtain ⟨r37, g38, hf⟩ := bind_of hf
        refine V_V (w2 := wX7 cy a r33.2) (rest := [.long r35]) (st2 := [.double r37, .long r35]) (pc := 118) F 7 (M_X7_safeShare l D cy N a r33.2 r37 g38) (cwV 0 F.ts gX7_digest_X7_safeShare rfl rfl rfl hd_X7_safeShare ⟨Nat.le_of_ble_eq_true rfl, Nat.le_of_ble_eq_true rfl⟩) rfl dX7_digest_118 Fit.whole rfl rfl rfl (Nat.le_of_ble_eq_true rfl) (Nat.zero_le _) (Nat.zero_le _) rfl rfl rfl ?_
        obtain ⟨r39, g40, hf⟩ := bind_of hf
        refine V_Sc (rest := [.long r35]) (st2 := [.long r39, .long r35]) (pc := 121) F (M_X7_bitsOfShare l D cy N r37 r39 g40) (va_cwS 1 F.ts gX7_digest_X7_bitsOfShare rfl rfl rfl hd_X7_bitsOfShare ⟨Nat.le_of_ble_eq_true rfl, Nat.le_of_ble_eq_true rfl⟩) rfl dX7_digest_121 (Nat.le_of_ble_eq_true rfl) (Nat.zero_le _) (Nat.zero_le _) rfl rfl ?_
        obtain ⟨r41, g42, hf⟩ := bind_of hf
        refine V_Sc (rest := []) (st2 := [.long r41]) (pc := 124) F (M_X7_mix l D cy N r35 r39 r41 g42) (va_cwS 2 F.ts gX7_digest_X7_mix rfl rfl rfl hd_X7_mix ⟨Nat.le_of_ble_eq_true rfl, Nat.le_of_ble_eq_true rfl⟩) rfl dX7_digest_124 (Nat.le_of_ble_eq_true rfl) (Nat.zero_le _) (Nat.zero_le _) rfl rfl ?_
        refine V_lstore_n (L2 := [(1, .long r41), (0, .ref (a 0))]) (pc := 127) F dX7_digest_127 rfl (by decide) rfl ?_
        refine V_aload_n (pc := 128) F dX7_digest_128 rfl 1 rfl ?_
        refine V_get (pc := 129) F 0 7 2 i_X7 rfl (by decide) rfl (mm 6 rfl) dX7_digest_129 rfl rfl ?_
        refine V_lload_n (pc := 132) F dX7_digest_132 rfl 0 rfl ?_
        obtain ⟨r43, g44, hf⟩ := bind_of hf
        refine V_V (w2 := wX7 cy a r33.2) (rest := []) (st2 := [.long r43]) (pc := 133) F 6 (M_X6_mixInto l D cy N (fun i => a (i + 23)) r33.2.2.2.1 r41 r43 g44) (cwV 1 F.ts gX7_digest_X6_mixInto rfl rfl rfl hd_X6_mixInto ⟨Nat.le_of_ble_eq_true rfl, Nat.le_of_ble_eq_true rfl⟩) rfl dX7_digest_133 (Fit.right (Fit.right (Fit.left Fit.whole))) rfl rfl rfl (Nat.le_of_ble_eq_true rfl) (Nat.zero_le _) (Nat.zero_le _) rfl rfl rfl ?_
        obtain rfl := Sum.inr.inj (some_of hf)
        exact V_lret F rfl dX7_digest_136 rfl rfl
