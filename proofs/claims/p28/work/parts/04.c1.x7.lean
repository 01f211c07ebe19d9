theorem hd_X7_comingPhases : yX7_comingPhases.cls = RX7 ∧ yX7_comingPhases.cls ≠ "java/lang/invoke/MethodHandle" ∧ yX7_comingPhases.cls ≠ "java/lang/invoke/VarHandle" ∧ (parseMethodDescriptor yX7_comingPhases.desc).map (fun d => d.parameters.length) = some 0 := by decide +kernel
def fX7_comingPhases (N : Nat) (v : SX7) : Option (Int32 × SX7) :=
  (fX3_noteComing N v.2.2.2 v.1.1 v.1.2.2.2.2.2.1).bind fun r1 =>
    some (r1.2.2.2.2.2, (v.1, v.2.1, v.2.2.1, r1))
set_option maxHeartbeats 8000000 in
set_option maxRecDepth 100000 in
theorem M_X7_comingPhases (l : Launch) (D : va_G) (cy : Nat → ClassId) (N : Nat) (a : Nat → Nat) (v : SX7) (o : Int32 × SX7) (hf : fX7_comingPhases N v = some o) : okM l yX7_comingPhases wsX7_comingPhases (rmz 3 76) D cy [.ref (a 0)] (wX7 cy a v) (wX7 cy a o.2) (some (.int o.1)) := by
  refine okM_of (own := RX7) (nme := "comingPhases") (cc := cX7_comingPhases) (maxL := 1) (ret := (some .int)) (by decide) rfl rfl rfl (Nat.le_of_ble_eq_true rfl) ?_
  intro p e s m args below meth c A F
  have i_X1 : ∀ w ∈ u_ws RX1 TX1 10, w ∈ wsX7_comingPhases := fun _ h => List.mem_cons_of_mem _ (List.mem_append_left _ (List.mem_append_left _ (List.mem_append_left _ (List.mem_append_right _ h))))
  have i_X3 : ∀ w ∈ u_ws RX3 TX3 6, w ∈ wsX7_comingPhases := fun _ h => List.mem_cons_of_mem _ (List.mem_append_left _ (List.mem_append_left _ (List.mem_append_right _ h)))
  have i_X7 : ∀ w ∈ u_ws RX7 TX7 4, w ∈ wsX7_comingPhases := fun _ h => List.mem_cons_of_mem _ (List.mem_append_left _ (List.mem_append_left _ (List.mem_append_left _ (List.mem_append_left _ (List.mem_append_right _ h)))))
  unfold fX7_comingPhases at hf
  refine V.eq rfl (show lv_args 0 [.ref (a 0)] = [(0, .ref (a 0))] from rfl) rfl ?_
  refine V_aload_n (pc := 0) F dX7_comingPhases_0 rfl 0 rfl ?_
  refine V_get (pc := 1) F 0 7 3 i_X7 rfl (by decide) rfl (mm 1 rfl) dX7_comingPhases_1 rfl rfl ?_
  refine V_aload_n (pc := 4) F dX7_comingPhases_4 rfl 0 rfl ?_
  refine V_get (pc := 5) F 0 7 0 i_X7 rfl (by decide) rfl (mm 2 rfl) dX7_comingPhases_5 rfl rfl ?_
  refine V_get (pc := 8) F 1 1 0 i_X1 rfl (by decide) rfl (mm 3 rfl) dX7_comingPhases_8 rfl rfl ?_
  refine V_aload_n (pc := 11) F dX7_comingPhases_11 rfl 0 rfl ?_
  refine V_get (pc := 12) F 0 7 0 i_X7 rfl (by decide) rfl (mm 2 rfl) dX7_comingPhases_12 rfl rfl ?_
  refine V_get (pc := 15) F 1 1 5 i_X1 rfl (by decide) rfl (mm 4 rfl) dX7_comingPhases_15 rfl rfl ?_
  obtain ⟨r1, g2, hf⟩ := bind_of hf
  refine V_V2 (w2 := wX7 cy a (v.1, v.2.1, v.2.2.1, r1)) (rest := []) (st2 := []) (pc := 18) F 3 (M_X3_noteComing l D cy N (fun i => a (i + 27)) (fun i => a (i + 2)) v.2.2.2 v.1.1 v.1.2.2.2.2.2.1 r1 g2) (cwV 2 F.ts gX7_comingPhases_X3_noteComing rfl rfl rfl hd_X3_noteComing ⟨Nat.le_of_ble_eq_true rfl, Nat.le_of_ble_eq_true rfl⟩) rfl dX7_comingPhases_18 (Fit2.right (Fit2.swap (Fit.right (Fit.left Fit.whole)) (Fit.right (Fit.left Fit.whole)))) fstX3 rfl rfl rfl (Nat.le_of_ble_eq_true rfl) (Nat.zero_le _) (Nat.zero_le _) rfl rfl rfl ?_
  refine V_aload_n (pc := 21) F dX7_comingPhases_21 rfl 0 rfl ?_
  refine V_get (pc := 22) F 0 7 3 i_X7 rfl (by decide) rfl (mm 1 rfl) dX7_comingPhases_22 rfl rfl ?_
  refine V_get (pc := 25) F 27 3 5 i_X3 rfl (by decide) rfl (mm 5 rfl) dX7_comingPhases_25 rfl rfl ?_
  obtain rfl := some_of hf
  exact V_ret F rfl rfl dX7_comingPhases_28 rfl rfl
theorem hd_X7_phase : yX7_phase.cls = RX7 ∧ yX7_phase.cls ≠ "java/lang/invoke/MethodHandle" ∧ yX7_phase.cls ≠ "java/lang/invoke/VarHandle" ∧ (parseMethodDescriptor yX7_phase.desc).map (fun d => d.parameters.length) = some 2 := by decide +kernel
def fX7_phase (N : Nat) (v : SX7) (x1 : Int32) (x2 : Int32) : Option ((String × SX7) ⊕ (Int32 × SX7)) :=
  (fX7_checkPhase N v x1).bind fun r1 => onS r1 (fun E => some (.inl (E, v))) fun q3 =>
    if x2 = 0 then
      some (.inr ((rowAt 8 v.1.1.2.1 x1), v))
    else
    if x2 = 1 then
      some (.inr ((rowAt 8 v.1.1.2.2.1 x1), v))
    else
    if x2 = 2 then
      some (.inr ((rowAt 8 v.1.1.2.2.2.1 x1), v))
    else
    if x2 = 3 then
      (fX2_isUnsafe N v.1.1 x1).bind fun r8 =>
        if r8 = 0 then
          some (.inr (0, v))
        else
          some (.inr (1, v))
    else
    if x2 = 4 then
      (fX7_comingPhases N v).bind fun r12 =>
        (fX7_has N r12.1 x1).bind fun r14 =>
          if r14 = 0 then
            some (.inr (0, r12.2))
          else
            some (.inr (1, r12.2))
    else
    if x2 = 5 then
      some (.inr ((rowAt 8 v.1.2.2.2.2.1 x1), v))
    else
    some (.inl ("java/lang/IllegalArgumentException", v))
set_option maxHeartbeats 8000000 in
set_option maxRecDepth 100000 in
theorem M_X7_phase (l : Launch) (D : va_G) (cy : Nat → ClassId) (N : Nat) (a : Nat → Nat) (v : SX7) (x1 : Int32) (x2 : Int32) (o : Int32 × SX7) (hf : fX7_phase N v x1 x2 = some (.inr o)) : okM l yX7_phase wsX7_phase (rmz 4 96) D cy [.ref (a 0), .int x1, .int x2] (wX7 cy a v) (wX7 cy a o.2) (some (.int o.1)) := by
  refine okM_of (own := RX7) (nme := "phase") (cc := cX7_phase) (maxL := 3) (ret := (some .int)) (by decide) rfl rfl rfl (Nat.le_of_ble_eq_true rfl) ?_
  intro p e s m args below meth c A F
  have i_X1 : ∀ w ∈ u_ws RX1 TX1 10, w ∈ wsX7_phase := fun _ h => List.mem_cons_of_mem _ (List.mem_append_left _ (List.mem_append_left _ (List.mem_append_left _ (List.mem_append_left _ (List.mem_append_left _ (List.mem_append_right _ h))))))
  have i_X2 : ∀ w ∈ u_ws RX2 TX2 8, w ∈ wsX7_phase := fun _ h => List.mem_cons_of_mem _ (List.mem_append_left _ (List.mem_append_left _ (List.mem_append_left _ (List.mem_append_left _ (List.mem_append_right _ h)))))
  have i_X7 : ∀ w ∈ u_ws RX7 TX7 4, w ∈ wsX7_phase := fun _ h => List.mem_cons_of_mem _ (List.mem_append_left _ (List.mem_append_left _ (List.mem_append_left _ (List.mem_append_left _ (List.mem_append_left _ (List.mem_append_left _ (List.mem_append_right _ h)))))))
  unfold fX7_phase at hf
  refine V.eq rfl (show lv_args 0 [.ref (a 0), .int x1, .int x2] = [(0, .ref (a 0)), (1, .int x1), (2, .int x2)] from rfl) rfl ?_
  refine V_aload_n (pc := 0) F dX7_phase_0 rfl 0 rfl ?_
  refine V_iload_n (pc := 1) F dX7_phase_1 rfl 1 rfl ?_
  obtain ⟨r1, g2, hf⟩ := bind_of hf
  rcases r1 with E | q3
  · replace hf := onS_inl hf
    exact nomatch some_of hf
  replace hf := onS_inr hf
  refine V_V (w2 := wX7 cy a v) (rest := []) (st2 := []) (pc := 2) F 7 (M_X7_checkPhase l D cy N a v x1 q3 g2) (cwV 1 F.ts gX7_phase_X7_checkPhase rfl rfl rfl hd_X7_checkPhase ⟨Nat.le_of_ble_eq_true rfl, Nat.le_of_ble_eq_true rfl⟩) rfl dX7_phase_2 Fit.whole rfl rfl rfl (Nat.le_of_ble_eq_true rfl) (Nat.zero_le _) (Nat.zero_le _) rfl rfl rfl ?_
  refine V_iload_n (pc := 5) F dX7_phase_5 rfl 2 rfl ?_
  by_cases h4 : x2 = 0
  · replace hf := ite_pos hf h4
    refine V_tableIn (pc := 6) (tgt := 44) F dX7_phase_6 (by rw [h4]; decide) (by rw [h4]; decide) (by rw [h4]; rfl) (by decide) ?_
    refine V_aload_n (pc := 44) F dX7_phase_44 rfl 0 rfl ?_
    refine V_get (pc := 45) F 0 7 0 i_X7 rfl (by decide) rfl (mm 3 rfl) dX7_phase_45 rfl rfl ?_
    refine V_get (pc := 48) F 1 1 0 i_X1 rfl (by decide) rfl (mm 4 rfl) dX7_phase_48 rfl rfl ?_
    refine V_get (pc := 51) F 2 2 1 i_X2 rfl (by decide) rfl (mm 5 rfl) dX7_phase_51 rfl rfl ?_
    refine V_iload_n (pc := 54) F dX7_phase_54 rfl 1 rfl ?_
    refine V_V (w2 := wX7 cy a v) (rest := []) (st2 := [.int (rowAt 8 v.1.1.2.1 x1)]) (pc := 55) F 5 (R_at l D cy (fun i => a (i + 5)) 8 v.1.1.2.1 x1 (by decide)) (cwV 1 F.ts gX7_phase_X5_at rfl rfl rfl hd_X5_at ⟨Nat.le_of_ble_eq_true rfl, Nat.le_of_ble_eq_true rfl⟩) rfl dX7_phase_55 (Fit.right (Fit.left (Fit.right (Fit.left (Fit.right (Fit.right (Fit.left Fit.whole))))))) rfl rfl rfl (Nat.le_of_ble_eq_true rfl) (Nat.zero_le _) (Nat.zero_le _) rfl rfl rfl ?_
    obtain rfl := Sum.inr.inj (some_of hf)
    exact V_ret F rfl rfl dX7_phase_58 rfl rfl
  replace hf := ite_neg hf h4
  by_cases h5 : x2 = 1
  · replace hf := ite_pos hf h5
    refine V_tableIn (pc := 6) (tgt := 59) F dX7_phase_6 (by rw [h5]; decide) (by rw [h5]; decide) (by rw [h5]; rfl) (by decide) ?_
    refine V_aload_n (pc := 59) F dX7_phase_59 rfl 0 rfl ?_
    refine V_get (pc := 60) F 0 7 0 i_X7 rfl (by decide) rfl (mm 3 rfl) dX7_phase_60 rfl rfl ?_
    refine V_get (pc := 63) F 1 1 0 i_X1 rfl (by decide) rfl (mm 4 rfl) dX7_phase_63 rfl rfl ?_
    refine V_get (pc := 66) F 2 2 2 i_X2 rfl (by decide) rfl (mm 6 rfl) dX7_phase_66 rfl rfl ?_
    refine V_iload_n (pc := 69) F dX7_phase_69 rfl 1 rfl ?_
    refine V_V (w2 := wX7 cy a v) (rest := []) (st2 := [.int (rowAt 8 v.1.1.2.2.1 x1)]) (pc := 70) F 5 (R_at l D cy (fun i => a (i + 7)) 8 v.1.1.2.2.1 x1 (by decide)) (cwV 1 F.ts gX7_phase_X5_at rfl rfl rfl hd_X5_at ⟨Nat.le_of_ble_eq_true rfl, Nat.le_of_ble_eq_true rfl⟩) rfl dX7_phase_70 (Fit.right (Fit.left (Fit.right (Fit.left (Fit.right (Fit.right (Fit.right (Fit.left Fit.whole)))))))) rfl rfl rfl (Nat.le_of_ble_eq_true rfl) (Nat.zero_le _) (Nat.zero_le _) rfl rfl rfl ?_
    obtain rfl := Sum.inr.inj (some_of hf)
    exact V_ret F rfl rfl dX7_phase_73 rfl rfl
  replace hf := ite_neg hf h5
  by_cases h6 : x2 = 2
  · replace hf := ite_pos hf h6
    refine V_tableIn (pc := 6) (tgt := 74) F dX7_phase_6 (by rw [h6]; decide) (by rw [h6]; decide) (by rw [h6]; rfl) (by decide) ?_
    refine V_aload_n (pc := 74) F dX7_phase_74 rfl 0 rfl ?_
    refine V_get (pc := 75) F 0 7 0 i_X7 rfl (by decide) rfl (mm 3 rfl) dX7_phase_75 rfl rfl ?_
    refine V_get (pc := 78) F 1 1 0 i_X1 rfl (by decide) rfl (mm 4 rfl) dX7_phase_78 rfl rfl ?_
    refine V_get (pc := 81) F 2 2 3 i_X2 rfl (by decide) rfl (mm 7 rfl) dX7_phase_81 rfl rfl ?_
    refine V_iload_n (pc := 84) F dX7_phase_84 rfl 1 rfl ?_
    refine V_V (w2 := wX7 cy a v) (rest := []) (st2 := [.int (rowAt 8 v.1.1.2.2.2.1 x1)]) (pc := 85) F 5 (R_at l D cy (fun i => a (i + 9)) 8 v.1.1.2.2.2.1 x1 (by decide)) (cwV 1 F.ts gX7_phase_X5_at rfl rfl rfl hd_X5_at ⟨Nat.le_of_ble_eq_true rfl, Nat.le_of_ble_eq_true rfl⟩) rfl dX7_phase_85 (Fit.right (Fit.left (Fit.right (Fit.left (Fit.right (Fit.right (Fit.right (Fit.right (Fit.left Fit.whole))))))))) rfl rfl rfl (Nat.le_of_ble_eq_true rfl) (Nat.zero_le _) (Nat.zero_le _) rfl rfl rfl ?_
    obtain rfl := Sum.inr.inj (some_of hf)
    exact V_ret F rfl rfl dX7_phase_88 rfl rfl
  replace hf := ite_neg hf h6
  by_cases h7 : x2 = 3
  · replace hf := ite_pos hf h7
    refine V_tableIn (pc := 6) (tgt := 89) F dX7_phase_6 (by rw [h7]; decide) (by rw [h7]; decide) (by rw [h7]; rfl) (by decide) ?_
    refine V_aload_n (pc := 89) F dX7_phase_89 rfl 0 rfl ?_
    refine V_get (pc := 90) F 0 7 0 i_X7 rfl (by decide) rfl (mm 3 rfl) dX7_phase_90 rfl rfl ?_
    refine V_get (pc := 93) F 1 1 0 i_X1 rfl (by decide) rfl (mm 4 rfl) dX7_phase_93 rfl rfl ?_
    refine V_iload_n (pc := 96) F dX7_phase_96 rfl 1 rfl ?_
    obtain ⟨r8, g9, hf⟩ := bind_of hf
    refine V_V (w2 := wX7 cy a v) (rest := []) (st2 := [.int r8]) (pc := 97) F 2 (M_X2_isUnsafe l D cy N (fun i => a (i + 2)) v.1.1 x1 r8 g9) (cwV 1 F.ts gX7_phase_X2_isUnsafe rfl rfl rfl hd_X2_isUnsafe ⟨Nat.le_of_ble_eq_true rfl, Nat.le_of_ble_eq_true rfl⟩) rfl dX7_phase_97 (Fit.right (Fit.left (Fit.right (Fit.left Fit.whole)))) rfl rfl rfl (Nat.le_of_ble_eq_true rfl) (Nat.zero_le _) (Nat.zero_le _) rfl rfl rfl ?_
    refine V_if_eq (pc := 100) (tgt := 107) F dX7_phase_100 (by decide) (fun h10 => ?_) (fun h10 => ?_)
    · replace hf := ite_pos hf h10
      refine V_iconst (v := 0) (pc := 107) F dX7_phase_107 (by decide) ?_
      obtain rfl := Sum.inr.inj (some_of hf)
      exact V_ret F rfl rfl dX7_phase_108 rfl rfl
    · replace hf := ite_neg hf h10
      refine V_iconst (v := 1) (pc := 103) F dX7_phase_103 (by decide) ?_
      refine V_goto (pc := 104) (tgt := 108) F dX7_phase_104 (by decide) ?_
      obtain rfl := Sum.inr.inj (some_of hf)
      exact V_ret F rfl rfl dX7_phase_108 rfl rfl
  replace hf := ite_neg hf h7
  by_cases h11 : x2 = 4
  · replace hf := ite_pos hf h11
    refine V_tableIn (pc := 6) (tgt := 109) F dX7_phase_6 (by rw [h11]; decide) (by rw [h11]; decide) (by rw [h11]; rfl) (by decide) ?_
    refine V_aload_n (pc := 109) F dX7_phase_109 rfl 0 rfl ?_
    obtain ⟨r12, g13, hf⟩ := bind_of hf
    refine V_V (w2 := wX7 cy a r12.2) (rest := []) (st2 := [.int r12.1]) (pc := 110) F 7 (M_X7_comingPhases l D cy N a v r12 g13) (cwV 0 F.ts gX7_phase_X7_comingPhases rfl rfl rfl hd_X7_comingPhases ⟨Nat.le_of_ble_eq_true rfl, Nat.le_of_ble_eq_true rfl⟩) rfl dX7_phase_110 Fit.whole fstX7 rfl rfl (Nat.le_of_ble_eq_true rfl) (Nat.zero_le _) (Nat.zero_le _) rfl rfl rfl ?_
    refine V_iload_n (pc := 113) F dX7_phase_113 rfl 1 rfl ?_
    obtain ⟨r14, g15, hf⟩ := bind_of hf
    refine V_Sc (rest := []) (st2 := [.int r14]) (pc := 114) F (M_X7_has l D cy N r12.1 x1 r14 g15) (va_cwS 2 F.ts gX7_phase_X7_has rfl rfl rfl hd_X7_has ⟨Nat.le_of_ble_eq_true rfl, Nat.le_of_ble_eq_true rfl⟩) rfl dX7_phase_114 (Nat.le_of_ble_eq_true rfl) (Nat.zero_le _) (Nat.zero_le _) rfl rfl ?_
    refine V_if_eq (pc := 117) (tgt := 124) F dX7_phase_117 (by decide) (fun h16 => ?_) (fun h16 => ?_)
    · replace hf := ite_pos hf h16
      refine V_iconst (v := 0) (pc := 124) F dX7_phase_124 (by decide) ?_
      obtain rfl := Sum.inr.inj (some_of hf)
      exact V_ret F rfl rfl dX7_phase_125 rfl rfl
    · replace hf := ite_neg hf h16
      refine V_iconst (v := 1) (pc := 120) F dX7_phase_120 (by decide) ?_
      refine V_goto (pc := 121) (tgt := 125) F dX7_phase_121 (by decide) ?_
      obtain rfl := Sum.inr.inj (some_of hf)
      exact V_ret F rfl rfl dX7_phase_125 rfl rfl
  replace hf := ite_neg hf h11
  by_cases h17 : x2 = 5
  · replace hf := ite_pos hf h17
    refine V_tableIn (pc := 6) (tgt := 126) F dX7_phase_6 (by rw [h17]; decide) (by rw [h17]; decide) (by rw [h17]; rfl) (by decide) ?_
    refine V_aload_n (pc := 126) F dX7_phase_126 rfl 0 rfl ?_
    refine V_get (pc := 127) F 0 7 0 i_X7 rfl (by decide) rfl (mm 3 rfl) dX7_phase_127 rfl rfl ?_
    refine V_get (pc := 130) F 1 1 4 i_X1 rfl (by decide) rfl (mm 8 rfl) dX7_phase_130 rfl rfl ?_
    refine V_iload_n (pc := 133) F dX7_phase_133 rfl 1 rfl ?_
    refine V_V (w2 := wX7 cy a v) (rest := []) (st2 := [.int (rowAt 8 v.1.2.2.2.2.1 x1)]) (pc := 134) F 5 (R_at l D cy (fun i => a (i + 21)) 8 v.1.2.2.2.2.1 x1 (by decide)) (cwV 1 F.ts gX7_phase_X5_at rfl rfl rfl hd_X5_at ⟨Nat.le_of_ble_eq_true rfl, Nat.le_of_ble_eq_true rfl⟩) rfl dX7_phase_134 (Fit.right (Fit.left (Fit.right (Fit.right (Fit.right (Fit.right (Fit.right Fit.whole))))))) rfl rfl rfl (Nat.le_of_ble_eq_true rfl) (Nat.zero_le _) (Nat.zero_le _) rfl rfl rfl ?_
    obtain rfl := Sum.inr.inj (some_of hf)
    exact V_ret F rfl rfl dX7_phase_137 rfl rfl
  replace hf := ite_neg hf h17
  refine V_tableOut (pc := 6) (tgt := 138) F dX7_phase_6 (by have q0 := lv_neT h4 (a := 0) rfl; have q1 := lv_neT h5 (a := 1) rfl; have q2 := lv_neT h6 (a := 2) rfl; have q3 := lv_neT h7 (a := 3) rfl; have q4 := lv_neT h11 (a := 4) rfl; have q5 := lv_neT h17 (a := 5) rfl; omega) (by decide) ?_
  exact nomatch some_of hf
theorem hd_X7_rule : yX7_rule.cls = RX7 ∧ yX7_rule.cls ≠ "java/lang/invoke/MethodHandle" ∧ yX7_rule.cls ≠ "java/lang/invoke/VarHandle" ∧ (parseMethodDescriptor yX7_rule.desc).map (fun d => d.parameters.length) = some 3 := by decide +kernel
def fX7_rule (N : Nat) (v : SX7) (x1 : Int32) (x2 : Int32) (x3 : Int32) : Option ((String) ⊕ (Int32)) :=
  (fX7_checkPhase N v x1).bind fun r1 => onS r1 (fun E => some (.inl E)) fun q3 =>
    if x2 < 0 then
      some (.inl "java/lang/IndexOutOfBoundsException")
    else
      if x2 < (rowAt 8 v.1.1.2.2.2.1 x1) then
        if x3 = 0 then
          (fX2_goalOf N v.1.1 x1 x2).bind fun r7 =>
            some (.inr r7)
        else
        if x3 = 1 then
          (fX2_askersOf N v.1.1 x1 x2).bind fun r10 =>
            some (.inr r10)
        else
        if x3 = 2 then
          (fX1_waiting N v.1).bind fun r13 =>
            (fX1_ruleHolds N v.1 x1 x2 r13).bind fun r15 =>
              if r15 = 0 then
                some (.inr 0)
              else
                some (.inr 1)
        else
        some (.inl "java/lang/IllegalArgumentException")
      else
        some (.inl "java/lang/IndexOutOfBoundsException")
set_option maxHeartbeats 8000000 in
set_option maxRecDepth 100000 in
theorem M_X7_rule (l : Launch) (D : va_G) (cy : Nat → ClassId) (N : Nat) (a : Nat → Nat) (v : SX7) (x1 : Int32) (x2 : Int32) (x3 : Int32) (o : Int32) (hf : fX7_rule N v x1 x2 x3 = some (.inr o)) : okM l yX7_rule wsX7_rule (rmz 3 67) D cy [.ref (a 0), .int x1, .int x2, .int x3] (wX7 cy a v) (wX7 cy a v) (some (.int o)) := by
  refine okM_of (own := RX7) (nme := "rule") (cc := cX7_rule) (maxL := 4) (ret := (some .int)) (by decide) rfl rfl rfl (Nat.le_of_ble_eq_true rfl) ?_
  intro p e s m args below meth c A F
  have i_X1 : ∀ w ∈ u_ws RX1 TX1 10, w ∈ wsX7_rule := fun _ h => List.mem_cons_of_mem _ (List.mem_append_left _ (List.mem_append_left _ (List.mem_append_left _ (List.mem_append_left _ (List.mem_append_right _ h)))))
  have i_X2 : ∀ w ∈ u_ws RX2 TX2 8, w ∈ wsX7_rule := fun _ h => List.mem_cons_of_mem _ (List.mem_append_left _ (List.mem_append_left _ (List.mem_append_left _ (List.mem_append_right _ h))))
  have i_X7 : ∀ w ∈ u_ws RX7 TX7 4, w ∈ wsX7_rule := fun _ h => List.mem_cons_of_mem _ (List.mem_append_left _ (List.mem_append_left _ (List.mem_append_left _ (List.mem_append_left _ (List.mem_append_left _ (List.mem_append_right _ h))))))
  unfold fX7_rule at hf
  refine V.eq rfl (show lv_args 0 [.ref (a 0), .int x1, .int x2, .int x3] = [(0, .ref (a 0)), (1, .int x1), (2, .int x2), (3, .int x3)] from rfl) rfl ?_
  refine V_aload_n (pc := 0) F dX7_rule_0 rfl 0 rfl ?_
  refine V_iload_n (pc := 1) F dX7_rule_1 rfl 1 rfl ?_
  obtain ⟨r1, g2, hf⟩ := bind_of hf
  rcases r1 with E | q3
  · replace hf := onS_inl hf
    exact nomatch some_of hf
  replace hf := onS_inr hf
  refine V_V (w2 := wX7 cy a v) (rest := []) (st2 := []) (pc := 2) F 7 (M_X7_checkPhase l D cy N a v x1 q3 g2) (cwV 1 F.ts gX7_rule_X7_checkPhase rfl rfl rfl hd_X7_checkPhase ⟨Nat.le_of_ble_eq_true rfl, Nat.le_of_ble_eq_true rfl⟩) rfl dX7_rule_2 Fit.whole rfl rfl rfl (Nat.le_of_ble_eq_true rfl) (Nat.zero_le _) (Nat.zero_le _) rfl rfl rfl ?_
  refine V_iload_n (pc := 5) F dX7_rule_5 rfl 2 rfl ?_
  refine V_if_lt (pc := 6) (tgt := 27) F dX7_rule_6 (by decide) (fun h4 => ?_) (fun h4 => ?_)
  · replace hf := ite_pos hf h4
    exact nomatch some_of hf
  · replace hf := ite_neg hf h4
    refine V_iload_n (pc := 9) F dX7_rule_9 rfl 2 rfl ?_
    refine V_aload_n (pc := 10) F dX7_rule_10 rfl 0 rfl ?_
    refine V_get (pc := 11) F 0 7 0 i_X7 rfl (by decide) rfl (mm 5 rfl) dX7_rule_11 rfl rfl ?_
    refine V_get (pc := 14) F 1 1 0 i_X1 rfl (by decide) rfl (mm 6 rfl) dX7_rule_14 rfl rfl ?_
    refine V_get (pc := 17) F 2 2 3 i_X2 rfl (by decide) rfl (mm 7 rfl) dX7_rule_17 rfl rfl ?_
    refine V_iload_n (pc := 20) F dX7_rule_20 rfl 1 rfl ?_
    refine V_V (w2 := wX7 cy a v) (rest := [.int x2]) (st2 := [.int (rowAt 8 v.1.1.2.2.2.1 x1), .int x2]) (pc := 21) F 5 (R_at l D cy (fun i => a (i + 9)) 8 v.1.1.2.2.2.1 x1 (by decide)) (cwV 1 F.ts gX7_rule_X5_at rfl rfl rfl hd_X5_at ⟨Nat.le_of_ble_eq_true rfl, Nat.le_of_ble_eq_true rfl⟩) rfl dX7_rule_21 (Fit.right (Fit.left (Fit.right (Fit.left (Fit.right (Fit.right (Fit.right (Fit.right (Fit.left Fit.whole))))))))) rfl rfl rfl (Nat.le_of_ble_eq_true rfl) (Nat.zero_le _) (Nat.zero_le _) rfl rfl rfl ?_
    refine V_icmp_lt (pc := 24) (tgt := 37) F dX7_rule_24 (by decide) (fun h5 => ?_) (fun h5 => ?_)
    · replace hf := ite_pos hf h5
      refine V_iload_n (pc := 37) F dX7_rule_37 rfl 3 rfl ?_
      by_cases h6 : x3 = 0
      · replace hf := ite_pos hf h6
        refine V_tableIn (pc := 38) (tgt := 64) F dX7_rule_38 (by rw [h6]; decide) (by rw [h6]; decide) (by rw [h6]; rfl) (by decide) ?_
        refine V_aload_n (pc := 64) F dX7_rule_64 rfl 0 rfl ?_
        refine V_get (pc := 65) F 0 7 0 i_X7 rfl (by decide) rfl (mm 5 rfl) dX7_rule_65 rfl rfl ?_
        refine V_get (pc := 68) F 1 1 0 i_X1 rfl (by decide) rfl (mm 6 rfl) dX7_rule_68 rfl rfl ?_
        refine V_iload_n (pc := 71) F dX7_rule_71 rfl 1 rfl ?_
        refine V_iload_n (pc := 72) F dX7_rule_72 rfl 2 rfl ?_
        obtain ⟨r7, g8, hf⟩ := bind_of hf
        refine V_V (w2 := wX7 cy a v) (rest := []) (st2 := [.int r7]) (pc := 73) F 2 (M_X2_goalOf l D cy N (fun i => a (i + 2)) v.1.1 x1 x2 r7 g8) (cwV 2 F.ts gX7_rule_X2_goalOf rfl rfl rfl hd_X2_goalOf ⟨Nat.le_of_ble_eq_true rfl, Nat.le_of_ble_eq_true rfl⟩) rfl dX7_rule_73 (Fit.right (Fit.left (Fit.right (Fit.left Fit.whole)))) rfl rfl rfl (Nat.le_of_ble_eq_true rfl) (Nat.zero_le _) (Nat.zero_le _) rfl rfl rfl ?_
        obtain rfl := Sum.inr.inj (some_of hf)
        exact V_ret F rfl rfl dX7_rule_76 rfl rfl
      replace hf := ite_neg hf h6
      by_cases h9 : x3 = 1
      · replace hf := ite_pos hf h9
        refine V_tableIn (pc := 38) (tgt := 77) F dX7_rule_38 (by rw [h9]; decide) (by rw [h9]; decide) (by rw [h9]; rfl) (by decide) ?_
        refine V_aload_n (pc := 77) F dX7_rule_77 rfl 0 rfl ?_
        refine V_get (pc := 78) F 0 7 0 i_X7 rfl (by decide) rfl (mm 5 rfl) dX7_rule_78 rfl rfl ?_
        refine V_get (pc := 81) F 1 1 0 i_X1 rfl (by decide) rfl (mm 6 rfl) dX7_rule_81 rfl rfl ?_
        refine V_iload_n (pc := 84) F dX7_rule_84 rfl 1 rfl ?_
        refine V_iload_n (pc := 85) F dX7_rule_85 rfl 2 rfl ?_
        obtain ⟨r10, g11, hf⟩ := bind_of hf
        refine V_V (w2 := wX7 cy a v) (rest := []) (st2 := [.int r10]) (pc := 86) F 2 (M_X2_askersOf l D cy N (fun i => a (i + 2)) v.1.1 x1 x2 r10 g11) (cwV 2 F.ts gX7_rule_X2_askersOf rfl rfl rfl hd_X2_askersOf ⟨Nat.le_of_ble_eq_true rfl, Nat.le_of_ble_eq_true rfl⟩) rfl dX7_rule_86 (Fit.right (Fit.left (Fit.right (Fit.left Fit.whole)))) rfl rfl rfl (Nat.le_of_ble_eq_true rfl) (Nat.zero_le _) (Nat.zero_le _) rfl rfl rfl ?_
        obtain rfl := Sum.inr.inj (some_of hf)
        exact V_ret F rfl rfl dX7_rule_89 rfl rfl
      replace hf := ite_neg hf h9
      by_cases h12 : x3 = 2
      · replace hf := ite_pos hf h12
        refine V_tableIn (pc := 38) (tgt := 90) F dX7_rule_38 (by rw [h12]; decide) (by rw [h12]; decide) (by rw [h12]; rfl) (by decide) ?_
        refine V_aload_n (pc := 90) F dX7_rule_90 rfl 0 rfl ?_
        refine V_get (pc := 91) F 0 7 0 i_X7 rfl (by decide) rfl (mm 5 rfl) dX7_rule_91 rfl rfl ?_
        refine V_iload_n (pc := 94) F dX7_rule_94 rfl 1 rfl ?_
        refine V_iload_n (pc := 95) F dX7_rule_95 rfl 2 rfl ?_
        refine V_aload_n (pc := 96) F dX7_rule_96 rfl 0 rfl ?_
        refine V_get (pc := 97) F 0 7 0 i_X7 rfl (by decide) rfl (mm 5 rfl) dX7_rule_97 rfl rfl ?_
        obtain ⟨r13, g14, hf⟩ := bind_of hf
        refine V_V (w2 := wX7 cy a v) (rest := [.int x2, .int x1, .ref (a 1)]) (st2 := [.int r13, .int x2, .int x1, .ref (a 1)]) (pc := 100) F 1 (M_X1_waiting l D cy N (fun i => a (i + 1)) v.1 r13 g14) (cwV 0 F.ts gX7_rule_X1_waiting rfl rfl rfl hd_X1_waiting ⟨Nat.le_of_ble_eq_true rfl, Nat.le_of_ble_eq_true rfl⟩) rfl dX7_rule_100 (Fit.right (Fit.left Fit.whole)) rfl rfl rfl (Nat.le_of_ble_eq_true rfl) (Nat.zero_le _) (Nat.zero_le _) rfl rfl rfl ?_
        obtain ⟨r15, g16, hf⟩ := bind_of hf
        refine V_V (w2 := wX7 cy a v) (rest := []) (st2 := [.int r15]) (pc := 103) F 1 (M_X1_ruleHolds l D cy N (fun i => a (i + 1)) v.1 x1 x2 r13 r15 g16) (cwV 3 F.ts gX7_rule_X1_ruleHolds rfl rfl rfl hd_X1_ruleHolds ⟨Nat.le_of_ble_eq_true rfl, Nat.le_of_ble_eq_true rfl⟩) rfl dX7_rule_103 (Fit.right (Fit.left Fit.whole)) rfl rfl rfl (Nat.le_of_ble_eq_true rfl) (Nat.zero_le _) (Nat.zero_le _) rfl rfl rfl ?_
        refine V_if_eq (pc := 106) (tgt := 113) F dX7_rule_106 (by decide) (fun h17 => ?_) (fun h17 => ?_)
        · replace hf := ite_pos hf h17
          refine V_iconst (v := 0) (pc := 113) F dX7_rule_113 (by decide) ?_
          obtain rfl := Sum.inr.inj (some_of hf)
          exact V_ret F rfl rfl dX7_rule_114 rfl rfl
        · replace hf := ite_neg hf h17
          refine V_iconst (v := 1) (pc := 109) F dX7_rule_109 (by decide) ?_
          refine V_goto (pc := 110) (tgt := 114) F dX7_rule_110 (by decide) ?_
          obtain rfl := Sum.inr.inj (some_of hf)
          exact V_ret F rfl rfl dX7_rule_114 rfl rfl
      replace hf := ite_neg hf h12
      refine V_tableOut (pc := 38) (tgt := 115) F dX7_rule_38 (by have q0 := lv_neT h6 (a := 0) rfl; have q1 := lv_neT h9 (a := 1) rfl; have q2 := lv_neT h12 (a := 2) rfl; omega) (by decide) ?_
      exact nomatch some_of hf
    · replace hf := ite_neg hf h5
      exact nomatch some_of hf
theorem hd_X7_direction : yX7_direction.cls = RX7 ∧ yX7_direction.cls ≠ "java/lang/invoke/MethodHandle" ∧ yX7_direction.cls ≠ "java/lang/invoke/VarHandle" ∧ (parseMethodDescriptor yX7_direction.desc).map (fun d => d.parameters.length) = some 2 := by decide +kernel
def fX7_direction (N : Nat) (v : SX7) (x1 : Int32) (x2 : Int32) : Option ((String) ⊕ (Int32)) :=
  (fX7_checkDirection N x1).bind fun r1 => onS r1 (fun E => some (.inl E)) fun q3 =>
    if x2 = 0 then
      (fX1_greensNow N v.1).bind fun r5 =>
        (fX7_has N r5 x1).bind fun r7 =>
          if r7 = 0 then
            some (.inr 0)
          else
            some (.inr 1)
    else
    if x2 = 1 then
      some (.inr (rowAt 6 v.1.2.1 x1))
    else
    if x2 = 2 then
      some (.inr (rowAt 6 v.1.1.1 x1))
    else
    if x2 = 3 then
      some (.inr (rowAt 6 v.1.2.2.1 x1))
    else
    if x2 = 4 then
      some (.inr (rowAt 6 v.1.2.2.2.1 x1))
    else
    if x2 = 5 then
      (fX2_phasesWith N v.1.1 x1).bind fun r15 =>
        some (.inr r15)
    else
    some (.inl "java/lang/IllegalArgumentException")
set_option maxHeartbeats 8000000 in
set_option maxRecDepth 100000 in
theorem M_X7_direction (l : Launch) (D : va_G) (cy : Nat → ClassId) (N : Nat) (a : Nat → Nat) (v : SX7) (x1 : Int32) (x2 : Int32) (o : Int32) (hf : fX7_direction N v x1 x2 = some (.inr o)) : okM l yX7_direction wsX7_direction (rmz 2 44) D cy [.ref (a 0), .int x1, .int x2] (wX7 cy a v) (wX7 cy a v) (some (.int o)) := by
  refine okM_of (own := RX7) (nme := "direction") (cc := cX7_direction) (maxL := 3) (ret := (some .int)) (by decide) rfl rfl rfl (Nat.le_of_ble_eq_true rfl) ?_
  intro p e s m args below meth c A F
  have i_X1 : ∀ w ∈ u_ws RX1 TX1 10, w ∈ wsX7_direction := fun _ h => List.mem_cons_of_mem _ (List.mem_append_left _ (List.mem_append_left _ (List.mem_append_left _ (List.mem_append_right _ h))))
  have i_X2 : ∀ w ∈ u_ws RX2 TX2 8, w ∈ wsX7_direction := fun _ h => List.mem_cons_of_mem _ (List.mem_append_left _ (List.mem_append_left _ (List.mem_append_right _ h)))
  have i_X7 : ∀ w ∈ u_ws RX7 TX7 4, w ∈ wsX7_direction := fun _ h => List.mem_cons_of_mem _ (List.mem_append_left _ (List.mem_append_left _ (List.mem_append_left _ (List.mem_append_left _ (List.mem_append_right _ h)))))
  unfold fX7_direction at hf
  refine V.eq rfl (show lv_args 0 [.ref (a 0), .int x1, .int x2] = [(0, .ref (a 0)), (1, .int x1), (2, .int x2)] from rfl) rfl ?_
  refine V_iload_n (pc := 0) F dX7_direction_0 rfl 1 rfl ?_
  obtain ⟨r1, g2, hf⟩ := bind_of hf
  rcases r1 with E | q3
  · replace hf := onS_inl hf
    exact nomatch some_of hf
  replace hf := onS_inr hf
  refine V_Sc (rest := []) (st2 := []) (pc := 1) F (M_X7_checkDirection l D cy N x1 q3 g2) (va_cwS 1 F.ts gX7_direction_X7_checkDirection rfl rfl rfl hd_X7_checkDirection ⟨Nat.le_of_ble_eq_true rfl, Nat.le_of_ble_eq_true rfl⟩) rfl dX7_direction_1 (Nat.le_of_ble_eq_true rfl) (Nat.zero_le _) (Nat.zero_le _) rfl rfl ?_
  refine V_iload_n (pc := 4) F dX7_direction_4 rfl 2 rfl ?_
  by_cases h4 : x2 = 0
  · replace hf := ite_pos hf h4
    refine V_tableIn (pc := 5) (tgt := 44) F dX7_direction_5 (by rw [h4]; decide) (by rw [h4]; decide) (by rw [h4]; rfl) (by decide) ?_
    refine V_aload_n (pc := 44) F dX7_direction_44 rfl 0 rfl ?_
    refine V_get (pc := 45) F 0 7 0 i_X7 rfl (by decide) rfl (mm 3 rfl) dX7_direction_45 rfl rfl ?_
    obtain ⟨r5, g6, hf⟩ := bind_of hf
    refine V_V (w2 := wX7 cy a v) (rest := []) (st2 := [.int r5]) (pc := 48) F 1 (M_X1_greensNow l D cy N (fun i => a (i + 1)) v.1 r5 g6) (cwV 0 F.ts gX7_direction_X1_greensNow rfl rfl rfl hd_X1_greensNow ⟨Nat.le_of_ble_eq_true rfl, Nat.le_of_ble_eq_true rfl⟩) rfl dX7_direction_48 (Fit.right (Fit.left Fit.whole)) rfl rfl rfl (Nat.le_of_ble_eq_true rfl) (Nat.zero_le _) (Nat.zero_le _) rfl rfl rfl ?_
    refine V_iload_n (pc := 51) F dX7_direction_51 rfl 1 rfl ?_
    obtain ⟨r7, g8, hf⟩ := bind_of hf
    refine V_Sc (rest := []) (st2 := [.int r7]) (pc := 52) F (M_X7_has l D cy N r5 x1 r7 g8) (va_cwS 2 F.ts gX7_direction_X7_has rfl rfl rfl hd_X7_has ⟨Nat.le_of_ble_eq_true rfl, Nat.le_of_ble_eq_true rfl⟩) rfl dX7_direction_52 (Nat.le_of_ble_eq_true rfl) (Nat.zero_le _) (Nat.zero_le _) rfl rfl ?_
    refine V_if_eq (pc := 55) (tgt := 62) F dX7_direction_55 (by decide) (fun h9 => ?_) (fun h9 => ?_)
    · replace hf := ite_pos hf h9
      refine V_iconst (v := 0) (pc := 62) F dX7_direction_62 (by decide) ?_
      obtain rfl := Sum.inr.inj (some_of hf)
      exact V_ret F rfl rfl dX7_direction_63 rfl rfl
    · replace hf := ite_neg hf h9
      refine V_iconst (v := 1) (pc := 58) F dX7_direction_58 (by decide) ?_
      refine V_goto (pc := 59) (tgt := 63) F dX7_direction_59 (by decide) ?_
      obtain rfl := Sum.inr.inj (some_of hf)
      exact V_ret F rfl rfl dX7_direction_63 rfl rfl
  replace hf := ite_neg hf h4
  by_cases h10 : x2 = 1
  · replace hf := ite_pos hf h10
    refine V_tableIn (pc := 5) (tgt := 64) F dX7_direction_5 (by rw [h10]; decide) (by rw [h10]; decide) (by rw [h10]; rfl) (by decide) ?_
    refine V_aload_n (pc := 64) F dX7_direction_64 rfl 0 rfl ?_
    refine V_get (pc := 65) F 0 7 0 i_X7 rfl (by decide) rfl (mm 3 rfl) dX7_direction_65 rfl rfl ?_
    refine V_get (pc := 68) F 1 1 1 i_X1 rfl (by decide) rfl (mm 4 rfl) dX7_direction_68 rfl rfl ?_
    refine V_iload_n (pc := 71) F dX7_direction_71 rfl 1 rfl ?_
    refine V_V (w2 := wX7 cy a v) (rest := []) (st2 := [.int (rowAt 6 v.1.2.1 x1)]) (pc := 72) F 5 (R_at l D cy (fun i => a (i + 15)) 6 v.1.2.1 x1 (by decide)) (cwV 1 F.ts gX7_direction_X5_at rfl rfl rfl hd_X5_at ⟨Nat.le_of_ble_eq_true rfl, Nat.le_of_ble_eq_true rfl⟩) rfl dX7_direction_72 (Fit.right (Fit.left (Fit.right (Fit.right (Fit.left Fit.whole))))) rfl rfl rfl (Nat.le_of_ble_eq_true rfl) (Nat.zero_le _) (Nat.zero_le _) rfl rfl rfl ?_
    obtain rfl := Sum.inr.inj (some_of hf)
    exact V_ret F rfl rfl dX7_direction_75 rfl rfl
  replace hf := ite_neg hf h10
  by_cases h11 : x2 = 2
  · replace hf := ite_pos hf h11
    refine V_tableIn (pc := 5) (tgt := 76) F dX7_direction_5 (by rw [h11]; decide) (by rw [h11]; decide) (by rw [h11]; rfl) (by decide) ?_
    refine V_aload_n (pc := 76) F dX7_direction_76 rfl 0 rfl ?_
    refine V_get (pc := 77) F 0 7 0 i_X7 rfl (by decide) rfl (mm 3 rfl) dX7_direction_77 rfl rfl ?_
    refine V_get (pc := 80) F 1 1 0 i_X1 rfl (by decide) rfl (mm 5 rfl) dX7_direction_80 rfl rfl ?_
    refine V_get (pc := 83) F 2 2 0 i_X2 rfl (by decide) rfl (mm 6 rfl) dX7_direction_83 rfl rfl ?_
    refine V_iload_n (pc := 86) F dX7_direction_86 rfl 1 rfl ?_
    refine V_V (w2 := wX7 cy a v) (rest := []) (st2 := [.int (rowAt 6 v.1.1.1 x1)]) (pc := 87) F 5 (R_at l D cy (fun i => a (i + 3)) 6 v.1.1.1 x1 (by decide)) (cwV 1 F.ts gX7_direction_X5_at rfl rfl rfl hd_X5_at ⟨Nat.le_of_ble_eq_true rfl, Nat.le_of_ble_eq_true rfl⟩) rfl dX7_direction_87 (Fit.right (Fit.left (Fit.right (Fit.left (Fit.right (Fit.left Fit.whole)))))) rfl rfl rfl (Nat.le_of_ble_eq_true rfl) (Nat.zero_le _) (Nat.zero_le _) rfl rfl rfl ?_
    obtain rfl := Sum.inr.inj (some_of hf)
    exact V_ret F rfl rfl dX7_direction_90 rfl rfl
  replace hf := ite_neg hf h11
  by_cases h12 : x2 = 3
  · replace hf := ite_pos hf h12
    refine V_tableIn (pc := 5) (tgt := 91) F dX7_direction_5 (by rw [h12]; decide) (by rw [h12]; decide) (by rw [h12]; rfl) (by decide) ?_
    refine V_aload_n (pc := 91) F dX7_direction_91 rfl 0 rfl ?_
    refine V_get (pc := 92) F 0 7 0 i_X7 rfl (by decide) rfl (mm 3 rfl) dX7_direction_92 rfl rfl ?_
    refine V_get (pc := 95) F 1 1 2 i_X1 rfl (by decide) rfl (mm 7 rfl) dX7_direction_95 rfl rfl ?_
    refine V_iload_n (pc := 98) F dX7_direction_98 rfl 1 rfl ?_
    refine V_V (w2 := wX7 cy a v) (rest := []) (st2 := [.int (rowAt 6 v.1.2.2.1 x1)]) (pc := 99) F 5 (R_at l D cy (fun i => a (i + 17)) 6 v.1.2.2.1 x1 (by decide)) (cwV 1 F.ts gX7_direction_X5_at rfl rfl rfl hd_X5_at ⟨Nat.le_of_ble_eq_true rfl, Nat.le_of_ble_eq_true rfl⟩) rfl dX7_direction_99 (Fit.right (Fit.left (Fit.right (Fit.right (Fit.right (Fit.left Fit.whole)))))) rfl rfl rfl (Nat.le_of_ble_eq_true rfl) (Nat.zero_le _) (Nat.zero_le _) rfl rfl rfl ?_
    obtain rfl := Sum.inr.inj (some_of hf)
    exact V_ret F rfl rfl dX7_direction_102 rfl rfl
  replace hf := ite_neg hf h12
  by_cases h13 : x2 = 4
  · replace hf := ite_pos hf h13
    refine V_tableIn (pc := 5) (tgt := 103) F dX7_direction_5 (by rw [h13]; decide) (by rw [h13]; decide) (by rw [h13]; rfl) (by decide) ?_
    refine V_aload_n (pc := 103) F dX7_direction_103 rfl 0 rfl ?_
    refine V_get (pc := 104) F 0 7 0 i_X7 rfl (by decide) rfl (mm 3 rfl) dX7_direction_104 rfl rfl ?_
    refine V_get (pc := 107) F 1 1 3 i_X1 rfl (by decide) rfl (mm 8 rfl) dX7_direction_107 rfl rfl ?_
    refine V_iload_n (pc := 110) F dX7_direction_110 rfl 1 rfl ?_
    refine V_V (w2 := wX7 cy a v) (rest := []) (st2 := [.int (rowAt 6 v.1.2.2.2.1 x1)]) (pc := 111) F 5 (R_at l D cy (fun i => a (i + 19)) 6 v.1.2.2.2.1 x1 (by decide)) (cwV 1 F.ts gX7_direction_X5_at rfl rfl rfl hd_X5_at ⟨Nat.le_of_ble_eq_true rfl, Nat.le_of_ble_eq_true rfl⟩) rfl dX7_direction_111 (Fit.right (Fit.left (Fit.right (Fit.right (Fit.right (Fit.right (Fit.left Fit.whole))))))) rfl rfl rfl (Nat.le_of_ble_eq_true rfl) (Nat.zero_le _) (Nat.zero_le _) rfl rfl rfl ?_
    obtain rfl := Sum.inr.inj (some_of hf)
    exact V_ret F rfl rfl dX7_direction_114 rfl rfl
  replace hf := ite_neg hf h13
  by_cases h14 : x2 = 5
  · replace hf := ite_pos hf h14
    refine V_tableIn (pc := 5) (tgt := 115) F dX7_direction_5 (by rw [h14]; decide) (by rw [h14]; decide) (by rw [h14]; rfl) (by decide) ?_
    refine V_aload_n (pc := 115) F dX7_direction_115 rfl 0 rfl ?_
    refine V_get (pc := 116) F 0 7 0 i_X7 rfl (by decide) rfl (mm 3 rfl) dX7_direction_116 rfl rfl ?_
    refine V_get (pc := 119) F 1 1 0 i_X1 rfl (by decide) rfl (mm 5 rfl) dX7_direction_119 rfl rfl ?_
    refine V_iload_n (pc := 122) F dX7_direction_122 rfl 1 rfl ?_
    obtain ⟨r15, g16, hf⟩ := bind_of hf
    refine V_V (w2 := wX7 cy a v) (rest := []) (st2 := [.int r15]) (pc := 123) F 2 (M_X2_phasesWith l D cy N (fun i => a (i + 2)) v.1.1 x1 r15 g16) (cwV 1 F.ts gX7_direction_X2_phasesWith rfl rfl rfl hd_X2_phasesWith ⟨Nat.le_of_ble_eq_true rfl, Nat.le_of_ble_eq_true rfl⟩) rfl dX7_direction_123 (Fit.right (Fit.left (Fit.right (Fit.left Fit.whole)))) rfl rfl rfl (Nat.le_of_ble_eq_true rfl) (Nat.zero_le _) (Nat.zero_le _) rfl rfl rfl ?_
    obtain rfl := Sum.inr.inj (some_of hf)
    exact V_ret F rfl rfl dX7_direction_126 rfl rfl
  replace hf := ite_neg hf h14
  refine V_tableOut (pc := 5) (tgt := 127) F dX7_direction_5 (by have q0 := lv_neT h4 (a := 0) rfl; have q1 := lv_neT h10 (a := 1) rfl; have q2 := lv_neT h11 (a := 2) rfl; have q3 := lv_neT h12 (a := 3) rfl; have q4 := lv_neT h13 (a := 4) rfl; have q5 := lv_neT h14 (a := 5) rfl; omega) (by decide) ?_
  exact nomatch some_of hf
theorem hd_X7_studyAll : yX7_studyAll.cls = RX7 ∧ yX7_studyAll.cls ≠ "java/lang/invoke/MethodHandle" ∧ yX7_studyAll.cls ≠ "java/lang/invoke/VarHandle" ∧ (parseMethodDescriptor yX7_studyAll.desc).map (fun d => d.parameters.length) = some 0 := by decide +kernel
def fX7_studyAll_L23 (N : Nat)  : Nat → SX7 → Int32 → Option (SX7)
  | 0, _, _ => none
  | n + 1, v, z1 =>
    if 6 ≤ z1 then
      some v
    else
      (fX3_noteStarving N v.2.2.2 v.1.1 z1).bind fun r4 =>
        (fX3_noteWaits N r4 v.1.1 z1).bind fun r6 =>
          fX7_studyAll_L23 N n (v.1, v.2.1, v.2.2.1, r6) (z1 + 1)
def fX7_studyAll (N : Nat) (v : SX7) : Option (SX7) :=
  (fX3_noteComing N v.2.2.2 v.1.1 v.1.2.2.2.2.2.1).bind fun r1 =>
    (fX7_studyAll_L23 N N (v.1, v.2.1, v.2.2.1, r1) 0).bind fun u8 =>
      some u8
set_option maxHeartbeats 8000000 in
set_option maxRecDepth 100000 in
theorem M_X7_studyAll (l : Launch) (D : va_G) (cy : Nat → ClassId) (N : Nat) (a : Nat → Nat) (v : SX7) (o : SX7) (hf : fX7_studyAll N v = some o) : okM l yX7_studyAll wsX7_studyAll (rmz 4 98) D cy [.ref (a 0)] (wX7 cy a v) (wX7 cy a o) none := by
  refine okM_of (own := RX7) (nme := "studyAll") (cc := cX7_studyAll) (maxL := 2) (ret := none) (by decide) rfl rfl rfl (Nat.le_of_ble_eq_true rfl) ?_
  intro p e s m args below meth c A F
  have i_X1 : ∀ w ∈ u_ws RX1 TX1 10, w ∈ wsX7_studyAll := fun _ h => List.mem_cons_of_mem _ (List.mem_append_left _ (List.mem_append_left _ (List.mem_append_left _ (List.mem_append_right _ h))))
  have i_X7 : ∀ w ∈ u_ws RX7 TX7 4, w ∈ wsX7_studyAll := fun _ h => List.mem_cons_of_mem _ (List.mem_append_left _ (List.mem_append_left _ (List.mem_append_left _ (List.mem_append_left _ (List.mem_append_right _ h)))))
  have K23 : ∀ (n : Nat) (v : SX7) (z1 : Int32) (u : SX7), fX7_studyAll_L23 N n v z1 = some u → V p l e (rmz 4 98) s m args below meth c 2 D A 0 0 (MQ below (ok_Q D (wX7 cy a o) none A) args s 0 0 A) (wX7 cy a u) [] [] 65 → V p l e (rmz 4 98) s m args below meth c 2 D A 0 0 (MQ below (ok_Q D (wX7 cy a o) none A) args s 0 0 A) (wX7 cy a v) [(0, .ref (a 0)), (1, .int z1)] [] 23 := by
    intro n
    induction n with
    | zero =>
      intro v z1 u hf hk
      exact nomatch (show (none : Option (SX7)) = some u from hf)
    | succ n ih =>
      intro v z1 u hf hk
      rw [fX7_studyAll_L23] at hf
      refine V_iload_n (pc := 23) F dX7_studyAll_23 rfl 1 rfl ?_
      refine V_bipush (v := 6) (pc := 24) F dX7_studyAll_24 (by decide) ?_
      refine V_icmp_ge (pc := 26) (tgt := 65) F dX7_studyAll_26 (by decide) (fun h3 => ?_) (fun h3 => ?_)
      · replace hf := ite_pos hf h3
        obtain rfl := some_of hf
        exact V.sub [] rfl hk
      · replace hf := ite_neg hf h3
        refine V_aload_n (pc := 29) F dX7_studyAll_29 rfl 0 rfl ?_
        refine V_get (pc := 30) F 0 7 3 i_X7 rfl (by decide) rfl (mm 1 rfl) dX7_studyAll_30 rfl rfl ?_
        refine V_aload_n (pc := 33) F dX7_studyAll_33 rfl 0 rfl ?_
        refine V_get (pc := 34) F 0 7 0 i_X7 rfl (by decide) rfl (mm 2 rfl) dX7_studyAll_34 rfl rfl ?_
        refine V_get (pc := 37) F 1 1 0 i_X1 rfl (by decide) rfl (mm 3 rfl) dX7_studyAll_37 rfl rfl ?_
        refine V_iload_n (pc := 40) F dX7_studyAll_40 rfl 1 rfl ?_
        obtain ⟨r4, g5, hf⟩ := bind_of hf
        refine V_V2 (w2 := wX7 cy a (v.1, v.2.1, v.2.2.1, r4)) (rest := []) (st2 := []) (pc := 41) F 3 (M_X3_noteStarving l D cy N (fun i => a (i + 27)) (fun i => a (i + 2)) v.2.2.2 v.1.1 z1 r4 g5) (cwV 2 F.ts gX7_studyAll_X3_noteStarving rfl rfl rfl hd_X3_noteStarving ⟨Nat.le_of_ble_eq_true rfl, Nat.le_of_ble_eq_true rfl⟩) rfl dX7_studyAll_41 (Fit2.right (Fit2.swap (Fit.right (Fit.left Fit.whole)) (Fit.right (Fit.left Fit.whole)))) fstX3 rfl rfl rfl (Nat.le_of_ble_eq_true rfl) (Nat.zero_le _) (Nat.zero_le _) rfl rfl rfl ?_
        refine V_aload_n (pc := 44) F dX7_studyAll_44 rfl 0 rfl ?_
        refine V_get (pc := 45) F 0 7 3 i_X7 rfl (by decide) rfl (mm 1 rfl) dX7_studyAll_45 rfl rfl ?_
        refine V_aload_n (pc := 48) F dX7_studyAll_48 rfl 0 rfl ?_
        refine V_get (pc := 49) F 0 7 0 i_X7 rfl (by decide) rfl (mm 2 rfl) dX7_studyAll_49 rfl rfl ?_
        refine V_get (pc := 52) F 1 1 0 i_X1 rfl (by decide) rfl (mm 3 rfl) dX7_studyAll_52 rfl rfl ?_
        refine V_iload_n (pc := 55) F dX7_studyAll_55 rfl 1 rfl ?_
        obtain ⟨r6, g7, hf⟩ := bind_of hf
        refine V_V2 (w2 := wX7 cy a (v.1, v.2.1, v.2.2.1, r6)) (rest := []) (st2 := []) (pc := 56) F 3 (M_X3_noteWaits l D cy N (fun i => a (i + 27)) (fun i => a (i + 2)) r4 v.1.1 z1 r6 g7) (cwV 2 F.ts gX7_studyAll_X3_noteWaits rfl rfl rfl hd_X3_noteWaits ⟨Nat.le_of_ble_eq_true rfl, Nat.le_of_ble_eq_true rfl⟩) rfl dX7_studyAll_56 (Fit2.right (Fit2.swap (Fit.right (Fit.left Fit.whole)) (Fit.right (Fit.left Fit.whole)))) fstX3 rfl rfl rfl (Nat.le_of_ble_eq_true rfl) (Nat.zero_le _) (Nat.zero_le _) rfl rfl rfl ?_
        refine V_iinc (v := (z1 + 1)) (L2 := [(1, .int (z1 + 1)), (0, .ref (a 0))]) (pc := 59) F dX7_studyAll_59 1 rfl rfl (by decide) rfl ?_
        refine V_goto (pc := 62) (tgt := 23) F dX7_studyAll_62 (by decide) ?_
        refine V.sub [1, 0] rfl ?_
        exact ih (v.1, v.2.1, v.2.2.1, r6) (z1 + 1) _ hf hk
  unfold fX7_studyAll at hf
  refine V.eq rfl (show lv_args 0 [.ref (a 0)] = [(0, .ref (a 0))] from rfl) rfl ?_
  refine V_aload_n (pc := 0) F dX7_studyAll_0 rfl 0 rfl ?_
  refine V_get (pc := 1) F 0 7 3 i_X7 rfl (by decide) rfl (mm 1 rfl) dX7_studyAll_1 rfl rfl ?_
  refine V_aload_n (pc := 4) F dX7_studyAll_4 rfl 0 rfl ?_
  refine V_get (pc := 5) F 0 7 0 i_X7 rfl (by decide) rfl (mm 2 rfl) dX7_studyAll_5 rfl rfl ?_
  refine V_get (pc := 8) F 1 1 0 i_X1 rfl (by decide) rfl (mm 3 rfl) dX7_studyAll_8 rfl rfl ?_
  refine V_aload_n (pc := 11) F dX7_studyAll_11 rfl 0 rfl ?_
  refine V_get (pc := 12) F 0 7 0 i_X7 rfl (by decide) rfl (mm 2 rfl) dX7_studyAll_12 rfl rfl ?_
  refine V_get (pc := 15) F 1 1 5 i_X1 rfl (by decide) rfl (mm 4 rfl) dX7_studyAll_15 rfl rfl ?_
  obtain ⟨r1, g2, hf⟩ := bind_of hf
  refine V_V2 (w2 := wX7 cy a (v.1, v.2.1, v.2.2.1, r1)) (rest := []) (st2 := []) (pc := 18) F 3 (M_X3_noteComing l D cy N (fun i => a (i + 27)) (fun i => a (i + 2)) v.2.2.2 v.1.1 v.1.2.2.2.2.2.1 r1 g2) (cwV 2 F.ts gX7_studyAll_X3_noteComing rfl rfl rfl hd_X3_noteComing ⟨Nat.le_of_ble_eq_true rfl, Nat.le_of_ble_eq_true rfl⟩) rfl dX7_studyAll_18 (Fit2.right (Fit2.swap (Fit.right (Fit.left Fit.whole)) (Fit.right (Fit.left Fit.whole)))) fstX3 rfl rfl rfl (Nat.le_of_ble_eq_true rfl) (Nat.zero_le _) (Nat.zero_le _) rfl rfl rfl ?_
  refine V_iconst (v := 0) (pc := 21) F dX7_studyAll_21 (by decide) ?_
  refine V_istore_n (L2 := [(1, .int 0), (0, .ref (a 0))]) (pc := 22) F dX7_studyAll_22 rfl (by decide) rfl ?_
  refine V.sub [1, 0] rfl ?_
  obtain ⟨u8, g9, hf⟩ := bind_of hf
  refine K23 N (v.1, v.2.1, v.2.2.1, r1) 0 u8 g9 ?_
  obtain rfl := some_of hf
  exact V_vret F rfl dX7_studyAll_65 rfl
theorem hd_X7_count : yX7_count.cls = RX7 ∧ yX7_count.cls ≠ "java/lang/invoke/MethodHandle" ∧ yX7_count.cls ≠ "java/lang/invoke/VarHandle" ∧ (parseMethodDescriptor yX7_count.desc).map (fun d => d.parameters.length) = some 1 := by decide +kernel
def fX7_count (N : Nat) (v : SX7) (x1 : Int32) : Option ((String × SX7) ⊕ (Int32 × SX7)) :=
  if x1 = 0 then
    some (.inr (v.1.1.2.2.2.2.2.2.1, v))
  else
  if x1 = 1 then
    if v.1.1.2.2.2.2.2.2.1 = 0 then
      some (.inr ((-1), v))
    else
      some (.inr (v.1.2.2.2.2.2.1, v))
  else
  if x1 = 2 then
    if v.1.1.2.2.2.2.2.2.1 = 0 then
      some (.inr ((-1), v))
    else
      (fX1_isClearing N v.1).bind fun r6 =>
        if r6 = 0 then
          some (.inr (v.1.2.2.2.2.2.2.2.1, v))
        else
          some (.inr ((-1), v))
  else
  if x1 = 3 then
    some (.inr (v.1.2.2.2.2.2.2.2.2.1, v))
  else
  if x1 = 4 then
    (fX1_greensNow N v.1).bind fun r11 =>
      some (.inr (r11, v))
  else
  if x1 = 5 then
    (fX1_waiting N v.1).bind fun r14 =>
      some (.inr (r14, v))
  else
  if x1 = 6 then
    (fX2_unsafePhases N v.1.1).bind fun r17 =>
      (fJ6_bitCount_0f7a4 N r17).bind fun r19 =>
        some (.inr (r19, v))
  else
  if x1 = 7 then
    (fX7_comingPhases N v).bind fun r22 =>
      (fJ6_bitCount_0f7a4 N r22.1).bind fun r24 =>
        some (.inr (r24, r22.2))
  else
  if x1 = 8 then
    (fX7_comingPhases N v).bind fun r27 =>
      (fX2_unsafePhases N r27.2.1.1).bind fun r29 =>
        (fJ6_bitCount_0f7a4 N (r27.1 &&& r29)).bind fun r31 =>
          some (.inr (r31, r27.2))
  else
  if x1 = 9 then
    some (.inr (v.1.2.2.2.2.2.2.2.2.2, v))
  else
  if x1 = 10 then
    (fX7_studyAll N v).bind fun r35 =>
      (fX3_starvingDirections N r35.2.2.2).bind fun r37 =>
        some (.inr (r37, r35))
  else
  if x1 = 11 then
    some (.inr (v.2.1.2.2, v))
  else
  some (.inl ("java/lang/IllegalArgumentException", v))
set_option maxHeartbeats 8000000 in
set_option maxRecDepth 100000 in
theorem M_X7_count (l : Launch) (D : va_G) (cy : Nat → ClassId) (N : Nat) (a : Nat → Nat) (v : SX7) (x1 : Int32) (o : Int32 × SX7) (hf : fX7_count N v x1 = some (.inr o)) : okM l yX7_count wsX7_count (rmz 5 119) D cy [.ref (a 0), .int x1] (wX7 cy a v) (wX7 cy a o.2) (some (.int o.1)) := by
  refine okM_of (own := RX7) (nme := "count") (cc := cX7_count) (maxL := 2) (ret := (some .int)) (by decide) rfl rfl rfl (Nat.le_of_ble_eq_true rfl) ?_
  intro p e s m args below meth c A F
  have i_X0 : ∀ w ∈ u_ws RX0 TX0 3, w ∈ wsX7_count := fun _ h => List.mem_cons_of_mem _ (List.mem_append_left _ (List.mem_append_left _ (List.mem_append_left _ (List.mem_append_right _ h))))
  have i_X1 : ∀ w ∈ u_ws RX1 TX1 10, w ∈ wsX7_count := fun _ h => List.mem_cons_of_mem _ (List.mem_append_left _ (List.mem_append_left _ (List.mem_append_left _ (List.mem_append_left _ (List.mem_append_left _ (List.mem_append_right _ h))))))
  have i_X2 : ∀ w ∈ u_ws RX2 TX2 8, w ∈ wsX7_count := fun _ h => List.mem_cons_of_mem _ (List.mem_append_left _ (List.mem_append_left _ (List.mem_append_left _ (List.mem_append_left _ (List.mem_append_right _ h)))))
  have i_X7 : ∀ w ∈ u_ws RX7 TX7 4, w ∈ wsX7_count := fun _ h => List.mem_cons_of_mem _ (List.mem_append_left _ (List.mem_append_left _ (List.mem_append_left _ (List.mem_append_left _ (List.mem_append_left _ (List.mem_append_left _ (List.mem_append_right _ h)))))))
  unfold fX7_count at hf
  refine V.eq rfl (show lv_args 0 [.ref (a 0), .int x1] = [(0, .ref (a 0)), (1, .int x1)] from rfl) rfl ?_
  refine V_iload_n (pc := 0) F dX7_count_0 rfl 1 rfl ?_
  by_cases h1 : x1 = 0
  · replace hf := ite_pos hf h1
    refine V_tableIn (pc := 1) (tgt := 64) F dX7_count_1 (by rw [h1]; decide) (by rw [h1]; decide) (by rw [h1]; rfl) (by decide) ?_
    refine V_aload_n (pc := 64) F dX7_count_64 rfl 0 rfl ?_
    refine V_get (pc := 65) F 0 7 0 i_X7 rfl (by decide) rfl (mm 3 rfl) dX7_count_65 rfl rfl ?_
    refine V_get (pc := 68) F 1 1 0 i_X1 rfl (by decide) rfl (mm 4 rfl) dX7_count_68 rfl rfl ?_
    refine V_get (pc := 71) F 2 2 6 i_X2 rfl (by decide) rfl (mm 5 rfl) dX7_count_71 rfl rfl ?_
    obtain rfl := Sum.inr.inj (some_of hf)
    exact V_ret F rfl rfl dX7_count_74 rfl rfl
  replace hf := ite_neg hf h1
  by_cases h2 : x1 = 1
  · replace hf := ite_pos hf h2
    refine V_tableIn (pc := 1) (tgt := 75) F dX7_count_1 (by rw [h2]; decide) (by rw [h2]; decide) (by rw [h2]; rfl) (by decide) ?_
    refine V_aload_n (pc := 75) F dX7_count_75 rfl 0 rfl ?_
    refine V_get (pc := 76) F 0 7 0 i_X7 rfl (by decide) rfl (mm 3 rfl) dX7_count_76 rfl rfl ?_
    refine V_get (pc := 79) F 1 1 0 i_X1 rfl (by decide) rfl (mm 4 rfl) dX7_count_79 rfl rfl ?_
    refine V_get (pc := 82) F 2 2 6 i_X2 rfl (by decide) rfl (mm 5 rfl) dX7_count_82 rfl rfl ?_
    refine V_if_ne (pc := 85) (tgt := 92) F dX7_count_85 (by decide) (fun h3 => ?_) (fun h3 => ?_)
    · replace hf := ite_neg hf h3
      refine V_aload_n (pc := 92) F dX7_count_92 rfl 0 rfl ?_
      refine V_get (pc := 93) F 0 7 0 i_X7 rfl (by decide) rfl (mm 3 rfl) dX7_count_93 rfl rfl ?_
      refine V_get (pc := 96) F 1 1 5 i_X1 rfl (by decide) rfl (mm 6 rfl) dX7_count_96 rfl rfl ?_
      obtain rfl := Sum.inr.inj (some_of hf)
      exact V_ret F rfl rfl dX7_count_99 rfl rfl
    · replace hf := ite_pos hf h3
      refine V_iconst (v := (-1)) (pc := 88) F dX7_count_88 (by decide) ?_
      refine V_goto (pc := 89) (tgt := 99) F dX7_count_89 (by decide) ?_
      obtain rfl := Sum.inr.inj (some_of hf)
      exact V_ret F rfl rfl dX7_count_99 rfl rfl
  replace hf := ite_neg hf h2
  by_cases h4 : x1 = 2
  · replace hf := ite_pos hf h4
    refine V_tableIn (pc := 1) (tgt := 100) F dX7_count_1 (by rw [h4]; decide) (by rw [h4]; decide) (by rw [h4]; rfl) (by decide) ?_
    refine V_aload_n (pc := 100) F dX7_count_100 rfl 0 rfl ?_
    refine V_get (pc := 101) F 0 7 0 i_X7 rfl (by decide) rfl (mm 3 rfl) dX7_count_101 rfl rfl ?_
    refine V_get (pc := 104) F 1 1 0 i_X1 rfl (by decide) rfl (mm 4 rfl) dX7_count_104 rfl rfl ?_
    refine V_get (pc := 107) F 2 2 6 i_X2 rfl (by decide) rfl (mm 5 rfl) dX7_count_107 rfl rfl ?_
    refine V_if_eq (pc := 110) (tgt := 123) F dX7_count_110 (by decide) (fun h5 => ?_) (fun h5 => ?_)
    · replace hf := ite_pos hf h5
      refine V_iconst (v := (-1)) (pc := 123) F dX7_count_123 (by decide) ?_
      refine V_goto (pc := 124) (tgt := 134) F dX7_count_124 (by decide) ?_
      obtain rfl := Sum.inr.inj (some_of hf)
      exact V_ret F rfl rfl dX7_count_134 rfl rfl
    · replace hf := ite_neg hf h5
      refine V_aload_n (pc := 113) F dX7_count_113 rfl 0 rfl ?_
      refine V_get (pc := 114) F 0 7 0 i_X7 rfl (by decide) rfl (mm 3 rfl) dX7_count_114 rfl rfl ?_
      obtain ⟨r6, g7, hf⟩ := bind_of hf
      refine V_V (w2 := wX7 cy a v) (rest := []) (st2 := [.int r6]) (pc := 117) F 1 (M_X1_isClearing l D cy N (fun i => a (i + 1)) v.1 r6 g7) (cwV 0 F.ts gX7_count_X1_isClearing rfl rfl rfl hd_X1_isClearing ⟨Nat.le_of_ble_eq_true rfl, Nat.le_of_ble_eq_true rfl⟩) rfl dX7_count_117 (Fit.right (Fit.left Fit.whole)) rfl rfl rfl (Nat.le_of_ble_eq_true rfl) (Nat.zero_le _) (Nat.zero_le _) rfl rfl rfl ?_
      refine V_if_eq (pc := 120) (tgt := 127) F dX7_count_120 (by decide) (fun h8 => ?_) (fun h8 => ?_)
      · replace hf := ite_pos hf h8
        refine V_aload_n (pc := 127) F dX7_count_127 rfl 0 rfl ?_
        refine V_get (pc := 128) F 0 7 0 i_X7 rfl (by decide) rfl (mm 3 rfl) dX7_count_128 rfl rfl ?_
        refine V_get (pc := 131) F 1 1 7 i_X1 rfl (by decide) rfl (mm 7 rfl) dX7_count_131 rfl rfl ?_
        obtain rfl := Sum.inr.inj (some_of hf)
        exact V_ret F rfl rfl dX7_count_134 rfl rfl
      · replace hf := ite_neg hf h8
        refine V_iconst (v := (-1)) (pc := 123) F dX7_count_123 (by decide) ?_
        refine V_goto (pc := 124) (tgt := 134) F dX7_count_124 (by decide) ?_
        obtain rfl := Sum.inr.inj (some_of hf)
        exact V_ret F rfl rfl dX7_count_134 rfl rfl
  replace hf := ite_neg hf h4
  by_cases h9 : x1 = 3
  · replace hf := ite_pos hf h9
    refine V_tableIn (pc := 1) (tgt := 135) F dX7_count_1 (by rw [h9]; decide) (by rw [h9]; decide) (by rw [h9]; rfl) (by decide) ?_
    refine V_aload_n (pc := 135) F dX7_count_135 rfl 0 rfl ?_
    refine V_get (pc := 136) F 0 7 0 i_X7 rfl (by decide) rfl (mm 3 rfl) dX7_count_136 rfl rfl ?_
    refine V_get (pc := 139) F 1 1 8 i_X1 rfl (by decide) rfl (mm 8 rfl) dX7_count_139 rfl rfl ?_
    obtain rfl := Sum.inr.inj (some_of hf)
    exact V_ret F rfl rfl dX7_count_142 rfl rfl
  replace hf := ite_neg hf h9
  by_cases h10 : x1 = 4
  · replace hf := ite_pos hf h10
    refine V_tableIn (pc := 1) (tgt := 143) F dX7_count_1 (by rw [h10]; decide) (by rw [h10]; decide) (by rw [h10]; rfl) (by decide) ?_
    refine V_aload_n (pc := 143) F dX7_count_143 rfl 0 rfl ?_
    refine V_get (pc := 144) F 0 7 0 i_X7 rfl (by decide) rfl (mm 3 rfl) dX7_count_144 rfl rfl ?_
    obtain ⟨r11, g12, hf⟩ := bind_of hf
    refine V_V (w2 := wX7 cy a v) (rest := []) (st2 := [.int r11]) (pc := 147) F 1 (M_X1_greensNow l D cy N (fun i => a (i + 1)) v.1 r11 g12) (cwV 0 F.ts gX7_count_X1_greensNow rfl rfl rfl hd_X1_greensNow ⟨Nat.le_of_ble_eq_true rfl, Nat.le_of_ble_eq_true rfl⟩) rfl dX7_count_147 (Fit.right (Fit.left Fit.whole)) rfl rfl rfl (Nat.le_of_ble_eq_true rfl) (Nat.zero_le _) (Nat.zero_le _) rfl rfl rfl ?_
    obtain rfl := Sum.inr.inj (some_of hf)
    exact V_ret F rfl rfl dX7_count_150 rfl rfl
  replace hf := ite_neg hf h10
  by_cases h13 : x1 = 5
  · replace hf := ite_pos hf h13
    refine V_tableIn (pc := 1) (tgt := 151) F dX7_count_1 (by rw [h13]; decide) (by rw [h13]; decide) (by rw [h13]; rfl) (by decide) ?_
    refine V_aload_n (pc := 151) F dX7_count_151 rfl 0 rfl ?_
    refine V_get (pc := 152) F 0 7 0 i_X7 rfl (by decide) rfl (mm 3 rfl) dX7_count_152 rfl rfl ?_
    obtain ⟨r14, g15, hf⟩ := bind_of hf
    refine V_V (w2 := wX7 cy a v) (rest := []) (st2 := [.int r14]) (pc := 155) F 1 (M_X1_waiting l D cy N (fun i => a (i + 1)) v.1 r14 g15) (cwV 0 F.ts gX7_count_X1_waiting rfl rfl rfl hd_X1_waiting ⟨Nat.le_of_ble_eq_true rfl, Nat.le_of_ble_eq_true rfl⟩) rfl dX7_count_155 (Fit.right (Fit.left Fit.whole)) rfl rfl rfl (Nat.le_of_ble_eq_true rfl) (Nat.zero_le _) (Nat.zero_le _) rfl rfl rfl ?_
    obtain rfl := Sum.inr.inj (some_of hf)
    exact V_ret F rfl rfl dX7_count_158 rfl rfl
  replace hf := ite_neg hf h13
  by_cases h16 : x1 = 6
  · replace hf := ite_pos hf h16
    refine V_tableIn (pc := 1) (tgt := 159) F dX7_count_1 (by rw [h16]; decide) (by rw [h16]; decide) (by rw [h16]; rfl) (by decide) ?_
    refine V_aload_n (pc := 159) F dX7_count_159 rfl 0 rfl ?_
    refine V_get (pc := 160) F 0 7 0 i_X7 rfl (by decide) rfl (mm 3 rfl) dX7_count_160 rfl rfl ?_
    refine V_get (pc := 163) F 1 1 0 i_X1 rfl (by decide) rfl (mm 4 rfl) dX7_count_163 rfl rfl ?_
    obtain ⟨r17, g18, hf⟩ := bind_of hf
    refine V_V (w2 := wX7 cy a v) (rest := []) (st2 := [.int r17]) (pc := 166) F 2 (M_X2_unsafePhases l D cy N (fun i => a (i + 2)) v.1.1 r17 g18) (cwV 0 F.ts gX7_count_X2_unsafePhases rfl rfl rfl hd_X2_unsafePhases ⟨Nat.le_of_ble_eq_true rfl, Nat.le_of_ble_eq_true rfl⟩) rfl dX7_count_166 (Fit.right (Fit.left (Fit.right (Fit.left Fit.whole)))) rfl rfl rfl (Nat.le_of_ble_eq_true rfl) (Nat.zero_le _) (Nat.zero_le _) rfl rfl rfl ?_
    obtain ⟨r19, g20, hf⟩ := bind_of hf
    refine V_Sc (rest := []) (st2 := [.int r19]) (pc := 169) F (M_J6_bitCount_0f7a4 l D cy N r17 r19 g20) (va_cwS 1 F.ts gX7_count_J6_bitCount_0f7a4 rfl rfl rfl hd_J6_bitCount_0f7a4 ⟨Nat.le_of_ble_eq_true rfl, Nat.le_of_ble_eq_true rfl⟩) rfl dX7_count_169 (Nat.le_of_ble_eq_true rfl) (Nat.zero_le _) (Nat.zero_le _) rfl rfl ?_
    obtain rfl := Sum.inr.inj (some_of hf)
    exact V_ret F rfl rfl dX7_count_172 rfl rfl
  replace hf := ite_neg hf h16
  by_cases h21 : x1 = 7
  · replace hf := ite_pos hf h21
    refine V_tableIn (pc := 1) (tgt := 173) F dX7_count_1 (by rw [h21]; decide) (by rw [h21]; decide) (by rw [h21]; rfl) (by decide) ?_
    refine V_aload_n (pc := 173) F dX7_count_173 rfl 0 rfl ?_
    obtain ⟨r22, g23, hf⟩ := bind_of hf
    refine V_V (w2 := wX7 cy a r22.2) (rest := []) (st2 := [.int r22.1]) (pc := 174) F 7 (M_X7_comingPhases l D cy N a v r22 g23) (cwV 0 F.ts gX7_count_X7_comingPhases rfl rfl rfl hd_X7_comingPhases ⟨Nat.le_of_ble_eq_true rfl, Nat.le_of_ble_eq_true rfl⟩) rfl dX7_count_174 Fit.whole fstX7 rfl rfl (Nat.le_of_ble_eq_true rfl) (Nat.zero_le _) (Nat.zero_le _) rfl rfl rfl ?_
    obtain ⟨r24, g25, hf⟩ := bind_of hf
    refine V_Sc (rest := []) (st2 := [.int r24]) (pc := 177) F (M_J6_bitCount_0f7a4 l D cy N r22.1 r24 g25) (va_cwS 1 F.ts gX7_count_J6_bitCount_0f7a4 rfl rfl rfl hd_J6_bitCount_0f7a4 ⟨Nat.le_of_ble_eq_true rfl, Nat.le_of_ble_eq_true rfl⟩) rfl dX7_count_177 (Nat.le_of_ble_eq_true rfl) (Nat.zero_le _) (Nat.zero_le _) rfl rfl ?_
    obtain rfl := Sum.inr.inj (some_of hf)
    exact V_ret F rfl rfl dX7_count_180 rfl rfl
  replace hf := ite_neg hf h21
  by_cases h26 : x1 = 8
  · replace hf := ite_pos hf h26
    refine V_tableIn (pc := 1) (tgt := 181) F dX7_count_1 (by rw [h26]; decide) (by rw [h26]; decide) (by rw [h26]; rfl) (by decide) ?_
    refine V_aload_n (pc := 181) F dX7_count_181 rfl 0 rfl ?_
    obtain ⟨r27, g28, hf⟩ := bind_of hf
    refine V_V (w2 := wX7 cy a r27.2) (rest := []) (st2 := [.int r27.1]) (pc := 182) F 7 (M_X7_comingPhases l D cy N a v r27 g28) (cwV 0 F.ts gX7_count_X7_comingPhases rfl rfl rfl hd_X7_comingPhases ⟨Nat.le_of_ble_eq_true rfl, Nat.le_of_ble_eq_true rfl⟩) rfl dX7_count_182 Fit.whole fstX7 rfl rfl (Nat.le_of_ble_eq_true rfl) (Nat.zero_le _) (Nat.zero_le _) rfl rfl rfl ?_
    refine V_aload_n (pc := 185) F dX7_count_185 rfl 0 rfl ?_
    refine V_get (pc := 186) F 0 7 0 i_X7 rfl (by decide) rfl (mm 3 rfl) dX7_count_186 rfl rfl ?_
    refine V_get (pc := 189) F 1 1 0 i_X1 rfl (by decide) rfl (mm 4 rfl) dX7_count_189 rfl rfl ?_
    obtain ⟨r29, g30, hf⟩ := bind_of hf
    refine V_V (w2 := wX7 cy a r27.2) (rest := [.int r27.1]) (st2 := [.int r29, .int r27.1]) (pc := 192) F 2 (M_X2_unsafePhases l D cy N (fun i => a (i + 2)) r27.2.1.1 r29 g30) (cwV 0 F.ts gX7_count_X2_unsafePhases rfl rfl rfl hd_X2_unsafePhases ⟨Nat.le_of_ble_eq_true rfl, Nat.le_of_ble_eq_true rfl⟩) rfl dX7_count_192 (Fit.right (Fit.left (Fit.right (Fit.left Fit.whole)))) rfl rfl rfl (Nat.le_of_ble_eq_true rfl) (Nat.zero_le _) (Nat.zero_le _) rfl rfl rfl ?_
    refine V_iand (pc := 195) F dX7_count_195 ?_
    obtain ⟨r31, g32, hf⟩ := bind_of hf
    refine V_Sc (rest := []) (st2 := [.int r31]) (pc := 196) F (M_J6_bitCount_0f7a4 l D cy N (r27.1 &&& r29) r31 g32) (va_cwS 1 F.ts gX7_count_J6_bitCount_0f7a4 rfl rfl rfl hd_J6_bitCount_0f7a4 ⟨Nat.le_of_ble_eq_true rfl, Nat.le_of_ble_eq_true rfl⟩) rfl dX7_count_196 (Nat.le_of_ble_eq_true rfl) (Nat.zero_le _) (Nat.zero_le _) rfl rfl ?_
    obtain rfl := Sum.inr.inj (some_of hf)
    exact V_ret F rfl rfl dX7_count_199 rfl rfl
  replace hf := ite_neg hf h26
  by_cases h33 : x1 = 9
  · replace hf := ite_pos hf h33
    refine V_tableIn (pc := 1) (tgt := 200) F dX7_count_1 (by rw [h33]; decide) (by rw [h33]; decide) (by rw [h33]; rfl) (by decide) ?_
    refine V_aload_n (pc := 200) F dX7_count_200 rfl 0 rfl ?_
    refine V_get (pc := 201) F 0 7 0 i_X7 rfl (by decide) rfl (mm 3 rfl) dX7_count_201 rfl rfl ?_
    refine V_get (pc := 204) F 1 1 9 i_X1 rfl (by decide) rfl (mm 9 rfl) dX7_count_204 rfl rfl ?_
    obtain rfl := Sum.inr.inj (some_of hf)
    exact V_ret F rfl rfl dX7_count_207 rfl rfl
  replace hf := ite_neg hf h33
  by_cases h34 : x1 = 10
  · replace hf := ite_pos hf h34
    refine V_tableIn (pc := 1) (tgt := 208) F dX7_count_1 (by rw [h34]; decide) (by rw [h34]; decide) (by rw [h34]; rfl) (by decide) ?_
    refine V_aload_n (pc := 208) F dX7_count_208 rfl 0 rfl ?_
    obtain ⟨r35, g36, hf⟩ := bind_of hf
    refine V_V (w2 := wX7 cy a r35) (rest := []) (st2 := []) (pc := 209) F 7 (M_X7_studyAll l D cy N a v r35 g36) (cwV 0 F.ts gX7_count_X7_studyAll rfl rfl rfl hd_X7_studyAll ⟨Nat.le_of_ble_eq_true rfl, Nat.le_of_ble_eq_true rfl⟩) rfl dX7_count_209 Fit.whole fstX7 rfl rfl (Nat.le_of_ble_eq_true rfl) (Nat.zero_le _) (Nat.zero_le _) rfl rfl rfl ?_
    refine V_aload_n (pc := 212) F dX7_count_212 rfl 0 rfl ?_
    refine V_get (pc := 213) F 0 7 3 i_X7 rfl (by decide) rfl (mm 10 rfl) dX7_count_213 rfl rfl ?_
    obtain ⟨r37, g38, hf⟩ := bind_of hf
    refine V_V (w2 := wX7 cy a r35) (rest := []) (st2 := [.int r37]) (pc := 216) F 3 (M_X3_starvingDirections l D cy N (fun i => a (i + 27)) r35.2.2.2 r37 g38) (cwV 0 F.ts gX7_count_X3_starvingDirections rfl rfl rfl hd_X3_starvingDirections ⟨Nat.le_of_ble_eq_true rfl, Nat.le_of_ble_eq_true rfl⟩) rfl dX7_count_216 (Fit.right (Fit.right (Fit.right (Fit.left Fit.whole)))) rfl rfl rfl (Nat.le_of_ble_eq_true rfl) (Nat.zero_le _) (Nat.zero_le _) rfl rfl rfl ?_
    obtain rfl := Sum.inr.inj (some_of hf)
    exact V_ret F rfl rfl dX7_count_219 rfl rfl
  replace hf := ite_neg hf h34
  by_cases h39 : x1 = 11
  · replace hf := ite_pos hf h39
    refine V_tableIn (pc := 1) (tgt := 220) F dX7_count_1 (by rw [h39]; decide) (by rw [h39]; decide) (by rw [h39]; rfl) (by decide) ?_
    refine V_aload_n (pc := 220) F dX7_count_220 rfl 0 rfl ?_
    refine V_get (pc := 221) F 0 7 1 i_X7 rfl (by decide) rfl (mm 11 rfl) dX7_count_221 rfl rfl ?_
    refine V_get (pc := 224) F 38 0 2 i_X0 rfl (by decide) rfl (mm 12 rfl) dX7_count_224 rfl rfl ?_
    obtain rfl := Sum.inr.inj (some_of hf)
    exact V_ret F rfl rfl dX7_count_227 rfl rfl
  replace hf := ite_neg hf h39
  refine V_tableOut (pc := 1) (tgt := 228) F dX7_count_1 (by have q0 := lv_neT h1 (a := 0) rfl; have q1 := lv_neT h2 (a := 1) rfl; have q2 := lv_neT h4 (a := 2) rfl; have q3 := lv_neT h9 (a := 3) rfl; have q4 := lv_neT h10 (a := 4) rfl; have q5 := lv_neT h13 (a := 5) rfl; have q6 := lv_neT h16 (a := 6) rfl; have q7 := lv_neT h21 (a := 7) rfl; have q8 := lv_neT h26 (a := 8) rfl; have q9 := lv_neT h33 (a := 9) rfl; have q10 := lv_neT h34 (a := 10) rfl; have q11 := lv_neT h39 (a := 11) rfl; omega) (by decide) ?_
  exact nomatch some_of hf
theorem hd_X7_study : yX7_study.cls = RX7 ∧ yX7_study.cls ≠ "java/lang/invoke/MethodHandle" ∧ yX7_study.cls ≠ "java/lang/invoke/VarHandle" ∧ (parseMethodDescriptor yX7_study.desc).map (fun d => d.parameters.length) = some 1 := by decide +kernel
def fX7_study (N : Nat) (v : SX7) (x1 : Int32) : Option (SX7) :=
  (fX3_noteComing N v.2.2.2 v.1.1 v.1.2.2.2.2.2.1).bind fun r1 =>
    (fX3_noteStarving N r1 v.1.1 x1).bind fun r3 =>
      (fX3_noteWaits N r3 v.1.1 x1).bind fun r5 =>
        some (v.1, v.2.1, v.2.2.1, r5)
set_option maxHeartbeats 8000000 in
set_option maxRecDepth 100000 in
theorem M_X7_study (l : Launch) (D : va_G) (cy : Nat → ClassId) (N : Nat) (a : Nat → Nat) (v : SX7) (x1 : Int32) (o : SX7) (hf : fX7_study N v x1 = some o) : okM l yX7_study wsX7_study (rmz 4 98) D cy [.ref (a 0), .int x1] (wX7 cy a v) (wX7 cy a o) none := by
  refine okM_of (own := RX7) (nme := "study") (cc := cX7_study) (maxL := 2) (ret := none) (by decide) rfl rfl rfl (Nat.le_of_ble_eq_true rfl) ?_
  intro p e s m args below meth c A F
  have i_X1 : ∀ w ∈ u_ws RX1 TX1 10, w ∈ wsX7_study := fun _ h => List.mem_cons_of_mem _ (List.mem_append_left _ (List.mem_append_left _ (List.mem_append_left _ (List.mem_append_right _ h))))
  have i_X7 : ∀ w ∈ u_ws RX7 TX7 4, w ∈ wsX7_study := fun _ h => List.mem_cons_of_mem _ (List.mem_append_left _ (List.mem_append_left _ (List.mem_append_left _ (List.mem_append_left _ (List.mem_append_right _ h)))))
  unfold fX7_study at hf
  refine V.eq rfl (show lv_args 0 [.ref (a 0), .int x1] = [(0, .ref (a 0)), (1, .int x1)] from rfl) rfl ?_
  refine V_aload_n (pc := 0) F dX7_study_0 rfl 0 rfl ?_
  refine V_get (pc := 1) F 0 7 3 i_X7 rfl (by decide) rfl (mm 1 rfl) dX7_study_1 rfl rfl ?_
  refine V_aload_n (pc := 4) F dX7_study_4 rfl 0 rfl ?_
  refine V_get (pc := 5) F 0 7 0 i_X7 rfl (by decide) rfl (mm 2 rfl) dX7_study_5 rfl rfl ?_
  refine V_get (pc := 8) F 1 1 0 i_X1 rfl (by decide) rfl (mm 3 rfl) dX7_study_8 rfl rfl ?_
  refine V_aload_n (pc := 11) F dX7_study_11 rfl 0 rfl ?_
  refine V_get (pc := 12) F 0 7 0 i_X7 rfl (by decide) rfl (mm 2 rfl) dX7_study_12 rfl rfl ?_
  refine V_get (pc := 15) F 1 1 5 i_X1 rfl (by decide) rfl (mm 4 rfl) dX7_study_15 rfl rfl ?_
  obtain ⟨r1, g2, hf⟩ := bind_of hf
  refine V_V2 (w2 := wX7 cy a (v.1, v.2.1, v.2.2.1, r1)) (rest := []) (st2 := []) (pc := 18) F 3 (M_X3_noteComing l D cy N (fun i => a (i + 27)) (fun i => a (i + 2)) v.2.2.2 v.1.1 v.1.2.2.2.2.2.1 r1 g2) (cwV 2 F.ts gX7_study_X3_noteComing rfl rfl rfl hd_X3_noteComing ⟨Nat.le_of_ble_eq_true rfl, Nat.le_of_ble_eq_true rfl⟩) rfl dX7_study_18 (Fit2.right (Fit2.swap (Fit.right (Fit.left Fit.whole)) (Fit.right (Fit.left Fit.whole)))) fstX3 rfl rfl rfl (Nat.le_of_ble_eq_true rfl) (Nat.zero_le _) (Nat.zero_le _) rfl rfl rfl ?_
  refine V_aload_n (pc := 21) F dX7_study_21 rfl 0 rfl ?_
  refine V_get (pc := 22) F 0 7 3 i_X7 rfl (by decide) rfl (mm 1 rfl) dX7_study_22 rfl rfl ?_
  refine V_aload_n (pc := 25) F dX7_study_25 rfl 0 rfl ?_
  refine V_get (pc := 26) F 0 7 0 i_X7 rfl (by decide) rfl (mm 2 rfl) dX7_study_26 rfl rfl ?_
  refine V_get (pc := 29) F 1 1 0 i_X1 rfl (by decide) rfl (mm 3 rfl) dX7_study_29 rfl rfl ?_
  refine V_iload_n (pc := 32) F dX7_study_32 rfl 1 rfl ?_
  obtain ⟨r3, g4, hf⟩ := bind_of hf
  refine V_V2 (w2 := wX7 cy a (v.1, v.2.1, v.2.2.1, r3)) (rest := []) (st2 := []) (pc := 33) F 3 (M_X3_noteStarving l D cy N (fun i => a (i + 27)) (fun i => a (i + 2)) r1 v.1.1 x1 r3 g4) (cwV 2 F.ts gX7_study_X3_noteStarving rfl rfl rfl hd_X3_noteStarving ⟨Nat.le_of_ble_eq_true rfl, Nat.le_of_ble_eq_true rfl⟩) rfl dX7_study_33 (Fit2.right (Fit2.swap (Fit.right (Fit.left Fit.whole)) (Fit.right (Fit.left Fit.whole)))) fstX3 rfl rfl rfl (Nat.le_of_ble_eq_true rfl) (Nat.zero_le _) (Nat.zero_le _) rfl rfl rfl ?_
  refine V_aload_n (pc := 36) F dX7_study_36 rfl 0 rfl ?_
  refine V_get (pc := 37) F 0 7 3 i_X7 rfl (by decide) rfl (mm 1 rfl) dX7_study_37 rfl rfl ?_
  refine V_aload_n (pc := 40) F dX7_study_40 rfl 0 rfl ?_
  refine V_get (pc := 41) F 0 7 0 i_X7 rfl (by decide) rfl (mm 2 rfl) dX7_study_41 rfl rfl ?_
  refine V_get (pc := 44) F 1 1 0 i_X1 rfl (by decide) rfl (mm 3 rfl) dX7_study_44 rfl rfl ?_
  refine V_iload_n (pc := 47) F dX7_study_47 rfl 1 rfl ?_
  obtain ⟨r5, g6, hf⟩ := bind_of hf
  refine V_V2 (w2 := wX7 cy a (v.1, v.2.1, v.2.2.1, r5)) (rest := []) (st2 := []) (pc := 48) F 3 (M_X3_noteWaits l D cy N (fun i => a (i + 27)) (fun i => a (i + 2)) r3 v.1.1 x1 r5 g6) (cwV 2 F.ts gX7_study_X3_noteWaits rfl rfl rfl hd_X3_noteWaits ⟨Nat.le_of_ble_eq_true rfl, Nat.le_of_ble_eq_true rfl⟩) rfl dX7_study_48 (Fit2.right (Fit2.swap (Fit.right (Fit.left Fit.whole)) (Fit.right (Fit.left Fit.whole)))) fstX3 rfl rfl rfl (Nat.le_of_ble_eq_true rfl) (Nat.zero_le _) (Nat.zero_le _) rfl rfl rfl ?_
  obtain rfl := some_of hf
  exact V_vret F rfl dX7_study_51 rfl
theorem hd_X7_starves : yX7_starves.cls = RX7 ∧ yX7_starves.cls ≠ "java/lang/invoke/MethodHandle" ∧ yX7_starves.cls ≠ "java/lang/invoke/VarHandle" ∧ (parseMethodDescriptor yX7_starves.desc).map (fun d => d.parameters.length) = some 2 := by decide +kernel
def fX7_starves (N : Nat) (v : SX7) (x1 : Int32) (x2 : Int32) : Option ((String × SX7) ⊕ (Int32 × SX7)) :=
  (fX7_checkPhase N v x2).bind fun r1 => onS r1 (fun E => some (.inl (E, v))) fun q3 =>
    (fX7_checkDirection N x1).bind fun r4 => onS r4 (fun E => some (.inl (E, v))) fun q6 =>
      (fX7_study N v x1).bind fun r7 =>
        (fX3_starvesFrom N r7.2.2.2 x1 x2).bind fun r9 =>
          if r9 = 0 then
            some (.inr (0, r7))
          else
            some (.inr (1, r7))
set_option maxHeartbeats 8000000 in
set_option maxRecDepth 100000 in
theorem M_X7_starves (l : Launch) (D : va_G) (cy : Nat → ClassId) (N : Nat) (a : Nat → Nat) (v : SX7) (x1 : Int32) (x2 : Int32) (o : Int32 × SX7) (hf : fX7_starves N v x1 x2 = some (.inr o)) : okM l yX7_starves wsX7_starves (rmz 5 119) D cy [.ref (a 0), .int x1, .int x2] (wX7 cy a v) (wX7 cy a o.2) (some (.int o.1)) := by
  refine okM_of (own := RX7) (nme := "starves") (cc := cX7_starves) (maxL := 3) (ret := (some .int)) (by decide) rfl rfl rfl (Nat.le_of_ble_eq_true rfl) ?_
  intro p e s m args below meth c A F
  have i_X7 : ∀ w ∈ u_ws RX7 TX7 4, w ∈ wsX7_starves := fun _ h => List.mem_cons_of_mem _ (List.mem_append_left _ (List.mem_append_left _ (List.mem_append_left _ (List.mem_append_left _ (List.mem_append_left _ (List.mem_append_left _ (List.mem_append_right _ h)))))))
  unfold fX7_starves at hf
  refine V.eq rfl (show lv_args 0 [.ref (a 0), .int x1, .int x2] = [(0, .ref (a 0)), (1, .int x1), (2, .int x2)] from rfl) rfl ?_
  refine V_aload_n (pc := 0) F dX7_starves_0 rfl 0 rfl ?_
  refine V_iload_n (pc := 1) F dX7_starves_1 rfl 2 rfl ?_
  obtain ⟨r1, g2, hf⟩ := bind_of hf
  rcases r1 with E | q3
  · replace hf := onS_inl hf
    exact nomatch some_of hf
  replace hf := onS_inr hf
  refine V_V (w2 := wX7 cy a v) (rest := []) (st2 := []) (pc := 2) F 7 (M_X7_checkPhase l D cy N a v x2 q3 g2) (cwV 1 F.ts gX7_starves_X7_checkPhase rfl rfl rfl hd_X7_checkPhase ⟨Nat.le_of_ble_eq_true rfl, Nat.le_of_ble_eq_true rfl⟩) rfl dX7_starves_2 Fit.whole rfl rfl rfl (Nat.le_of_ble_eq_true rfl) (Nat.zero_le _) (Nat.zero_le _) rfl rfl rfl ?_
  refine V_iload_n (pc := 5) F dX7_starves_5 rfl 1 rfl ?_
  obtain ⟨r4, g5, hf⟩ := bind_of hf
  rcases r4 with E | q6
  · replace hf := onS_inl hf
    exact nomatch some_of hf
  replace hf := onS_inr hf
  refine V_Sc (rest := []) (st2 := []) (pc := 6) F (M_X7_checkDirection l D cy N x1 q6 g5) (va_cwS 1 F.ts gX7_starves_X7_checkDirection rfl rfl rfl hd_X7_checkDirection ⟨Nat.le_of_ble_eq_true rfl, Nat.le_of_ble_eq_true rfl⟩) rfl dX7_starves_6 (Nat.le_of_ble_eq_true rfl) (Nat.zero_le _) (Nat.zero_le _) rfl rfl ?_
  refine V_aload_n (pc := 9) F dX7_starves_9 rfl 0 rfl ?_
  refine V_iload_n (pc := 10) F dX7_starves_10 rfl 1 rfl ?_
  obtain ⟨r7, g8, hf⟩ := bind_of hf
  refine V_V (w2 := wX7 cy a r7) (rest := []) (st2 := []) (pc := 11) F 7 (M_X7_study l D cy N a v x1 r7 g8) (cwV 1 F.ts gX7_starves_X7_study rfl rfl rfl hd_X7_study ⟨Nat.le_of_ble_eq_true rfl, Nat.le_of_ble_eq_true rfl⟩) rfl dX7_starves_11 Fit.whole fstX7 rfl rfl (Nat.le_of_ble_eq_true rfl) (Nat.zero_le _) (Nat.zero_le _) rfl rfl rfl ?_
  refine V_aload_n (pc := 14) F dX7_starves_14 rfl 0 rfl ?_
  refine V_get (pc := 15) F 0 7 3 i_X7 rfl (by decide) rfl (mm 1 rfl) dX7_starves_15 rfl rfl ?_
  refine V_iload_n (pc := 18) F dX7_starves_18 rfl 1 rfl ?_
  refine V_iload_n (pc := 19) F dX7_starves_19 rfl 2 rfl ?_
  obtain ⟨r9, g10, hf⟩ := bind_of hf
  refine V_V (w2 := wX7 cy a r7) (rest := []) (st2 := [.int r9]) (pc := 20) F 3 (M_X3_starvesFrom l D cy N (fun i => a (i + 27)) r7.2.2.2 x1 x2 r9 g10) (cwV 2 F.ts gX7_starves_X3_starvesFrom rfl rfl rfl hd_X3_starvesFrom ⟨Nat.le_of_ble_eq_true rfl, Nat.le_of_ble_eq_true rfl⟩) rfl dX7_starves_20 (Fit.right (Fit.right (Fit.right (Fit.left Fit.whole)))) rfl rfl rfl (Nat.le_of_ble_eq_true rfl) (Nat.zero_le _) (Nat.zero_le _) rfl rfl rfl ?_
  refine V_if_eq (pc := 23) (tgt := 30) F dX7_starves_23 (by decide) (fun h11 => ?_) (fun h11 => ?_)
  · replace hf := ite_pos hf h11
    refine V_iconst (v := 0) (pc := 30) F dX7_starves_30 (by decide) ?_
    obtain rfl := Sum.inr.inj (some_of hf)
    exact V_ret F rfl rfl dX7_starves_31 rfl rfl
  · replace hf := ite_neg hf h11
    refine V_iconst (v := 1) (pc := 26) F dX7_starves_26 (by decide) ?_
    refine V_goto (pc := 27) (tgt := 31) F dX7_starves_27 (by decide) ?_
    obtain rfl := Sum.inr.inj (some_of hf)
    exact V_ret F rfl rfl dX7_starves_31 rfl rfl
theorem hd_X7_waitFor : yX7_waitFor.cls = RX7 ∧ yX7_waitFor.cls ≠ "java/lang/invoke/MethodHandle" ∧ yX7_waitFor.cls ≠ "java/lang/invoke/VarHandle" ∧ (parseMethodDescriptor yX7_waitFor.desc).map (fun d => d.parameters.length) = some 3 := by decide +kernel
def fX7_waitFor (N : Nat) (v : SX7) (x1 : Int32) (x2 : Int32) (x3 : Int32) : Option ((String × SX7) ⊕ (Int32 × SX7)) :=
  (fX7_checkPhase N v x2).bind fun r1 => onS r1 (fun E => some (.inl (E, v))) fun q3 =>
    (fX7_checkDirection N x1).bind fun r4 => onS r4 (fun E => some (.inl (E, v))) fun q6 =>
      (fX7_study N v x1).bind fun r7 =>
        if x3 = 0 then
          (fX3_shortestFrom N r7.2.2.2 x1 x2).bind fun r10 =>
            some (.inr (r10, r7))
        else
          (fX3_longestFrom N r7.2.2.2 x1 x2).bind fun r12 =>
            some (.inr (r12, r7))
set_option maxHeartbeats 8000000 in
set_option maxRecDepth 100000 in
theorem M_X7_waitFor (l : Launch) (D : va_G) (cy : Nat → ClassId) (N : Nat) (a : Nat → Nat) (v : SX7) (x1 : Int32) (x2 : Int32) (x3 : Int32) (o : Int32 × SX7) (hf : fX7_waitFor N v x1 x2 x3 = some (.inr o)) : okM l yX7_waitFor wsX7_waitFor (rmz 5 119) D cy [.ref (a 0), .int x1, .int x2, .int x3] (wX7 cy a v) (wX7 cy a o.2) (some (.int o.1)) := by
  refine okM_of (own := RX7) (nme := "waitFor") (cc := cX7_waitFor) (maxL := 4) (ret := (some .int)) (by decide) rfl rfl rfl (Nat.le_of_ble_eq_true rfl) ?_
  intro p e s m args below meth c A F
  have i_X7 : ∀ w ∈ u_ws RX7 TX7 4, w ∈ wsX7_waitFor := fun _ h => List.mem_cons_of_mem _ (List.mem_append_left _ (List.mem_append_left _ (List.mem_append_left _ (List.mem_append_left _ (List.mem_append_left _ (List.mem_append_left _ (List.mem_append_right _ h)))))))
  unfold fX7_waitFor at hf
  refine V.eq rfl (show lv_args 0 [.ref (a 0), .int x1, .int x2, .int x3] = [(0, .ref (a 0)), (1, .int x1), (2, .int x2), (3, .int x3)] from rfl) rfl ?_
  refine V_aload_n (pc := 0) F dX7_waitFor_0 rfl 0 rfl ?_
  refine V_iload_n (pc := 1) F dX7_waitFor_1 rfl 2 rfl ?_
  obtain ⟨r1, g2, hf⟩ := bind_of hf
  rcases r1 with E | q3
  · replace hf := onS_inl hf
    exact nomatch some_of hf
  replace hf := onS_inr hf
  refine V_V (w2 := wX7 cy a v) (rest := []) (st2 := []) (pc := 2) F 7 (M_X7_checkPhase l D cy N a v x2 q3 g2) (cwV 1 F.ts gX7_waitFor_X7_checkPhase rfl rfl rfl hd_X7_checkPhase ⟨Nat.le_of_ble_eq_true rfl, Nat.le_of_ble_eq_true rfl⟩) rfl dX7_waitFor_2 Fit.whole rfl rfl rfl (Nat.le_of_ble_eq_true rfl) (Nat.zero_le _) (Nat.zero_le _) rfl rfl rfl ?_
  refine V_iload_n (pc := 5) F dX7_waitFor_5 rfl 1 rfl ?_
  obtain ⟨r4, g5, hf⟩ := bind_of hf
  rcases r4 with E | q6
  · replace hf := onS_inl hf
    exact nomatch some_of hf
  replace hf := onS_inr hf
  refine V_Sc (rest := []) (st2 := []) (pc := 6) F (M_X7_checkDirection l D cy N x1 q6 g5) (va_cwS 1 F.ts gX7_waitFor_X7_checkDirection rfl rfl rfl hd_X7_checkDirection ⟨Nat.le_of_ble_eq_true rfl, Nat.le_of_ble_eq_true rfl⟩) rfl dX7_waitFor_6 (Nat.le_of_ble_eq_true rfl) (Nat.zero_le _) (Nat.zero_le _) rfl rfl ?_
  refine V_aload_n (pc := 9) F dX7_waitFor_9 rfl 0 rfl ?_
  refine V_iload_n (pc := 10) F dX7_waitFor_10 rfl 1 rfl ?_
  obtain ⟨r7, g8, hf⟩ := bind_of hf
  refine V_V (w2 := wX7 cy a r7) (rest := []) (st2 := []) (pc := 11) F 7 (M_X7_study l D cy N a v x1 r7 g8) (cwV 1 F.ts gX7_waitFor_X7_study rfl rfl rfl hd_X7_study ⟨Nat.le_of_ble_eq_true rfl, Nat.le_of_ble_eq_true rfl⟩) rfl dX7_waitFor_11 Fit.whole fstX7 rfl rfl (Nat.le_of_ble_eq_true rfl) (Nat.zero_le _) (Nat.zero_le _) rfl rfl rfl ?_
  refine V_iload_n (pc := 14) F dX7_waitFor_14 rfl 3 rfl ?_
  refine V_if_eq (pc := 15) (tgt := 30) F dX7_waitFor_15 (by decide) (fun h9 => ?_) (fun h9 => ?_)
  · replace hf := ite_pos hf h9
    refine V_aload_n (pc := 30) F dX7_waitFor_30 rfl 0 rfl ?_
    refine V_get (pc := 31) F 0 7 3 i_X7 rfl (by decide) rfl (mm 1 rfl) dX7_waitFor_31 rfl rfl ?_
    refine V_iload_n (pc := 34) F dX7_waitFor_34 rfl 1 rfl ?_
    refine V_iload_n (pc := 35) F dX7_waitFor_35 rfl 2 rfl ?_
    obtain ⟨r10, g11, hf⟩ := bind_of hf
    refine V_V (w2 := wX7 cy a r7) (rest := []) (st2 := [.int r10]) (pc := 36) F 3 (M_X3_shortestFrom l D cy N (fun i => a (i + 27)) r7.2.2.2 x1 x2 r10 g11) (cwV 2 F.ts gX7_waitFor_X3_shortestFrom rfl rfl rfl hd_X3_shortestFrom ⟨Nat.le_of_ble_eq_true rfl, Nat.le_of_ble_eq_true rfl⟩) rfl dX7_waitFor_36 (Fit.right (Fit.right (Fit.right (Fit.left Fit.whole)))) rfl rfl rfl (Nat.le_of_ble_eq_true rfl) (Nat.zero_le _) (Nat.zero_le _) rfl rfl rfl ?_
    obtain rfl := Sum.inr.inj (some_of hf)
    exact V_ret F rfl rfl dX7_waitFor_39 rfl rfl
  · replace hf := ite_neg hf h9
    refine V_aload_n (pc := 18) F dX7_waitFor_18 rfl 0 rfl ?_
    refine V_get (pc := 19) F 0 7 3 i_X7 rfl (by decide) rfl (mm 1 rfl) dX7_waitFor_19 rfl rfl ?_
    refine V_iload_n (pc := 22) F dX7_waitFor_22 rfl 1 rfl ?_
    refine V_iload_n (pc := 23) F dX7_waitFor_23 rfl 2 rfl ?_
    obtain ⟨r12, g13, hf⟩ := bind_of hf
    refine V_V (w2 := wX7 cy a r7) (rest := []) (st2 := [.int r12]) (pc := 24) F 3 (M_X3_longestFrom l D cy N (fun i => a (i + 27)) r7.2.2.2 x1 x2 r12 g13) (cwV 2 F.ts gX7_waitFor_X3_longestFrom rfl rfl rfl hd_X3_longestFrom ⟨Nat.le_of_ble_eq_true rfl, Nat.le_of_ble_eq_true rfl⟩) rfl dX7_waitFor_24 (Fit.right (Fit.right (Fit.right (Fit.left Fit.whole)))) rfl rfl rfl (Nat.le_of_ble_eq_true rfl) (Nat.zero_le _) (Nat.zero_le _) rfl rfl rfl ?_
    refine V_goto (pc := 27) (tgt := 39) F dX7_waitFor_27 (by decide) ?_
    obtain rfl := Sum.inr.inj (some_of hf)
    exact V_ret F rfl rfl dX7_waitFor_39 rfl rfl
theorem hd_X7_safeShare : yX7_safeShare.cls = RX7 ∧ yX7_safeShare.cls ≠ "java/lang/invoke/MethodHandle" ∧ yX7_safeShare.cls ≠ "java/lang/invoke/VarHandle" ∧ (parseMethodDescriptor yX7_safeShare.desc).map (fun d => d.parameters.length) = some 0 := by decide +kernel
def fX7_safeShare (N : Nat) (v : SX7) : Option (UInt64) :=
  if v.1.1.2.2.2.2.2.2.1 = 0 then
    some FP.dconst1
  else
    (fX2_unsafePhases N v.1.1).bind fun r2 =>
      (fJ6_bitCount_0f7a4 N r2).bind fun r4 =>
        must (decide ((FP.ddiv (FP.i2d (v.1.1.2.2.2.2.2.2.1 - r4)) (FP.i2d v.1.1.2.2.2.2.2.2.1)) &&& 0x7fffffffffffffff ≤ 0x7ff0000000000000)) (
          some (FP.ddiv (FP.i2d (v.1.1.2.2.2.2.2.2.1 - r4)) (FP.i2d v.1.1.2.2.2.2.2.2.1))
        )
set_option maxHeartbeats 8000000 in
set_option maxRecDepth 100000 in
theorem M_X7_safeShare (l : Launch) (D : va_G) (cy : Nat → ClassId) (N : Nat) (a : Nat → Nat) (v : SX7) (o : UInt64) (hf : fX7_safeShare N v = some o) : okM l yX7_safeShare wsX7_safeShare (rmz 3 66) D cy [.ref (a 0)] (wX7 cy a v) (wX7 cy a v) (some (.double o)) := by
  refine okM_of (own := RX7) (nme := "safeShare") (cc := cX7_safeShare) (maxL := 3) (ret := (some .double)) (by decide) rfl rfl rfl (Nat.le_of_ble_eq_true rfl) ?_
  intro p e s m args below meth c A F
  have i_X1 : ∀ w ∈ u_ws RX1 TX1 10, w ∈ wsX7_safeShare := fun _ h => List.mem_cons_of_mem _ (List.mem_append_left _ (List.mem_append_left _ (List.mem_append_right _ h)))
  have i_X2 : ∀ w ∈ u_ws RX2 TX2 8, w ∈ wsX7_safeShare := fun _ h => List.mem_cons_of_mem _ (List.mem_append_left _ (List.mem_append_right _ h))
  have i_X7 : ∀ w ∈ u_ws RX7 TX7 4, w ∈ wsX7_safeShare := fun _ h => List.mem_cons_of_mem _ (List.mem_append_left _ (List.mem_append_left _ (List.mem_append_left _ (List.mem_append_right _ h))))
  unfold fX7_safeShare at hf
  refine V.eq rfl (show lv_args 0 [.ref (a 0)] = [(0, .ref (a 0))] from rfl) rfl ?_
  refine V_aload_n (pc := 0) F dX7_safeShare_0 rfl 0 rfl ?_
  refine V_get (pc := 1) F 0 7 0 i_X7 rfl (by decide) rfl (mm 1 rfl) dX7_safeShare_1 rfl rfl ?_
  refine V_get (pc := 4) F 1 1 0 i_X1 rfl (by decide) rfl (mm 2 rfl) dX7_safeShare_4 rfl rfl ?_
  refine V_get (pc := 7) F 2 2 6 i_X2 rfl (by decide) rfl (mm 3 rfl) dX7_safeShare_7 rfl rfl ?_
  refine V_istore_n (L2 := [(1, .int v.1.1.2.2.2.2.2.2.1), (0, .ref (a 0))]) (pc := 10) F dX7_safeShare_10 rfl (by decide) rfl ?_
  refine V_iload_n (pc := 11) F dX7_safeShare_11 rfl 0 rfl ?_
  refine V_if_ne (pc := 12) (tgt := 17) F dX7_safeShare_12 (by decide) (fun h1 => ?_) (fun h1 => ?_)
  · replace hf := ite_neg hf h1
    refine V_iload_n (pc := 17) F dX7_safeShare_17 rfl 0 rfl ?_
    refine V_aload_n (pc := 18) F dX7_safeShare_18 rfl 1 rfl ?_
    refine V_get (pc := 19) F 0 7 0 i_X7 rfl (by decide) rfl (mm 1 rfl) dX7_safeShare_19 rfl rfl ?_
    refine V_get (pc := 22) F 1 1 0 i_X1 rfl (by decide) rfl (mm 2 rfl) dX7_safeShare_22 rfl rfl ?_
    obtain ⟨r2, g3, hf⟩ := bind_of hf
    refine V_V (w2 := wX7 cy a v) (rest := [.int v.1.1.2.2.2.2.2.2.1]) (st2 := [.int r2, .int v.1.1.2.2.2.2.2.2.1]) (pc := 25) F 2 (M_X2_unsafePhases l D cy N (fun i => a (i + 2)) v.1.1 r2 g3) (cwV 0 F.ts gX7_safeShare_X2_unsafePhases rfl rfl rfl hd_X2_unsafePhases ⟨Nat.le_of_ble_eq_true rfl, Nat.le_of_ble_eq_true rfl⟩) rfl dX7_safeShare_25 (Fit.right (Fit.left (Fit.right (Fit.left Fit.whole)))) rfl rfl rfl (Nat.le_of_ble_eq_true rfl) (Nat.zero_le _) (Nat.zero_le _) rfl rfl rfl ?_
    obtain ⟨r4, g5, hf⟩ := bind_of hf
    refine V_Sc (rest := [.int v.1.1.2.2.2.2.2.2.1]) (st2 := [.int r4, .int v.1.1.2.2.2.2.2.2.1]) (pc := 28) F (M_J6_bitCount_0f7a4 l D cy N r2 r4 g5) (va_cwS 1 F.ts gX7_safeShare_J6_bitCount_0f7a4 rfl rfl rfl hd_J6_bitCount_0f7a4 ⟨Nat.le_of_ble_eq_true rfl, Nat.le_of_ble_eq_true rfl⟩) rfl dX7_safeShare_28 (Nat.le_of_ble_eq_true rfl) (Nat.zero_le _) (Nat.zero_le _) rfl rfl ?_
    refine V_isub (pc := 31) F dX7_safeShare_31 ?_
    refine V_istore_n (L2 := [(2, .int (v.1.1.2.2.2.2.2.2.1 - r4)), (1, .int v.1.1.2.2.2.2.2.2.1), (0, .ref (a 0))]) (pc := 32) F dX7_safeShare_32 rfl (by decide) rfl ?_
    refine V_iload_n (pc := 33) F dX7_safeShare_33 rfl 0 rfl ?_
    refine V_i2d (pc := 34) F dX7_safeShare_34 ?_
    refine V_iload_n (pc := 35) F dX7_safeShare_35 rfl 1 rfl ?_
    refine V_i2d (pc := 36) F dX7_safeShare_36 ?_
    obtain ⟨c6, hf⟩ := must_some hf
    refine V_ddiv (pc := 37) F dX7_safeShare_37 (n64_of c6) ?_
    obtain rfl := some_of hf
    exact V_dret F rfl dX7_safeShare_38 rfl rfl
  · replace hf := ite_pos hf h1
    refine V_dconst1 (pc := 15) F dX7_safeShare_15 ?_
    obtain rfl := some_of hf
    exact V_dret F rfl dX7_safeShare_16 rfl rfl
