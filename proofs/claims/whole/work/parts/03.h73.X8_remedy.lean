theorem hd_X8_remedy : yX8_remedy.cls = RX8 ∧ yX8_remedy.cls ≠ "java/lang/invoke/MethodHandle" ∧ yX8_remedy.cls ≠ "java/lang/invoke/VarHandle" ∧ (parseMethodDescriptor yX8_remedy.desc).map (fun d => d.parameters.length) = some 2 := by decide +kernel
def fX8_remedy (N : Nat) (v : SX8) (x1 : Int32) (x2 : Int32) : Option (Int32 × SX8) :=
  (fX8_isPhase N v x2).bind fun r1 =>
    if r1 = 0 then
      some (0, (1, v.2))
    else
      (fX8_isDirection N x1).bind fun r4 =>
        if r4 = 0 then
          some (0, (2, v.2))
        else
          (fX8_remedyFor N (0, v.2) x1 x2).bind fun r9 =>
            some (r9.1, r9.2)
set_option maxHeartbeats 8000000 in
set_option maxRecDepth 100000 in
theorem M_X8_remedy (l : Launch) (D : va_G) (cy : Nat → ClassId) (N : Nat) (a : Nat → Nat) (v : SX8) (x1 : Int32) (x2 : Int32) (o : Int32 × SX8) (hf : fX8_remedy N v x1 x2 = some o) : okM l yX8_remedy wsX8_remedy (rmz 10 240) D cy [.ref (a 0), .int x1, .int x2] (wX8 cy a v) (wX8 cy a o.2) (some (.int o.1)) := by
  refine okM_of (own := RX8) (nme := "remedy") (cc := cX8_remedy) (maxL := 3) (ret := (some .int)) (by decide) rfl rfl rfl (Nat.le_of_ble_eq_true rfl) ?_
  intro p e s m args below meth c A F
  have i_X8 : ∀ w ∈ u_ws RX8 TX8 13, w ∈ wsX8_remedy := fun _ h => List.mem_cons_of_mem _ (List.mem_append_right _ h)
  unfold fX8_remedy at hf
  refine V.eq rfl (show lv_args 0 [.ref (a 0), .int x1, .int x2] = [(0, .ref (a 0)), (1, .int x1), (2, .int x2)] from rfl) rfl ?_
  refine V_aload_n (pc := 0) F dX8_remedy_0 rfl 0 rfl ?_
  refine V_aload_n (pc := 1) F dX8_remedy_1 rfl 0 rfl ?_
  refine V_iload_n (pc := 2) F dX8_remedy_2 rfl 2 rfl ?_
  obtain ⟨r1, g2, hf⟩ := bind_of hf
  refine V_V (w2 := wX8 cy a v) (rest := [.ref (a 0)]) (st2 := [.int r1, .ref (a 0)]) (pc := 3) F 8 (M_X8_isPhase l D cy N a v x2 r1 g2) (cwV 1 F.ts gX8_remedy_X8_isPhase rfl rfl rfl hd_X8_isPhase ⟨Nat.le_of_ble_eq_true rfl, Nat.le_of_ble_eq_true rfl⟩) rfl dX8_remedy_3 Fit.whole rfl rfl rfl (Nat.le_of_ble_eq_true rfl) (Nat.zero_le _) (Nat.zero_le _) rfl rfl rfl ?_
  refine V_if_ne (pc := 6) (tgt := 13) F dX8_remedy_6 (by decide) (fun h3 => ?_) (fun h3 => ?_)
  · replace hf := ite_neg hf h3
    refine V_iload_n (pc := 13) F dX8_remedy_13 rfl 1 rfl ?_
    obtain ⟨r4, g5, hf⟩ := bind_of hf
    refine V_Sc (rest := [.ref (a 0)]) (st2 := [.int r4, .ref (a 0)]) (pc := 14) F (M_X8_isDirection l D cy N x1 r4 g5) (va_cwS 1 F.ts gX8_remedy_X8_isDirection rfl rfl rfl hd_X8_isDirection ⟨Nat.le_of_ble_eq_true rfl, Nat.le_of_ble_eq_true rfl⟩) rfl dX8_remedy_14 (Nat.le_of_ble_eq_true rfl) (Nat.zero_le _) (Nat.zero_le _) rfl rfl ?_
    refine V_if_eq (pc := 17) (tgt := 24) F dX8_remedy_17 (by decide) (fun h6 => ?_) (fun h6 => ?_)
    · replace hf := ite_pos hf h6
      refine V_iconst (v := 2) (pc := 24) F dX8_remedy_24 (by decide) ?_
      refine V_put (w2 := wX8 cy a (2, v.2)) (pc := 25) F 0 8 0 i_X8 tyX8 tyX8_ok nmX8 rfl (by decide) rfl (mm 1 rfl) rfl dX8_remedy_25 rfl rfl rfl (Nat.le_of_ble_eq_true rfl) rfl ?_
      refine V_aload_n (pc := 28) F dX8_remedy_28 rfl 0 rfl ?_
      refine V_get (pc := 29) F 0 8 0 i_X8 rfl (by decide) rfl (mm 1 rfl) dX8_remedy_29 rfl rfl ?_
      refine V_if_le (pc := 32) (tgt := 39) F dX8_remedy_32 (by decide) (fun h7 => ?_) (fun h7 => ?_)
      · exact absurd h7 (show ¬ ((2 : Int32) ≤ (0 : Int32)) by decide)
      · refine V_iconst (v := 0) (pc := 35) F dX8_remedy_35 (by decide) ?_
        refine V_goto (pc := 36) (tgt := 45) F dX8_remedy_36 (by decide) ?_
        obtain rfl := some_of hf
        exact V_ret F rfl rfl dX8_remedy_45 rfl rfl
    · replace hf := ite_neg hf h6
      refine V_iconst (v := 0) (pc := 20) F dX8_remedy_20 (by decide) ?_
      refine V_goto (pc := 21) (tgt := 25) F dX8_remedy_21 (by decide) ?_
      refine V_put (w2 := wX8 cy a (0, v.2)) (pc := 25) F 0 8 0 i_X8 tyX8 tyX8_ok nmX8 rfl (by decide) rfl (mm 1 rfl) rfl dX8_remedy_25 rfl rfl rfl (Nat.le_of_ble_eq_true rfl) rfl ?_
      refine V_aload_n (pc := 28) F dX8_remedy_28 rfl 0 rfl ?_
      refine V_get (pc := 29) F 0 8 0 i_X8 rfl (by decide) rfl (mm 1 rfl) dX8_remedy_29 rfl rfl ?_
      refine V_if_le (pc := 32) (tgt := 39) F dX8_remedy_32 (by decide) (fun h8 => ?_) (fun h8 => ?_)
      · refine V_aload_n (pc := 39) F dX8_remedy_39 rfl 0 rfl ?_
        refine V_iload_n (pc := 40) F dX8_remedy_40 rfl 1 rfl ?_
        refine V_iload_n (pc := 41) F dX8_remedy_41 rfl 2 rfl ?_
        obtain ⟨r9, g10, hf⟩ := bind_of hf
        refine V_V (w2 := wX8 cy a r9.2) (rest := []) (st2 := [.int r9.1]) (pc := 42) F 8 (M_X8_remedyFor l D cy N a (0, v.2) x1 x2 r9 g10) (cwV 2 F.ts gX8_remedy_X8_remedyFor rfl rfl rfl hd_X8_remedyFor ⟨Nat.le_of_ble_eq_true rfl, Nat.le_of_ble_eq_true rfl⟩) rfl dX8_remedy_42 Fit.whole fstX8 rfl rfl (Nat.le_of_ble_eq_true rfl) (Nat.zero_le _) (Nat.zero_le _) rfl rfl rfl ?_
        obtain rfl := some_of hf
        exact V_ret F rfl rfl dX8_remedy_45 rfl rfl
      · exact absurd h8 (show ¬ (¬ ((0 : Int32) ≤ (0 : Int32))) by decide)
  · replace hf := ite_pos hf h3
    refine V_iconst (v := 1) (pc := 9) F dX8_remedy_9 (by decide) ?_
    refine V_goto (pc := 10) (tgt := 25) F dX8_remedy_10 (by decide) ?_
    refine V_put (w2 := wX8 cy a (1, v.2)) (pc := 25) F 0 8 0 i_X8 tyX8 tyX8_ok nmX8 rfl (by decide) rfl (mm 1 rfl) rfl dX8_remedy_25 rfl rfl rfl (Nat.le_of_ble_eq_true rfl) rfl ?_
    refine V_aload_n (pc := 28) F dX8_remedy_28 rfl 0 rfl ?_
    refine V_get (pc := 29) F 0 8 0 i_X8 rfl (by decide) rfl (mm 1 rfl) dX8_remedy_29 rfl rfl ?_
    refine V_if_le (pc := 32) (tgt := 39) F dX8_remedy_32 (by decide) (fun h11 => ?_) (fun h11 => ?_)
    · exact absurd h11 (show ¬ ((1 : Int32) ≤ (0 : Int32)) by decide)
    · refine V_iconst (v := 0) (pc := 35) F dX8_remedy_35 (by decide) ?_
      refine V_goto (pc := 36) (tgt := 45) F dX8_remedy_36 (by decide) ?_
      obtain rfl := some_of hf
      exact V_ret F rfl rfl dX8_remedy_45 rfl rfl
