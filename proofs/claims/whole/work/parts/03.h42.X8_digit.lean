theorem hd_X8_digit : yX8_digit.cls = RX8 ∧ yX8_digit.cls ≠ "java/lang/invoke/MethodHandle" ∧ yX8_digit.cls ≠ "java/lang/invoke/VarHandle" ∧ (parseMethodDescriptor yX8_digit.desc).map (fun d => d.parameters.length) = some 2 := by decide +kernel
def fX8_digit (N : Nat) (v : SX8) (x1 : Int32) (x2 : Int32) : Option (Int32 × SX8) :=
  (fX8_letter N v).bind fun r1 =>
    (fX8_in N (r1 - 48) x1 x2).bind fun r3 =>
      (fX8_wants N v r3).bind fun r5 =>
        some ((r1 - 48), r5)
set_option maxHeartbeats 8000000 in
set_option maxRecDepth 100000 in
theorem M_X8_digit (l : Launch) (D : va_G) (cy : Nat → ClassId) (N : Nat) (a : Nat → Nat) (v : SX8) (x1 : Int32) (x2 : Int32) (o : Int32 × SX8) (hf : fX8_digit N v x1 x2 = some o) : okM l yX8_digit wsX8_digit (rmz 1 22) D cy [.ref (a 0), .int x1, .int x2] (wX8 cy a v) (wX8 cy a o.2) (some (.int o.1)) := by
  refine okM_of (own := RX8) (nme := "digit") (cc := cX8_digit) (maxL := 4) (ret := (some .int)) (by decide) rfl rfl rfl (Nat.le_of_ble_eq_true rfl) ?_
  intro p e s m args below meth c A F
  unfold fX8_digit at hf
  refine V.eq rfl (show lv_args 0 [.ref (a 0), .int x1, .int x2] = [(0, .ref (a 0)), (1, .int x1), (2, .int x2)] from rfl) rfl ?_
  refine V_aload_n (pc := 0) F dX8_digit_0 rfl 0 rfl ?_
  obtain ⟨r1, g2, hf⟩ := bind_of hf
  refine V_V (w2 := wX8 cy a v) (rest := []) (st2 := [.int r1]) (pc := 1) F 8 (M_X8_letter l D cy N a v r1 g2) (cwV 0 F.ts gX8_digit_X8_letter rfl rfl rfl hd_X8_letter ⟨Nat.le_of_ble_eq_true rfl, Nat.le_of_ble_eq_true rfl⟩) rfl dX8_digit_1 Fit.whole rfl rfl rfl (Nat.le_of_ble_eq_true rfl) (Nat.zero_le _) (Nat.zero_le _) rfl rfl rfl ?_
  refine V_bipush (v := 48) (pc := 4) F dX8_digit_4 (by decide) ?_
  refine V_isub (pc := 6) F dX8_digit_6 ?_
  refine V_istore_n (L2 := [(3, .int (r1 - 48)), (0, .ref (a 0)), (1, .int x1), (2, .int x2)]) (pc := 7) F dX8_digit_7 rfl (by decide) rfl ?_
  refine V_aload_n (pc := 8) F dX8_digit_8 rfl 1 rfl ?_
  refine V_iload_n (pc := 9) F dX8_digit_9 rfl 0 rfl ?_
  refine V_iload_n (pc := 10) F dX8_digit_10 rfl 2 rfl ?_
  refine V_iload_n (pc := 11) F dX8_digit_11 rfl 3 rfl ?_
  obtain ⟨r3, g4, hf⟩ := bind_of hf
  refine V_Sc (rest := [.ref (a 0)]) (st2 := [.int r3, .ref (a 0)]) (pc := 12) F (M_X8_in l D cy N (r1 - 48) x1 x2 r3 g4) (va_cwS 3 F.ts gX8_digit_X8_in rfl rfl rfl hd_X8_in ⟨Nat.le_of_ble_eq_true rfl, Nat.le_of_ble_eq_true rfl⟩) rfl dX8_digit_12 (Nat.le_of_ble_eq_true rfl) (Nat.zero_le _) (Nat.zero_le _) rfl rfl ?_
  obtain ⟨r5, g6, hf⟩ := bind_of hf
  refine V_V (w2 := wX8 cy a r5) (rest := []) (st2 := []) (pc := 15) F 8 (M_X8_wants l D cy N a v r3 r5 g6) (cwV 1 F.ts gX8_digit_X8_wants rfl rfl rfl hd_X8_wants ⟨Nat.le_of_ble_eq_true rfl, Nat.le_of_ble_eq_true rfl⟩) rfl dX8_digit_15 Fit.whole fstX8 rfl rfl (Nat.le_of_ble_eq_true rfl) (Nat.zero_le _) (Nat.zero_le _) rfl rfl rfl ?_
  refine V_iload_n (pc := 18) F dX8_digit_18 rfl 0 rfl ?_
  obtain rfl := some_of hf
  exact V_ret F rfl rfl dX8_digit_19 rfl rfl
