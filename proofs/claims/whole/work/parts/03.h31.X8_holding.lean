theorem hd_X8_holding : yX8_holding.cls = RX8 ∧ yX8_holding.cls ≠ "java/lang/invoke/MethodHandle" ∧ yX8_holding.cls ≠ "java/lang/invoke/VarHandle" ∧ (parseMethodDescriptor yX8_holding.desc).map (fun d => d.parameters.length) = some 1 := by decide +kernel
def fX8_holding_L2 (N : Nat) (v : SX8) (z1 : Int32) : Nat → Int32 → Option ((Int32) ⊕ (Unit))
  | 0, _ => none
  | n + 1, z2 =>
    (fX8_rules N v z1).bind fun r1 =>
      if r1 ≤ z2 then
        some (.inr ())
      else
        (fX8_holds N v z1 z2).bind fun r4 =>
          if r4 = 0 then
            fX8_holding_L2 N v z1 n (z2 + 1)
          else
            some (.inl z2)
def fX8_holding (N : Nat) (v : SX8) (x1 : Int32) : Option (Int32) :=
  (fX8_holding_L2 N v x1 N 0).bind fun u7 => onS u7 (fun r => some r) fun q9 =>
    some (-1)
set_option maxHeartbeats 8000000 in
set_option maxRecDepth 100000 in
theorem M_X8_holding (l : Launch) (D : va_G) (cy : Nat → ClassId) (N : Nat) (a : Nat → Nat) (v : SX8) (x1 : Int32) (o : Int32) (hf : fX8_holding N v x1 = some o) : okM l yX8_holding wsX8_holding (rmz 3 66) D cy [.ref (a 0), .int x1] (wX8 cy a v) (wX8 cy a v) (some (.int o)) := by
  refine okM_of (own := RX8) (nme := "holding") (cc := cX8_holding) (maxL := 3) (ret := (some .int)) (by decide) rfl rfl rfl (Nat.le_of_ble_eq_true rfl) ?_
  intro p e s m args below meth c A F
  have K2 : ∀ (n : Nat) (v : SX8) (z1 : Int32) (z2 : Int32) (u : (Int32) ⊕ (Unit)), fX8_holding_L2 N v z1 n z2 = some u → (∀ r, u = .inl r → r = o) → (∀ q, u = .inr q → V p l e (rmz 3 66) s m args below meth c 3 D A 0 0 (MQ below (ok_Q D (wX8 cy a v) (some (.int o)) A) args s 0 0 A) (wX8 cy a v) [] [] 28) → V p l e (rmz 3 66) s m args below meth c 3 D A 0 0 (MQ below (ok_Q D (wX8 cy a v) (some (.int o)) A) args s 0 0 A) (wX8 cy a v) [(0, .ref (a 0)), (1, .int z1), (2, .int z2)] [] 2 := by
    intro n
    induction n with
    | zero =>
      intro v z1 z2 u hf hr hk
      exact nomatch (show (none : Option ((Int32) ⊕ (Unit))) = some u from hf)
    | succ n ih =>
      intro v z1 z2 u hf hr hk
      rw [fX8_holding_L2] at hf
      refine V_iload_n (pc := 2) F dX8_holding_2 rfl 2 rfl ?_
      refine V_aload_n (pc := 3) F dX8_holding_3 rfl 0 rfl ?_
      refine V_iload_n (pc := 4) F dX8_holding_4 rfl 1 rfl ?_
      obtain ⟨r1, g2, hf⟩ := bind_of hf
      refine V_V (w2 := wX8 cy a v) (rest := [.int z2]) (st2 := [.int r1, .int z2]) (pc := 5) F 8 (M_X8_rules l D cy N a v z1 r1 g2) (cwV 1 F.ts gX8_holding_X8_rules rfl rfl rfl hd_X8_rules ⟨Nat.le_of_ble_eq_true rfl, Nat.le_of_ble_eq_true rfl⟩) rfl dX8_holding_5 Fit.whole rfl rfl rfl (Nat.le_of_ble_eq_true rfl) (Nat.zero_le _) (Nat.zero_le _) rfl rfl rfl ?_
      refine V_icmp_ge (pc := 8) (tgt := 28) F dX8_holding_8 (by decide) (fun h3 => ?_) (fun h3 => ?_)
      · replace hf := ite_pos hf h3
        exact V.sub [] rfl (hk _ (some_of hf).symm)
      · replace hf := ite_neg hf h3
        refine V_aload_n (pc := 11) F dX8_holding_11 rfl 0 rfl ?_
        refine V_iload_n (pc := 12) F dX8_holding_12 rfl 1 rfl ?_
        refine V_iload_n (pc := 13) F dX8_holding_13 rfl 2 rfl ?_
        obtain ⟨r4, g5, hf⟩ := bind_of hf
        refine V_V (w2 := wX8 cy a v) (rest := []) (st2 := [.int r4]) (pc := 14) F 8 (M_X8_holds l D cy N a v z1 z2 r4 g5) (cwV 2 F.ts gX8_holding_X8_holds rfl rfl rfl hd_X8_holds ⟨Nat.le_of_ble_eq_true rfl, Nat.le_of_ble_eq_true rfl⟩) rfl dX8_holding_14 Fit.whole rfl rfl rfl (Nat.le_of_ble_eq_true rfl) (Nat.zero_le _) (Nat.zero_le _) rfl rfl rfl ?_
        refine V_if_eq (pc := 17) (tgt := 22) F dX8_holding_17 (by decide) (fun h6 => ?_) (fun h6 => ?_)
        · replace hf := ite_pos hf h6
          refine V_iinc (v := (z2 + 1)) (L2 := [(2, .int (z2 + 1)), (0, .ref (a 0)), (1, .int z1)]) (pc := 22) F dX8_holding_22 2 rfl rfl (by decide) rfl ?_
          refine V_goto (pc := 25) (tgt := 2) F dX8_holding_25 (by decide) ?_
          refine V.sub [1, 2, 0] rfl ?_
          exact ih v z1 (z2 + 1) _ hf hr hk
        · replace hf := ite_neg hf h6
          refine V_iload_n (pc := 20) F dX8_holding_20 rfl 2 rfl ?_
          obtain rfl := hr _ (some_of hf).symm
          exact V_ret F rfl rfl dX8_holding_21 rfl rfl
  unfold fX8_holding at hf
  refine V.eq rfl (show lv_args 0 [.ref (a 0), .int x1] = [(0, .ref (a 0)), (1, .int x1)] from rfl) rfl ?_
  refine V_iconst (v := 0) (pc := 0) F dX8_holding_0 (by decide) ?_
  refine V_istore_n (L2 := [(2, .int 0), (0, .ref (a 0)), (1, .int x1)]) (pc := 1) F dX8_holding_1 rfl (by decide) rfl ?_
  refine V.sub [1, 2, 0] rfl ?_
  obtain ⟨u7, g8, hf⟩ := bind_of hf
  refine K2 N v x1 0 u7 g8 (fun r h10 => ?_) (fun q9 h10 => ?_)
  · subst h10
    exact some_of (onS_inl hf)
  · subst h10
    replace hf := onS_inr hf
    refine V_iconst (v := (-1)) (pc := 28) F dX8_holding_28 (by decide) ?_
    obtain rfl := some_of hf
    exact V_ret F rfl rfl dX8_holding_29 rfl rfl
