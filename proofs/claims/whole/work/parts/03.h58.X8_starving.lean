theorem hd_X8_starving : yX8_starving.cls = RX8 ∧ yX8_starving.cls ≠ "java/lang/invoke/MethodHandle" ∧ yX8_starving.cls ≠ "java/lang/invoke/VarHandle" ∧ (parseMethodDescriptor yX8_starving.desc).map (fun d => d.parameters.length) = some 0 := by decide +kernel
def fX8_starving_L4 (N : Nat) (v : SX8) : Nat → Int32 → Int32 → Option (Int32)
  | 0, _, _ => none
  | n + 1, z1, z2 =>
    if 6 ≤ z2 then
      some z1
    else
      (fX8_canStarveAnywhere N v z2).bind fun r2 =>
        if r2 = 0 then
          fX8_starving_L4 N v n (z1 ||| 0) (z2 + 1)
        else
          fX8_starving_L4 N v n (z1 ||| ((1 : Int32) <<< (z2 &&& 31))) (z2 + 1)
def fX8_starving (N : Nat) (v : SX8) : Option (Int32) :=
  (fX8_starving_L4 N v N 0 0).bind fun u5 =>
    some u5
set_option maxHeartbeats 8000000 in
set_option maxRecDepth 100000 in
theorem M_X8_starving (l : Launch) (D : va_G) (cy : Nat → ClassId) (N : Nat) (a : Nat → Nat) (v : SX8) (o : Int32) (hf : fX8_starving N v = some o) : okM l yX8_starving wsX8_starving (rmz 8 191) D cy [.ref (a 0)] (wX8 cy a v) (wX8 cy a v) (some (.int o)) := by
  refine okM_of (own := RX8) (nme := "starving") (cc := cX8_starving) (maxL := 3) (ret := (some .int)) (by decide) rfl rfl rfl (Nat.le_of_ble_eq_true rfl) ?_
  intro p e s m args below meth c A F
  have K4 : ∀ (n : Nat) (v : SX8) (z1 : Int32) (z2 : Int32) (u : Int32), fX8_starving_L4 N v n z1 z2 = some u → V p l e (rmz 8 191) s m args below meth c 3 D A 0 0 (MQ below (ok_Q D (wX8 cy a v) (some (.int o)) A) args s 0 0 A) (wX8 cy a v) [(1, .int u)] [] 34 → V p l e (rmz 8 191) s m args below meth c 3 D A 0 0 (MQ below (ok_Q D (wX8 cy a v) (some (.int o)) A) args s 0 0 A) (wX8 cy a v) [(0, .ref (a 0)), (1, .int z1), (2, .int z2)] [] 4 := by
    intro n
    induction n with
    | zero =>
      intro v z1 z2 u hf hk
      exact nomatch (show (none : Option (Int32)) = some u from hf)
    | succ n ih =>
      intro v z1 z2 u hf hk
      rw [fX8_starving_L4] at hf
      refine V_iload_n (pc := 4) F dX8_starving_4 rfl 2 rfl ?_
      refine V_bipush (v := 6) (pc := 5) F dX8_starving_5 (by decide) ?_
      refine V_icmp_ge (pc := 7) (tgt := 34) F dX8_starving_7 (by decide) (fun h1 => ?_) (fun h1 => ?_)
      · replace hf := ite_pos hf h1
        obtain rfl := some_of hf
        exact V.sub [1] rfl hk
      · replace hf := ite_neg hf h1
        refine V_iload_n (pc := 10) F dX8_starving_10 rfl 1 rfl ?_
        refine V_aload_n (pc := 11) F dX8_starving_11 rfl 0 rfl ?_
        refine V_iload_n (pc := 12) F dX8_starving_12 rfl 2 rfl ?_
        obtain ⟨r2, g3, hf⟩ := bind_of hf
        refine V_V (w2 := wX8 cy a v) (rest := [.int z1]) (st2 := [.int r2, .int z1]) (pc := 13) F 8 (M_X8_canStarveAnywhere l D cy N a v z2 r2 g3) (cwV 1 F.ts gX8_starving_X8_canStarveAnywhere rfl rfl rfl hd_X8_canStarveAnywhere ⟨Nat.le_of_ble_eq_true rfl, Nat.le_of_ble_eq_true rfl⟩) rfl dX8_starving_13 Fit.whole rfl rfl rfl (Nat.le_of_ble_eq_true rfl) (Nat.zero_le _) (Nat.zero_le _) rfl rfl rfl ?_
        refine V_if_eq (pc := 16) (tgt := 25) F dX8_starving_16 (by decide) (fun h4 => ?_) (fun h4 => ?_)
        · replace hf := ite_pos hf h4
          refine V_iconst (v := 0) (pc := 25) F dX8_starving_25 (by decide) ?_
          refine V_ior (pc := 26) F dX8_starving_26 ?_
          refine V_istore_n (L2 := [(1, .int (z1 ||| 0)), (0, .ref (a 0)), (2, .int z2)]) (pc := 27) F dX8_starving_27 rfl (by decide) rfl ?_
          refine V_iinc (v := (z2 + 1)) (L2 := [(2, .int (z2 + 1)), (1, .int (z1 ||| 0)), (0, .ref (a 0))]) (pc := 28) F dX8_starving_28 2 rfl rfl (by decide) rfl ?_
          refine V_goto (pc := 31) (tgt := 4) F dX8_starving_31 (by decide) ?_
          refine V.sub [2, 1, 0] rfl ?_
          exact ih v (z1 ||| 0) (z2 + 1) _ hf hk
        · replace hf := ite_neg hf h4
          refine V_iconst (v := 1) (pc := 19) F dX8_starving_19 (by decide) ?_
          refine V_iload_n (pc := 20) F dX8_starving_20 rfl 2 rfl ?_
          refine V_ishl (pc := 21) F dX8_starving_21 ?_
          refine V_goto (pc := 22) (tgt := 26) F dX8_starving_22 (by decide) ?_
          refine V_ior (pc := 26) F dX8_starving_26 ?_
          refine V_istore_n (L2 := [(1, .int (z1 ||| ((1 : Int32) <<< (z2 &&& 31)))), (0, .ref (a 0)), (2, .int z2)]) (pc := 27) F dX8_starving_27 rfl (by decide) rfl ?_
          refine V_iinc (v := (z2 + 1)) (L2 := [(2, .int (z2 + 1)), (1, .int (z1 ||| ((1 : Int32) <<< (z2 &&& 31)))), (0, .ref (a 0))]) (pc := 28) F dX8_starving_28 2 rfl rfl (by decide) rfl ?_
          refine V_goto (pc := 31) (tgt := 4) F dX8_starving_31 (by decide) ?_
          refine V.sub [2, 1, 0] rfl ?_
          exact ih v (z1 ||| ((1 : Int32) <<< (z2 &&& 31))) (z2 + 1) _ hf hk
  unfold fX8_starving at hf
  refine V.eq rfl (show lv_args 0 [.ref (a 0)] = [(0, .ref (a 0))] from rfl) rfl ?_
  refine V_iconst (v := 0) (pc := 0) F dX8_starving_0 (by decide) ?_
  refine V_istore_n (L2 := [(1, .int 0), (0, .ref (a 0))]) (pc := 1) F dX8_starving_1 rfl (by decide) rfl ?_
  refine V_iconst (v := 0) (pc := 2) F dX8_starving_2 (by decide) ?_
  refine V_istore_n (L2 := [(2, .int 0), (1, .int 0), (0, .ref (a 0))]) (pc := 3) F dX8_starving_3 rfl (by decide) rfl ?_
  refine V.sub [2, 1, 0] rfl ?_
  obtain ⟨u5, g6, hf⟩ := bind_of hf
  refine K4 N v 0 0 u5 g6 ?_
  refine V_iload_n (pc := 34) F dX8_starving_34 rfl 0 rfl ?_
  obtain rfl := some_of hf
  exact V_ret F rfl rfl dX8_starving_35 rfl rfl
