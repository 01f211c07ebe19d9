theorem hd_X8_phasesWith : yX8_phasesWith.cls = RX8 ∧ yX8_phasesWith.cls ≠ "java/lang/invoke/MethodHandle" ∧ yX8_phasesWith.cls ≠ "java/lang/invoke/VarHandle" ∧ (parseMethodDescriptor yX8_phasesWith.desc).map (fun d => d.parameters.length) = some 1 := by decide +kernel
def fX8_phasesWith_L4 (N : Nat) (v : SX8) (z1 : Int32) : Nat → Int32 → Int32 → Option (Int32)
  | 0, _, _ => none
  | n + 1, z2, z3 =>
    chk 0 143 (
      if (v.2.1 (0 : Int32).toNatClampNeg) ≤ z3 then
        some z2
      else
        (fX8_hasGreen N v z3 z1).bind fun r3 =>
          if r3 = 0 then
            fX8_phasesWith_L4 N v z1 n (z2 ||| 0) (z3 + 1)
          else
            fX8_phasesWith_L4 N v z1 n (z2 ||| ((1 : Int32) <<< (z3 &&& 31))) (z3 + 1)
    )
def fX8_phasesWith (N : Nat) (v : SX8) (x1 : Int32) : Option (Int32) :=
  (fX8_phasesWith_L4 N v x1 N 0 0).bind fun u6 =>
    some u6
set_option maxHeartbeats 8000000 in
set_option maxRecDepth 100000 in
theorem M_X8_phasesWith (l : Launch) (D : va_G) (cy : Nat → ClassId) (N : Nat) (a : Nat → Nat) (v : SX8) (x1 : Int32) (o : Int32) (hf : fX8_phasesWith N v x1 = some o) : okM l yX8_phasesWith wsX8_phasesWith (rmz 3 65) D cy [.ref (a 0), .int x1] (wX8 cy a v) (wX8 cy a v) (some (.int o)) := by
  refine okM_of (own := RX8) (nme := "phasesWith") (cc := cX8_phasesWith) (maxL := 4) (ret := (some .int)) (by decide) rfl rfl rfl (Nat.le_of_ble_eq_true rfl) ?_
  intro p e s m args below meth c A F
  have i_X8 : ∀ w ∈ u_ws RX8 TX8 13, w ∈ wsX8_phasesWith := fun _ h => List.mem_cons_of_mem _ (List.mem_append_right _ h)
  have K4 : ∀ (n : Nat) (v : SX8) (z1 : Int32) (z2 : Int32) (z3 : Int32) (u : Int32), fX8_phasesWith_L4 N v z1 n z2 z3 = some u → V p l e (rmz 3 65) s m args below meth c 4 D A 0 0 (MQ below (ok_Q D (wX8 cy a v) (some (.int o)) A) args s 0 0 A) (wX8 cy a v) [(2, .int u)] [] 39 → V p l e (rmz 3 65) s m args below meth c 4 D A 0 0 (MQ below (ok_Q D (wX8 cy a v) (some (.int o)) A) args s 0 0 A) (wX8 cy a v) [(0, .ref (a 0)), (1, .int z1), (2, .int z2), (3, .int z3)] [] 4 := by
    intro n
    induction n with
    | zero =>
      intro v z1 z2 z3 u hf hk
      exact nomatch (show (none : Option (Int32)) = some u from hf)
    | succ n ih =>
      intro v z1 z2 z3 u hf hk
      rw [fX8_phasesWith_L4] at hf
      refine V_iload_n (pc := 4) F dX8_phasesWith_4 rfl 3 rfl ?_
      refine V_aload_n (pc := 5) F dX8_phasesWith_5 rfl 0 rfl ?_
      refine V_get (pc := 6) F 0 8 1 i_X8 rfl (by decide) rfl (mm 1 rfl) dX8_phasesWith_6 rfl rfl ?_
      refine V_iconst (v := 0) (pc := 9) F dX8_phasesWith_9 (by decide) ?_
      obtain ⟨c1, hf⟩ := chk_some hf
      refine V_iald (pc := 10) F 1 rfl c1 dX8_phasesWith_10 ?_
      refine V_icmp_ge (pc := 11) (tgt := 39) F dX8_phasesWith_11 (by decide) (fun h2 => ?_) (fun h2 => ?_)
      · replace hf := ite_pos hf h2
        obtain rfl := some_of hf
        exact V.sub [2] rfl hk
      · replace hf := ite_neg hf h2
        refine V_iload_n (pc := 14) F dX8_phasesWith_14 rfl 2 rfl ?_
        refine V_aload_n (pc := 15) F dX8_phasesWith_15 rfl 0 rfl ?_
        refine V_iload_n (pc := 16) F dX8_phasesWith_16 rfl 3 rfl ?_
        refine V_iload_n (pc := 17) F dX8_phasesWith_17 rfl 1 rfl ?_
        obtain ⟨r3, g4, hf⟩ := bind_of hf
        refine V_V (w2 := wX8 cy a v) (rest := [.int z2]) (st2 := [.int r3, .int z2]) (pc := 18) F 8 (M_X8_hasGreen l D cy N a v z3 z1 r3 g4) (cwV 2 F.ts gX8_phasesWith_X8_hasGreen rfl rfl rfl hd_X8_hasGreen ⟨Nat.le_of_ble_eq_true rfl, Nat.le_of_ble_eq_true rfl⟩) rfl dX8_phasesWith_18 Fit.whole rfl rfl rfl (Nat.le_of_ble_eq_true rfl) (Nat.zero_le _) (Nat.zero_le _) rfl rfl rfl ?_
        refine V_if_eq (pc := 21) (tgt := 30) F dX8_phasesWith_21 (by decide) (fun h5 => ?_) (fun h5 => ?_)
        · replace hf := ite_pos hf h5
          refine V_iconst (v := 0) (pc := 30) F dX8_phasesWith_30 (by decide) ?_
          refine V_ior (pc := 31) F dX8_phasesWith_31 ?_
          refine V_istore_n (L2 := [(2, .int (z2 ||| 0)), (0, .ref (a 0)), (1, .int z1), (3, .int z3)]) (pc := 32) F dX8_phasesWith_32 rfl (by decide) rfl ?_
          refine V_iinc (v := (z3 + 1)) (L2 := [(3, .int (z3 + 1)), (2, .int (z2 ||| 0)), (0, .ref (a 0)), (1, .int z1)]) (pc := 33) F dX8_phasesWith_33 3 rfl rfl (by decide) rfl ?_
          refine V_goto (pc := 36) (tgt := 4) F dX8_phasesWith_36 (by decide) ?_
          refine V.sub [2, 3, 1, 0] rfl ?_
          exact ih v z1 (z2 ||| 0) (z3 + 1) _ hf hk
        · replace hf := ite_neg hf h5
          refine V_iconst (v := 1) (pc := 24) F dX8_phasesWith_24 (by decide) ?_
          refine V_iload_n (pc := 25) F dX8_phasesWith_25 rfl 3 rfl ?_
          refine V_ishl (pc := 26) F dX8_phasesWith_26 ?_
          refine V_goto (pc := 27) (tgt := 31) F dX8_phasesWith_27 (by decide) ?_
          refine V_ior (pc := 31) F dX8_phasesWith_31 ?_
          refine V_istore_n (L2 := [(2, .int (z2 ||| ((1 : Int32) <<< (z3 &&& 31)))), (0, .ref (a 0)), (1, .int z1), (3, .int z3)]) (pc := 32) F dX8_phasesWith_32 rfl (by decide) rfl ?_
          refine V_iinc (v := (z3 + 1)) (L2 := [(3, .int (z3 + 1)), (2, .int (z2 ||| ((1 : Int32) <<< (z3 &&& 31)))), (0, .ref (a 0)), (1, .int z1)]) (pc := 33) F dX8_phasesWith_33 3 rfl rfl (by decide) rfl ?_
          refine V_goto (pc := 36) (tgt := 4) F dX8_phasesWith_36 (by decide) ?_
          refine V.sub [2, 3, 1, 0] rfl ?_
          exact ih v z1 (z2 ||| ((1 : Int32) <<< (z3 &&& 31))) (z3 + 1) _ hf hk
  unfold fX8_phasesWith at hf
  refine V.eq rfl (show lv_args 0 [.ref (a 0), .int x1] = [(0, .ref (a 0)), (1, .int x1)] from rfl) rfl ?_
  refine V_iconst (v := 0) (pc := 0) F dX8_phasesWith_0 (by decide) ?_
  refine V_istore_n (L2 := [(2, .int 0), (0, .ref (a 0)), (1, .int x1)]) (pc := 1) F dX8_phasesWith_1 rfl (by decide) rfl ?_
  refine V_iconst (v := 0) (pc := 2) F dX8_phasesWith_2 (by decide) ?_
  refine V_istore_n (L2 := [(3, .int 0), (2, .int 0), (0, .ref (a 0)), (1, .int x1)]) (pc := 3) F dX8_phasesWith_3 rfl (by decide) rfl ?_
  refine V.sub [2, 3, 1, 0] rfl ?_
  obtain ⟨u6, g7, hf⟩ := bind_of hf
  refine K4 N v x1 0 0 u6 g7 ?_
  refine V_iload_n (pc := 39) F dX8_phasesWith_39 rfl 0 rfl ?_
  obtain rfl := some_of hf
  exact V_ret F rfl rfl dX8_phasesWith_40 rfl rfl
