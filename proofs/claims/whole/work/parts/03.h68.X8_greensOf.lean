theorem hd_X8_greensOf : yX8_greensOf.cls = RX8 ∧ yX8_greensOf.cls ≠ "java/lang/invoke/MethodHandle" ∧ yX8_greensOf.cls ≠ "java/lang/invoke/VarHandle" ∧ (parseMethodDescriptor yX8_greensOf.desc).map (fun d => d.parameters.length) = some 1 := by decide +kernel
def fX8_greensOf_L4 (N : Nat) (v : SX8) (z1 : Int32) : Nat → Int32 → Int32 → Option (Int32)
  | 0, _, _ => none
  | n + 1, z2, z3 =>
    chk 0 143 (
      if (v.2.1 (0 : Int32).toNatClampNeg) ≤ z3 then
        some z2
      else
        if ((z1 >>> (z3 &&& 31)) &&& 1) = 1 then
          (fX8_greens N v z3).bind fun r4 =>
            fX8_greensOf_L4 N v z1 n (z2 ||| r4) (z3 + 1)
        else
          fX8_greensOf_L4 N v z1 n (z2 ||| 0) (z3 + 1)
    )
def fX8_greensOf (N : Nat) (v : SX8) (x1 : Int32) : Option (Int32) :=
  (fX8_greensOf_L4 N v x1 N 0 0).bind fun u6 =>
    some u6
set_option maxHeartbeats 8000000 in
set_option maxRecDepth 100000 in
theorem M_X8_greensOf (l : Launch) (D : va_G) (cy : Nat → ClassId) (N : Nat) (a : Nat → Nat) (v : SX8) (x1 : Int32) (o : Int32) (hf : fX8_greensOf N v x1 = some o) : okM l yX8_greensOf wsX8_greensOf (rmz 2 43) D cy [.ref (a 0), .int x1] (wX8 cy a v) (wX8 cy a v) (some (.int o)) := by
  refine okM_of (own := RX8) (nme := "greensOf") (cc := cX8_greensOf) (maxL := 4) (ret := (some .int)) (by decide) rfl rfl rfl (Nat.le_of_ble_eq_true rfl) ?_
  intro p e s m args below meth c A F
  have i_X8 : ∀ w ∈ u_ws RX8 TX8 13, w ∈ wsX8_greensOf := fun _ h => List.mem_cons_of_mem _ (List.mem_append_right _ h)
  have K4 : ∀ (n : Nat) (v : SX8) (z1 : Int32) (z2 : Int32) (z3 : Int32) (u : Int32), fX8_greensOf_L4 N v z1 n z2 z3 = some u → V p l e (rmz 2 43) s m args below meth c 4 D A 0 0 (MQ below (ok_Q D (wX8 cy a v) (some (.int o)) A) args s 0 0 A) (wX8 cy a v) [(2, .int u)] [] 41 → V p l e (rmz 2 43) s m args below meth c 4 D A 0 0 (MQ below (ok_Q D (wX8 cy a v) (some (.int o)) A) args s 0 0 A) (wX8 cy a v) [(0, .ref (a 0)), (1, .int z1), (2, .int z2), (3, .int z3)] [] 4 := by
    intro n
    induction n with
    | zero =>
      intro v z1 z2 z3 u hf hk
      exact nomatch (show (none : Option (Int32)) = some u from hf)
    | succ n ih =>
      intro v z1 z2 z3 u hf hk
      rw [fX8_greensOf_L4] at hf
      refine V_iload_n (pc := 4) F dX8_greensOf_4 rfl 3 rfl ?_
      refine V_aload_n (pc := 5) F dX8_greensOf_5 rfl 0 rfl ?_
      refine V_get (pc := 6) F 0 8 1 i_X8 rfl (by decide) rfl (mm 1 rfl) dX8_greensOf_6 rfl rfl ?_
      refine V_iconst (v := 0) (pc := 9) F dX8_greensOf_9 (by decide) ?_
      obtain ⟨c1, hf⟩ := chk_some hf
      refine V_iald (pc := 10) F 1 rfl c1 dX8_greensOf_10 ?_
      refine V_icmp_ge (pc := 11) (tgt := 41) F dX8_greensOf_11 (by decide) (fun h2 => ?_) (fun h2 => ?_)
      · replace hf := ite_pos hf h2
        obtain rfl := some_of hf
        exact V.sub [2] rfl hk
      · replace hf := ite_neg hf h2
        refine V_iload_n (pc := 14) F dX8_greensOf_14 rfl 2 rfl ?_
        refine V_iload_n (pc := 15) F dX8_greensOf_15 rfl 1 rfl ?_
        refine V_iload_n (pc := 16) F dX8_greensOf_16 rfl 3 rfl ?_
        refine V_ishr (pc := 17) F dX8_greensOf_17 ?_
        refine V_iconst (v := 1) (pc := 18) F dX8_greensOf_18 (by decide) ?_
        refine V_iand (pc := 19) F dX8_greensOf_19 ?_
        refine V_iconst (v := 1) (pc := 20) F dX8_greensOf_20 (by decide) ?_
        refine V_icmp_ne (pc := 21) (tgt := 32) F dX8_greensOf_21 (by decide) (fun h3 => ?_) (fun h3 => ?_)
        · replace hf := ite_neg hf h3
          refine V_iconst (v := 0) (pc := 32) F dX8_greensOf_32 (by decide) ?_
          refine V_ior (pc := 33) F dX8_greensOf_33 ?_
          refine V_istore_n (L2 := [(2, .int (z2 ||| 0)), (0, .ref (a 0)), (1, .int z1), (3, .int z3)]) (pc := 34) F dX8_greensOf_34 rfl (by decide) rfl ?_
          refine V_iinc (v := (z3 + 1)) (L2 := [(3, .int (z3 + 1)), (2, .int (z2 ||| 0)), (0, .ref (a 0)), (1, .int z1)]) (pc := 35) F dX8_greensOf_35 3 rfl rfl (by decide) rfl ?_
          refine V_goto (pc := 38) (tgt := 4) F dX8_greensOf_38 (by decide) ?_
          refine V.sub [2, 3, 1, 0] rfl ?_
          exact ih v z1 (z2 ||| 0) (z3 + 1) _ hf hk
        · replace hf := ite_pos hf h3
          refine V_aload_n (pc := 24) F dX8_greensOf_24 rfl 0 rfl ?_
          refine V_iload_n (pc := 25) F dX8_greensOf_25 rfl 3 rfl ?_
          obtain ⟨r4, g5, hf⟩ := bind_of hf
          refine V_V (w2 := wX8 cy a v) (rest := [.int z2]) (st2 := [.int r4, .int z2]) (pc := 26) F 8 (M_X8_greens l D cy N a v z3 r4 g5) (cwV 1 F.ts gX8_greensOf_X8_greens rfl rfl rfl hd_X8_greens ⟨Nat.le_of_ble_eq_true rfl, Nat.le_of_ble_eq_true rfl⟩) rfl dX8_greensOf_26 Fit.whole rfl rfl rfl (Nat.le_of_ble_eq_true rfl) (Nat.zero_le _) (Nat.zero_le _) rfl rfl rfl ?_
          refine V_goto (pc := 29) (tgt := 33) F dX8_greensOf_29 (by decide) ?_
          refine V_ior (pc := 33) F dX8_greensOf_33 ?_
          refine V_istore_n (L2 := [(2, .int (z2 ||| r4)), (0, .ref (a 0)), (1, .int z1), (3, .int z3)]) (pc := 34) F dX8_greensOf_34 rfl (by decide) rfl ?_
          refine V_iinc (v := (z3 + 1)) (L2 := [(3, .int (z3 + 1)), (2, .int (z2 ||| r4)), (0, .ref (a 0)), (1, .int z1)]) (pc := 35) F dX8_greensOf_35 3 rfl rfl (by decide) rfl ?_
          refine V_goto (pc := 38) (tgt := 4) F dX8_greensOf_38 (by decide) ?_
          refine V.sub [2, 3, 1, 0] rfl ?_
          exact ih v z1 (z2 ||| r4) (z3 + 1) _ hf hk
  unfold fX8_greensOf at hf
  refine V.eq rfl (show lv_args 0 [.ref (a 0), .int x1] = [(0, .ref (a 0)), (1, .int x1)] from rfl) rfl ?_
  refine V_iconst (v := 0) (pc := 0) F dX8_greensOf_0 (by decide) ?_
  refine V_istore_n (L2 := [(2, .int 0), (0, .ref (a 0)), (1, .int x1)]) (pc := 1) F dX8_greensOf_1 rfl (by decide) rfl ?_
  refine V_iconst (v := 0) (pc := 2) F dX8_greensOf_2 (by decide) ?_
  refine V_istore_n (L2 := [(3, .int 0), (2, .int 0), (0, .ref (a 0)), (1, .int x1)]) (pc := 3) F dX8_greensOf_3 rfl (by decide) rfl ?_
  refine V.sub [2, 3, 1, 0] rfl ?_
  obtain ⟨u6, g7, hf⟩ := bind_of hf
  refine K4 N v x1 0 0 u6 g7 ?_
  refine V_iload_n (pc := 41) F dX8_greensOf_41 rfl 0 rfl ?_
  obtain rfl := some_of hf
  exact V_ret F rfl rfl dX8_greensOf_42 rfl rfl
