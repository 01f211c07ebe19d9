theorem hd_X8_clashing : yX8_clashing.cls = RX8 ∧ yX8_clashing.cls ≠ "java/lang/invoke/MethodHandle" ∧ yX8_clashing.cls ≠ "java/lang/invoke/VarHandle" ∧ (parseMethodDescriptor yX8_clashing.desc).map (fun d => d.parameters.length) = some 1 := by decide +kernel
def fX8_clashing_L4 (N : Nat) (v : SX8) (z1 : Int32) : Nat → Int32 → Int32 → Option (Int32)
  | 0, _, _ => none
  | n + 1, z2, z3 =>
    chk 0 143 (
      if (v.2.1 (0 : Int32).toNatClampNeg) ≤ z3 then
        some z2
      else
        if ((z1 >>> (z3 &&& 31)) &&& 1) = 1 then
          (fX8_doesClash N v z3).bind fun r4 =>
            if r4 = 0 then
              fX8_clashing_L4 N v z1 n (z2 + 0) (z3 + 1)
            else
              fX8_clashing_L4 N v z1 n (z2 + 1) (z3 + 1)
        else
          fX8_clashing_L4 N v z1 n (z2 + 0) (z3 + 1)
    )
def fX8_clashing (N : Nat) (v : SX8) (x1 : Int32) : Option (Int32) :=
  (fX8_clashing_L4 N v x1 N 0 0).bind fun u7 =>
    some u7
set_option maxHeartbeats 8000000 in
set_option maxRecDepth 100000 in
theorem M_X8_clashing (l : Launch) (D : va_G) (cy : Nat → ClassId) (N : Nat) (a : Nat → Nat) (v : SX8) (x1 : Int32) (o : Int32) (hf : fX8_clashing N v x1 = some o) : okM l yX8_clashing wsX8_clashing (rmz 4 88) D cy [.ref (a 0), .int x1] (wX8 cy a v) (wX8 cy a v) (some (.int o)) := by
  refine okM_of (own := RX8) (nme := "clashing") (cc := cX8_clashing) (maxL := 4) (ret := (some .int)) (by decide) rfl rfl rfl (Nat.le_of_ble_eq_true rfl) ?_
  intro p e s m args below meth c A F
  have i_X8 : ∀ w ∈ u_ws RX8 TX8 13, w ∈ wsX8_clashing := fun _ h => List.mem_cons_of_mem _ (List.mem_append_right _ h)
  have K4 : ∀ (n : Nat) (v : SX8) (z1 : Int32) (z2 : Int32) (z3 : Int32) (u : Int32), fX8_clashing_L4 N v z1 n z2 z3 = some u → V p l e (rmz 4 88) s m args below meth c 4 D A 0 0 (MQ below (ok_Q D (wX8 cy a v) (some (.int o)) A) args s 0 0 A) (wX8 cy a v) [(2, .int u)] [] 45 → V p l e (rmz 4 88) s m args below meth c 4 D A 0 0 (MQ below (ok_Q D (wX8 cy a v) (some (.int o)) A) args s 0 0 A) (wX8 cy a v) [(0, .ref (a 0)), (1, .int z1), (2, .int z2), (3, .int z3)] [] 4 := by
    intro n
    induction n with
    | zero =>
      intro v z1 z2 z3 u hf hk
      exact nomatch (show (none : Option (Int32)) = some u from hf)
    | succ n ih =>
      intro v z1 z2 z3 u hf hk
      rw [fX8_clashing_L4] at hf
      refine V_iload_n (pc := 4) F dX8_clashing_4 rfl 3 rfl ?_
      refine V_aload_n (pc := 5) F dX8_clashing_5 rfl 0 rfl ?_
      refine V_get (pc := 6) F 0 8 1 i_X8 rfl (by decide) rfl (mm 1 rfl) dX8_clashing_6 rfl rfl ?_
      refine V_iconst (v := 0) (pc := 9) F dX8_clashing_9 (by decide) ?_
      obtain ⟨c1, hf⟩ := chk_some hf
      refine V_iald (pc := 10) F 1 rfl c1 dX8_clashing_10 ?_
      refine V_icmp_ge (pc := 11) (tgt := 45) F dX8_clashing_11 (by decide) (fun h2 => ?_) (fun h2 => ?_)
      · replace hf := ite_pos hf h2
        obtain rfl := some_of hf
        exact V.sub [2] rfl hk
      · replace hf := ite_neg hf h2
        refine V_iload_n (pc := 14) F dX8_clashing_14 rfl 2 rfl ?_
        refine V_iload_n (pc := 15) F dX8_clashing_15 rfl 1 rfl ?_
        refine V_iload_n (pc := 16) F dX8_clashing_16 rfl 3 rfl ?_
        refine V_ishr (pc := 17) F dX8_clashing_17 ?_
        refine V_iconst (v := 1) (pc := 18) F dX8_clashing_18 (by decide) ?_
        refine V_iand (pc := 19) F dX8_clashing_19 ?_
        refine V_iconst (v := 1) (pc := 20) F dX8_clashing_20 (by decide) ?_
        refine V_icmp_ne (pc := 21) (tgt := 36) F dX8_clashing_21 (by decide) (fun h3 => ?_) (fun h3 => ?_)
        · replace hf := ite_neg hf h3
          refine V_iconst (v := 0) (pc := 36) F dX8_clashing_36 (by decide) ?_
          refine V_iadd (pc := 37) F dX8_clashing_37 ?_
          refine V_istore_n (L2 := [(2, .int (z2 + 0)), (0, .ref (a 0)), (1, .int z1), (3, .int z3)]) (pc := 38) F dX8_clashing_38 rfl (by decide) rfl ?_
          refine V_iinc (v := (z3 + 1)) (L2 := [(3, .int (z3 + 1)), (2, .int (z2 + 0)), (0, .ref (a 0)), (1, .int z1)]) (pc := 39) F dX8_clashing_39 3 rfl rfl (by decide) rfl ?_
          refine V_goto (pc := 42) (tgt := 4) F dX8_clashing_42 (by decide) ?_
          refine V.sub [2, 3, 1, 0] rfl ?_
          exact ih v z1 (z2 + 0) (z3 + 1) _ hf hk
        · replace hf := ite_pos hf h3
          refine V_aload_n (pc := 24) F dX8_clashing_24 rfl 0 rfl ?_
          refine V_iload_n (pc := 25) F dX8_clashing_25 rfl 3 rfl ?_
          obtain ⟨r4, g5, hf⟩ := bind_of hf
          refine V_V (w2 := wX8 cy a v) (rest := [.int z2]) (st2 := [.int r4, .int z2]) (pc := 26) F 8 (M_X8_doesClash l D cy N a v z3 r4 g5) (cwV 1 F.ts gX8_clashing_X8_doesClash rfl rfl rfl hd_X8_doesClash ⟨Nat.le_of_ble_eq_true rfl, Nat.le_of_ble_eq_true rfl⟩) rfl dX8_clashing_26 Fit.whole rfl rfl rfl (Nat.le_of_ble_eq_true rfl) (Nat.zero_le _) (Nat.zero_le _) rfl rfl rfl ?_
          refine V_if_eq (pc := 29) (tgt := 36) F dX8_clashing_29 (by decide) (fun h6 => ?_) (fun h6 => ?_)
          · replace hf := ite_pos hf h6
            refine V_iconst (v := 0) (pc := 36) F dX8_clashing_36 (by decide) ?_
            refine V_iadd (pc := 37) F dX8_clashing_37 ?_
            refine V_istore_n (L2 := [(2, .int (z2 + 0)), (0, .ref (a 0)), (1, .int z1), (3, .int z3)]) (pc := 38) F dX8_clashing_38 rfl (by decide) rfl ?_
            refine V_iinc (v := (z3 + 1)) (L2 := [(3, .int (z3 + 1)), (2, .int (z2 + 0)), (0, .ref (a 0)), (1, .int z1)]) (pc := 39) F dX8_clashing_39 3 rfl rfl (by decide) rfl ?_
            refine V_goto (pc := 42) (tgt := 4) F dX8_clashing_42 (by decide) ?_
            refine V.sub [2, 3, 1, 0] rfl ?_
            exact ih v z1 (z2 + 0) (z3 + 1) _ hf hk
          · replace hf := ite_neg hf h6
            refine V_iconst (v := 1) (pc := 32) F dX8_clashing_32 (by decide) ?_
            refine V_goto (pc := 33) (tgt := 37) F dX8_clashing_33 (by decide) ?_
            refine V_iadd (pc := 37) F dX8_clashing_37 ?_
            refine V_istore_n (L2 := [(2, .int (z2 + 1)), (0, .ref (a 0)), (1, .int z1), (3, .int z3)]) (pc := 38) F dX8_clashing_38 rfl (by decide) rfl ?_
            refine V_iinc (v := (z3 + 1)) (L2 := [(3, .int (z3 + 1)), (2, .int (z2 + 1)), (0, .ref (a 0)), (1, .int z1)]) (pc := 39) F dX8_clashing_39 3 rfl rfl (by decide) rfl ?_
            refine V_goto (pc := 42) (tgt := 4) F dX8_clashing_42 (by decide) ?_
            refine V.sub [2, 3, 1, 0] rfl ?_
            exact ih v z1 (z2 + 1) (z3 + 1) _ hf hk
  unfold fX8_clashing at hf
  refine V.eq rfl (show lv_args 0 [.ref (a 0), .int x1] = [(0, .ref (a 0)), (1, .int x1)] from rfl) rfl ?_
  refine V_iconst (v := 0) (pc := 0) F dX8_clashing_0 (by decide) ?_
  refine V_istore_n (L2 := [(2, .int 0), (0, .ref (a 0)), (1, .int x1)]) (pc := 1) F dX8_clashing_1 rfl (by decide) rfl ?_
  refine V_iconst (v := 0) (pc := 2) F dX8_clashing_2 (by decide) ?_
  refine V_istore_n (L2 := [(3, .int 0), (2, .int 0), (0, .ref (a 0)), (1, .int x1)]) (pc := 3) F dX8_clashing_3 rfl (by decide) rfl ?_
  refine V.sub [2, 3, 1, 0] rfl ?_
  obtain ⟨u7, g8, hf⟩ := bind_of hf
  refine K4 N v x1 0 0 u7 g8 ?_
  refine V_iload_n (pc := 45) F dX8_clashing_45 rfl 0 rfl ?_
  obtain rfl := some_of hf
  exact V_ret F rfl rfl dX8_clashing_46 rfl rfl
