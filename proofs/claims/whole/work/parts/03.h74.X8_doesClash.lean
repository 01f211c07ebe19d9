theorem hd_X8_doesClash : yX8_doesClash.cls = RX8 ∧ yX8_doesClash.cls ≠ "java/lang/invoke/MethodHandle" ∧ yX8_doesClash.cls ≠ "java/lang/invoke/VarHandle" ∧ (parseMethodDescriptor yX8_doesClash.desc).map (fun d => d.parameters.length) = some 1 := by decide +kernel
def fX8_doesClash_L4 (N : Nat) (v : SX8) (z1 : Int32) : Nat → Int32 → Int32 → Option (Int32)
  | 0, _, _ => none
  | n + 1, z2, z3 =>
    if 6 ≤ z3 then
      some z2
    else
      if z2 = 0 then
        (fX8_hasGreen N v z1 z3).bind fun r3 =>
          if r3 = 0 then
            fX8_doesClash_L4 N v z1 n 0 (z3 + 1)
          else
            chk ((7 : Int32) + z3) 143 (
              (fX8_greens N v z1).bind fun r7 =>
                if ((v.2.1 ((7 : Int32) + z3).toNatClampNeg) &&& r7) = 0 then
                  fX8_doesClash_L4 N v z1 n 0 (z3 + 1)
                else
                  fX8_doesClash_L4 N v z1 n 1 (z3 + 1)
            )
      else
        fX8_doesClash_L4 N v z1 n 1 (z3 + 1)
def fX8_doesClash (N : Nat) (v : SX8) (x1 : Int32) : Option (Int32) :=
  (fX8_doesClash_L4 N v x1 N 0 0).bind fun u10 =>
    must (decide (u10 = 0 ∨ u10 = 1)) (
      some u10
    )
set_option maxHeartbeats 8000000 in
set_option maxRecDepth 100000 in
theorem M_X8_doesClash (l : Launch) (D : va_G) (cy : Nat → ClassId) (N : Nat) (a : Nat → Nat) (v : SX8) (x1 : Int32) (o : Int32) (hf : fX8_doesClash N v x1 = some o) : okM l yX8_doesClash wsX8_doesClash (rmz 3 65) D cy [.ref (a 0), .int x1] (wX8 cy a v) (wX8 cy a v) (some (.int o)) := by
  refine okM_of (own := RX8) (nme := "doesClash") (cc := cX8_doesClash) (maxL := 4) (ret := (some .boolean)) (by decide) rfl rfl rfl (Nat.le_of_ble_eq_true rfl) ?_
  intro p e s m args below meth c A F
  have i_X8 : ∀ w ∈ u_ws RX8 TX8 13, w ∈ wsX8_doesClash := fun _ h => List.mem_cons_of_mem _ (List.mem_append_right _ h)
  have K4 : ∀ (n : Nat) (v : SX8) (z1 : Int32) (z2 : Int32) (z3 : Int32) (u : Int32), fX8_doesClash_L4 N v z1 n z2 z3 = some u → V p l e (rmz 3 65) s m args below meth c 4 D A 0 0 (MQ below (ok_Q D (wX8 cy a v) (some (.int o)) A) args s 0 0 A) (wX8 cy a v) [(2, .int u)] [] 53 → V p l e (rmz 3 65) s m args below meth c 4 D A 0 0 (MQ below (ok_Q D (wX8 cy a v) (some (.int o)) A) args s 0 0 A) (wX8 cy a v) [(0, .ref (a 0)), (1, .int z1), (2, .int z2), (3, .int z3)] [] 4 := by
    intro n
    induction n with
    | zero =>
      intro v z1 z2 z3 u hf hk
      exact nomatch (show (none : Option (Int32)) = some u from hf)
    | succ n ih =>
      intro v z1 z2 z3 u hf hk
      rw [fX8_doesClash_L4] at hf
      refine V_iload_n (pc := 4) F dX8_doesClash_4 rfl 3 rfl ?_
      refine V_bipush (v := 6) (pc := 5) F dX8_doesClash_5 (by decide) ?_
      refine V_icmp_ge (pc := 7) (tgt := 53) F dX8_doesClash_7 (by decide) (fun h1 => ?_) (fun h1 => ?_)
      · replace hf := ite_pos hf h1
        obtain rfl := some_of hf
        exact V.sub [2] rfl hk
      · replace hf := ite_neg hf h1
        refine V_iload_n (pc := 10) F dX8_doesClash_10 rfl 2 rfl ?_
        refine V_if_ne (pc := 11) (tgt := 41) F dX8_doesClash_11 (by decide) (fun h2 => ?_) (fun h2 => ?_)
        · replace hf := ite_neg hf h2
          refine V_iconst (v := 1) (pc := 41) F dX8_doesClash_41 (by decide) ?_
          refine V_goto (pc := 42) (tgt := 46) F dX8_doesClash_42 (by decide) ?_
          refine V_istore_n (L2 := [(2, .int 1), (0, .ref (a 0)), (1, .int z1), (3, .int z3)]) (pc := 46) F dX8_doesClash_46 rfl (by decide) rfl ?_
          refine V_iinc (v := (z3 + 1)) (L2 := [(3, .int (z3 + 1)), (2, .int 1), (0, .ref (a 0)), (1, .int z1)]) (pc := 47) F dX8_doesClash_47 3 rfl rfl (by decide) rfl ?_
          refine V_goto (pc := 50) (tgt := 4) F dX8_doesClash_50 (by decide) ?_
          refine V.sub [2, 3, 1, 0] rfl ?_
          exact ih v z1 1 (z3 + 1) _ hf hk
        · replace hf := ite_pos hf h2
          refine V_aload_n (pc := 14) F dX8_doesClash_14 rfl 0 rfl ?_
          refine V_iload_n (pc := 15) F dX8_doesClash_15 rfl 1 rfl ?_
          refine V_iload_n (pc := 16) F dX8_doesClash_16 rfl 3 rfl ?_
          obtain ⟨r3, g4, hf⟩ := bind_of hf
          refine V_V (w2 := wX8 cy a v) (rest := []) (st2 := [.int r3]) (pc := 17) F 8 (M_X8_hasGreen l D cy N a v z1 z3 r3 g4) (cwV 2 F.ts gX8_doesClash_X8_hasGreen rfl rfl rfl hd_X8_hasGreen ⟨Nat.le_of_ble_eq_true rfl, Nat.le_of_ble_eq_true rfl⟩) rfl dX8_doesClash_17 Fit.whole rfl rfl rfl (Nat.le_of_ble_eq_true rfl) (Nat.zero_le _) (Nat.zero_le _) rfl rfl rfl ?_
          refine V_if_eq (pc := 20) (tgt := 45) F dX8_doesClash_20 (by decide) (fun h5 => ?_) (fun h5 => ?_)
          · replace hf := ite_pos hf h5
            refine V_iconst (v := 0) (pc := 45) F dX8_doesClash_45 (by decide) ?_
            refine V_istore_n (L2 := [(2, .int 0), (0, .ref (a 0)), (1, .int z1), (3, .int z3)]) (pc := 46) F dX8_doesClash_46 rfl (by decide) rfl ?_
            refine V_iinc (v := (z3 + 1)) (L2 := [(3, .int (z3 + 1)), (2, .int 0), (0, .ref (a 0)), (1, .int z1)]) (pc := 47) F dX8_doesClash_47 3 rfl rfl (by decide) rfl ?_
            refine V_goto (pc := 50) (tgt := 4) F dX8_doesClash_50 (by decide) ?_
            refine V.sub [2, 3, 1, 0] rfl ?_
            exact ih v z1 0 (z3 + 1) _ hf hk
          · replace hf := ite_neg hf h5
            refine V_aload_n (pc := 23) F dX8_doesClash_23 rfl 0 rfl ?_
            refine V_get (pc := 24) F 0 8 1 i_X8 rfl (by decide) rfl (mm 1 rfl) dX8_doesClash_24 rfl rfl ?_
            refine V_bipush (v := 7) (pc := 27) F dX8_doesClash_27 (by decide) ?_
            refine V_iload_n (pc := 29) F dX8_doesClash_29 rfl 3 rfl ?_
            refine V_iadd (pc := 30) F dX8_doesClash_30 ?_
            obtain ⟨c6, hf⟩ := chk_some hf
            refine V_iald (pc := 31) F 1 rfl c6 dX8_doesClash_31 ?_
            refine V_aload_n (pc := 32) F dX8_doesClash_32 rfl 0 rfl ?_
            refine V_iload_n (pc := 33) F dX8_doesClash_33 rfl 1 rfl ?_
            obtain ⟨r7, g8, hf⟩ := bind_of hf
            refine V_V (w2 := wX8 cy a v) (rest := [.int (v.2.1 ((7 : Int32) + z3).toNatClampNeg)]) (st2 := [.int r7, .int (v.2.1 ((7 : Int32) + z3).toNatClampNeg)]) (pc := 34) F 8 (M_X8_greens l D cy N a v z1 r7 g8) (cwV 1 F.ts gX8_doesClash_X8_greens rfl rfl rfl hd_X8_greens ⟨Nat.le_of_ble_eq_true rfl, Nat.le_of_ble_eq_true rfl⟩) rfl dX8_doesClash_34 Fit.whole rfl rfl rfl (Nat.le_of_ble_eq_true rfl) (Nat.zero_le _) (Nat.zero_le _) rfl rfl rfl ?_
            refine V_iand (pc := 37) F dX8_doesClash_37 ?_
            refine V_if_eq (pc := 38) (tgt := 45) F dX8_doesClash_38 (by decide) (fun h9 => ?_) (fun h9 => ?_)
            · replace hf := ite_pos hf h9
              refine V_iconst (v := 0) (pc := 45) F dX8_doesClash_45 (by decide) ?_
              refine V_istore_n (L2 := [(2, .int 0), (0, .ref (a 0)), (1, .int z1), (3, .int z3)]) (pc := 46) F dX8_doesClash_46 rfl (by decide) rfl ?_
              refine V_iinc (v := (z3 + 1)) (L2 := [(3, .int (z3 + 1)), (2, .int 0), (0, .ref (a 0)), (1, .int z1)]) (pc := 47) F dX8_doesClash_47 3 rfl rfl (by decide) rfl ?_
              refine V_goto (pc := 50) (tgt := 4) F dX8_doesClash_50 (by decide) ?_
              refine V.sub [2, 3, 1, 0] rfl ?_
              exact ih v z1 0 (z3 + 1) _ hf hk
            · replace hf := ite_neg hf h9
              refine V_iconst (v := 1) (pc := 41) F dX8_doesClash_41 (by decide) ?_
              refine V_goto (pc := 42) (tgt := 46) F dX8_doesClash_42 (by decide) ?_
              refine V_istore_n (L2 := [(2, .int 1), (0, .ref (a 0)), (1, .int z1), (3, .int z3)]) (pc := 46) F dX8_doesClash_46 rfl (by decide) rfl ?_
              refine V_iinc (v := (z3 + 1)) (L2 := [(3, .int (z3 + 1)), (2, .int 1), (0, .ref (a 0)), (1, .int z1)]) (pc := 47) F dX8_doesClash_47 3 rfl rfl (by decide) rfl ?_
              refine V_goto (pc := 50) (tgt := 4) F dX8_doesClash_50 (by decide) ?_
              refine V.sub [2, 3, 1, 0] rfl ?_
              exact ih v z1 1 (z3 + 1) _ hf hk
  unfold fX8_doesClash at hf
  refine V.eq rfl (show lv_args 0 [.ref (a 0), .int x1] = [(0, .ref (a 0)), (1, .int x1)] from rfl) rfl ?_
  refine V_iconst (v := 0) (pc := 0) F dX8_doesClash_0 (by decide) ?_
  refine V_istore_n (L2 := [(2, .int 0), (0, .ref (a 0)), (1, .int x1)]) (pc := 1) F dX8_doesClash_1 rfl (by decide) rfl ?_
  refine V_iconst (v := 0) (pc := 2) F dX8_doesClash_2 (by decide) ?_
  refine V_istore_n (L2 := [(3, .int 0), (2, .int 0), (0, .ref (a 0)), (1, .int x1)]) (pc := 3) F dX8_doesClash_3 rfl (by decide) rfl ?_
  refine V.sub [2, 3, 1, 0] rfl ?_
  obtain ⟨u10, g11, hf⟩ := bind_of hf
  refine K4 N v x1 0 0 u10 g11 ?_
  refine V_iload_n (pc := 53) F dX8_doesClash_53 rfl 0 rfl ?_
  obtain ⟨c12, hf⟩ := must_some hf
  obtain rfl := some_of hf
  exact V_ret F rfl (nar_bool (of_decide_eq_true c12)) dX8_doesClash_54 rfl rfl
