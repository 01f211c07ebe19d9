theorem hd_X8_build : yX8_build.cls = RX8 ∧ yX8_build.cls ≠ "java/lang/invoke/MethodHandle" ∧ yX8_build.cls ≠ "java/lang/invoke/VarHandle" ∧ (parseMethodDescriptor yX8_build.desc).map (fun d => d.parameters.length) = some 0 := by decide +kernel
def fX8_build_L32 (N : Nat)  : Nat → SX8 → Int32 → Option (SX8 × Int32)
  | 0, _, _ => none
  | n + 1, v, z1 =>
    if v.2.2.2.2.2.2.2.1 ≤ z1 then
      some (v, z1)
    else
      (fX8_does N v z1).bind fun r9 =>
        if r9.1 = 0 then
          some (r9.2, z1)
        else
          fX8_build_L32 N n r9.2 (z1 + 1)
def fX8_build (N : Nat) (v : SX8) : Option (Int32 × SX8) :=
  (fX8_readBuffer N v).bind fun r1 =>
    if r1.1 = (-1) then
      (fX8_save N (0, r1.2.2.1, r1.2.2.2.1, r1.2.2.2.2.1, r1.2.2.2.2.2.1, r1.2.2.2.2.2.2.1, r1.2.2.2.2.2.2.2.1, r1.2.2.2.2.2.2.2.2.1, r1.2.2.2.2.2.2.2.2.2.1, r1.2.2.2.2.2.2.2.2.2.2.1, r1.2.2.2.2.2.2.2.2.2.2.2.1, r1.2.2.2.2.2.2.2.2.2.2.2.2.1, r1.2.2.2.2.2.2.2.2.2.2.2.2.2)).bind fun r6 =>
        (fX8_build_L32 N N r6 0).bind fun u12 =>
          some (u12.2, (u12.1.1, u12.1.2.1, u12.1.2.2.1, u12.1.2.2.2.1, u12.1.2.2.2.2.1, 0, u12.1.2.2.2.2.2.2))
    else
      some (0, (1, r1.2.2.1, r1.2.2.2.1, r1.2.2.2.2.1, r1.2.2.2.2.2.1, r1.2.2.2.2.2.2.1, r1.2.2.2.2.2.2.2.1, r1.2.2.2.2.2.2.2.2.1, r1.2.2.2.2.2.2.2.2.2.1, r1.2.2.2.2.2.2.2.2.2.2.1, r1.2.2.2.2.2.2.2.2.2.2.2.1, r1.2.2.2.2.2.2.2.2.2.2.2.2.1, r1.2.2.2.2.2.2.2.2.2.2.2.2.2))
set_option maxHeartbeats 8000000 in
set_option maxRecDepth 100000 in
theorem M_X8_build (l : Launch) (D : va_G) (cy : Nat → ClassId) (N : Nat) (a : Nat → Nat) (v : SX8) (o : Int32 × SX8) (hf : fX8_build N v = some o) : okM l yX8_build wsX8_build (rmz 5 109) D cy [.ref (a 0)] (wX8 cy a v) (wX8 cy a o.2) (some (.int o.1)) := by
  refine okM_of (own := RX8) (nme := "build") (cc := cX8_build) (maxL := 2) (ret := (some .int)) (by decide) rfl rfl rfl (Nat.le_of_ble_eq_true rfl) ?_
  intro p e s m args below meth c A F
  have i_X8 : ∀ w ∈ u_ws RX8 TX8 13, w ∈ wsX8_build := fun _ h => List.mem_cons_of_mem _ (List.mem_append_right _ h)
  have K32 : ∀ (n : Nat) (v : SX8) (z1 : Int32) (u : SX8 × Int32), fX8_build_L32 N n v z1 = some u → V p l e (rmz 5 109) s m args below meth c 2 D A 0 0 (MQ below (ok_Q D (wX8 cy a o.2) (some (.int o.1)) A) args s 0 0 A) (wX8 cy a u.1) [(0, .ref (a 0)), (1, .int u.2)] [] 54 → V p l e (rmz 5 109) s m args below meth c 2 D A 0 0 (MQ below (ok_Q D (wX8 cy a o.2) (some (.int o.1)) A) args s 0 0 A) (wX8 cy a v) [(0, .ref (a 0)), (1, .int z1)] [] 32 := by
    intro n
    induction n with
    | zero =>
      intro v z1 u hf hk
      exact nomatch (show (none : Option (SX8 × Int32)) = some u from hf)
    | succ n ih =>
      intro v z1 u hf hk
      rw [fX8_build_L32] at hf
      refine V_iload_n (pc := 32) F dX8_build_32 rfl 1 rfl ?_
      refine V_aload_n (pc := 33) F dX8_build_33 rfl 0 rfl ?_
      refine V_get (pc := 34) F 0 8 7 i_X8 rfl (by decide) rfl (mm 2 rfl) dX8_build_34 rfl rfl ?_
      refine V_icmp_ge (pc := 37) (tgt := 54) F dX8_build_37 (by decide) (fun h8 => ?_) (fun h8 => ?_)
      · replace hf := ite_pos hf h8
        obtain rfl := some_of hf
        exact V.sub [0, 1] rfl hk
      · replace hf := ite_neg hf h8
        refine V_aload_n (pc := 40) F dX8_build_40 rfl 0 rfl ?_
        refine V_iload_n (pc := 41) F dX8_build_41 rfl 1 rfl ?_
        obtain ⟨r9, g10, hf⟩ := bind_of hf
        refine V_V (w2 := wX8 cy a r9.2) (rest := []) (st2 := [.int r9.1]) (pc := 42) F 8 (M_X8_does l D cy N a v z1 r9 g10) (cwV 1 F.ts gX8_build_X8_does rfl rfl rfl hd_X8_does ⟨Nat.le_of_ble_eq_true rfl, Nat.le_of_ble_eq_true rfl⟩) rfl dX8_build_42 Fit.whole fstX8 rfl rfl (Nat.le_of_ble_eq_true rfl) (Nat.zero_le _) (Nat.zero_le _) rfl rfl rfl ?_
        refine V_if_eq (pc := 45) (tgt := 54) F dX8_build_45 (by decide) (fun h11 => ?_) (fun h11 => ?_)
        · replace hf := ite_pos hf h11
          obtain rfl := some_of hf
          exact V.sub [0, 1] rfl hk
        · replace hf := ite_neg hf h11
          refine V_iinc (v := (z1 + 1)) (L2 := [(1, .int (z1 + 1)), (0, .ref (a 0))]) (pc := 48) F dX8_build_48 1 rfl rfl (by decide) rfl ?_
          refine V_goto (pc := 51) (tgt := 32) F dX8_build_51 (by decide) ?_
          refine V.sub [1, 0] rfl ?_
          exact ih r9.2 (z1 + 1) _ hf hk
  unfold fX8_build at hf
  refine V.eq rfl (show lv_args 0 [.ref (a 0)] = [(0, .ref (a 0))] from rfl) rfl ?_
  refine V_aload_n (pc := 0) F dX8_build_0 rfl 0 rfl ?_
  refine V_aload_n (pc := 1) F dX8_build_1 rfl 0 rfl ?_
  obtain ⟨r1, g2, hf⟩ := bind_of hf
  refine V_V (w2 := wX8 cy a r1.2) (rest := [.ref (a 0)]) (st2 := [.int r1.1, .ref (a 0)]) (pc := 2) F 8 (M_X8_readBuffer l D cy N a v r1 g2) (cwV 0 F.ts gX8_build_X8_readBuffer rfl rfl rfl hd_X8_readBuffer ⟨Nat.le_of_ble_eq_true rfl, Nat.le_of_ble_eq_true rfl⟩) rfl dX8_build_2 Fit.whole fstX8 rfl rfl (Nat.le_of_ble_eq_true rfl) (Nat.zero_le _) (Nat.zero_le _) rfl rfl rfl ?_
  refine V_iconst (v := (-1)) (pc := 5) F dX8_build_5 (by decide) ?_
  refine V_icmp_ne (pc := 6) (tgt := 13) F dX8_build_6 (by decide) (fun h3 => ?_) (fun h3 => ?_)
  · replace hf := ite_neg hf h3
    refine V_iconst (v := 1) (pc := 13) F dX8_build_13 (by decide) ?_
    refine V_put (w2 := wX8 cy a (1, r1.2.2.1, r1.2.2.2.1, r1.2.2.2.2.1, r1.2.2.2.2.2.1, r1.2.2.2.2.2.2.1, r1.2.2.2.2.2.2.2.1, r1.2.2.2.2.2.2.2.2.1, r1.2.2.2.2.2.2.2.2.2.1, r1.2.2.2.2.2.2.2.2.2.2.1, r1.2.2.2.2.2.2.2.2.2.2.2.1, r1.2.2.2.2.2.2.2.2.2.2.2.2.1, r1.2.2.2.2.2.2.2.2.2.2.2.2.2)) (pc := 14) F 0 8 0 i_X8 tyX8 tyX8_ok nmX8 rfl (by decide) rfl (mm 1 rfl) rfl dX8_build_14 rfl rfl rfl (Nat.le_of_ble_eq_true rfl) rfl ?_
    refine V_aload_n (pc := 17) F dX8_build_17 rfl 0 rfl ?_
    refine V_get (pc := 18) F 0 8 0 i_X8 rfl (by decide) rfl (mm 1 rfl) dX8_build_18 rfl rfl ?_
    refine V_if_le (pc := 21) (tgt := 26) F dX8_build_21 (by decide) (fun h4 => ?_) (fun h4 => ?_)
    · exact absurd h4 (show ¬ ((1 : Int32) ≤ (0 : Int32)) by decide)
    · refine V_iconst (v := 0) (pc := 24) F dX8_build_24 (by decide) ?_
      obtain rfl := some_of hf
      exact V_ret F rfl rfl dX8_build_25 rfl rfl
  · replace hf := ite_pos hf h3
    refine V_iconst (v := 0) (pc := 9) F dX8_build_9 (by decide) ?_
    refine V_goto (pc := 10) (tgt := 14) F dX8_build_10 (by decide) ?_
    refine V_put (w2 := wX8 cy a (0, r1.2.2.1, r1.2.2.2.1, r1.2.2.2.2.1, r1.2.2.2.2.2.1, r1.2.2.2.2.2.2.1, r1.2.2.2.2.2.2.2.1, r1.2.2.2.2.2.2.2.2.1, r1.2.2.2.2.2.2.2.2.2.1, r1.2.2.2.2.2.2.2.2.2.2.1, r1.2.2.2.2.2.2.2.2.2.2.2.1, r1.2.2.2.2.2.2.2.2.2.2.2.2.1, r1.2.2.2.2.2.2.2.2.2.2.2.2.2)) (pc := 14) F 0 8 0 i_X8 tyX8 tyX8_ok nmX8 rfl (by decide) rfl (mm 1 rfl) rfl dX8_build_14 rfl rfl rfl (Nat.le_of_ble_eq_true rfl) rfl ?_
    refine V_aload_n (pc := 17) F dX8_build_17 rfl 0 rfl ?_
    refine V_get (pc := 18) F 0 8 0 i_X8 rfl (by decide) rfl (mm 1 rfl) dX8_build_18 rfl rfl ?_
    refine V_if_le (pc := 21) (tgt := 26) F dX8_build_21 (by decide) (fun h5 => ?_) (fun h5 => ?_)
    · refine V_aload_n (pc := 26) F dX8_build_26 rfl 0 rfl ?_
      obtain ⟨r6, g7, hf⟩ := bind_of hf
      refine V_V (w2 := wX8 cy a r6) (rest := []) (st2 := []) (pc := 27) F 8 (M_X8_save l D cy N a (0, r1.2.2.1, r1.2.2.2.1, r1.2.2.2.2.1, r1.2.2.2.2.2.1, r1.2.2.2.2.2.2.1, r1.2.2.2.2.2.2.2.1, r1.2.2.2.2.2.2.2.2.1, r1.2.2.2.2.2.2.2.2.2.1, r1.2.2.2.2.2.2.2.2.2.2.1, r1.2.2.2.2.2.2.2.2.2.2.2.1, r1.2.2.2.2.2.2.2.2.2.2.2.2.1, r1.2.2.2.2.2.2.2.2.2.2.2.2.2) r6 g7) (cwV 0 F.ts gX8_build_X8_save rfl rfl rfl hd_X8_save ⟨Nat.le_of_ble_eq_true rfl, Nat.le_of_ble_eq_true rfl⟩) rfl dX8_build_27 Fit.whole fstX8 rfl rfl (Nat.le_of_ble_eq_true rfl) (Nat.zero_le _) (Nat.zero_le _) rfl rfl rfl ?_
      refine V_iconst (v := 0) (pc := 30) F dX8_build_30 (by decide) ?_
      refine V_istore_n (L2 := [(1, .int 0), (0, .ref (a 0))]) (pc := 31) F dX8_build_31 rfl (by decide) rfl ?_
      refine V.sub [1, 0] rfl ?_
      obtain ⟨u12, g13, hf⟩ := bind_of hf
      refine K32 N r6 0 u12 g13 ?_
      refine V_aload_n (pc := 54) F dX8_build_54 rfl 0 rfl ?_
      refine V_iconst (v := 0) (pc := 55) F dX8_build_55 (by decide) ?_
      refine V_put (w2 := wX8 cy a (u12.1.1, u12.1.2.1, u12.1.2.2.1, u12.1.2.2.2.1, u12.1.2.2.2.2.1, 0, u12.1.2.2.2.2.2.2)) (pc := 56) F 0 8 5 i_X8 tyX8 tyX8_ok nmX8 rfl (by decide) rfl (mm 3 rfl) rfl dX8_build_56 rfl rfl rfl (Nat.le_of_ble_eq_true rfl) rfl ?_
      refine V_iload_n (pc := 59) F dX8_build_59 rfl 1 rfl ?_
      obtain rfl := some_of hf
      exact V_ret F rfl rfl dX8_build_60 rfl rfl
    · exact absurd h5 (show ¬ (¬ ((0 : Int32) ≤ (0 : Int32))) by decide)
