theorem hd_X8_start : yX8_start.cls = RX8 ∧ yX8_start.cls ≠ "java/lang/invoke/MethodHandle" ∧ yX8_start.cls ≠ "java/lang/invoke/VarHandle" ∧ (parseMethodDescriptor yX8_start.desc).map (fun d => d.parameters.length) = some 1 := by decide +kernel
def fX8_start_L60 (N : Nat) (z1 : Int32) : Nat → SX8 → Int32 → Option (SX8)
  | 0, _, _ => none
  | n + 1, v, z2 =>
    if 6 ≤ z2 then
      some v
    else
      chk ((13 : Int32) + z2) 143 (
        nmd (upd v.2.1 ((13 : Int32) + z2).toNatClampNeg ((-1) : Int32)) fun f22 =>
        fX8_start_L60 N z1 n (v.1, f22, v.2.2) (z2 + 1)
      )
def fX8_start (N : Nat) (v : SX8) (x1 : Int32) : Option (Int32 × SX8) :=
  (fX8_isPhase N v x1).bind fun r1 =>
    if r1 = 0 then
      some (0, (1, v.2))
    else
      (fX8_save N (0, v.2)).bind fun r6 =>
        chk 2 143 (
          nmd (upd r6.2.1 (2 : Int32).toNatClampNeg x1) fun f9 =>
          chk 3 143 (
            nmd (upd f9 (3 : Int32).toNatClampNeg (0 : Int32)) fun f12 =>
            chk 4 143 (
              nmd (upd f12 (4 : Int32).toNatClampNeg (0 : Int32)) fun f15 =>
              chk 5 143 (
                nmd (upd f15 (5 : Int32).toNatClampNeg ((-1) : Int32)) fun f18 =>
                (fX8_start_L60 N x1 N (r6.1, f18, r6.2.2) 0).bind fun u24 =>
                  (fX8_greens N u24 x1).bind fun r26 =>
                    some (r26, u24)
              )
            )
          )
        )
set_option maxHeartbeats 8000000 in
set_option maxRecDepth 100000 in
theorem M_X8_start (l : Launch) (D : va_G) (cy : Nat → ClassId) (N : Nat) (a : Nat → Nat) (v : SX8) (x1 : Int32) (o : Int32 × SX8) (hf : fX8_start N v x1 = some o) : okM l yX8_start wsX8_start (rmz 2 43) D cy [.ref (a 0), .int x1] (wX8 cy a v) (wX8 cy a o.2) (some (.int o.1)) := by
  refine okM_of (own := RX8) (nme := "start") (cc := cX8_start) (maxL := 3) (ret := (some .int)) (by decide) rfl rfl rfl (Nat.le_of_ble_eq_true rfl) ?_
  intro p e s m args below meth c A F
  have i_X8 : ∀ w ∈ u_ws RX8 TX8 13, w ∈ wsX8_start := fun _ h => List.mem_cons_of_mem _ (List.mem_append_right _ h)
  have K60 : ∀ (n : Nat) (z1 : Int32) (v : SX8) (z2 : Int32) (u : SX8), fX8_start_L60 N z1 n v z2 = some u → V p l e (rmz 2 43) s m args below meth c 3 D A 0 0 (MQ below (ok_Q D (wX8 cy a o.2) (some (.int o.1)) A) args s 0 0 A) (wX8 cy a u) [(0, .ref (a 0)), (1, .int z1)] [] 82 → V p l e (rmz 2 43) s m args below meth c 3 D A 0 0 (MQ below (ok_Q D (wX8 cy a o.2) (some (.int o.1)) A) args s 0 0 A) (wX8 cy a v) [(0, .ref (a 0)), (1, .int z1), (2, .int z2)] [] 60 := by
    intro n
    induction n with
    | zero =>
      intro z1 v z2 u hf hk
      exact nomatch (show (none : Option (SX8)) = some u from hf)
    | succ n ih =>
      intro z1 v z2 u hf hk
      rw [fX8_start_L60] at hf
      refine V_iload_n (pc := 60) F dX8_start_60 rfl 2 rfl ?_
      refine V_bipush (v := 6) (pc := 61) F dX8_start_61 (by decide) ?_
      refine V_icmp_ge (pc := 63) (tgt := 82) F dX8_start_63 (by decide) (fun h20 => ?_) (fun h20 => ?_)
      · replace hf := ite_pos hf h20
        obtain rfl := some_of hf
        exact V.sub [0, 1] rfl hk
      · replace hf := ite_neg hf h20
        refine V_aload_n (pc := 66) F dX8_start_66 rfl 0 rfl ?_
        refine V_get (pc := 67) F 0 8 1 i_X8 rfl (by decide) rfl (mm 2 rfl) dX8_start_67 rfl rfl ?_
        refine V_bipush (v := 13) (pc := 70) F dX8_start_70 (by decide) ?_
        refine V_iload_n (pc := 72) F dX8_start_72 rfl 2 rfl ?_
        refine V_iadd (pc := 73) F dX8_start_73 ?_
        refine V_iconst (v := (-1)) (pc := 74) F dX8_start_74 (by decide) ?_
        obtain ⟨c21, hf⟩ := chk_some hf
        obtain ⟨f22, e23, hf⟩ := nmd_of hf
        refine V_iast (w2 := wX8 cy a (v.1, f22, v.2.2)) (pc := 75) F 1 rfl c21 e23 dX8_start_75 rfl ?_
        refine V_iinc (v := (z2 + 1)) (L2 := [(2, .int (z2 + 1)), (0, .ref (a 0)), (1, .int z1)]) (pc := 76) F dX8_start_76 2 rfl rfl (by decide) rfl ?_
        refine V_goto (pc := 79) (tgt := 60) F dX8_start_79 (by decide) ?_
        refine V.sub [1, 2, 0] rfl ?_
        exact ih z1 (v.1, f22, v.2.2) (z2 + 1) _ hf hk
  unfold fX8_start at hf
  refine V.eq rfl (show lv_args 0 [.ref (a 0), .int x1] = [(0, .ref (a 0)), (1, .int x1)] from rfl) rfl ?_
  refine V_aload_n (pc := 0) F dX8_start_0 rfl 0 rfl ?_
  refine V_aload_n (pc := 1) F dX8_start_1 rfl 0 rfl ?_
  refine V_iload_n (pc := 2) F dX8_start_2 rfl 1 rfl ?_
  obtain ⟨r1, g2, hf⟩ := bind_of hf
  refine V_V (w2 := wX8 cy a v) (rest := [.ref (a 0)]) (st2 := [.int r1, .ref (a 0)]) (pc := 3) F 8 (M_X8_isPhase l D cy N a v x1 r1 g2) (cwV 1 F.ts gX8_start_X8_isPhase rfl rfl rfl hd_X8_isPhase ⟨Nat.le_of_ble_eq_true rfl, Nat.le_of_ble_eq_true rfl⟩) rfl dX8_start_3 Fit.whole rfl rfl rfl (Nat.le_of_ble_eq_true rfl) (Nat.zero_le _) (Nat.zero_le _) rfl rfl rfl ?_
  refine V_if_eq (pc := 6) (tgt := 13) F dX8_start_6 (by decide) (fun h3 => ?_) (fun h3 => ?_)
  · replace hf := ite_pos hf h3
    refine V_iconst (v := 1) (pc := 13) F dX8_start_13 (by decide) ?_
    refine V_put (w2 := wX8 cy a (1, v.2)) (pc := 14) F 0 8 0 i_X8 tyX8 tyX8_ok nmX8 rfl (by decide) rfl (mm 1 rfl) rfl dX8_start_14 rfl rfl rfl (Nat.le_of_ble_eq_true rfl) rfl ?_
    refine V_aload_n (pc := 17) F dX8_start_17 rfl 0 rfl ?_
    refine V_get (pc := 18) F 0 8 0 i_X8 rfl (by decide) rfl (mm 1 rfl) dX8_start_18 rfl rfl ?_
    refine V_if_le (pc := 21) (tgt := 26) F dX8_start_21 (by decide) (fun h4 => ?_) (fun h4 => ?_)
    · exact absurd h4 (show ¬ ((1 : Int32) ≤ (0 : Int32)) by decide)
    · refine V_iconst (v := 0) (pc := 24) F dX8_start_24 (by decide) ?_
      obtain rfl := some_of hf
      exact V_ret F rfl rfl dX8_start_25 rfl rfl
  · replace hf := ite_neg hf h3
    refine V_iconst (v := 0) (pc := 9) F dX8_start_9 (by decide) ?_
    refine V_goto (pc := 10) (tgt := 14) F dX8_start_10 (by decide) ?_
    refine V_put (w2 := wX8 cy a (0, v.2)) (pc := 14) F 0 8 0 i_X8 tyX8 tyX8_ok nmX8 rfl (by decide) rfl (mm 1 rfl) rfl dX8_start_14 rfl rfl rfl (Nat.le_of_ble_eq_true rfl) rfl ?_
    refine V_aload_n (pc := 17) F dX8_start_17 rfl 0 rfl ?_
    refine V_get (pc := 18) F 0 8 0 i_X8 rfl (by decide) rfl (mm 1 rfl) dX8_start_18 rfl rfl ?_
    refine V_if_le (pc := 21) (tgt := 26) F dX8_start_21 (by decide) (fun h5 => ?_) (fun h5 => ?_)
    · refine V_aload_n (pc := 26) F dX8_start_26 rfl 0 rfl ?_
      obtain ⟨r6, g7, hf⟩ := bind_of hf
      refine V_V (w2 := wX8 cy a r6) (rest := []) (st2 := []) (pc := 27) F 8 (M_X8_save l D cy N a (0, v.2) r6 g7) (cwV 0 F.ts gX8_start_X8_save rfl rfl rfl hd_X8_save ⟨Nat.le_of_ble_eq_true rfl, Nat.le_of_ble_eq_true rfl⟩) rfl dX8_start_27 Fit.whole fstX8 rfl rfl (Nat.le_of_ble_eq_true rfl) (Nat.zero_le _) (Nat.zero_le _) rfl rfl rfl ?_
      refine V_aload_n (pc := 30) F dX8_start_30 rfl 0 rfl ?_
      refine V_get (pc := 31) F 0 8 1 i_X8 rfl (by decide) rfl (mm 2 rfl) dX8_start_31 rfl rfl ?_
      refine V_iconst (v := 2) (pc := 34) F dX8_start_34 (by decide) ?_
      refine V_iload_n (pc := 35) F dX8_start_35 rfl 1 rfl ?_
      obtain ⟨c8, hf⟩ := chk_some hf
      obtain ⟨f9, e10, hf⟩ := nmd_of hf
      refine V_iast (w2 := wX8 cy a (r6.1, f9, r6.2.2)) (pc := 36) F 1 rfl c8 e10 dX8_start_36 rfl ?_
      refine V_aload_n (pc := 37) F dX8_start_37 rfl 0 rfl ?_
      refine V_get (pc := 38) F 0 8 1 i_X8 rfl (by decide) rfl (mm 2 rfl) dX8_start_38 rfl rfl ?_
      refine V_iconst (v := 3) (pc := 41) F dX8_start_41 (by decide) ?_
      refine V_iconst (v := 0) (pc := 42) F dX8_start_42 (by decide) ?_
      obtain ⟨c11, hf⟩ := chk_some hf
      obtain ⟨f12, e13, hf⟩ := nmd_of hf
      refine V_iast (w2 := wX8 cy a (r6.1, f12, r6.2.2)) (pc := 43) F 1 rfl c11 e13 dX8_start_43 rfl ?_
      refine V_aload_n (pc := 44) F dX8_start_44 rfl 0 rfl ?_
      refine V_get (pc := 45) F 0 8 1 i_X8 rfl (by decide) rfl (mm 2 rfl) dX8_start_45 rfl rfl ?_
      refine V_iconst (v := 4) (pc := 48) F dX8_start_48 (by decide) ?_
      refine V_iconst (v := 0) (pc := 49) F dX8_start_49 (by decide) ?_
      obtain ⟨c14, hf⟩ := chk_some hf
      obtain ⟨f15, e16, hf⟩ := nmd_of hf
      refine V_iast (w2 := wX8 cy a (r6.1, f15, r6.2.2)) (pc := 50) F 1 rfl c14 e16 dX8_start_50 rfl ?_
      refine V_aload_n (pc := 51) F dX8_start_51 rfl 0 rfl ?_
      refine V_get (pc := 52) F 0 8 1 i_X8 rfl (by decide) rfl (mm 2 rfl) dX8_start_52 rfl rfl ?_
      refine V_iconst (v := 5) (pc := 55) F dX8_start_55 (by decide) ?_
      refine V_iconst (v := (-1)) (pc := 56) F dX8_start_56 (by decide) ?_
      obtain ⟨c17, hf⟩ := chk_some hf
      obtain ⟨f18, e19, hf⟩ := nmd_of hf
      refine V_iast (w2 := wX8 cy a (r6.1, f18, r6.2.2)) (pc := 57) F 1 rfl c17 e19 dX8_start_57 rfl ?_
      refine V_iconst (v := 0) (pc := 58) F dX8_start_58 (by decide) ?_
      refine V_istore_n (L2 := [(2, .int 0), (0, .ref (a 0)), (1, .int x1)]) (pc := 59) F dX8_start_59 rfl (by decide) rfl ?_
      refine V.sub [1, 2, 0] rfl ?_
      obtain ⟨u24, g25, hf⟩ := bind_of hf
      refine K60 N x1 (r6.1, f18, r6.2.2) 0 u24 g25 ?_
      refine V_aload_n (pc := 82) F dX8_start_82 rfl 0 rfl ?_
      refine V_iload_n (pc := 83) F dX8_start_83 rfl 1 rfl ?_
      obtain ⟨r26, g27, hf⟩ := bind_of hf
      refine V_V (w2 := wX8 cy a u24) (rest := []) (st2 := [.int r26]) (pc := 84) F 8 (M_X8_greens l D cy N a u24 x1 r26 g27) (cwV 1 F.ts gX8_start_X8_greens rfl rfl rfl hd_X8_greens ⟨Nat.le_of_ble_eq_true rfl, Nat.le_of_ble_eq_true rfl⟩) rfl dX8_start_84 Fit.whole rfl rfl rfl (Nat.le_of_ble_eq_true rfl) (Nat.zero_le _) (Nat.zero_le _) rfl rfl rfl ?_
      obtain rfl := some_of hf
      exact V_ret F rfl rfl dX8_start_87 rfl rfl
    · exact absurd h5 (show ¬ (¬ ((0 : Int32) ≤ (0 : Int32))) by decide)
