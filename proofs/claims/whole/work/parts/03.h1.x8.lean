theorem hd_X8_whyNotPhase : yX8_whyNotPhase.cls = RX8 ∧ yX8_whyNotPhase.cls ≠ "java/lang/invoke/MethodHandle" ∧ yX8_whyNotPhase.cls ≠ "java/lang/invoke/VarHandle" ∧ (parseMethodDescriptor yX8_whyNotPhase.desc).map (fun d => d.parameters.length) = some 2 := by decide +kernel
def fX8_whyNotPhase (N : Nat) (v : SX8) (x1 : Int32) (x2 : Int32) : Option (Int32) :=
  (fX8_in N x1 0 63).bind fun r1 =>
    if r1 = 0 then
      some 1
    else
      (fX8_in N x2 1 9).bind fun r4 =>
        if r4 = 0 then
          some 1
        else
          chk 0 143 (
            if (v.2.1 (0 : Int32).toNatClampNeg) = 8 then
              some 2
            else
              some 0
          )
set_option maxHeartbeats 8000000 in
set_option maxRecDepth 100000 in
theorem M_X8_whyNotPhase (l : Launch) (D : va_G) (cy : Nat → ClassId) (N : Nat) (a : Nat → Nat) (v : SX8) (x1 : Int32) (x2 : Int32) (o : Int32) (hf : fX8_whyNotPhase N v x1 x2 = some o) : okM l yX8_whyNotPhase wsX8_whyNotPhase (rmz 1 22) D cy [.ref (a 0), .int x1, .int x2] (wX8 cy a v) (wX8 cy a v) (some (.int o)) := by
  refine okM_of (own := RX8) (nme := "whyNotPhase") (cc := cX8_whyNotPhase) (maxL := 3) (ret := (some .int)) (by decide) rfl rfl rfl (Nat.le_of_ble_eq_true rfl) ?_
  intro p e s m args below meth c A F
  have i_X8 : ∀ w ∈ u_ws RX8 TX8 13, w ∈ wsX8_whyNotPhase := fun _ h => List.mem_cons_of_mem _ (List.mem_append_right _ h)
  unfold fX8_whyNotPhase at hf
  refine V.eq rfl (show lv_args 0 [.ref (a 0), .int x1, .int x2] = [(0, .ref (a 0)), (1, .int x1), (2, .int x2)] from rfl) rfl ?_
  refine V_iload_n (pc := 0) F dX8_whyNotPhase_0 rfl 1 rfl ?_
  refine V_iconst (v := 0) (pc := 1) F dX8_whyNotPhase_1 (by decide) ?_
  refine V_bipush (v := 63) (pc := 2) F dX8_whyNotPhase_2 (by decide) ?_
  obtain ⟨r1, g2, hf⟩ := bind_of hf
  refine V_Sc (rest := []) (st2 := [.int r1]) (pc := 4) F (M_X8_in l D cy N x1 0 63 r1 g2) (va_cwS 3 F.ts gX8_whyNotPhase_X8_in rfl rfl rfl hd_X8_in ⟨Nat.le_of_ble_eq_true rfl, Nat.le_of_ble_eq_true rfl⟩) rfl dX8_whyNotPhase_4 (Nat.le_of_ble_eq_true rfl) (Nat.zero_le _) (Nat.zero_le _) rfl rfl ?_
  refine V_if_eq (pc := 7) (tgt := 20) F dX8_whyNotPhase_7 (by decide) (fun h3 => ?_) (fun h3 => ?_)
  · replace hf := ite_pos hf h3
    refine V_iconst (v := 1) (pc := 20) F dX8_whyNotPhase_20 (by decide) ?_
    refine V_goto (pc := 21) (tgt := 40) F dX8_whyNotPhase_21 (by decide) ?_
    obtain rfl := some_of hf
    exact V_ret F rfl rfl dX8_whyNotPhase_40 rfl rfl
  · replace hf := ite_neg hf h3
    refine V_iload_n (pc := 10) F dX8_whyNotPhase_10 rfl 2 rfl ?_
    refine V_iconst (v := 1) (pc := 11) F dX8_whyNotPhase_11 (by decide) ?_
    refine V_bipush (v := 9) (pc := 12) F dX8_whyNotPhase_12 (by decide) ?_
    obtain ⟨r4, g5, hf⟩ := bind_of hf
    refine V_Sc (rest := []) (st2 := [.int r4]) (pc := 14) F (M_X8_in l D cy N x2 1 9 r4 g5) (va_cwS 3 F.ts gX8_whyNotPhase_X8_in rfl rfl rfl hd_X8_in ⟨Nat.le_of_ble_eq_true rfl, Nat.le_of_ble_eq_true rfl⟩) rfl dX8_whyNotPhase_14 (Nat.le_of_ble_eq_true rfl) (Nat.zero_le _) (Nat.zero_le _) rfl rfl ?_
    refine V_if_ne (pc := 17) (tgt := 24) F dX8_whyNotPhase_17 (by decide) (fun h6 => ?_) (fun h6 => ?_)
    · replace hf := ite_neg hf h6
      refine V_aload_n (pc := 24) F dX8_whyNotPhase_24 rfl 0 rfl ?_
      refine V_get (pc := 25) F 0 8 1 i_X8 rfl (by decide) rfl (mm 1 rfl) dX8_whyNotPhase_25 rfl rfl ?_
      refine V_iconst (v := 0) (pc := 28) F dX8_whyNotPhase_28 (by decide) ?_
      obtain ⟨c7, hf⟩ := chk_some hf
      refine V_iald (pc := 29) F 1 rfl c7 dX8_whyNotPhase_29 ?_
      refine V_bipush (v := 8) (pc := 30) F dX8_whyNotPhase_30 (by decide) ?_
      refine V_icmp_ne (pc := 32) (tgt := 39) F dX8_whyNotPhase_32 (by decide) (fun h8 => ?_) (fun h8 => ?_)
      · replace hf := ite_neg hf h8
        refine V_iconst (v := 0) (pc := 39) F dX8_whyNotPhase_39 (by decide) ?_
        obtain rfl := some_of hf
        exact V_ret F rfl rfl dX8_whyNotPhase_40 rfl rfl
      · replace hf := ite_pos hf h8
        refine V_iconst (v := 2) (pc := 35) F dX8_whyNotPhase_35 (by decide) ?_
        refine V_goto (pc := 36) (tgt := 40) F dX8_whyNotPhase_36 (by decide) ?_
        obtain rfl := some_of hf
        exact V_ret F rfl rfl dX8_whyNotPhase_40 rfl rfl
    · replace hf := ite_pos hf h6
      refine V_iconst (v := 1) (pc := 20) F dX8_whyNotPhase_20 (by decide) ?_
      refine V_goto (pc := 21) (tgt := 40) F dX8_whyNotPhase_21 (by decide) ?_
      obtain rfl := some_of hf
      exact V_ret F rfl rfl dX8_whyNotPhase_40 rfl rfl
theorem hd_X8_phaseAdded : yX8_phaseAdded.cls = RX8 ∧ yX8_phaseAdded.cls ≠ "java/lang/invoke/MethodHandle" ∧ yX8_phaseAdded.cls ≠ "java/lang/invoke/VarHandle" ∧ (parseMethodDescriptor yX8_phaseAdded.desc).map (fun d => d.parameters.length) = some 2 := by decide +kernel
def fX8_phaseAdded_L10 (N : Nat) (z1 : Int32) (z2 : Int32) (z3 : Int32) : Nat → SX8 → Int32 → Option (SX8)
  | 0, _, _ => none
  | n + 1, v, z4 =>
    if 14 ≤ z4 then
      some v
    else
      chk (((31 : Int32) + ((14 : Int32) * z3)) + z4) 143 (
        nmd (upd v.2.1 (((31 : Int32) + ((14 : Int32) * z3)) + z4).toNatClampNeg (0 : Int32)) fun f4 =>
        fX8_phaseAdded_L10 N z1 z2 z3 n (v.1, f4, v.2.2) (z4 + 1)
      )
def fX8_phaseAdded (N : Nat) (v : SX8) (x1 : Int32) (x2 : Int32) : Option (Int32 × SX8) :=
  chk 0 143 (
    (fX8_phaseAdded_L10 N x1 x2 (v.2.1 (0 : Int32).toNatClampNeg) N v 0).bind fun u6 =>
      chk (((31 : Int32) + ((14 : Int32) * (v.2.1 (0 : Int32).toNatClampNeg))) + 0) 143 (
        nmd (upd u6.2.1 (((31 : Int32) + ((14 : Int32) * (v.2.1 (0 : Int32).toNatClampNeg))) + 0).toNatClampNeg x1) fun f9 =>
        chk (((31 : Int32) + ((14 : Int32) * (v.2.1 (0 : Int32).toNatClampNeg))) + 1) 143 (
          nmd (upd f9 (((31 : Int32) + ((14 : Int32) * (v.2.1 (0 : Int32).toNatClampNeg))) + 1).toNatClampNeg x2) fun f12 =>
          chk 0 143 (
            chk 0 143 (
              nmd (upd f12 (0 : Int32).toNatClampNeg ((f12 (0 : Int32).toNatClampNeg) + 1)) fun f16 =>
              if (v.2.1 (0 : Int32).toNatClampNeg) = 0 then
                chk 2 143 (
                  nmd (upd f16 (2 : Int32).toNatClampNeg (0 : Int32)) fun f24 =>
                  some ((v.2.1 (0 : Int32).toNatClampNeg), (u6.1, f24, u6.2.2))
                )
              else
                chk 2 143 (
                  chk 2 143 (
                    nmd (upd f16 (2 : Int32).toNatClampNeg (f16 (2 : Int32).toNatClampNeg)) fun f21 =>
                    some ((v.2.1 (0 : Int32).toNatClampNeg), (u6.1, f21, u6.2.2))
                  )
                )
            )
          )
        )
      )
  )
set_option maxHeartbeats 8000000 in
set_option maxRecDepth 100000 in
theorem M_X8_phaseAdded (l : Launch) (D : va_G) (cy : Nat → ClassId) (N : Nat) (a : Nat → Nat) (v : SX8) (x1 : Int32) (x2 : Int32) (o : Int32 × SX8) (hf : fX8_phaseAdded N v x1 x2 = some o) : okM l yX8_phaseAdded wsX8_phaseAdded (rmz 0 0) D cy [.ref (a 0), .int x1, .int x2] (wX8 cy a v) (wX8 cy a o.2) (some (.int o.1)) := by
  refine okM_of (own := RX8) (nme := "phaseAdded") (cc := cX8_phaseAdded) (maxL := 5) (ret := (some .int)) (by decide) rfl rfl rfl (Nat.le_of_ble_eq_true rfl) ?_
  intro p e s m args below meth c A F
  have i_X8 : ∀ w ∈ u_ws RX8 TX8 13, w ∈ wsX8_phaseAdded := fun _ h => List.mem_cons_of_mem _ (List.mem_append_right _ h)
  have K10 : ∀ (n : Nat) (z1 : Int32) (z2 : Int32) (z3 : Int32) (v : SX8) (z4 : Int32) (u : SX8), fX8_phaseAdded_L10 N z1 z2 z3 n v z4 = some u → V p l e (rmz 0 0) s m args below meth c 5 D A 0 0 (MQ below (ok_Q D (wX8 cy a o.2) (some (.int o.1)) A) args s 0 0 A) (wX8 cy a u) [(0, .ref (a 0)), (1, .int z1), (2, .int z2), (3, .int z3)] [] 39 → V p l e (rmz 0 0) s m args below meth c 5 D A 0 0 (MQ below (ok_Q D (wX8 cy a o.2) (some (.int o.1)) A) args s 0 0 A) (wX8 cy a v) [(0, .ref (a 0)), (1, .int z1), (2, .int z2), (3, .int z3), (4, .int z4)] [] 10 := by
    intro n
    induction n with
    | zero =>
      intro z1 z2 z3 v z4 u hf hk
      exact nomatch (show (none : Option (SX8)) = some u from hf)
    | succ n ih =>
      intro z1 z2 z3 v z4 u hf hk
      rw [fX8_phaseAdded_L10] at hf
      refine V_iload (pc := 10) F dX8_phaseAdded_10 4 rfl ?_
      refine V_bipush (v := 14) (pc := 12) F dX8_phaseAdded_12 (by decide) ?_
      refine V_icmp_ge (pc := 14) (tgt := 39) F dX8_phaseAdded_14 (by decide) (fun h2 => ?_) (fun h2 => ?_)
      · replace hf := ite_pos hf h2
        obtain rfl := some_of hf
        exact V.sub [0, 1, 2, 3] rfl hk
      · replace hf := ite_neg hf h2
        refine V_aload_n (pc := 17) F dX8_phaseAdded_17 rfl 0 rfl ?_
        refine V_get (pc := 18) F 0 8 1 i_X8 rfl (by decide) rfl (mm 1 rfl) dX8_phaseAdded_18 rfl rfl ?_
        refine V_bipush (v := 31) (pc := 21) F dX8_phaseAdded_21 (by decide) ?_
        refine V_bipush (v := 14) (pc := 23) F dX8_phaseAdded_23 (by decide) ?_
        refine V_iload_n (pc := 25) F dX8_phaseAdded_25 rfl 3 rfl ?_
        refine V_imul (pc := 26) F dX8_phaseAdded_26 ?_
        refine V_iadd (pc := 27) F dX8_phaseAdded_27 ?_
        refine V_iload (pc := 28) F dX8_phaseAdded_28 4 rfl ?_
        refine V_iadd (pc := 30) F dX8_phaseAdded_30 ?_
        refine V_iconst (v := 0) (pc := 31) F dX8_phaseAdded_31 (by decide) ?_
        obtain ⟨c3, hf⟩ := chk_some hf
        obtain ⟨f4, e5, hf⟩ := nmd_of hf
        refine V_iast (w2 := wX8 cy a (v.1, f4, v.2.2)) (pc := 32) F 1 rfl c3 e5 dX8_phaseAdded_32 rfl ?_
        refine V_iinc (v := (z4 + 1)) (L2 := [(4, .int (z4 + 1)), (0, .ref (a 0)), (1, .int z1), (2, .int z2), (3, .int z3)]) (pc := 33) F dX8_phaseAdded_33 4 rfl rfl (by decide) rfl ?_
        refine V_goto (pc := 36) (tgt := 10) F dX8_phaseAdded_36 (by decide) ?_
        refine V.sub [1, 2, 3, 4, 0] rfl ?_
        exact ih z1 z2 z3 (v.1, f4, v.2.2) (z4 + 1) _ hf hk
  unfold fX8_phaseAdded at hf
  refine V.eq rfl (show lv_args 0 [.ref (a 0), .int x1, .int x2] = [(0, .ref (a 0)), (1, .int x1), (2, .int x2)] from rfl) rfl ?_
  refine V_aload_n (pc := 0) F dX8_phaseAdded_0 rfl 0 rfl ?_
  refine V_get (pc := 1) F 0 8 1 i_X8 rfl (by decide) rfl (mm 1 rfl) dX8_phaseAdded_1 rfl rfl ?_
  refine V_iconst (v := 0) (pc := 4) F dX8_phaseAdded_4 (by decide) ?_
  obtain ⟨c1, hf⟩ := chk_some hf
  refine V_iald (pc := 5) F 1 rfl c1 dX8_phaseAdded_5 ?_
  refine V_istore_n (L2 := [(3, .int (v.2.1 (0 : Int32).toNatClampNeg)), (0, .ref (a 0)), (1, .int x1), (2, .int x2)]) (pc := 6) F dX8_phaseAdded_6 rfl (by decide) rfl ?_
  refine V_iconst (v := 0) (pc := 7) F dX8_phaseAdded_7 (by decide) ?_
  refine V_istore (L2 := [(4, .int 0), (3, .int (v.2.1 (0 : Int32).toNatClampNeg)), (0, .ref (a 0)), (1, .int x1), (2, .int x2)]) (pc := 8) F dX8_phaseAdded_8 (by decide) rfl ?_
  refine V.sub [2, 3, 4, 1, 0] rfl ?_
  obtain ⟨u6, g7, hf⟩ := bind_of hf
  refine K10 N x1 x2 (v.2.1 (0 : Int32).toNatClampNeg) v 0 u6 g7 ?_
  refine V_aload_n (pc := 39) F dX8_phaseAdded_39 rfl 0 rfl ?_
  refine V_get (pc := 40) F 0 8 1 i_X8 rfl (by decide) rfl (mm 1 rfl) dX8_phaseAdded_40 rfl rfl ?_
  refine V_bipush (v := 31) (pc := 43) F dX8_phaseAdded_43 (by decide) ?_
  refine V_bipush (v := 14) (pc := 45) F dX8_phaseAdded_45 (by decide) ?_
  refine V_iload_n (pc := 47) F dX8_phaseAdded_47 rfl 3 rfl ?_
  refine V_imul (pc := 48) F dX8_phaseAdded_48 ?_
  refine V_iadd (pc := 49) F dX8_phaseAdded_49 ?_
  refine V_iconst (v := 0) (pc := 50) F dX8_phaseAdded_50 (by decide) ?_
  refine V_iadd (pc := 51) F dX8_phaseAdded_51 ?_
  refine V_iload_n (pc := 52) F dX8_phaseAdded_52 rfl 1 rfl ?_
  obtain ⟨c8, hf⟩ := chk_some hf
  obtain ⟨f9, e10, hf⟩ := nmd_of hf
  refine V_iast (w2 := wX8 cy a (u6.1, f9, u6.2.2)) (pc := 53) F 1 rfl c8 e10 dX8_phaseAdded_53 rfl ?_
  refine V_aload_n (pc := 54) F dX8_phaseAdded_54 rfl 0 rfl ?_
  refine V_get (pc := 55) F 0 8 1 i_X8 rfl (by decide) rfl (mm 1 rfl) dX8_phaseAdded_55 rfl rfl ?_
  refine V_bipush (v := 31) (pc := 58) F dX8_phaseAdded_58 (by decide) ?_
  refine V_bipush (v := 14) (pc := 60) F dX8_phaseAdded_60 (by decide) ?_
  refine V_iload_n (pc := 62) F dX8_phaseAdded_62 rfl 3 rfl ?_
  refine V_imul (pc := 63) F dX8_phaseAdded_63 ?_
  refine V_iadd (pc := 64) F dX8_phaseAdded_64 ?_
  refine V_iconst (v := 1) (pc := 65) F dX8_phaseAdded_65 (by decide) ?_
  refine V_iadd (pc := 66) F dX8_phaseAdded_66 ?_
  refine V_iload_n (pc := 67) F dX8_phaseAdded_67 rfl 2 rfl ?_
  obtain ⟨c11, hf⟩ := chk_some hf
  obtain ⟨f12, e13, hf⟩ := nmd_of hf
  refine V_iast (w2 := wX8 cy a (u6.1, f12, u6.2.2)) (pc := 68) F 1 rfl c11 e13 dX8_phaseAdded_68 rfl ?_
  refine V_aload_n (pc := 69) F dX8_phaseAdded_69 rfl 0 rfl ?_
  refine V_get (pc := 70) F 0 8 1 i_X8 rfl (by decide) rfl (mm 1 rfl) dX8_phaseAdded_70 rfl rfl ?_
  refine V_iconst (v := 0) (pc := 73) F dX8_phaseAdded_73 (by decide) ?_
  refine V_dup2_11 (pc := 74) F dX8_phaseAdded_74 rfl rfl ?_
  obtain ⟨c14, hf⟩ := chk_some hf
  refine V_iald (pc := 75) F 1 rfl c14 dX8_phaseAdded_75 ?_
  refine V_iconst (v := 1) (pc := 76) F dX8_phaseAdded_76 (by decide) ?_
  refine V_iadd (pc := 77) F dX8_phaseAdded_77 ?_
  obtain ⟨c15, hf⟩ := chk_some hf
  obtain ⟨f16, e17, hf⟩ := nmd_of hf
  refine V_iast (w2 := wX8 cy a (u6.1, f16, u6.2.2)) (pc := 78) F 1 rfl c15 e17 dX8_phaseAdded_78 rfl ?_
  refine V_aload_n (pc := 79) F dX8_phaseAdded_79 rfl 0 rfl ?_
  refine V_get (pc := 80) F 0 8 1 i_X8 rfl (by decide) rfl (mm 1 rfl) dX8_phaseAdded_80 rfl rfl ?_
  refine V_iconst (v := 2) (pc := 83) F dX8_phaseAdded_83 (by decide) ?_
  refine V_iload_n (pc := 84) F dX8_phaseAdded_84 rfl 3 rfl ?_
  refine V_if_ne (pc := 85) (tgt := 92) F dX8_phaseAdded_85 (by decide) (fun h18 => ?_) (fun h18 => ?_)
  · replace hf := ite_neg hf h18
    refine V_aload_n (pc := 92) F dX8_phaseAdded_92 rfl 0 rfl ?_
    refine V_get (pc := 93) F 0 8 1 i_X8 rfl (by decide) rfl (mm 1 rfl) dX8_phaseAdded_93 rfl rfl ?_
    refine V_iconst (v := 2) (pc := 96) F dX8_phaseAdded_96 (by decide) ?_
    obtain ⟨c19, hf⟩ := chk_some hf
    refine V_iald (pc := 97) F 1 rfl c19 dX8_phaseAdded_97 ?_
    obtain ⟨c20, hf⟩ := chk_some hf
    obtain ⟨f21, e22, hf⟩ := nmd_of hf
    refine V_iast (w2 := wX8 cy a (u6.1, f21, u6.2.2)) (pc := 98) F 1 rfl c20 e22 dX8_phaseAdded_98 rfl ?_
    refine V_iload_n (pc := 99) F dX8_phaseAdded_99 rfl 3 rfl ?_
    obtain rfl := some_of hf
    exact V_ret F rfl rfl dX8_phaseAdded_100 rfl rfl
  · replace hf := ite_pos hf h18
    refine V_iconst (v := 0) (pc := 88) F dX8_phaseAdded_88 (by decide) ?_
    refine V_goto (pc := 89) (tgt := 98) F dX8_phaseAdded_89 (by decide) ?_
    obtain ⟨c23, hf⟩ := chk_some hf
    obtain ⟨f24, e25, hf⟩ := nmd_of hf
    refine V_iast (w2 := wX8 cy a (u6.1, f24, u6.2.2)) (pc := 98) F 1 rfl c23 e25 dX8_phaseAdded_98 rfl ?_
    refine V_iload_n (pc := 99) F dX8_phaseAdded_99 rfl 3 rfl ?_
    obtain rfl := some_of hf
    exact V_ret F rfl rfl dX8_phaseAdded_100 rfl rfl
theorem hd_X8_addPhase : yX8_addPhase.cls = RX8 ∧ yX8_addPhase.cls ≠ "java/lang/invoke/MethodHandle" ∧ yX8_addPhase.cls ≠ "java/lang/invoke/VarHandle" ∧ (parseMethodDescriptor yX8_addPhase.desc).map (fun d => d.parameters.length) = some 2 := by decide +kernel
def fX8_addPhase (N : Nat) (v : SX8) (x1 : Int32) (x2 : Int32) : Option (Int32 × SX8) :=
  (fX8_whyNotPhase N v x1 x2).bind fun r1 =>
    if r1 ≤ 0 then
      (fX8_save N (r1, v.2)).bind fun r4 =>
        (fX8_phaseAdded N r4 x1 x2).bind fun r6 =>
          some (r6.1, r6.2)
    else
      some (0, (r1, v.2))
set_option maxHeartbeats 8000000 in
set_option maxRecDepth 100000 in
theorem M_X8_addPhase (l : Launch) (D : va_G) (cy : Nat → ClassId) (N : Nat) (a : Nat → Nat) (v : SX8) (x1 : Int32) (x2 : Int32) (o : Int32 × SX8) (hf : fX8_addPhase N v x1 x2 = some o) : okM l yX8_addPhase wsX8_addPhase (rmz 2 44) D cy [.ref (a 0), .int x1, .int x2] (wX8 cy a v) (wX8 cy a o.2) (some (.int o.1)) := by
  refine okM_of (own := RX8) (nme := "addPhase") (cc := cX8_addPhase) (maxL := 3) (ret := (some .int)) (by decide) rfl rfl rfl (Nat.le_of_ble_eq_true rfl) ?_
  intro p e s m args below meth c A F
  have i_X8 : ∀ w ∈ u_ws RX8 TX8 13, w ∈ wsX8_addPhase := fun _ h => List.mem_cons_of_mem _ (List.mem_append_right _ h)
  unfold fX8_addPhase at hf
  refine V.eq rfl (show lv_args 0 [.ref (a 0), .int x1, .int x2] = [(0, .ref (a 0)), (1, .int x1), (2, .int x2)] from rfl) rfl ?_
  refine V_aload_n (pc := 0) F dX8_addPhase_0 rfl 0 rfl ?_
  refine V_aload_n (pc := 1) F dX8_addPhase_1 rfl 0 rfl ?_
  refine V_iload_n (pc := 2) F dX8_addPhase_2 rfl 1 rfl ?_
  refine V_iload_n (pc := 3) F dX8_addPhase_3 rfl 2 rfl ?_
  obtain ⟨r1, g2, hf⟩ := bind_of hf
  refine V_V (w2 := wX8 cy a v) (rest := [.ref (a 0)]) (st2 := [.int r1, .ref (a 0)]) (pc := 4) F 8 (M_X8_whyNotPhase l D cy N a v x1 x2 r1 g2) (cwV 2 F.ts gX8_addPhase_X8_whyNotPhase rfl rfl rfl hd_X8_whyNotPhase ⟨Nat.le_of_ble_eq_true rfl, Nat.le_of_ble_eq_true rfl⟩) rfl dX8_addPhase_4 Fit.whole rfl rfl rfl (Nat.le_of_ble_eq_true rfl) (Nat.zero_le _) (Nat.zero_le _) rfl rfl rfl ?_
  refine V_put (w2 := wX8 cy a (r1, v.2)) (pc := 7) F 0 8 0 i_X8 tyX8 tyX8_ok nmX8 rfl (by decide) rfl (mm 1 rfl) rfl dX8_addPhase_7 rfl rfl rfl (Nat.le_of_ble_eq_true rfl) rfl ?_
  refine V_aload_n (pc := 10) F dX8_addPhase_10 rfl 0 rfl ?_
  refine V_get (pc := 11) F 0 8 0 i_X8 rfl (by decide) rfl (mm 1 rfl) dX8_addPhase_11 rfl rfl ?_
  refine V_if_le (pc := 14) (tgt := 19) F dX8_addPhase_14 (by decide) (fun h3 => ?_) (fun h3 => ?_)
  · replace hf := ite_pos hf h3
    refine V_aload_n (pc := 19) F dX8_addPhase_19 rfl 0 rfl ?_
    obtain ⟨r4, g5, hf⟩ := bind_of hf
    refine V_V (w2 := wX8 cy a r4) (rest := []) (st2 := []) (pc := 20) F 8 (M_X8_save l D cy N a (r1, v.2) r4 g5) (cwV 0 F.ts gX8_addPhase_X8_save rfl rfl rfl hd_X8_save ⟨Nat.le_of_ble_eq_true rfl, Nat.le_of_ble_eq_true rfl⟩) rfl dX8_addPhase_20 Fit.whole fstX8 rfl rfl (Nat.le_of_ble_eq_true rfl) (Nat.zero_le _) (Nat.zero_le _) rfl rfl rfl ?_
    refine V_aload_n (pc := 23) F dX8_addPhase_23 rfl 0 rfl ?_
    refine V_iload_n (pc := 24) F dX8_addPhase_24 rfl 1 rfl ?_
    refine V_iload_n (pc := 25) F dX8_addPhase_25 rfl 2 rfl ?_
    obtain ⟨r6, g7, hf⟩ := bind_of hf
    refine V_V (w2 := wX8 cy a r6.2) (rest := []) (st2 := [.int r6.1]) (pc := 26) F 8 (M_X8_phaseAdded l D cy N a r4 x1 x2 r6 g7) (cwV 2 F.ts gX8_addPhase_X8_phaseAdded rfl rfl rfl hd_X8_phaseAdded ⟨Nat.le_of_ble_eq_true rfl, Nat.le_of_ble_eq_true rfl⟩) rfl dX8_addPhase_26 Fit.whole fstX8 rfl rfl (Nat.le_of_ble_eq_true rfl) (Nat.zero_le _) (Nat.zero_le _) rfl rfl rfl ?_
    obtain rfl := some_of hf
    exact V_ret F rfl rfl dX8_addPhase_29 rfl rfl
  · replace hf := ite_neg hf h3
    refine V_iconst (v := 0) (pc := 17) F dX8_addPhase_17 (by decide) ?_
    obtain rfl := some_of hf
    exact V_ret F rfl rfl dX8_addPhase_18 rfl rfl
theorem hd_X8_whyNotRule : yX8_whyNotRule.cls = RX8 ∧ yX8_whyNotRule.cls ≠ "java/lang/invoke/MethodHandle" ∧ yX8_whyNotRule.cls ≠ "java/lang/invoke/VarHandle" ∧ (parseMethodDescriptor yX8_whyNotRule.desc).map (fun d => d.parameters.length) = some 3 := by decide +kernel
def fX8_whyNotRule (N : Nat) (v : SX8) (x1 : Int32) (x2 : Int32) (x3 : Int32) : Option (Int32) :=
  (fX8_isPhase N v x1).bind fun r1 =>
    if r1 = 0 then
      some 1
    else
      (fX8_isPhase N v x2).bind fun r4 =>
        if r4 = 0 then
          some 1
        else
          if x1 = x2 then
            some 2
          else
            (fX8_in N x3 0 63).bind fun r8 =>
              if r8 = 0 then
                some 2
              else
                (fX8_rules N v x1).bind fun r11 =>
                  if r11 = 4 then
                    some 3
                  else
                    some 0
set_option maxHeartbeats 8000000 in
set_option maxRecDepth 100000 in
theorem M_X8_whyNotRule (l : Launch) (D : va_G) (cy : Nat → ClassId) (N : Nat) (a : Nat → Nat) (v : SX8) (x1 : Int32) (x2 : Int32) (x3 : Int32) (o : Int32) (hf : fX8_whyNotRule N v x1 x2 x3 = some o) : okM l yX8_whyNotRule wsX8_whyNotRule (rmz 2 43) D cy [.ref (a 0), .int x1, .int x2, .int x3] (wX8 cy a v) (wX8 cy a v) (some (.int o)) := by
  refine okM_of (own := RX8) (nme := "whyNotRule") (cc := cX8_whyNotRule) (maxL := 4) (ret := (some .int)) (by decide) rfl rfl rfl (Nat.le_of_ble_eq_true rfl) ?_
  intro p e s m args below meth c A F
  unfold fX8_whyNotRule at hf
  refine V.eq rfl (show lv_args 0 [.ref (a 0), .int x1, .int x2, .int x3] = [(0, .ref (a 0)), (1, .int x1), (2, .int x2), (3, .int x3)] from rfl) rfl ?_
  refine V_aload_n (pc := 0) F dX8_whyNotRule_0 rfl 0 rfl ?_
  refine V_iload_n (pc := 1) F dX8_whyNotRule_1 rfl 1 rfl ?_
  obtain ⟨r1, g2, hf⟩ := bind_of hf
  refine V_V (w2 := wX8 cy a v) (rest := []) (st2 := [.int r1]) (pc := 2) F 8 (M_X8_isPhase l D cy N a v x1 r1 g2) (cwV 1 F.ts gX8_whyNotRule_X8_isPhase rfl rfl rfl hd_X8_isPhase ⟨Nat.le_of_ble_eq_true rfl, Nat.le_of_ble_eq_true rfl⟩) rfl dX8_whyNotRule_2 Fit.whole rfl rfl rfl (Nat.le_of_ble_eq_true rfl) (Nat.zero_le _) (Nat.zero_le _) rfl rfl rfl ?_
  refine V_if_eq (pc := 5) (tgt := 16) F dX8_whyNotRule_5 (by decide) (fun h3 => ?_) (fun h3 => ?_)
  · replace hf := ite_pos hf h3
    refine V_iconst (v := 1) (pc := 16) F dX8_whyNotRule_16 (by decide) ?_
    obtain rfl := some_of hf
    exact V_ret F rfl rfl dX8_whyNotRule_17 rfl rfl
  · replace hf := ite_neg hf h3
    refine V_aload_n (pc := 8) F dX8_whyNotRule_8 rfl 0 rfl ?_
    refine V_iload_n (pc := 9) F dX8_whyNotRule_9 rfl 2 rfl ?_
    obtain ⟨r4, g5, hf⟩ := bind_of hf
    refine V_V (w2 := wX8 cy a v) (rest := []) (st2 := [.int r4]) (pc := 10) F 8 (M_X8_isPhase l D cy N a v x2 r4 g5) (cwV 1 F.ts gX8_whyNotRule_X8_isPhase rfl rfl rfl hd_X8_isPhase ⟨Nat.le_of_ble_eq_true rfl, Nat.le_of_ble_eq_true rfl⟩) rfl dX8_whyNotRule_10 Fit.whole rfl rfl rfl (Nat.le_of_ble_eq_true rfl) (Nat.zero_le _) (Nat.zero_le _) rfl rfl rfl ?_
    refine V_if_ne (pc := 13) (tgt := 18) F dX8_whyNotRule_13 (by decide) (fun h6 => ?_) (fun h6 => ?_)
    · replace hf := ite_neg hf h6
      refine V_iload_n (pc := 18) F dX8_whyNotRule_18 rfl 1 rfl ?_
      refine V_iload_n (pc := 19) F dX8_whyNotRule_19 rfl 2 rfl ?_
      refine V_icmp_eq (pc := 20) (tgt := 33) F dX8_whyNotRule_20 (by decide) (fun h7 => ?_) (fun h7 => ?_)
      · replace hf := ite_pos hf h7
        refine V_iconst (v := 2) (pc := 33) F dX8_whyNotRule_33 (by decide) ?_
        obtain rfl := some_of hf
        exact V_ret F rfl rfl dX8_whyNotRule_34 rfl rfl
      · replace hf := ite_neg hf h7
        refine V_iload_n (pc := 23) F dX8_whyNotRule_23 rfl 3 rfl ?_
        refine V_iconst (v := 0) (pc := 24) F dX8_whyNotRule_24 (by decide) ?_
        refine V_bipush (v := 63) (pc := 25) F dX8_whyNotRule_25 (by decide) ?_
        obtain ⟨r8, g9, hf⟩ := bind_of hf
        refine V_Sc (rest := []) (st2 := [.int r8]) (pc := 27) F (M_X8_in l D cy N x3 0 63 r8 g9) (va_cwS 3 F.ts gX8_whyNotRule_X8_in rfl rfl rfl hd_X8_in ⟨Nat.le_of_ble_eq_true rfl, Nat.le_of_ble_eq_true rfl⟩) rfl dX8_whyNotRule_27 (Nat.le_of_ble_eq_true rfl) (Nat.zero_le _) (Nat.zero_le _) rfl rfl ?_
        refine V_if_ne (pc := 30) (tgt := 35) F dX8_whyNotRule_30 (by decide) (fun h10 => ?_) (fun h10 => ?_)
        · replace hf := ite_neg hf h10
          refine V_aload_n (pc := 35) F dX8_whyNotRule_35 rfl 0 rfl ?_
          refine V_iload_n (pc := 36) F dX8_whyNotRule_36 rfl 1 rfl ?_
          obtain ⟨r11, g12, hf⟩ := bind_of hf
          refine V_V (w2 := wX8 cy a v) (rest := []) (st2 := [.int r11]) (pc := 37) F 8 (M_X8_rules l D cy N a v x1 r11 g12) (cwV 1 F.ts gX8_whyNotRule_X8_rules rfl rfl rfl hd_X8_rules ⟨Nat.le_of_ble_eq_true rfl, Nat.le_of_ble_eq_true rfl⟩) rfl dX8_whyNotRule_37 Fit.whole rfl rfl rfl (Nat.le_of_ble_eq_true rfl) (Nat.zero_le _) (Nat.zero_le _) rfl rfl rfl ?_
          refine V_iconst (v := 4) (pc := 40) F dX8_whyNotRule_40 (by decide) ?_
          refine V_icmp_ne (pc := 41) (tgt := 48) F dX8_whyNotRule_41 (by decide) (fun h13 => ?_) (fun h13 => ?_)
          · replace hf := ite_neg hf h13
            refine V_iconst (v := 0) (pc := 48) F dX8_whyNotRule_48 (by decide) ?_
            obtain rfl := some_of hf
            exact V_ret F rfl rfl dX8_whyNotRule_49 rfl rfl
          · replace hf := ite_pos hf h13
            refine V_iconst (v := 3) (pc := 44) F dX8_whyNotRule_44 (by decide) ?_
            refine V_goto (pc := 45) (tgt := 49) F dX8_whyNotRule_45 (by decide) ?_
            obtain rfl := some_of hf
            exact V_ret F rfl rfl dX8_whyNotRule_49 rfl rfl
        · replace hf := ite_pos hf h10
          refine V_iconst (v := 2) (pc := 33) F dX8_whyNotRule_33 (by decide) ?_
          obtain rfl := some_of hf
          exact V_ret F rfl rfl dX8_whyNotRule_34 rfl rfl
    · replace hf := ite_pos hf h6
      refine V_iconst (v := 1) (pc := 16) F dX8_whyNotRule_16 (by decide) ?_
      obtain rfl := some_of hf
      exact V_ret F rfl rfl dX8_whyNotRule_17 rfl rfl
theorem hd_X8_ruleAdded : yX8_ruleAdded.cls = RX8 ∧ yX8_ruleAdded.cls ≠ "java/lang/invoke/MethodHandle" ∧ yX8_ruleAdded.cls ≠ "java/lang/invoke/VarHandle" ∧ (parseMethodDescriptor yX8_ruleAdded.desc).map (fun d => d.parameters.length) = some 3 := by decide +kernel
def fX8_ruleAdded (N : Nat) (v : SX8) (x1 : Int32) (x2 : Int32) (x3 : Int32) : Option (Int32 × SX8) :=
  (fX8_rules N v x1).bind fun r1 =>
    chk ((((31 : Int32) + ((14 : Int32) * x1)) + 4) + ((2 : Int32) * r1)) 143 (
      nmd (upd v.2.1 ((((31 : Int32) + ((14 : Int32) * x1)) + 4) + ((2 : Int32) * r1)).toNatClampNeg x2) fun f4 =>
      (fX8_rules N (v.1, f4, v.2.2) x1).bind fun r6 =>
        chk (((((31 : Int32) + ((14 : Int32) * x1)) + 4) + ((2 : Int32) * r6)) + 1) 143 (
          nmd (upd f4 (((((31 : Int32) + ((14 : Int32) * x1)) + 4) + ((2 : Int32) * r6)) + 1).toNatClampNeg x3) fun f9 =>
          chk (((31 : Int32) + ((14 : Int32) * x1)) + 3) 143 (
            chk (((31 : Int32) + ((14 : Int32) * x1)) + 3) 143 (
              nmd (upd f9 (((31 : Int32) + ((14 : Int32) * x1)) + 3).toNatClampNeg ((f9 (((31 : Int32) + ((14 : Int32) * x1)) + 3).toNatClampNeg) + 1)) fun f13 =>
              (fX8_rules N (v.1, f13, v.2.2) x1).bind fun r15 =>
                some (r15, (v.1, f13, v.2.2))
            )
          )
        )
    )
set_option maxHeartbeats 8000000 in
set_option maxRecDepth 100000 in
theorem M_X8_ruleAdded (l : Launch) (D : va_G) (cy : Nat → ClassId) (N : Nat) (a : Nat → Nat) (v : SX8) (x1 : Int32) (x2 : Int32) (x3 : Int32) (o : Int32 × SX8) (hf : fX8_ruleAdded N v x1 x2 x3 = some o) : okM l yX8_ruleAdded wsX8_ruleAdded (rmz 2 43) D cy [.ref (a 0), .int x1, .int x2, .int x3] (wX8 cy a v) (wX8 cy a o.2) (some (.int o.1)) := by
  refine okM_of (own := RX8) (nme := "ruleAdded") (cc := cX8_ruleAdded) (maxL := 5) (ret := (some .int)) (by decide) rfl rfl rfl (Nat.le_of_ble_eq_true rfl) ?_
  intro p e s m args below meth c A F
  have i_X8 : ∀ w ∈ u_ws RX8 TX8 13, w ∈ wsX8_ruleAdded := fun _ h => List.mem_cons_of_mem _ (List.mem_append_right _ h)
  unfold fX8_ruleAdded at hf
  refine V.eq rfl (show lv_args 0 [.ref (a 0), .int x1, .int x2, .int x3] = [(0, .ref (a 0)), (1, .int x1), (2, .int x2), (3, .int x3)] from rfl) rfl ?_
  refine V_bipush (v := 31) (pc := 0) F dX8_ruleAdded_0 (by decide) ?_
  refine V_bipush (v := 14) (pc := 2) F dX8_ruleAdded_2 (by decide) ?_
  refine V_iload_n (pc := 4) F dX8_ruleAdded_4 rfl 1 rfl ?_
  refine V_imul (pc := 5) F dX8_ruleAdded_5 ?_
  refine V_iadd (pc := 6) F dX8_ruleAdded_6 ?_
  refine V_istore (L2 := [(4, .int ((31 : Int32) + ((14 : Int32) * x1))), (0, .ref (a 0)), (1, .int x1), (2, .int x2), (3, .int x3)]) (pc := 7) F dX8_ruleAdded_7 (by decide) rfl ?_
  refine V_aload_n (pc := 9) F dX8_ruleAdded_9 rfl 1 rfl ?_
  refine V_get (pc := 10) F 0 8 1 i_X8 rfl (by decide) rfl (mm 1 rfl) dX8_ruleAdded_10 rfl rfl ?_
  refine V_iload (pc := 13) F dX8_ruleAdded_13 0 rfl ?_
  refine V_iconst (v := 4) (pc := 15) F dX8_ruleAdded_15 (by decide) ?_
  refine V_iadd (pc := 16) F dX8_ruleAdded_16 ?_
  refine V_iconst (v := 2) (pc := 17) F dX8_ruleAdded_17 (by decide) ?_
  refine V_aload_n (pc := 18) F dX8_ruleAdded_18 rfl 1 rfl ?_
  refine V_iload_n (pc := 19) F dX8_ruleAdded_19 rfl 2 rfl ?_
  obtain ⟨r1, g2, hf⟩ := bind_of hf
  refine V_V (w2 := wX8 cy a v) (rest := [.int 2, .int (((31 : Int32) + ((14 : Int32) * x1)) + 4), .ref (a 1)]) (st2 := [.int r1, .int 2, .int (((31 : Int32) + ((14 : Int32) * x1)) + 4), .ref (a 1)]) (pc := 20) F 8 (M_X8_rules l D cy N a v x1 r1 g2) (cwV 1 F.ts gX8_ruleAdded_X8_rules rfl rfl rfl hd_X8_rules ⟨Nat.le_of_ble_eq_true rfl, Nat.le_of_ble_eq_true rfl⟩) rfl dX8_ruleAdded_20 Fit.whole rfl rfl rfl (Nat.le_of_ble_eq_true rfl) (Nat.zero_le _) (Nat.zero_le _) rfl rfl rfl ?_
  refine V_imul (pc := 23) F dX8_ruleAdded_23 ?_
  refine V_iadd (pc := 24) F dX8_ruleAdded_24 ?_
  refine V_iload_n (pc := 25) F dX8_ruleAdded_25 rfl 3 rfl ?_
  obtain ⟨c3, hf⟩ := chk_some hf
  obtain ⟨f4, e5, hf⟩ := nmd_of hf
  refine V_iast (w2 := wX8 cy a (v.1, f4, v.2.2)) (pc := 26) F 1 rfl c3 e5 dX8_ruleAdded_26 rfl ?_
  refine V_aload_n (pc := 27) F dX8_ruleAdded_27 rfl 1 rfl ?_
  refine V_get (pc := 28) F 0 8 1 i_X8 rfl (by decide) rfl (mm 1 rfl) dX8_ruleAdded_28 rfl rfl ?_
  refine V_iload (pc := 31) F dX8_ruleAdded_31 0 rfl ?_
  refine V_iconst (v := 4) (pc := 33) F dX8_ruleAdded_33 (by decide) ?_
  refine V_iadd (pc := 34) F dX8_ruleAdded_34 ?_
  refine V_iconst (v := 2) (pc := 35) F dX8_ruleAdded_35 (by decide) ?_
  refine V_aload_n (pc := 36) F dX8_ruleAdded_36 rfl 1 rfl ?_
  refine V_iload_n (pc := 37) F dX8_ruleAdded_37 rfl 2 rfl ?_
  obtain ⟨r6, g7, hf⟩ := bind_of hf
  refine V_V (w2 := wX8 cy a (v.1, f4, v.2.2)) (rest := [.int 2, .int (((31 : Int32) + ((14 : Int32) * x1)) + 4), .ref (a 1)]) (st2 := [.int r6, .int 2, .int (((31 : Int32) + ((14 : Int32) * x1)) + 4), .ref (a 1)]) (pc := 38) F 8 (M_X8_rules l D cy N a (v.1, f4, v.2.2) x1 r6 g7) (cwV 1 F.ts gX8_ruleAdded_X8_rules rfl rfl rfl hd_X8_rules ⟨Nat.le_of_ble_eq_true rfl, Nat.le_of_ble_eq_true rfl⟩) rfl dX8_ruleAdded_38 Fit.whole rfl rfl rfl (Nat.le_of_ble_eq_true rfl) (Nat.zero_le _) (Nat.zero_le _) rfl rfl rfl ?_
  refine V_imul (pc := 41) F dX8_ruleAdded_41 ?_
  refine V_iadd (pc := 42) F dX8_ruleAdded_42 ?_
  refine V_iconst (v := 1) (pc := 43) F dX8_ruleAdded_43 (by decide) ?_
  refine V_iadd (pc := 44) F dX8_ruleAdded_44 ?_
  refine V_iload_n (pc := 45) F dX8_ruleAdded_45 rfl 4 rfl ?_
  obtain ⟨c8, hf⟩ := chk_some hf
  obtain ⟨f9, e10, hf⟩ := nmd_of hf
  refine V_iast (w2 := wX8 cy a (v.1, f9, v.2.2)) (pc := 46) F 1 rfl c8 e10 dX8_ruleAdded_46 rfl ?_
  refine V_aload_n (pc := 47) F dX8_ruleAdded_47 rfl 1 rfl ?_
  refine V_get (pc := 48) F 0 8 1 i_X8 rfl (by decide) rfl (mm 1 rfl) dX8_ruleAdded_48 rfl rfl ?_
  refine V_iload (pc := 51) F dX8_ruleAdded_51 0 rfl ?_
  refine V_iconst (v := 3) (pc := 53) F dX8_ruleAdded_53 (by decide) ?_
  refine V_iadd (pc := 54) F dX8_ruleAdded_54 ?_
  refine V_dup2_11 (pc := 55) F dX8_ruleAdded_55 rfl rfl ?_
  obtain ⟨c11, hf⟩ := chk_some hf
  refine V_iald (pc := 56) F 1 rfl c11 dX8_ruleAdded_56 ?_
  refine V_iconst (v := 1) (pc := 57) F dX8_ruleAdded_57 (by decide) ?_
  refine V_iadd (pc := 58) F dX8_ruleAdded_58 ?_
  obtain ⟨c12, hf⟩ := chk_some hf
  obtain ⟨f13, e14, hf⟩ := nmd_of hf
  refine V_iast (w2 := wX8 cy a (v.1, f13, v.2.2)) (pc := 59) F 1 rfl c12 e14 dX8_ruleAdded_59 rfl ?_
  refine V_aload_n (pc := 60) F dX8_ruleAdded_60 rfl 1 rfl ?_
  refine V_iload_n (pc := 61) F dX8_ruleAdded_61 rfl 2 rfl ?_
  obtain ⟨r15, g16, hf⟩ := bind_of hf
  refine V_V (w2 := wX8 cy a (v.1, f13, v.2.2)) (rest := []) (st2 := [.int r15]) (pc := 62) F 8 (M_X8_rules l D cy N a (v.1, f13, v.2.2) x1 r15 g16) (cwV 1 F.ts gX8_ruleAdded_X8_rules rfl rfl rfl hd_X8_rules ⟨Nat.le_of_ble_eq_true rfl, Nat.le_of_ble_eq_true rfl⟩) rfl dX8_ruleAdded_62 Fit.whole rfl rfl rfl (Nat.le_of_ble_eq_true rfl) (Nat.zero_le _) (Nat.zero_le _) rfl rfl rfl ?_
  obtain rfl := some_of hf
  exact V_ret F rfl rfl dX8_ruleAdded_65 rfl rfl
theorem hd_X8_addRule : yX8_addRule.cls = RX8 ∧ yX8_addRule.cls ≠ "java/lang/invoke/MethodHandle" ∧ yX8_addRule.cls ≠ "java/lang/invoke/VarHandle" ∧ (parseMethodDescriptor yX8_addRule.desc).map (fun d => d.parameters.length) = some 3 := by decide +kernel
def fX8_addRule (N : Nat) (v : SX8) (x1 : Int32) (x2 : Int32) (x3 : Int32) : Option (Int32 × SX8) :=
  (fX8_whyNotRule N v x1 x2 x3).bind fun r1 =>
    if r1 ≤ 0 then
      (fX8_save N (r1, v.2)).bind fun r4 =>
        (fX8_ruleAdded N r4 x1 x2 x3).bind fun r6 =>
          some (r6.1, r6.2)
    else
      some (0, (r1, v.2))
set_option maxHeartbeats 8000000 in
set_option maxRecDepth 100000 in
theorem M_X8_addRule (l : Launch) (D : va_G) (cy : Nat → ClassId) (N : Nat) (a : Nat → Nat) (v : SX8) (x1 : Int32) (x2 : Int32) (x3 : Int32) (o : Int32 × SX8) (hf : fX8_addRule N v x1 x2 x3 = some o) : okM l yX8_addRule wsX8_addRule (rmz 3 67) D cy [.ref (a 0), .int x1, .int x2, .int x3] (wX8 cy a v) (wX8 cy a o.2) (some (.int o.1)) := by
  refine okM_of (own := RX8) (nme := "addRule") (cc := cX8_addRule) (maxL := 4) (ret := (some .int)) (by decide) rfl rfl rfl (Nat.le_of_ble_eq_true rfl) ?_
  intro p e s m args below meth c A F
  have i_X8 : ∀ w ∈ u_ws RX8 TX8 13, w ∈ wsX8_addRule := fun _ h => List.mem_cons_of_mem _ (List.mem_append_right _ h)
  unfold fX8_addRule at hf
  refine V.eq rfl (show lv_args 0 [.ref (a 0), .int x1, .int x2, .int x3] = [(0, .ref (a 0)), (1, .int x1), (2, .int x2), (3, .int x3)] from rfl) rfl ?_
  refine V_aload_n (pc := 0) F dX8_addRule_0 rfl 0 rfl ?_
  refine V_aload_n (pc := 1) F dX8_addRule_1 rfl 0 rfl ?_
  refine V_iload_n (pc := 2) F dX8_addRule_2 rfl 1 rfl ?_
  refine V_iload_n (pc := 3) F dX8_addRule_3 rfl 2 rfl ?_
  refine V_iload_n (pc := 4) F dX8_addRule_4 rfl 3 rfl ?_
  obtain ⟨r1, g2, hf⟩ := bind_of hf
  refine V_V (w2 := wX8 cy a v) (rest := [.ref (a 0)]) (st2 := [.int r1, .ref (a 0)]) (pc := 5) F 8 (M_X8_whyNotRule l D cy N a v x1 x2 x3 r1 g2) (cwV 3 F.ts gX8_addRule_X8_whyNotRule rfl rfl rfl hd_X8_whyNotRule ⟨Nat.le_of_ble_eq_true rfl, Nat.le_of_ble_eq_true rfl⟩) rfl dX8_addRule_5 Fit.whole rfl rfl rfl (Nat.le_of_ble_eq_true rfl) (Nat.zero_le _) (Nat.zero_le _) rfl rfl rfl ?_
  refine V_put (w2 := wX8 cy a (r1, v.2)) (pc := 8) F 0 8 0 i_X8 tyX8 tyX8_ok nmX8 rfl (by decide) rfl (mm 1 rfl) rfl dX8_addRule_8 rfl rfl rfl (Nat.le_of_ble_eq_true rfl) rfl ?_
  refine V_aload_n (pc := 11) F dX8_addRule_11 rfl 0 rfl ?_
  refine V_get (pc := 12) F 0 8 0 i_X8 rfl (by decide) rfl (mm 1 rfl) dX8_addRule_12 rfl rfl ?_
  refine V_if_le (pc := 15) (tgt := 20) F dX8_addRule_15 (by decide) (fun h3 => ?_) (fun h3 => ?_)
  · replace hf := ite_pos hf h3
    refine V_aload_n (pc := 20) F dX8_addRule_20 rfl 0 rfl ?_
    obtain ⟨r4, g5, hf⟩ := bind_of hf
    refine V_V (w2 := wX8 cy a r4) (rest := []) (st2 := []) (pc := 21) F 8 (M_X8_save l D cy N a (r1, v.2) r4 g5) (cwV 0 F.ts gX8_addRule_X8_save rfl rfl rfl hd_X8_save ⟨Nat.le_of_ble_eq_true rfl, Nat.le_of_ble_eq_true rfl⟩) rfl dX8_addRule_21 Fit.whole fstX8 rfl rfl (Nat.le_of_ble_eq_true rfl) (Nat.zero_le _) (Nat.zero_le _) rfl rfl rfl ?_
    refine V_aload_n (pc := 24) F dX8_addRule_24 rfl 0 rfl ?_
    refine V_iload_n (pc := 25) F dX8_addRule_25 rfl 1 rfl ?_
    refine V_iload_n (pc := 26) F dX8_addRule_26 rfl 2 rfl ?_
    refine V_iload_n (pc := 27) F dX8_addRule_27 rfl 3 rfl ?_
    obtain ⟨r6, g7, hf⟩ := bind_of hf
    refine V_V (w2 := wX8 cy a r6.2) (rest := []) (st2 := [.int r6.1]) (pc := 28) F 8 (M_X8_ruleAdded l D cy N a r4 x1 x2 x3 r6 g7) (cwV 3 F.ts gX8_addRule_X8_ruleAdded rfl rfl rfl hd_X8_ruleAdded ⟨Nat.le_of_ble_eq_true rfl, Nat.le_of_ble_eq_true rfl⟩) rfl dX8_addRule_28 Fit.whole fstX8 rfl rfl (Nat.le_of_ble_eq_true rfl) (Nat.zero_le _) (Nat.zero_le _) rfl rfl rfl ?_
    obtain rfl := some_of hf
    exact V_ret F rfl rfl dX8_addRule_31 rfl rfl
  · replace hf := ite_neg hf h3
    refine V_iconst (v := 0) (pc := 18) F dX8_addRule_18 (by decide) ?_
    obtain rfl := some_of hf
    exact V_ret F rfl rfl dX8_addRule_19 rfl rfl
theorem hd_X8_dropRule : yX8_dropRule.cls = RX8 ∧ yX8_dropRule.cls ≠ "java/lang/invoke/MethodHandle" ∧ yX8_dropRule.cls ≠ "java/lang/invoke/VarHandle" ∧ (parseMethodDescriptor yX8_dropRule.desc).map (fun d => d.parameters.length) = some 1 := by decide +kernel
def fX8_dropRule (N : Nat) (v : SX8) (x1 : Int32) : Option (Int32 × SX8) :=
  (fX8_isPhase N v x1).bind fun r1 =>
    if r1 = 0 then
      some (0, (1, v.2))
    else
      (fX8_rules N v x1).bind fun r4 =>
        if r4 = 0 then
          some (0, (2, v.2))
        else
          (fX8_save N (0, v.2)).bind fun r8 =>
            chk (((31 : Int32) + ((14 : Int32) * x1)) + 3) 143 (
              chk (((31 : Int32) + ((14 : Int32) * x1)) + 3) 143 (
                nmd (upd r8.2.1 (((31 : Int32) + ((14 : Int32) * x1)) + 3).toNatClampNeg ((r8.2.1 (((31 : Int32) + ((14 : Int32) * x1)) + 3).toNatClampNeg) - 1)) fun f12 =>
                (fX8_rules N (r8.1, f12, r8.2.2) x1).bind fun r14 =>
                  chk ((((31 : Int32) + ((14 : Int32) * x1)) + 4) + ((2 : Int32) * r14)) 143 (
                    chk ((((31 : Int32) + ((14 : Int32) * x1)) + 4) + ((2 : Int32) * r14)) 143 (
                      nmd (upd f12 ((((31 : Int32) + ((14 : Int32) * x1)) + 4) + ((2 : Int32) * r14)).toNatClampNeg (0 : Int32)) fun f18 =>
                      chk (((((31 : Int32) + ((14 : Int32) * x1)) + 4) + ((2 : Int32) * r14)) + 1) 143 (
                        nmd (upd f18 (((((31 : Int32) + ((14 : Int32) * x1)) + 4) + ((2 : Int32) * r14)) + 1).toNatClampNeg (0 : Int32)) fun f21 =>
                        some ((f12 ((((31 : Int32) + ((14 : Int32) * x1)) + 4) + ((2 : Int32) * r14)).toNatClampNeg), (r8.1, f21, r8.2.2))
                      )
                    )
                  )
              )
            )
set_option maxHeartbeats 8000000 in
set_option maxRecDepth 100000 in
theorem M_X8_dropRule (l : Launch) (D : va_G) (cy : Nat → ClassId) (N : Nat) (a : Nat → Nat) (v : SX8) (x1 : Int32) (o : Int32 × SX8) (hf : fX8_dropRule N v x1 = some o) : okM l yX8_dropRule wsX8_dropRule (rmz 2 43) D cy [.ref (a 0), .int x1] (wX8 cy a v) (wX8 cy a o.2) (some (.int o.1)) := by
  refine okM_of (own := RX8) (nme := "dropRule") (cc := cX8_dropRule) (maxL := 5) (ret := (some .int)) (by decide) rfl rfl rfl (Nat.le_of_ble_eq_true rfl) ?_
  intro p e s m args below meth c A F
  have i_X8 : ∀ w ∈ u_ws RX8 TX8 13, w ∈ wsX8_dropRule := fun _ h => List.mem_cons_of_mem _ (List.mem_append_right _ h)
  unfold fX8_dropRule at hf
  refine V.eq rfl (show lv_args 0 [.ref (a 0), .int x1] = [(0, .ref (a 0)), (1, .int x1)] from rfl) rfl ?_
  refine V_aload_n (pc := 0) F dX8_dropRule_0 rfl 0 rfl ?_
  refine V_aload_n (pc := 1) F dX8_dropRule_1 rfl 0 rfl ?_
  refine V_iload_n (pc := 2) F dX8_dropRule_2 rfl 1 rfl ?_
  obtain ⟨r1, g2, hf⟩ := bind_of hf
  refine V_V (w2 := wX8 cy a v) (rest := [.ref (a 0)]) (st2 := [.int r1, .ref (a 0)]) (pc := 3) F 8 (M_X8_isPhase l D cy N a v x1 r1 g2) (cwV 1 F.ts gX8_dropRule_X8_isPhase rfl rfl rfl hd_X8_isPhase ⟨Nat.le_of_ble_eq_true rfl, Nat.le_of_ble_eq_true rfl⟩) rfl dX8_dropRule_3 Fit.whole rfl rfl rfl (Nat.le_of_ble_eq_true rfl) (Nat.zero_le _) (Nat.zero_le _) rfl rfl rfl ?_
  refine V_if_ne (pc := 6) (tgt := 13) F dX8_dropRule_6 (by decide) (fun h3 => ?_) (fun h3 => ?_)
  · replace hf := ite_neg hf h3
    refine V_aload_n (pc := 13) F dX8_dropRule_13 rfl 0 rfl ?_
    refine V_iload_n (pc := 14) F dX8_dropRule_14 rfl 1 rfl ?_
    obtain ⟨r4, g5, hf⟩ := bind_of hf
    refine V_V (w2 := wX8 cy a v) (rest := [.ref (a 0)]) (st2 := [.int r4, .ref (a 0)]) (pc := 15) F 8 (M_X8_rules l D cy N a v x1 r4 g5) (cwV 1 F.ts gX8_dropRule_X8_rules rfl rfl rfl hd_X8_rules ⟨Nat.le_of_ble_eq_true rfl, Nat.le_of_ble_eq_true rfl⟩) rfl dX8_dropRule_15 Fit.whole rfl rfl rfl (Nat.le_of_ble_eq_true rfl) (Nat.zero_le _) (Nat.zero_le _) rfl rfl rfl ?_
    refine V_if_ne (pc := 18) (tgt := 25) F dX8_dropRule_18 (by decide) (fun h6 => ?_) (fun h6 => ?_)
    · replace hf := ite_neg hf h6
      refine V_iconst (v := 0) (pc := 25) F dX8_dropRule_25 (by decide) ?_
      refine V_put (w2 := wX8 cy a (0, v.2)) (pc := 26) F 0 8 0 i_X8 tyX8 tyX8_ok nmX8 rfl (by decide) rfl (mm 1 rfl) rfl dX8_dropRule_26 rfl rfl rfl (Nat.le_of_ble_eq_true rfl) rfl ?_
      refine V_aload_n (pc := 29) F dX8_dropRule_29 rfl 0 rfl ?_
      refine V_get (pc := 30) F 0 8 0 i_X8 rfl (by decide) rfl (mm 1 rfl) dX8_dropRule_30 rfl rfl ?_
      refine V_if_le (pc := 33) (tgt := 38) F dX8_dropRule_33 (by decide) (fun h7 => ?_) (fun h7 => ?_)
      · refine V_aload_n (pc := 38) F dX8_dropRule_38 rfl 0 rfl ?_
        obtain ⟨r8, g9, hf⟩ := bind_of hf
        refine V_V (w2 := wX8 cy a r8) (rest := []) (st2 := []) (pc := 39) F 8 (M_X8_save l D cy N a (0, v.2) r8 g9) (cwV 0 F.ts gX8_dropRule_X8_save rfl rfl rfl hd_X8_save ⟨Nat.le_of_ble_eq_true rfl, Nat.le_of_ble_eq_true rfl⟩) rfl dX8_dropRule_39 Fit.whole fstX8 rfl rfl (Nat.le_of_ble_eq_true rfl) (Nat.zero_le _) (Nat.zero_le _) rfl rfl rfl ?_
        refine V_bipush (v := 31) (pc := 42) F dX8_dropRule_42 (by decide) ?_
        refine V_bipush (v := 14) (pc := 44) F dX8_dropRule_44 (by decide) ?_
        refine V_iload_n (pc := 46) F dX8_dropRule_46 rfl 1 rfl ?_
        refine V_imul (pc := 47) F dX8_dropRule_47 ?_
        refine V_iadd (pc := 48) F dX8_dropRule_48 ?_
        refine V_istore_n (L2 := [(2, .int ((31 : Int32) + ((14 : Int32) * x1))), (0, .ref (a 0)), (1, .int x1)]) (pc := 49) F dX8_dropRule_49 rfl (by decide) rfl ?_
        refine V_aload_n (pc := 50) F dX8_dropRule_50 rfl 1 rfl ?_
        refine V_get (pc := 51) F 0 8 1 i_X8 rfl (by decide) rfl (mm 2 rfl) dX8_dropRule_51 rfl rfl ?_
        refine V_iload_n (pc := 54) F dX8_dropRule_54 rfl 0 rfl ?_
        refine V_iconst (v := 3) (pc := 55) F dX8_dropRule_55 (by decide) ?_
        refine V_iadd (pc := 56) F dX8_dropRule_56 ?_
        refine V_dup2_11 (pc := 57) F dX8_dropRule_57 rfl rfl ?_
        obtain ⟨c10, hf⟩ := chk_some hf
        refine V_iald (pc := 58) F 1 rfl c10 dX8_dropRule_58 ?_
        refine V_iconst (v := 1) (pc := 59) F dX8_dropRule_59 (by decide) ?_
        refine V_isub (pc := 60) F dX8_dropRule_60 ?_
        obtain ⟨c11, hf⟩ := chk_some hf
        obtain ⟨f12, e13, hf⟩ := nmd_of hf
        refine V_iast (w2 := wX8 cy a (r8.1, f12, r8.2.2)) (pc := 61) F 1 rfl c11 e13 dX8_dropRule_61 rfl ?_
        refine V_iload_n (pc := 62) F dX8_dropRule_62 rfl 0 rfl ?_
        refine V_iconst (v := 4) (pc := 63) F dX8_dropRule_63 (by decide) ?_
        refine V_iadd (pc := 64) F dX8_dropRule_64 ?_
        refine V_iconst (v := 2) (pc := 65) F dX8_dropRule_65 (by decide) ?_
        refine V_aload_n (pc := 66) F dX8_dropRule_66 rfl 1 rfl ?_
        refine V_iload_n (pc := 67) F dX8_dropRule_67 rfl 2 rfl ?_
        obtain ⟨r14, g15, hf⟩ := bind_of hf
        refine V_V (w2 := wX8 cy a (r8.1, f12, r8.2.2)) (rest := [.int 2, .int (((31 : Int32) + ((14 : Int32) * x1)) + 4)]) (st2 := [.int r14, .int 2, .int (((31 : Int32) + ((14 : Int32) * x1)) + 4)]) (pc := 68) F 8 (M_X8_rules l D cy N a (r8.1, f12, r8.2.2) x1 r14 g15) (cwV 1 F.ts gX8_dropRule_X8_rules rfl rfl rfl hd_X8_rules ⟨Nat.le_of_ble_eq_true rfl, Nat.le_of_ble_eq_true rfl⟩) rfl dX8_dropRule_68 Fit.whole rfl rfl rfl (Nat.le_of_ble_eq_true rfl) (Nat.zero_le _) (Nat.zero_le _) rfl rfl rfl ?_
        refine V_imul (pc := 71) F dX8_dropRule_71 ?_
        refine V_iadd (pc := 72) F dX8_dropRule_72 ?_
        refine V_istore_n (L2 := [(3, .int ((((31 : Int32) + ((14 : Int32) * x1)) + 4) + ((2 : Int32) * r14))), (2, .int ((31 : Int32) + ((14 : Int32) * x1))), (0, .ref (a 0)), (1, .int x1)]) (pc := 73) F dX8_dropRule_73 rfl (by decide) rfl ?_
        refine V_aload_n (pc := 74) F dX8_dropRule_74 rfl 2 rfl ?_
        refine V_get (pc := 75) F 0 8 1 i_X8 rfl (by decide) rfl (mm 2 rfl) dX8_dropRule_75 rfl rfl ?_
        refine V_iload_n (pc := 78) F dX8_dropRule_78 rfl 0 rfl ?_
        obtain ⟨c16, hf⟩ := chk_some hf
        refine V_iald (pc := 79) F 1 rfl c16 dX8_dropRule_79 ?_
        refine V_istore (L2 := [(4, .int (f12 ((((31 : Int32) + ((14 : Int32) * x1)) + 4) + ((2 : Int32) * r14)).toNatClampNeg)), (3, .int ((((31 : Int32) + ((14 : Int32) * x1)) + 4) + ((2 : Int32) * r14))), (2, .int ((31 : Int32) + ((14 : Int32) * x1))), (0, .ref (a 0)), (1, .int x1)]) (pc := 80) F dX8_dropRule_80 (by decide) rfl ?_
        refine V_aload_n (pc := 82) F dX8_dropRule_82 rfl 3 rfl ?_
        refine V_get (pc := 83) F 0 8 1 i_X8 rfl (by decide) rfl (mm 2 rfl) dX8_dropRule_83 rfl rfl ?_
        refine V_iload_n (pc := 86) F dX8_dropRule_86 rfl 1 rfl ?_
        refine V_iconst (v := 0) (pc := 87) F dX8_dropRule_87 (by decide) ?_
        obtain ⟨c17, hf⟩ := chk_some hf
        obtain ⟨f18, e19, hf⟩ := nmd_of hf
        refine V_iast (w2 := wX8 cy a (r8.1, f18, r8.2.2)) (pc := 88) F 1 rfl c17 e19 dX8_dropRule_88 rfl ?_
        refine V_aload_n (pc := 89) F dX8_dropRule_89 rfl 3 rfl ?_
        refine V_get (pc := 90) F 0 8 1 i_X8 rfl (by decide) rfl (mm 2 rfl) dX8_dropRule_90 rfl rfl ?_
        refine V_iload_n (pc := 93) F dX8_dropRule_93 rfl 1 rfl ?_
        refine V_iconst (v := 1) (pc := 94) F dX8_dropRule_94 (by decide) ?_
        refine V_iadd (pc := 95) F dX8_dropRule_95 ?_
        refine V_iconst (v := 0) (pc := 96) F dX8_dropRule_96 (by decide) ?_
        obtain ⟨c20, hf⟩ := chk_some hf
        obtain ⟨f21, e22, hf⟩ := nmd_of hf
        refine V_iast (w2 := wX8 cy a (r8.1, f21, r8.2.2)) (pc := 97) F 1 rfl c20 e22 dX8_dropRule_97 rfl ?_
        refine V_iload (pc := 98) F dX8_dropRule_98 0 rfl ?_
        obtain rfl := some_of hf
        exact V_ret F rfl rfl dX8_dropRule_100 rfl rfl
      · exact absurd h7 (show ¬ (¬ ((0 : Int32) ≤ (0 : Int32))) by decide)
    · replace hf := ite_pos hf h6
      refine V_iconst (v := 2) (pc := 21) F dX8_dropRule_21 (by decide) ?_
      refine V_goto (pc := 22) (tgt := 26) F dX8_dropRule_22 (by decide) ?_
      refine V_put (w2 := wX8 cy a (2, v.2)) (pc := 26) F 0 8 0 i_X8 tyX8 tyX8_ok nmX8 rfl (by decide) rfl (mm 1 rfl) rfl dX8_dropRule_26 rfl rfl rfl (Nat.le_of_ble_eq_true rfl) rfl ?_
      refine V_aload_n (pc := 29) F dX8_dropRule_29 rfl 0 rfl ?_
      refine V_get (pc := 30) F 0 8 0 i_X8 rfl (by decide) rfl (mm 1 rfl) dX8_dropRule_30 rfl rfl ?_
      refine V_if_le (pc := 33) (tgt := 38) F dX8_dropRule_33 (by decide) (fun h23 => ?_) (fun h23 => ?_)
      · exact absurd h23 (show ¬ ((2 : Int32) ≤ (0 : Int32)) by decide)
      · refine V_iconst (v := 0) (pc := 36) F dX8_dropRule_36 (by decide) ?_
        obtain rfl := some_of hf
        exact V_ret F rfl rfl dX8_dropRule_37 rfl rfl
  · replace hf := ite_pos hf h3
    refine V_iconst (v := 1) (pc := 9) F dX8_dropRule_9 (by decide) ?_
    refine V_goto (pc := 10) (tgt := 26) F dX8_dropRule_10 (by decide) ?_
    refine V_put (w2 := wX8 cy a (1, v.2)) (pc := 26) F 0 8 0 i_X8 tyX8 tyX8_ok nmX8 rfl (by decide) rfl (mm 1 rfl) rfl dX8_dropRule_26 rfl rfl rfl (Nat.le_of_ble_eq_true rfl) rfl ?_
    refine V_aload_n (pc := 29) F dX8_dropRule_29 rfl 0 rfl ?_
    refine V_get (pc := 30) F 0 8 0 i_X8 rfl (by decide) rfl (mm 1 rfl) dX8_dropRule_30 rfl rfl ?_
    refine V_if_le (pc := 33) (tgt := 38) F dX8_dropRule_33 (by decide) (fun h24 => ?_) (fun h24 => ?_)
    · exact absurd h24 (show ¬ ((1 : Int32) ≤ (0 : Int32)) by decide)
    · refine V_iconst (v := 0) (pc := 36) F dX8_dropRule_36 (by decide) ?_
      obtain rfl := some_of hf
      exact V_ret F rfl rfl dX8_dropRule_37 rfl rfl
theorem hd_X8_change : yX8_change.cls = RX8 ∧ yX8_change.cls ≠ "java/lang/invoke/MethodHandle" ∧ yX8_change.cls ≠ "java/lang/invoke/VarHandle" ∧ (parseMethodDescriptor yX8_change.desc).map (fun d => d.parameters.length) = some 3 := by decide +kernel
def fX8_change (N : Nat) (v : SX8) (x1 : Int32) (x2 : Int32) (x3 : Int32) : Option (Int32 × SX8) :=
  (fX8_isPhase N v x1).bind fun r1 =>
    if r1 = 0 then
      some (0, (1, v.2))
    else
      (fX8_in N x2 0 63).bind fun r4 =>
        if r4 = 0 then
          some (0, (2, v.2))
        else
          (fX8_in N x3 1 9).bind fun r8 =>
            if r8 = 0 then
              some (0, (2, v.2))
            else
              (fX8_save N (0, v.2)).bind fun r13 =>
                (fX8_greens N r13 x1).bind fun r15 =>
                  chk (((31 : Int32) + ((14 : Int32) * x1)) + 0) 143 (
                    nmd (upd r13.2.1 (((31 : Int32) + ((14 : Int32) * x1)) + 0).toNatClampNeg x2) fun f18 =>
                    chk (((31 : Int32) + ((14 : Int32) * x1)) + 1) 143 (
                      nmd (upd f18 (((31 : Int32) + ((14 : Int32) * x1)) + 1).toNatClampNeg x3) fun f21 =>
                      some (r15, (r13.1, f21, r13.2.2))
                    )
                  )
set_option maxHeartbeats 8000000 in
set_option maxRecDepth 100000 in
theorem M_X8_change (l : Launch) (D : va_G) (cy : Nat → ClassId) (N : Nat) (a : Nat → Nat) (v : SX8) (x1 : Int32) (x2 : Int32) (x3 : Int32) (o : Int32 × SX8) (hf : fX8_change N v x1 x2 x3 = some o) : okM l yX8_change wsX8_change (rmz 2 43) D cy [.ref (a 0), .int x1, .int x2, .int x3] (wX8 cy a v) (wX8 cy a o.2) (some (.int o.1)) := by
  refine okM_of (own := RX8) (nme := "change") (cc := cX8_change) (maxL := 5) (ret := (some .int)) (by decide) rfl rfl rfl (Nat.le_of_ble_eq_true rfl) ?_
  intro p e s m args below meth c A F
  have i_X8 : ∀ w ∈ u_ws RX8 TX8 13, w ∈ wsX8_change := fun _ h => List.mem_cons_of_mem _ (List.mem_append_right _ h)
  unfold fX8_change at hf
  refine V.eq rfl (show lv_args 0 [.ref (a 0), .int x1, .int x2, .int x3] = [(0, .ref (a 0)), (1, .int x1), (2, .int x2), (3, .int x3)] from rfl) rfl ?_
  refine V_aload_n (pc := 0) F dX8_change_0 rfl 0 rfl ?_
  refine V_aload_n (pc := 1) F dX8_change_1 rfl 0 rfl ?_
  refine V_iload_n (pc := 2) F dX8_change_2 rfl 1 rfl ?_
  obtain ⟨r1, g2, hf⟩ := bind_of hf
  refine V_V (w2 := wX8 cy a v) (rest := [.ref (a 0)]) (st2 := [.int r1, .ref (a 0)]) (pc := 3) F 8 (M_X8_isPhase l D cy N a v x1 r1 g2) (cwV 1 F.ts gX8_change_X8_isPhase rfl rfl rfl hd_X8_isPhase ⟨Nat.le_of_ble_eq_true rfl, Nat.le_of_ble_eq_true rfl⟩) rfl dX8_change_3 Fit.whole rfl rfl rfl (Nat.le_of_ble_eq_true rfl) (Nat.zero_le _) (Nat.zero_le _) rfl rfl rfl ?_
  refine V_if_ne (pc := 6) (tgt := 13) F dX8_change_6 (by decide) (fun h3 => ?_) (fun h3 => ?_)
  · replace hf := ite_neg hf h3
    refine V_iload_n (pc := 13) F dX8_change_13 rfl 2 rfl ?_
    refine V_iconst (v := 0) (pc := 14) F dX8_change_14 (by decide) ?_
    refine V_bipush (v := 63) (pc := 15) F dX8_change_15 (by decide) ?_
    obtain ⟨r4, g5, hf⟩ := bind_of hf
    refine V_Sc (rest := [.ref (a 0)]) (st2 := [.int r4, .ref (a 0)]) (pc := 17) F (M_X8_in l D cy N x2 0 63 r4 g5) (va_cwS 3 F.ts gX8_change_X8_in rfl rfl rfl hd_X8_in ⟨Nat.le_of_ble_eq_true rfl, Nat.le_of_ble_eq_true rfl⟩) rfl dX8_change_17 (Nat.le_of_ble_eq_true rfl) (Nat.zero_le _) (Nat.zero_le _) rfl rfl ?_
    refine V_if_eq (pc := 20) (tgt := 37) F dX8_change_20 (by decide) (fun h6 => ?_) (fun h6 => ?_)
    · replace hf := ite_pos hf h6
      refine V_iconst (v := 2) (pc := 37) F dX8_change_37 (by decide) ?_
      refine V_put (w2 := wX8 cy a (2, v.2)) (pc := 38) F 0 8 0 i_X8 tyX8 tyX8_ok nmX8 rfl (by decide) rfl (mm 1 rfl) rfl dX8_change_38 rfl rfl rfl (Nat.le_of_ble_eq_true rfl) rfl ?_
      refine V_aload_n (pc := 41) F dX8_change_41 rfl 0 rfl ?_
      refine V_get (pc := 42) F 0 8 0 i_X8 rfl (by decide) rfl (mm 1 rfl) dX8_change_42 rfl rfl ?_
      refine V_if_le (pc := 45) (tgt := 50) F dX8_change_45 (by decide) (fun h7 => ?_) (fun h7 => ?_)
      · exact absurd h7 (show ¬ ((2 : Int32) ≤ (0 : Int32)) by decide)
      · refine V_iconst (v := 0) (pc := 48) F dX8_change_48 (by decide) ?_
        obtain rfl := some_of hf
        exact V_ret F rfl rfl dX8_change_49 rfl rfl
    · replace hf := ite_neg hf h6
      refine V_iload_n (pc := 23) F dX8_change_23 rfl 3 rfl ?_
      refine V_iconst (v := 1) (pc := 24) F dX8_change_24 (by decide) ?_
      refine V_bipush (v := 9) (pc := 25) F dX8_change_25 (by decide) ?_
      obtain ⟨r8, g9, hf⟩ := bind_of hf
      refine V_Sc (rest := [.ref (a 0)]) (st2 := [.int r8, .ref (a 0)]) (pc := 27) F (M_X8_in l D cy N x3 1 9 r8 g9) (va_cwS 3 F.ts gX8_change_X8_in rfl rfl rfl hd_X8_in ⟨Nat.le_of_ble_eq_true rfl, Nat.le_of_ble_eq_true rfl⟩) rfl dX8_change_27 (Nat.le_of_ble_eq_true rfl) (Nat.zero_le _) (Nat.zero_le _) rfl rfl ?_
      refine V_if_eq (pc := 30) (tgt := 37) F dX8_change_30 (by decide) (fun h10 => ?_) (fun h10 => ?_)
      · replace hf := ite_pos hf h10
        refine V_iconst (v := 2) (pc := 37) F dX8_change_37 (by decide) ?_
        refine V_put (w2 := wX8 cy a (2, v.2)) (pc := 38) F 0 8 0 i_X8 tyX8 tyX8_ok nmX8 rfl (by decide) rfl (mm 1 rfl) rfl dX8_change_38 rfl rfl rfl (Nat.le_of_ble_eq_true rfl) rfl ?_
        refine V_aload_n (pc := 41) F dX8_change_41 rfl 0 rfl ?_
        refine V_get (pc := 42) F 0 8 0 i_X8 rfl (by decide) rfl (mm 1 rfl) dX8_change_42 rfl rfl ?_
        refine V_if_le (pc := 45) (tgt := 50) F dX8_change_45 (by decide) (fun h11 => ?_) (fun h11 => ?_)
        · exact absurd h11 (show ¬ ((2 : Int32) ≤ (0 : Int32)) by decide)
        · refine V_iconst (v := 0) (pc := 48) F dX8_change_48 (by decide) ?_
          obtain rfl := some_of hf
          exact V_ret F rfl rfl dX8_change_49 rfl rfl
      · replace hf := ite_neg hf h10
        refine V_iconst (v := 0) (pc := 33) F dX8_change_33 (by decide) ?_
        refine V_goto (pc := 34) (tgt := 38) F dX8_change_34 (by decide) ?_
        refine V_put (w2 := wX8 cy a (0, v.2)) (pc := 38) F 0 8 0 i_X8 tyX8 tyX8_ok nmX8 rfl (by decide) rfl (mm 1 rfl) rfl dX8_change_38 rfl rfl rfl (Nat.le_of_ble_eq_true rfl) rfl ?_
        refine V_aload_n (pc := 41) F dX8_change_41 rfl 0 rfl ?_
        refine V_get (pc := 42) F 0 8 0 i_X8 rfl (by decide) rfl (mm 1 rfl) dX8_change_42 rfl rfl ?_
        refine V_if_le (pc := 45) (tgt := 50) F dX8_change_45 (by decide) (fun h12 => ?_) (fun h12 => ?_)
        · refine V_aload_n (pc := 50) F dX8_change_50 rfl 0 rfl ?_
          obtain ⟨r13, g14, hf⟩ := bind_of hf
          refine V_V (w2 := wX8 cy a r13) (rest := []) (st2 := []) (pc := 51) F 8 (M_X8_save l D cy N a (0, v.2) r13 g14) (cwV 0 F.ts gX8_change_X8_save rfl rfl rfl hd_X8_save ⟨Nat.le_of_ble_eq_true rfl, Nat.le_of_ble_eq_true rfl⟩) rfl dX8_change_51 Fit.whole fstX8 rfl rfl (Nat.le_of_ble_eq_true rfl) (Nat.zero_le _) (Nat.zero_le _) rfl rfl rfl ?_
          refine V_aload_n (pc := 54) F dX8_change_54 rfl 0 rfl ?_
          refine V_iload_n (pc := 55) F dX8_change_55 rfl 1 rfl ?_
          obtain ⟨r15, g16, hf⟩ := bind_of hf
          refine V_V (w2 := wX8 cy a r13) (rest := []) (st2 := [.int r15]) (pc := 56) F 8 (M_X8_greens l D cy N a r13 x1 r15 g16) (cwV 1 F.ts gX8_change_X8_greens rfl rfl rfl hd_X8_greens ⟨Nat.le_of_ble_eq_true rfl, Nat.le_of_ble_eq_true rfl⟩) rfl dX8_change_56 Fit.whole rfl rfl rfl (Nat.le_of_ble_eq_true rfl) (Nat.zero_le _) (Nat.zero_le _) rfl rfl rfl ?_
          refine V_istore (L2 := [(4, .int r15), (0, .ref (a 0)), (1, .int x1), (2, .int x2), (3, .int x3)]) (pc := 59) F dX8_change_59 (by decide) rfl ?_
          refine V_aload_n (pc := 61) F dX8_change_61 rfl 1 rfl ?_
          refine V_get (pc := 62) F 0 8 1 i_X8 rfl (by decide) rfl (mm 2 rfl) dX8_change_62 rfl rfl ?_
          refine V_bipush (v := 31) (pc := 65) F dX8_change_65 (by decide) ?_
          refine V_bipush (v := 14) (pc := 67) F dX8_change_67 (by decide) ?_
          refine V_iload_n (pc := 69) F dX8_change_69 rfl 2 rfl ?_
          refine V_imul (pc := 70) F dX8_change_70 ?_
          refine V_iadd (pc := 71) F dX8_change_71 ?_
          refine V_iconst (v := 0) (pc := 72) F dX8_change_72 (by decide) ?_
          refine V_iadd (pc := 73) F dX8_change_73 ?_
          refine V_iload_n (pc := 74) F dX8_change_74 rfl 3 rfl ?_
          obtain ⟨c17, hf⟩ := chk_some hf
          obtain ⟨f18, e19, hf⟩ := nmd_of hf
          refine V_iast (w2 := wX8 cy a (r13.1, f18, r13.2.2)) (pc := 75) F 1 rfl c17 e19 dX8_change_75 rfl ?_
          refine V_aload_n (pc := 76) F dX8_change_76 rfl 1 rfl ?_
          refine V_get (pc := 77) F 0 8 1 i_X8 rfl (by decide) rfl (mm 2 rfl) dX8_change_77 rfl rfl ?_
          refine V_bipush (v := 31) (pc := 80) F dX8_change_80 (by decide) ?_
          refine V_bipush (v := 14) (pc := 82) F dX8_change_82 (by decide) ?_
          refine V_iload_n (pc := 84) F dX8_change_84 rfl 2 rfl ?_
          refine V_imul (pc := 85) F dX8_change_85 ?_
          refine V_iadd (pc := 86) F dX8_change_86 ?_
          refine V_iconst (v := 1) (pc := 87) F dX8_change_87 (by decide) ?_
          refine V_iadd (pc := 88) F dX8_change_88 ?_
          refine V_iload_n (pc := 89) F dX8_change_89 rfl 4 rfl ?_
          obtain ⟨c20, hf⟩ := chk_some hf
          obtain ⟨f21, e22, hf⟩ := nmd_of hf
          refine V_iast (w2 := wX8 cy a (r13.1, f21, r13.2.2)) (pc := 90) F 1 rfl c20 e22 dX8_change_90 rfl ?_
          refine V_iload (pc := 91) F dX8_change_91 0 rfl ?_
          obtain rfl := some_of hf
          exact V_ret F rfl rfl dX8_change_93 rfl rfl
        · exact absurd h12 (show ¬ (¬ ((0 : Int32) ≤ (0 : Int32))) by decide)
  · replace hf := ite_pos hf h3
    refine V_iconst (v := 1) (pc := 9) F dX8_change_9 (by decide) ?_
    refine V_goto (pc := 10) (tgt := 38) F dX8_change_10 (by decide) ?_
    refine V_put (w2 := wX8 cy a (1, v.2)) (pc := 38) F 0 8 0 i_X8 tyX8 tyX8_ok nmX8 rfl (by decide) rfl (mm 1 rfl) rfl dX8_change_38 rfl rfl rfl (Nat.le_of_ble_eq_true rfl) rfl ?_
    refine V_aload_n (pc := 41) F dX8_change_41 rfl 0 rfl ?_
    refine V_get (pc := 42) F 0 8 0 i_X8 rfl (by decide) rfl (mm 1 rfl) dX8_change_42 rfl rfl ?_
    refine V_if_le (pc := 45) (tgt := 50) F dX8_change_45 (by decide) (fun h23 => ?_) (fun h23 => ?_)
    · exact absurd h23 (show ¬ ((1 : Int32) ≤ (0 : Int32)) by decide)
    · refine V_iconst (v := 0) (pc := 48) F dX8_change_48 (by decide) ?_
      obtain rfl := some_of hf
      exact V_ret F rfl rfl dX8_change_49 rfl rfl
theorem hd_X8_set : yX8_set.cls = RX8 ∧ yX8_set.cls ≠ "java/lang/invoke/MethodHandle" ∧ yX8_set.cls ≠ "java/lang/invoke/VarHandle" ∧ (parseMethodDescriptor yX8_set.desc).map (fun d => d.parameters.length) = some 1 := by decide +kernel
def fX8_set (N : Nat) (v : SX8) (x1 : Int32) : Option (Int32 × SX8) :=
  (fX8_in N x1 0 5).bind fun r1 =>
    if r1 = 0 then
      some (0, (1, v.2))
    else
      (fX8_save N (0, v.2)).bind fun r6 =>
        chk 1 143 (
          chk 1 143 (
            nmd (upd r6.2.1 (1 : Int32).toNatClampNeg x1) fun f10 =>
            some ((r6.2.1 (1 : Int32).toNatClampNeg), (r6.1, f10, r6.2.2))
          )
        )
set_option maxHeartbeats 8000000 in
set_option maxRecDepth 100000 in
theorem M_X8_set (l : Launch) (D : va_G) (cy : Nat → ClassId) (N : Nat) (a : Nat → Nat) (v : SX8) (x1 : Int32) (o : Int32 × SX8) (hf : fX8_set N v x1 = some o) : okM l yX8_set wsX8_set (rmz 1 22) D cy [.ref (a 0), .int x1] (wX8 cy a v) (wX8 cy a o.2) (some (.int o.1)) := by
  refine okM_of (own := RX8) (nme := "set") (cc := cX8_set) (maxL := 3) (ret := (some .int)) (by decide) rfl rfl rfl (Nat.le_of_ble_eq_true rfl) ?_
  intro p e s m args below meth c A F
  have i_X8 : ∀ w ∈ u_ws RX8 TX8 13, w ∈ wsX8_set := fun _ h => List.mem_cons_of_mem _ (List.mem_append_right _ h)
  unfold fX8_set at hf
  refine V.eq rfl (show lv_args 0 [.ref (a 0), .int x1] = [(0, .ref (a 0)), (1, .int x1)] from rfl) rfl ?_
  refine V_aload_n (pc := 0) F dX8_set_0 rfl 0 rfl ?_
  refine V_iload_n (pc := 1) F dX8_set_1 rfl 1 rfl ?_
  refine V_iconst (v := 0) (pc := 2) F dX8_set_2 (by decide) ?_
  refine V_iconst (v := 5) (pc := 3) F dX8_set_3 (by decide) ?_
  obtain ⟨r1, g2, hf⟩ := bind_of hf
  refine V_Sc (rest := [.ref (a 0)]) (st2 := [.int r1, .ref (a 0)]) (pc := 4) F (M_X8_in l D cy N x1 0 5 r1 g2) (va_cwS 3 F.ts gX8_set_X8_in rfl rfl rfl hd_X8_in ⟨Nat.le_of_ble_eq_true rfl, Nat.le_of_ble_eq_true rfl⟩) rfl dX8_set_4 (Nat.le_of_ble_eq_true rfl) (Nat.zero_le _) (Nat.zero_le _) rfl rfl ?_
  refine V_if_eq (pc := 7) (tgt := 14) F dX8_set_7 (by decide) (fun h3 => ?_) (fun h3 => ?_)
  · replace hf := ite_pos hf h3
    refine V_iconst (v := 1) (pc := 14) F dX8_set_14 (by decide) ?_
    refine V_put (w2 := wX8 cy a (1, v.2)) (pc := 15) F 0 8 0 i_X8 tyX8 tyX8_ok nmX8 rfl (by decide) rfl (mm 1 rfl) rfl dX8_set_15 rfl rfl rfl (Nat.le_of_ble_eq_true rfl) rfl ?_
    refine V_aload_n (pc := 18) F dX8_set_18 rfl 0 rfl ?_
    refine V_get (pc := 19) F 0 8 0 i_X8 rfl (by decide) rfl (mm 1 rfl) dX8_set_19 rfl rfl ?_
    refine V_if_le (pc := 22) (tgt := 27) F dX8_set_22 (by decide) (fun h4 => ?_) (fun h4 => ?_)
    · exact absurd h4 (show ¬ ((1 : Int32) ≤ (0 : Int32)) by decide)
    · refine V_iconst (v := 0) (pc := 25) F dX8_set_25 (by decide) ?_
      obtain rfl := some_of hf
      exact V_ret F rfl rfl dX8_set_26 rfl rfl
  · replace hf := ite_neg hf h3
    refine V_iconst (v := 0) (pc := 10) F dX8_set_10 (by decide) ?_
    refine V_goto (pc := 11) (tgt := 15) F dX8_set_11 (by decide) ?_
    refine V_put (w2 := wX8 cy a (0, v.2)) (pc := 15) F 0 8 0 i_X8 tyX8 tyX8_ok nmX8 rfl (by decide) rfl (mm 1 rfl) rfl dX8_set_15 rfl rfl rfl (Nat.le_of_ble_eq_true rfl) rfl ?_
    refine V_aload_n (pc := 18) F dX8_set_18 rfl 0 rfl ?_
    refine V_get (pc := 19) F 0 8 0 i_X8 rfl (by decide) rfl (mm 1 rfl) dX8_set_19 rfl rfl ?_
    refine V_if_le (pc := 22) (tgt := 27) F dX8_set_22 (by decide) (fun h5 => ?_) (fun h5 => ?_)
    · refine V_aload_n (pc := 27) F dX8_set_27 rfl 0 rfl ?_
      obtain ⟨r6, g7, hf⟩ := bind_of hf
      refine V_V (w2 := wX8 cy a r6) (rest := []) (st2 := []) (pc := 28) F 8 (M_X8_save l D cy N a (0, v.2) r6 g7) (cwV 0 F.ts gX8_set_X8_save rfl rfl rfl hd_X8_save ⟨Nat.le_of_ble_eq_true rfl, Nat.le_of_ble_eq_true rfl⟩) rfl dX8_set_28 Fit.whole fstX8 rfl rfl (Nat.le_of_ble_eq_true rfl) (Nat.zero_le _) (Nat.zero_le _) rfl rfl rfl ?_
      refine V_aload_n (pc := 31) F dX8_set_31 rfl 0 rfl ?_
      refine V_get (pc := 32) F 0 8 1 i_X8 rfl (by decide) rfl (mm 2 rfl) dX8_set_32 rfl rfl ?_
      refine V_iconst (v := 1) (pc := 35) F dX8_set_35 (by decide) ?_
      obtain ⟨c8, hf⟩ := chk_some hf
      refine V_iald (pc := 36) F 1 rfl c8 dX8_set_36 ?_
      refine V_istore_n (L2 := [(2, .int (r6.2.1 (1 : Int32).toNatClampNeg)), (0, .ref (a 0)), (1, .int x1)]) (pc := 37) F dX8_set_37 rfl (by decide) rfl ?_
      refine V_aload_n (pc := 38) F dX8_set_38 rfl 1 rfl ?_
      refine V_get (pc := 39) F 0 8 1 i_X8 rfl (by decide) rfl (mm 2 rfl) dX8_set_39 rfl rfl ?_
      refine V_iconst (v := 1) (pc := 42) F dX8_set_42 (by decide) ?_
      refine V_iload_n (pc := 43) F dX8_set_43 rfl 2 rfl ?_
      obtain ⟨c9, hf⟩ := chk_some hf
      obtain ⟨f10, e11, hf⟩ := nmd_of hf
      refine V_iast (w2 := wX8 cy a (r6.1, f10, r6.2.2)) (pc := 44) F 1 rfl c9 e11 dX8_set_44 rfl ?_
      refine V_iload_n (pc := 45) F dX8_set_45 rfl 0 rfl ?_
      obtain rfl := some_of hf
      exact V_ret F rfl rfl dX8_set_46 rfl rfl
    · exact absurd h5 (show ¬ (¬ ((0 : Int32) ≤ (0 : Int32))) by decide)
theorem hd_X8_waiting : yX8_waiting.cls = RX8 ∧ yX8_waiting.cls ≠ "java/lang/invoke/MethodHandle" ∧ yX8_waiting.cls ≠ "java/lang/invoke/VarHandle" ∧ (parseMethodDescriptor yX8_waiting.desc).map (fun d => d.parameters.length) = some 0 := by decide +kernel
def fX8_waiting_L4 (N : Nat) (v : SX8) : Nat → Int32 → Int32 → Option (Int32)
  | 0, _, _ => none
  | n + 1, z1, z2 =>
    if 6 ≤ z2 then
      some z1
    else
      chk ((13 : Int32) + z2) 143 (
        if (v.2.1 ((13 : Int32) + z2).toNatClampNeg) = (-1) then
          fX8_waiting_L4 N v n (z1 ||| 0) (z2 + 1)
        else
          fX8_waiting_L4 N v n (z1 ||| ((1 : Int32) <<< (z2 &&& 31))) (z2 + 1)
      )
def fX8_waiting (N : Nat) (v : SX8) : Option (Int32) :=
  (fX8_waiting_L4 N v N 0 0).bind fun u4 =>
    some u4
set_option maxHeartbeats 8000000 in
set_option maxRecDepth 100000 in
theorem M_X8_waiting (l : Launch) (D : va_G) (cy : Nat → ClassId) (N : Nat) (a : Nat → Nat) (v : SX8) (o : Int32) (hf : fX8_waiting N v = some o) : okM l yX8_waiting wsX8_waiting (rmz 0 0) D cy [.ref (a 0)] (wX8 cy a v) (wX8 cy a v) (some (.int o)) := by
  refine okM_of (own := RX8) (nme := "waiting") (cc := cX8_waiting) (maxL := 3) (ret := (some .int)) (by decide) rfl rfl rfl (Nat.le_of_ble_eq_true rfl) ?_
  intro p e s m args below meth c A F
  have i_X8 : ∀ w ∈ u_ws RX8 TX8 13, w ∈ wsX8_waiting := fun _ h => List.mem_cons_of_mem _ (List.mem_append_right _ h)
  have K4 : ∀ (n : Nat) (v : SX8) (z1 : Int32) (z2 : Int32) (u : Int32), fX8_waiting_L4 N v n z1 z2 = some u → V p l e (rmz 0 0) s m args below meth c 3 D A 0 0 (MQ below (ok_Q D (wX8 cy a v) (some (.int o)) A) args s 0 0 A) (wX8 cy a v) [(1, .int u)] [] 39 → V p l e (rmz 0 0) s m args below meth c 3 D A 0 0 (MQ below (ok_Q D (wX8 cy a v) (some (.int o)) A) args s 0 0 A) (wX8 cy a v) [(0, .ref (a 0)), (1, .int z1), (2, .int z2)] [] 4 := by
    intro n
    induction n with
    | zero =>
      intro v z1 z2 u hf hk
      exact nomatch (show (none : Option (Int32)) = some u from hf)
    | succ n ih =>
      intro v z1 z2 u hf hk
      rw [fX8_waiting_L4] at hf
      refine V_iload_n (pc := 4) F dX8_waiting_4 rfl 2 rfl ?_
      refine V_bipush (v := 6) (pc := 5) F dX8_waiting_5 (by decide) ?_
      refine V_icmp_ge (pc := 7) (tgt := 39) F dX8_waiting_7 (by decide) (fun h1 => ?_) (fun h1 => ?_)
      · replace hf := ite_pos hf h1
        obtain rfl := some_of hf
        exact V.sub [1] rfl hk
      · replace hf := ite_neg hf h1
        refine V_iload_n (pc := 10) F dX8_waiting_10 rfl 1 rfl ?_
        refine V_aload_n (pc := 11) F dX8_waiting_11 rfl 0 rfl ?_
        refine V_get (pc := 12) F 0 8 1 i_X8 rfl (by decide) rfl (mm 1 rfl) dX8_waiting_12 rfl rfl ?_
        refine V_bipush (v := 13) (pc := 15) F dX8_waiting_15 (by decide) ?_
        refine V_iload_n (pc := 17) F dX8_waiting_17 rfl 2 rfl ?_
        refine V_iadd (pc := 18) F dX8_waiting_18 ?_
        obtain ⟨c2, hf⟩ := chk_some hf
        refine V_iald (pc := 19) F 1 rfl c2 dX8_waiting_19 ?_
        refine V_iconst (v := (-1)) (pc := 20) F dX8_waiting_20 (by decide) ?_
        refine V_icmp_ne (pc := 21) (tgt := 28) F dX8_waiting_21 (by decide) (fun h3 => ?_) (fun h3 => ?_)
        · replace hf := ite_neg hf h3
          refine V_iconst (v := 1) (pc := 28) F dX8_waiting_28 (by decide) ?_
          refine V_iload_n (pc := 29) F dX8_waiting_29 rfl 2 rfl ?_
          refine V_ishl (pc := 30) F dX8_waiting_30 ?_
          refine V_ior (pc := 31) F dX8_waiting_31 ?_
          refine V_istore_n (L2 := [(1, .int (z1 ||| ((1 : Int32) <<< (z2 &&& 31)))), (0, .ref (a 0)), (2, .int z2)]) (pc := 32) F dX8_waiting_32 rfl (by decide) rfl ?_
          refine V_iinc (v := (z2 + 1)) (L2 := [(2, .int (z2 + 1)), (1, .int (z1 ||| ((1 : Int32) <<< (z2 &&& 31)))), (0, .ref (a 0))]) (pc := 33) F dX8_waiting_33 2 rfl rfl (by decide) rfl ?_
          refine V_goto (pc := 36) (tgt := 4) F dX8_waiting_36 (by decide) ?_
          refine V.sub [2, 1, 0] rfl ?_
          exact ih v (z1 ||| ((1 : Int32) <<< (z2 &&& 31))) (z2 + 1) _ hf hk
        · replace hf := ite_pos hf h3
          refine V_iconst (v := 0) (pc := 24) F dX8_waiting_24 (by decide) ?_
          refine V_goto (pc := 25) (tgt := 31) F dX8_waiting_25 (by decide) ?_
          refine V_ior (pc := 31) F dX8_waiting_31 ?_
          refine V_istore_n (L2 := [(1, .int (z1 ||| 0)), (0, .ref (a 0)), (2, .int z2)]) (pc := 32) F dX8_waiting_32 rfl (by decide) rfl ?_
          refine V_iinc (v := (z2 + 1)) (L2 := [(2, .int (z2 + 1)), (1, .int (z1 ||| 0)), (0, .ref (a 0))]) (pc := 33) F dX8_waiting_33 2 rfl rfl (by decide) rfl ?_
          refine V_goto (pc := 36) (tgt := 4) F dX8_waiting_36 (by decide) ?_
          refine V.sub [2, 1, 0] rfl ?_
          exact ih v (z1 ||| 0) (z2 + 1) _ hf hk
  unfold fX8_waiting at hf
  refine V.eq rfl (show lv_args 0 [.ref (a 0)] = [(0, .ref (a 0))] from rfl) rfl ?_
  refine V_iconst (v := 0) (pc := 0) F dX8_waiting_0 (by decide) ?_
  refine V_istore_n (L2 := [(1, .int 0), (0, .ref (a 0))]) (pc := 1) F dX8_waiting_1 rfl (by decide) rfl ?_
  refine V_iconst (v := 0) (pc := 2) F dX8_waiting_2 (by decide) ?_
  refine V_istore_n (L2 := [(2, .int 0), (1, .int 0), (0, .ref (a 0))]) (pc := 3) F dX8_waiting_3 rfl (by decide) rfl ?_
  refine V.sub [2, 1, 0] rfl ?_
  obtain ⟨u4, g5, hf⟩ := bind_of hf
  refine K4 N v 0 0 u4 g5 ?_
  refine V_iload_n (pc := 39) F dX8_waiting_39 rfl 0 rfl ?_
  obtain rfl := some_of hf
  exact V_ret F rfl rfl dX8_waiting_40 rfl rfl
theorem hd_X8_bits : yX8_bits.cls ≠ "java/lang/invoke/MethodHandle" ∧ yX8_bits.cls ≠ "java/lang/invoke/VarHandle" ∧ (parseMethodDescriptor yX8_bits.desc).map (fun d => d.parameters.length) = some 1 := by decide +kernel
def fX8_bits_L4 (N : Nat)  : Nat → Int32 → Int32 → Option (Int32)
  | 0, _, _ => none
  | n + 1, z1, z2 =>
    if z2 = 0 then
      some z1
    else
      fX8_bits_L4 N n (z1 + 1) (z2 &&& (z2 - 1))
def fX8_bits (N : Nat) (x0 : Int32) : Option (Int32) :=
  (fX8_bits_L4 N N 0 x0).bind fun u2 =>
    some u2
set_option maxHeartbeats 8000000 in
set_option maxRecDepth 100000 in
theorem M_X8_bits (l : Launch) (D : va_G) (cy : Nat → ClassId) (N : Nat) (x0 : Int32) (o : Int32) (hf : fX8_bits N x0 = some o) : okM l yX8_bits wsX8_bits (rmz 0 0) D cy [.int x0] ([] : va_W) ([] : va_W) (some (.int o)) := by
  refine okM_of (own := RX8) (nme := "bits") (cc := cX8_bits) (maxL := 3) (ret := (some .int)) (by decide) rfl rfl rfl (Nat.le_of_ble_eq_true rfl) ?_
  intro p e s m args below meth c A F
  have K4 : ∀ (n : Nat) (z1 : Int32) (z2 : Int32) (u : Int32), fX8_bits_L4 N n z1 z2 = some u → V p l e (rmz 0 0) s m args below meth c 3 D A 0 0 (MQ below (ok_Q D ([] : va_W) (some (.int o)) A) args s 0 0 A) ([] : va_W) [(1, .int u)] [] 20 → V p l e (rmz 0 0) s m args below meth c 3 D A 0 0 (MQ below (ok_Q D ([] : va_W) (some (.int o)) A) args s 0 0 A) ([] : va_W) [(1, .int z1), (2, .int z2)] [] 4 := by
    intro n
    induction n with
    | zero =>
      intro z1 z2 u hf hk
      exact nomatch (show (none : Option (Int32)) = some u from hf)
    | succ n ih =>
      intro z1 z2 u hf hk
      rw [fX8_bits_L4] at hf
      refine V_iload_n (pc := 4) F dX8_bits_4 rfl 1 rfl ?_
      refine V_if_eq (pc := 5) (tgt := 20) F dX8_bits_5 (by decide) (fun h1 => ?_) (fun h1 => ?_)
      · replace hf := ite_pos hf h1
        obtain rfl := some_of hf
        exact V.sub [0] rfl hk
      · replace hf := ite_neg hf h1
        refine V_iinc (v := (z1 + 1)) (L2 := [(1, .int (z1 + 1)), (2, .int z2)]) (pc := 8) F dX8_bits_8 0 rfl rfl (by decide) rfl ?_
        refine V_iload_n (pc := 11) F dX8_bits_11 rfl 1 rfl ?_
        refine V_iload_n (pc := 12) F dX8_bits_12 rfl 1 rfl ?_
        refine V_iconst (v := 1) (pc := 13) F dX8_bits_13 (by decide) ?_
        refine V_isub (pc := 14) F dX8_bits_14 ?_
        refine V_iand (pc := 15) F dX8_bits_15 ?_
        refine V_istore_n (L2 := [(2, .int (z2 &&& (z2 - 1))), (1, .int (z1 + 1))]) (pc := 16) F dX8_bits_16 rfl (by decide) rfl ?_
        refine V_goto (pc := 17) (tgt := 4) F dX8_bits_17 (by decide) ?_
        refine V.sub [1, 0] rfl ?_
        exact ih (z1 + 1) (z2 &&& (z2 - 1)) _ hf hk
  unfold fX8_bits at hf
  refine V.eq rfl (show lv_args 0 [.int x0] = [(0, .int x0)] from rfl) rfl ?_
  refine V_iconst (v := 0) (pc := 0) F dX8_bits_0 (by decide) ?_
  refine V_istore_n (L2 := [(1, .int 0), (0, .int x0)]) (pc := 1) F dX8_bits_1 rfl (by decide) rfl ?_
  refine V_iload_n (pc := 2) F dX8_bits_2 rfl 1 rfl ?_
  refine V_istore_n (L2 := [(2, .int x0), (1, .int 0), (0, .int x0)]) (pc := 3) F dX8_bits_3 rfl (by decide) rfl ?_
  refine V.sub [1, 0] rfl ?_
  obtain ⟨u2, g3, hf⟩ := bind_of hf
  refine K4 N 0 x0 u2 g3 ?_
  refine V_iload_n (pc := 20) F dX8_bits_20 rfl 0 rfl ?_
  obtain rfl := some_of hf
  exact V_ret F rfl rfl dX8_bits_21 rfl rfl
theorem hd_X8_greensNow : yX8_greensNow.cls = RX8 ∧ yX8_greensNow.cls ≠ "java/lang/invoke/MethodHandle" ∧ yX8_greensNow.cls ≠ "java/lang/invoke/VarHandle" ∧ (parseMethodDescriptor yX8_greensNow.desc).map (fun d => d.parameters.length) = some 0 := by decide +kernel
def fX8_greensNow (N : Nat) (v : SX8) : Option (Int32) :=
  chk 2 143 (
    if (v.2.1 (2 : Int32).toNatClampNeg) = (-1) then
      some 0
    else
      (fX8_isClearing N v).bind fun r3 =>
        if r3 = 0 then
          chk 2 143 (
            (fX8_greens N v (v.2.1 (2 : Int32).toNatClampNeg)).bind fun r7 =>
              some r7
          )
        else
          chk 2 143 (
            (fX8_greens N v (v.2.1 (2 : Int32).toNatClampNeg)).bind fun r10 =>
              chk 5 143 (
                (fX8_greens N v (v.2.1 (5 : Int32).toNatClampNeg)).bind fun r13 =>
                  some (r10 &&& r13)
              )
          )
  )
set_option maxHeartbeats 8000000 in
set_option maxRecDepth 100000 in
theorem M_X8_greensNow (l : Launch) (D : va_G) (cy : Nat → ClassId) (N : Nat) (a : Nat → Nat) (v : SX8) (o : Int32) (hf : fX8_greensNow N v = some o) : okM l yX8_greensNow wsX8_greensNow (rmz 2 43) D cy [.ref (a 0)] (wX8 cy a v) (wX8 cy a v) (some (.int o)) := by
  refine okM_of (own := RX8) (nme := "greensNow") (cc := cX8_greensNow) (maxL := 1) (ret := (some .int)) (by decide) rfl rfl rfl (Nat.le_of_ble_eq_true rfl) ?_
  intro p e s m args below meth c A F
  have i_X8 : ∀ w ∈ u_ws RX8 TX8 13, w ∈ wsX8_greensNow := fun _ h => List.mem_cons_of_mem _ (List.mem_append_right _ h)
  unfold fX8_greensNow at hf
  refine V.eq rfl (show lv_args 0 [.ref (a 0)] = [(0, .ref (a 0))] from rfl) rfl ?_
  refine V_aload_n (pc := 0) F dX8_greensNow_0 rfl 0 rfl ?_
  refine V_get (pc := 1) F 0 8 1 i_X8 rfl (by decide) rfl (mm 1 rfl) dX8_greensNow_1 rfl rfl ?_
  refine V_iconst (v := 2) (pc := 4) F dX8_greensNow_4 (by decide) ?_
  obtain ⟨c1, hf⟩ := chk_some hf
  refine V_iald (pc := 5) F 1 rfl c1 dX8_greensNow_5 ?_
  refine V_iconst (v := (-1)) (pc := 6) F dX8_greensNow_6 (by decide) ?_
  refine V_icmp_ne (pc := 7) (tgt := 12) F dX8_greensNow_7 (by decide) (fun h2 => ?_) (fun h2 => ?_)
  · replace hf := ite_neg hf h2
    refine V_aload_n (pc := 12) F dX8_greensNow_12 rfl 0 rfl ?_
    obtain ⟨r3, g4, hf⟩ := bind_of hf
    refine V_V (w2 := wX8 cy a v) (rest := []) (st2 := [.int r3]) (pc := 13) F 8 (M_X8_isClearing l D cy N a v r3 g4) (cwV 0 F.ts gX8_greensNow_X8_isClearing rfl rfl rfl hd_X8_isClearing ⟨Nat.le_of_ble_eq_true rfl, Nat.le_of_ble_eq_true rfl⟩) rfl dX8_greensNow_13 Fit.whole rfl rfl rfl (Nat.le_of_ble_eq_true rfl) (Nat.zero_le _) (Nat.zero_le _) rfl rfl rfl ?_
    refine V_if_eq (pc := 16) (tgt := 43) F dX8_greensNow_16 (by decide) (fun h5 => ?_) (fun h5 => ?_)
    · replace hf := ite_pos hf h5
      refine V_aload_n (pc := 43) F dX8_greensNow_43 rfl 0 rfl ?_
      refine V_aload_n (pc := 44) F dX8_greensNow_44 rfl 0 rfl ?_
      refine V_get (pc := 45) F 0 8 1 i_X8 rfl (by decide) rfl (mm 1 rfl) dX8_greensNow_45 rfl rfl ?_
      refine V_iconst (v := 2) (pc := 48) F dX8_greensNow_48 (by decide) ?_
      obtain ⟨c6, hf⟩ := chk_some hf
      refine V_iald (pc := 49) F 1 rfl c6 dX8_greensNow_49 ?_
      obtain ⟨r7, g8, hf⟩ := bind_of hf
      refine V_V (w2 := wX8 cy a v) (rest := []) (st2 := [.int r7]) (pc := 50) F 8 (M_X8_greens l D cy N a v (v.2.1 (2 : Int32).toNatClampNeg) r7 g8) (cwV 1 F.ts gX8_greensNow_X8_greens rfl rfl rfl hd_X8_greens ⟨Nat.le_of_ble_eq_true rfl, Nat.le_of_ble_eq_true rfl⟩) rfl dX8_greensNow_50 Fit.whole rfl rfl rfl (Nat.le_of_ble_eq_true rfl) (Nat.zero_le _) (Nat.zero_le _) rfl rfl rfl ?_
      obtain rfl := some_of hf
      exact V_ret F rfl rfl dX8_greensNow_53 rfl rfl
    · replace hf := ite_neg hf h5
      refine V_aload_n (pc := 19) F dX8_greensNow_19 rfl 0 rfl ?_
      refine V_aload_n (pc := 20) F dX8_greensNow_20 rfl 0 rfl ?_
      refine V_get (pc := 21) F 0 8 1 i_X8 rfl (by decide) rfl (mm 1 rfl) dX8_greensNow_21 rfl rfl ?_
      refine V_iconst (v := 2) (pc := 24) F dX8_greensNow_24 (by decide) ?_
      obtain ⟨c9, hf⟩ := chk_some hf
      refine V_iald (pc := 25) F 1 rfl c9 dX8_greensNow_25 ?_
      obtain ⟨r10, g11, hf⟩ := bind_of hf
      refine V_V (w2 := wX8 cy a v) (rest := []) (st2 := [.int r10]) (pc := 26) F 8 (M_X8_greens l D cy N a v (v.2.1 (2 : Int32).toNatClampNeg) r10 g11) (cwV 1 F.ts gX8_greensNow_X8_greens rfl rfl rfl hd_X8_greens ⟨Nat.le_of_ble_eq_true rfl, Nat.le_of_ble_eq_true rfl⟩) rfl dX8_greensNow_26 Fit.whole rfl rfl rfl (Nat.le_of_ble_eq_true rfl) (Nat.zero_le _) (Nat.zero_le _) rfl rfl rfl ?_
      refine V_aload_n (pc := 29) F dX8_greensNow_29 rfl 0 rfl ?_
      refine V_aload_n (pc := 30) F dX8_greensNow_30 rfl 0 rfl ?_
      refine V_get (pc := 31) F 0 8 1 i_X8 rfl (by decide) rfl (mm 1 rfl) dX8_greensNow_31 rfl rfl ?_
      refine V_iconst (v := 5) (pc := 34) F dX8_greensNow_34 (by decide) ?_
      obtain ⟨c12, hf⟩ := chk_some hf
      refine V_iald (pc := 35) F 1 rfl c12 dX8_greensNow_35 ?_
      obtain ⟨r13, g14, hf⟩ := bind_of hf
      refine V_V (w2 := wX8 cy a v) (rest := [.int r10]) (st2 := [.int r13, .int r10]) (pc := 36) F 8 (M_X8_greens l D cy N a v (v.2.1 (5 : Int32).toNatClampNeg) r13 g14) (cwV 1 F.ts gX8_greensNow_X8_greens rfl rfl rfl hd_X8_greens ⟨Nat.le_of_ble_eq_true rfl, Nat.le_of_ble_eq_true rfl⟩) rfl dX8_greensNow_36 Fit.whole rfl rfl rfl (Nat.le_of_ble_eq_true rfl) (Nat.zero_le _) (Nat.zero_le _) rfl rfl rfl ?_
      refine V_iand (pc := 39) F dX8_greensNow_39 ?_
      refine V_goto (pc := 40) (tgt := 53) F dX8_greensNow_40 (by decide) ?_
      obtain rfl := some_of hf
      exact V_ret F rfl rfl dX8_greensNow_53 rfl rfl
  · replace hf := ite_pos hf h2
    refine V_iconst (v := 0) (pc := 10) F dX8_greensNow_10 (by decide) ?_
    obtain rfl := some_of hf
    exact V_ret F rfl rfl dX8_greensNow_11 rfl rfl
theorem hd_X8_come : yX8_come.cls = RX8 ∧ yX8_come.cls ≠ "java/lang/invoke/MethodHandle" ∧ yX8_come.cls ≠ "java/lang/invoke/VarHandle" ∧ (parseMethodDescriptor yX8_come.desc).map (fun d => d.parameters.length) = some 1 := by decide +kernel
def fX8_come (N : Nat) (v : SX8) (x1 : Int32) : Option (Int32 × SX8) :=
  (fX8_isDirection N x1).bind fun r1 =>
    if r1 = 0 then
      some (0, (1, v.2))
    else
      (fX8_save N (0, v.2)).bind fun r6 =>
        chk ((13 : Int32) + x1) 143 (
          if (r6.2.1 ((13 : Int32) + x1).toNatClampNeg) = (-1) then
            chk ((13 : Int32) + x1) 143 (
              nmd (upd r6.2.1 ((13 : Int32) + x1).toNatClampNeg (0 : Int32)) fun f16 =>
              chk ((13 : Int32) + x1) 143 (
                some ((f16 ((13 : Int32) + x1).toNatClampNeg), (r6.1, f16, r6.2.2))
              )
            )
          else
            chk ((13 : Int32) + x1) 143 (
              chk ((13 : Int32) + x1) 143 (
                nmd (upd r6.2.1 ((13 : Int32) + x1).toNatClampNeg (r6.2.1 ((13 : Int32) + x1).toNatClampNeg)) fun f12 =>
                chk ((13 : Int32) + x1) 143 (
                  some ((f12 ((13 : Int32) + x1).toNatClampNeg), (r6.1, f12, r6.2.2))
                )
              )
            )
        )
set_option maxHeartbeats 8000000 in
set_option maxRecDepth 100000 in
theorem M_X8_come (l : Launch) (D : va_G) (cy : Nat → ClassId) (N : Nat) (a : Nat → Nat) (v : SX8) (x1 : Int32) (o : Int32 × SX8) (hf : fX8_come N v x1 = some o) : okM l yX8_come wsX8_come (rmz 2 42) D cy [.ref (a 0), .int x1] (wX8 cy a v) (wX8 cy a o.2) (some (.int o.1)) := by
  refine okM_of (own := RX8) (nme := "come") (cc := cX8_come) (maxL := 2) (ret := (some .int)) (by decide) rfl rfl rfl (Nat.le_of_ble_eq_true rfl) ?_
  intro p e s m args below meth c A F
  have i_X8 : ∀ w ∈ u_ws RX8 TX8 13, w ∈ wsX8_come := fun _ h => List.mem_cons_of_mem _ (List.mem_append_right _ h)
  unfold fX8_come at hf
  refine V.eq rfl (show lv_args 0 [.ref (a 0), .int x1] = [(0, .ref (a 0)), (1, .int x1)] from rfl) rfl ?_
  refine V_aload_n (pc := 0) F dX8_come_0 rfl 0 rfl ?_
  refine V_iload_n (pc := 1) F dX8_come_1 rfl 1 rfl ?_
  obtain ⟨r1, g2, hf⟩ := bind_of hf
  refine V_Sc (rest := [.ref (a 0)]) (st2 := [.int r1, .ref (a 0)]) (pc := 2) F (M_X8_isDirection l D cy N x1 r1 g2) (va_cwS 1 F.ts gX8_come_X8_isDirection rfl rfl rfl hd_X8_isDirection ⟨Nat.le_of_ble_eq_true rfl, Nat.le_of_ble_eq_true rfl⟩) rfl dX8_come_2 (Nat.le_of_ble_eq_true rfl) (Nat.zero_le _) (Nat.zero_le _) rfl rfl ?_
  refine V_if_eq (pc := 5) (tgt := 12) F dX8_come_5 (by decide) (fun h3 => ?_) (fun h3 => ?_)
  · replace hf := ite_pos hf h3
    refine V_iconst (v := 1) (pc := 12) F dX8_come_12 (by decide) ?_
    refine V_put (w2 := wX8 cy a (1, v.2)) (pc := 13) F 0 8 0 i_X8 tyX8 tyX8_ok nmX8 rfl (by decide) rfl (mm 1 rfl) rfl dX8_come_13 rfl rfl rfl (Nat.le_of_ble_eq_true rfl) rfl ?_
    refine V_aload_n (pc := 16) F dX8_come_16 rfl 0 rfl ?_
    refine V_get (pc := 17) F 0 8 0 i_X8 rfl (by decide) rfl (mm 1 rfl) dX8_come_17 rfl rfl ?_
    refine V_if_le (pc := 20) (tgt := 25) F dX8_come_20 (by decide) (fun h4 => ?_) (fun h4 => ?_)
    · exact absurd h4 (show ¬ ((1 : Int32) ≤ (0 : Int32)) by decide)
    · refine V_iconst (v := 0) (pc := 23) F dX8_come_23 (by decide) ?_
      obtain rfl := some_of hf
      exact V_ret F rfl rfl dX8_come_24 rfl rfl
  · replace hf := ite_neg hf h3
    refine V_iconst (v := 0) (pc := 8) F dX8_come_8 (by decide) ?_
    refine V_goto (pc := 9) (tgt := 13) F dX8_come_9 (by decide) ?_
    refine V_put (w2 := wX8 cy a (0, v.2)) (pc := 13) F 0 8 0 i_X8 tyX8 tyX8_ok nmX8 rfl (by decide) rfl (mm 1 rfl) rfl dX8_come_13 rfl rfl rfl (Nat.le_of_ble_eq_true rfl) rfl ?_
    refine V_aload_n (pc := 16) F dX8_come_16 rfl 0 rfl ?_
    refine V_get (pc := 17) F 0 8 0 i_X8 rfl (by decide) rfl (mm 1 rfl) dX8_come_17 rfl rfl ?_
    refine V_if_le (pc := 20) (tgt := 25) F dX8_come_20 (by decide) (fun h5 => ?_) (fun h5 => ?_)
    · refine V_aload_n (pc := 25) F dX8_come_25 rfl 0 rfl ?_
      obtain ⟨r6, g7, hf⟩ := bind_of hf
      refine V_V (w2 := wX8 cy a r6) (rest := []) (st2 := []) (pc := 26) F 8 (M_X8_save l D cy N a (0, v.2) r6 g7) (cwV 0 F.ts gX8_come_X8_save rfl rfl rfl hd_X8_save ⟨Nat.le_of_ble_eq_true rfl, Nat.le_of_ble_eq_true rfl⟩) rfl dX8_come_26 Fit.whole fstX8 rfl rfl (Nat.le_of_ble_eq_true rfl) (Nat.zero_le _) (Nat.zero_le _) rfl rfl rfl ?_
      refine V_aload_n (pc := 29) F dX8_come_29 rfl 0 rfl ?_
      refine V_get (pc := 30) F 0 8 1 i_X8 rfl (by decide) rfl (mm 2 rfl) dX8_come_30 rfl rfl ?_
      refine V_bipush (v := 13) (pc := 33) F dX8_come_33 (by decide) ?_
      refine V_iload_n (pc := 35) F dX8_come_35 rfl 1 rfl ?_
      refine V_iadd (pc := 36) F dX8_come_36 ?_
      refine V_aload_n (pc := 37) F dX8_come_37 rfl 0 rfl ?_
      refine V_get (pc := 38) F 0 8 1 i_X8 rfl (by decide) rfl (mm 2 rfl) dX8_come_38 rfl rfl ?_
      refine V_bipush (v := 13) (pc := 41) F dX8_come_41 (by decide) ?_
      refine V_iload_n (pc := 43) F dX8_come_43 rfl 1 rfl ?_
      refine V_iadd (pc := 44) F dX8_come_44 ?_
      obtain ⟨c8, hf⟩ := chk_some hf
      refine V_iald (pc := 45) F 1 rfl c8 dX8_come_45 ?_
      refine V_iconst (v := (-1)) (pc := 46) F dX8_come_46 (by decide) ?_
      refine V_icmp_ne (pc := 47) (tgt := 54) F dX8_come_47 (by decide) (fun h9 => ?_) (fun h9 => ?_)
      · replace hf := ite_neg hf h9
        refine V_aload_n (pc := 54) F dX8_come_54 rfl 0 rfl ?_
        refine V_get (pc := 55) F 0 8 1 i_X8 rfl (by decide) rfl (mm 2 rfl) dX8_come_55 rfl rfl ?_
        refine V_bipush (v := 13) (pc := 58) F dX8_come_58 (by decide) ?_
        refine V_iload_n (pc := 60) F dX8_come_60 rfl 1 rfl ?_
        refine V_iadd (pc := 61) F dX8_come_61 ?_
        obtain ⟨c10, hf⟩ := chk_some hf
        refine V_iald (pc := 62) F 1 rfl c10 dX8_come_62 ?_
        obtain ⟨c11, hf⟩ := chk_some hf
        obtain ⟨f12, e13, hf⟩ := nmd_of hf
        refine V_iast (w2 := wX8 cy a (r6.1, f12, r6.2.2)) (pc := 63) F 1 rfl c11 e13 dX8_come_63 rfl ?_
        refine V_aload_n (pc := 64) F dX8_come_64 rfl 0 rfl ?_
        refine V_get (pc := 65) F 0 8 1 i_X8 rfl (by decide) rfl (mm 2 rfl) dX8_come_65 rfl rfl ?_
        refine V_bipush (v := 13) (pc := 68) F dX8_come_68 (by decide) ?_
        refine V_iload_n (pc := 70) F dX8_come_70 rfl 1 rfl ?_
        refine V_iadd (pc := 71) F dX8_come_71 ?_
        obtain ⟨c14, hf⟩ := chk_some hf
        refine V_iald (pc := 72) F 1 rfl c14 dX8_come_72 ?_
        obtain rfl := some_of hf
        exact V_ret F rfl rfl dX8_come_73 rfl rfl
      · replace hf := ite_pos hf h9
        refine V_iconst (v := 0) (pc := 50) F dX8_come_50 (by decide) ?_
        refine V_goto (pc := 51) (tgt := 63) F dX8_come_51 (by decide) ?_
        obtain ⟨c15, hf⟩ := chk_some hf
        obtain ⟨f16, e17, hf⟩ := nmd_of hf
        refine V_iast (w2 := wX8 cy a (r6.1, f16, r6.2.2)) (pc := 63) F 1 rfl c15 e17 dX8_come_63 rfl ?_
        refine V_aload_n (pc := 64) F dX8_come_64 rfl 0 rfl ?_
        refine V_get (pc := 65) F 0 8 1 i_X8 rfl (by decide) rfl (mm 2 rfl) dX8_come_65 rfl rfl ?_
        refine V_bipush (v := 13) (pc := 68) F dX8_come_68 (by decide) ?_
        refine V_iload_n (pc := 70) F dX8_come_70 rfl 1 rfl ?_
        refine V_iadd (pc := 71) F dX8_come_71 ?_
        obtain ⟨c18, hf⟩ := chk_some hf
        refine V_iald (pc := 72) F 1 rfl c18 dX8_come_72 ?_
        obtain rfl := some_of hf
        exact V_ret F rfl rfl dX8_come_73 rfl rfl
    · exact absurd h5 (show ¬ (¬ ((0 : Int32) ≤ (0 : Int32))) by decide)
theorem hd_X8_serve : yX8_serve.cls = RX8 ∧ yX8_serve.cls ≠ "java/lang/invoke/MethodHandle" ∧ yX8_serve.cls ≠ "java/lang/invoke/VarHandle" ∧ (parseMethodDescriptor yX8_serve.desc).map (fun d => d.parameters.length) = some 0 := by decide +kernel
def fX8_serve_L7 (N : Nat) (z1 : Int32) : Nat → SX8 → Int32 → Option (SX8)
  | 0, _, _ => none
  | n + 1, v, z2 =>
    if 6 ≤ z2 then
      some v
    else
      chk ((13 : Int32) + z2) 143 (
        if (v.2.1 ((13 : Int32) + z2).toNatClampNeg) = (-1) then
          if (v.2.1 ((13 : Int32) + z2).toNatClampNeg) = (-1) then
            fX8_serve_L7 N z1 n v (z2 + 1)
          else
            chk ((13 : Int32) + z2) 143 (
              chk ((13 : Int32) + z2) 143 (
                nmd (upd v.2.1 ((13 : Int32) + z2).toNatClampNeg ((v.2.1 ((13 : Int32) + z2).toNatClampNeg) + 1)) fun f9 =>
                fX8_serve_L7 N z1 n (v.1, f9, v.2.2) (z2 + 1)
              )
            )
        else
          if ((z1 >>> (z2 &&& 31)) &&& 1) = 1 then
            chk ((19 : Int32) + z2) 143 (
              chk ((19 : Int32) + z2) 143 (
                nmd (upd v.2.1 ((19 : Int32) + z2).toNatClampNeg ((v.2.1 ((19 : Int32) + z2).toNatClampNeg) + 1)) fun f19 =>
                chk ((25 : Int32) + z2) 143 (
                  if (v.2.1 ((13 : Int32) + z2).toNatClampNeg) ≤ (f19 ((25 : Int32) + z2).toNatClampNeg) then
                    chk ((25 : Int32) + z2) 143 (
                      chk ((25 : Int32) + z2) 143 (
                        nmd (upd f19 ((25 : Int32) + z2).toNatClampNeg (f19 ((25 : Int32) + z2).toNatClampNeg)) fun f25 =>
                        chk ((13 : Int32) + z2) 143 (
                          nmd (upd f25 ((13 : Int32) + z2).toNatClampNeg ((-1) : Int32)) fun f28 =>
                          fX8_serve_L7 N z1 n (v.1, f28, v.2.2) (z2 + 1)
                        )
                      )
                    )
                  else
                    chk ((25 : Int32) + z2) 143 (
                      nmd (upd f19 ((25 : Int32) + z2).toNatClampNeg (v.2.1 ((13 : Int32) + z2).toNatClampNeg)) fun f31 =>
                      chk ((13 : Int32) + z2) 143 (
                        nmd (upd f31 ((13 : Int32) + z2).toNatClampNeg ((-1) : Int32)) fun f34 =>
                        fX8_serve_L7 N z1 n (v.1, f34, v.2.2) (z2 + 1)
                      )
                    )
                )
              )
            )
          else
            if (v.2.1 ((13 : Int32) + z2).toNatClampNeg) = (-1) then
              fX8_serve_L7 N z1 n v (z2 + 1)
            else
              chk ((13 : Int32) + z2) 143 (
                chk ((13 : Int32) + z2) 143 (
                  nmd (upd v.2.1 ((13 : Int32) + z2).toNatClampNeg ((v.2.1 ((13 : Int32) + z2).toNatClampNeg) + 1)) fun f15 =>
                  fX8_serve_L7 N z1 n (v.1, f15, v.2.2) (z2 + 1)
                )
              )
      )
def fX8_serve (N : Nat) (v : SX8) : Option (SX8) :=
  (fX8_greensNow N v).bind fun r1 =>
    (fX8_serve_L7 N r1 N v 0).bind fun u36 =>
      some u36
set_option maxHeartbeats 8000000 in
set_option maxRecDepth 100000 in
theorem M_X8_serve (l : Launch) (D : va_G) (cy : Nat → ClassId) (N : Nat) (a : Nat → Nat) (v : SX8) (o : SX8) (hf : fX8_serve N v = some o) : okM l yX8_serve wsX8_serve (rmz 3 63) D cy [.ref (a 0)] (wX8 cy a v) (wX8 cy a o) none := by
  refine okM_of (own := RX8) (nme := "serve") (cc := cX8_serve) (maxL := 4) (ret := none) (by decide) rfl rfl rfl (Nat.le_of_ble_eq_true rfl) ?_
  intro p e s m args below meth c A F
  have i_X8 : ∀ w ∈ u_ws RX8 TX8 13, w ∈ wsX8_serve := fun _ h => List.mem_cons_of_mem _ (List.mem_append_right _ h)
  have K7 : ∀ (n : Nat) (z1 : Int32) (v : SX8) (z2 : Int32) (u : SX8), fX8_serve_L7 N z1 n v z2 = some u → V p l e (rmz 3 63) s m args below meth c 4 D A 0 0 (MQ below (ok_Q D (wX8 cy a o) none A) args s 0 0 A) (wX8 cy a u) [] [] 122 → V p l e (rmz 3 63) s m args below meth c 4 D A 0 0 (MQ below (ok_Q D (wX8 cy a o) none A) args s 0 0 A) (wX8 cy a v) [(0, .ref (a 0)), (1, .int z1), (2, .int z2)] [] 7 := by
    intro n
    induction n with
    | zero =>
      intro z1 v z2 u hf hk
      exact nomatch (show (none : Option (SX8)) = some u from hf)
    | succ n ih =>
      intro z1 v z2 u hf hk
      rw [fX8_serve_L7] at hf
      refine V_iload_n (pc := 7) F dX8_serve_7 rfl 2 rfl ?_
      refine V_bipush (v := 6) (pc := 8) F dX8_serve_8 (by decide) ?_
      refine V_icmp_ge (pc := 10) (tgt := 122) F dX8_serve_10 (by decide) (fun h3 => ?_) (fun h3 => ?_)
      · replace hf := ite_pos hf h3
        obtain rfl := some_of hf
        exact V.sub [] rfl hk
      · replace hf := ite_neg hf h3
        refine V_aload_n (pc := 13) F dX8_serve_13 rfl 0 rfl ?_
        refine V_get (pc := 14) F 0 8 1 i_X8 rfl (by decide) rfl (mm 1 rfl) dX8_serve_14 rfl rfl ?_
        refine V_bipush (v := 13) (pc := 17) F dX8_serve_17 (by decide) ?_
        refine V_iload_n (pc := 19) F dX8_serve_19 rfl 2 rfl ?_
        refine V_iadd (pc := 20) F dX8_serve_20 ?_
        obtain ⟨c4, hf⟩ := chk_some hf
        refine V_iald (pc := 21) F 1 rfl c4 dX8_serve_21 ?_
        refine V_istore_n (L2 := [(3, .int (v.2.1 ((13 : Int32) + z2).toNatClampNeg)), (0, .ref (a 0)), (1, .int z1), (2, .int z2)]) (pc := 22) F dX8_serve_22 rfl (by decide) rfl ?_
        refine V_iload_n (pc := 23) F dX8_serve_23 rfl 0 rfl ?_
        refine V_iconst (v := (-1)) (pc := 24) F dX8_serve_24 (by decide) ?_
        refine V_icmp_eq (pc := 25) (tgt := 98) F dX8_serve_25 (by decide) (fun h5 => ?_) (fun h5 => ?_)
        · replace hf := ite_pos hf h5
          refine V_iload_n (pc := 98) F dX8_serve_98 rfl 0 rfl ?_
          refine V_iconst (v := (-1)) (pc := 99) F dX8_serve_99 (by decide) ?_
          refine V_icmp_eq (pc := 100) (tgt := 116) F dX8_serve_100 (by decide) (fun h6 => ?_) (fun h6 => ?_)
          · replace hf := ite_pos hf h6
            refine V_iinc (v := (z2 + 1)) (L2 := [(2, .int (z2 + 1)), (3, .int (v.2.1 ((13 : Int32) + z2).toNatClampNeg)), (0, .ref (a 0)), (1, .int z1)]) (pc := 116) F dX8_serve_116 3 rfl rfl (by decide) rfl ?_
            refine V_goto (pc := 119) (tgt := 7) F dX8_serve_119 (by decide) ?_
            refine V.sub [2, 3, 0] rfl ?_
            exact ih z1 v (z2 + 1) _ hf hk
          · replace hf := ite_neg hf h6
            refine V_aload_n (pc := 103) F dX8_serve_103 rfl 1 rfl ?_
            refine V_get (pc := 104) F 0 8 1 i_X8 rfl (by decide) rfl (mm 1 rfl) dX8_serve_104 rfl rfl ?_
            refine V_bipush (v := 13) (pc := 107) F dX8_serve_107 (by decide) ?_
            refine V_iload_n (pc := 109) F dX8_serve_109 rfl 3 rfl ?_
            refine V_iadd (pc := 110) F dX8_serve_110 ?_
            refine V_dup2_11 (pc := 111) F dX8_serve_111 rfl rfl ?_
            obtain ⟨c7, hf⟩ := chk_some hf
            refine V_iald (pc := 112) F 1 rfl c7 dX8_serve_112 ?_
            refine V_iconst (v := 1) (pc := 113) F dX8_serve_113 (by decide) ?_
            refine V_iadd (pc := 114) F dX8_serve_114 ?_
            obtain ⟨c8, hf⟩ := chk_some hf
            obtain ⟨f9, e10, hf⟩ := nmd_of hf
            refine V_iast (w2 := wX8 cy a (v.1, f9, v.2.2)) (pc := 115) F 1 rfl c8 e10 dX8_serve_115 rfl ?_
            refine V_iinc (v := (z2 + 1)) (L2 := [(2, .int (z2 + 1)), (3, .int (v.2.1 ((13 : Int32) + z2).toNatClampNeg)), (0, .ref (a 0)), (1, .int z1)]) (pc := 116) F dX8_serve_116 3 rfl rfl (by decide) rfl ?_
            refine V_goto (pc := 119) (tgt := 7) F dX8_serve_119 (by decide) ?_
            refine V.sub [2, 3, 0] rfl ?_
            exact ih z1 (v.1, f9, v.2.2) (z2 + 1) _ hf hk
        · replace hf := ite_neg hf h5
          refine V_iload_n (pc := 28) F dX8_serve_28 rfl 2 rfl ?_
          refine V_iload_n (pc := 29) F dX8_serve_29 rfl 3 rfl ?_
          refine V_ishr (pc := 30) F dX8_serve_30 ?_
          refine V_iconst (v := 1) (pc := 31) F dX8_serve_31 (by decide) ?_
          refine V_iand (pc := 32) F dX8_serve_32 ?_
          refine V_iconst (v := 1) (pc := 33) F dX8_serve_33 (by decide) ?_
          refine V_icmp_ne (pc := 34) (tgt := 98) F dX8_serve_34 (by decide) (fun h11 => ?_) (fun h11 => ?_)
          · replace hf := ite_neg hf h11
            refine V_iload_n (pc := 98) F dX8_serve_98 rfl 0 rfl ?_
            refine V_iconst (v := (-1)) (pc := 99) F dX8_serve_99 (by decide) ?_
            refine V_icmp_eq (pc := 100) (tgt := 116) F dX8_serve_100 (by decide) (fun h12 => ?_) (fun h12 => ?_)
            · replace hf := ite_pos hf h12
              refine V_iinc (v := (z2 + 1)) (L2 := [(2, .int (z2 + 1)), (3, .int (v.2.1 ((13 : Int32) + z2).toNatClampNeg)), (0, .ref (a 0)), (1, .int z1)]) (pc := 116) F dX8_serve_116 3 rfl rfl (by decide) rfl ?_
              refine V_goto (pc := 119) (tgt := 7) F dX8_serve_119 (by decide) ?_
              refine V.sub [2, 3, 0] rfl ?_
              exact ih z1 v (z2 + 1) _ hf hk
            · replace hf := ite_neg hf h12
              refine V_aload_n (pc := 103) F dX8_serve_103 rfl 1 rfl ?_
              refine V_get (pc := 104) F 0 8 1 i_X8 rfl (by decide) rfl (mm 1 rfl) dX8_serve_104 rfl rfl ?_
              refine V_bipush (v := 13) (pc := 107) F dX8_serve_107 (by decide) ?_
              refine V_iload_n (pc := 109) F dX8_serve_109 rfl 3 rfl ?_
              refine V_iadd (pc := 110) F dX8_serve_110 ?_
              refine V_dup2_11 (pc := 111) F dX8_serve_111 rfl rfl ?_
              obtain ⟨c13, hf⟩ := chk_some hf
              refine V_iald (pc := 112) F 1 rfl c13 dX8_serve_112 ?_
              refine V_iconst (v := 1) (pc := 113) F dX8_serve_113 (by decide) ?_
              refine V_iadd (pc := 114) F dX8_serve_114 ?_
              obtain ⟨c14, hf⟩ := chk_some hf
              obtain ⟨f15, e16, hf⟩ := nmd_of hf
              refine V_iast (w2 := wX8 cy a (v.1, f15, v.2.2)) (pc := 115) F 1 rfl c14 e16 dX8_serve_115 rfl ?_
              refine V_iinc (v := (z2 + 1)) (L2 := [(2, .int (z2 + 1)), (3, .int (v.2.1 ((13 : Int32) + z2).toNatClampNeg)), (0, .ref (a 0)), (1, .int z1)]) (pc := 116) F dX8_serve_116 3 rfl rfl (by decide) rfl ?_
              refine V_goto (pc := 119) (tgt := 7) F dX8_serve_119 (by decide) ?_
              refine V.sub [2, 3, 0] rfl ?_
              exact ih z1 (v.1, f15, v.2.2) (z2 + 1) _ hf hk
          · replace hf := ite_pos hf h11
            refine V_aload_n (pc := 37) F dX8_serve_37 rfl 1 rfl ?_
            refine V_get (pc := 38) F 0 8 1 i_X8 rfl (by decide) rfl (mm 1 rfl) dX8_serve_38 rfl rfl ?_
            refine V_bipush (v := 19) (pc := 41) F dX8_serve_41 (by decide) ?_
            refine V_iload_n (pc := 43) F dX8_serve_43 rfl 3 rfl ?_
            refine V_iadd (pc := 44) F dX8_serve_44 ?_
            refine V_dup2_11 (pc := 45) F dX8_serve_45 rfl rfl ?_
            obtain ⟨c17, hf⟩ := chk_some hf
            refine V_iald (pc := 46) F 1 rfl c17 dX8_serve_46 ?_
            refine V_iconst (v := 1) (pc := 47) F dX8_serve_47 (by decide) ?_
            refine V_iadd (pc := 48) F dX8_serve_48 ?_
            obtain ⟨c18, hf⟩ := chk_some hf
            obtain ⟨f19, e20, hf⟩ := nmd_of hf
            refine V_iast (w2 := wX8 cy a (v.1, f19, v.2.2)) (pc := 49) F 1 rfl c18 e20 dX8_serve_49 rfl ?_
            refine V_aload_n (pc := 50) F dX8_serve_50 rfl 1 rfl ?_
            refine V_get (pc := 51) F 0 8 1 i_X8 rfl (by decide) rfl (mm 1 rfl) dX8_serve_51 rfl rfl ?_
            refine V_bipush (v := 25) (pc := 54) F dX8_serve_54 (by decide) ?_
            refine V_iload_n (pc := 56) F dX8_serve_56 rfl 3 rfl ?_
            refine V_iadd (pc := 57) F dX8_serve_57 ?_
            refine V_iload_n (pc := 58) F dX8_serve_58 rfl 0 rfl ?_
            refine V_aload_n (pc := 59) F dX8_serve_59 rfl 1 rfl ?_
            refine V_get (pc := 60) F 0 8 1 i_X8 rfl (by decide) rfl (mm 1 rfl) dX8_serve_60 rfl rfl ?_
            refine V_bipush (v := 25) (pc := 63) F dX8_serve_63 (by decide) ?_
            refine V_iload_n (pc := 65) F dX8_serve_65 rfl 3 rfl ?_
            refine V_iadd (pc := 66) F dX8_serve_66 ?_
            obtain ⟨c21, hf⟩ := chk_some hf
            refine V_iald (pc := 67) F 1 rfl c21 dX8_serve_67 ?_
            refine V_icmp_le (pc := 68) (tgt := 75) F dX8_serve_68 (by decide) (fun h22 => ?_) (fun h22 => ?_)
            · replace hf := ite_pos hf h22
              refine V_aload_n (pc := 75) F dX8_serve_75 rfl 1 rfl ?_
              refine V_get (pc := 76) F 0 8 1 i_X8 rfl (by decide) rfl (mm 1 rfl) dX8_serve_76 rfl rfl ?_
              refine V_bipush (v := 25) (pc := 79) F dX8_serve_79 (by decide) ?_
              refine V_iload_n (pc := 81) F dX8_serve_81 rfl 3 rfl ?_
              refine V_iadd (pc := 82) F dX8_serve_82 ?_
              obtain ⟨c23, hf⟩ := chk_some hf
              refine V_iald (pc := 83) F 1 rfl c23 dX8_serve_83 ?_
              obtain ⟨c24, hf⟩ := chk_some hf
              obtain ⟨f25, e26, hf⟩ := nmd_of hf
              refine V_iast (w2 := wX8 cy a (v.1, f25, v.2.2)) (pc := 84) F 1 rfl c24 e26 dX8_serve_84 rfl ?_
              refine V_aload_n (pc := 85) F dX8_serve_85 rfl 1 rfl ?_
              refine V_get (pc := 86) F 0 8 1 i_X8 rfl (by decide) rfl (mm 1 rfl) dX8_serve_86 rfl rfl ?_
              refine V_bipush (v := 13) (pc := 89) F dX8_serve_89 (by decide) ?_
              refine V_iload_n (pc := 91) F dX8_serve_91 rfl 3 rfl ?_
              refine V_iadd (pc := 92) F dX8_serve_92 ?_
              refine V_iconst (v := (-1)) (pc := 93) F dX8_serve_93 (by decide) ?_
              obtain ⟨c27, hf⟩ := chk_some hf
              obtain ⟨f28, e29, hf⟩ := nmd_of hf
              refine V_iast (w2 := wX8 cy a (v.1, f28, v.2.2)) (pc := 94) F 1 rfl c27 e29 dX8_serve_94 rfl ?_
              refine V_goto (pc := 95) (tgt := 116) F dX8_serve_95 (by decide) ?_
              refine V_iinc (v := (z2 + 1)) (L2 := [(2, .int (z2 + 1)), (3, .int (v.2.1 ((13 : Int32) + z2).toNatClampNeg)), (0, .ref (a 0)), (1, .int z1)]) (pc := 116) F dX8_serve_116 3 rfl rfl (by decide) rfl ?_
              refine V_goto (pc := 119) (tgt := 7) F dX8_serve_119 (by decide) ?_
              refine V.sub [2, 3, 0] rfl ?_
              exact ih z1 (v.1, f28, v.2.2) (z2 + 1) _ hf hk
            · replace hf := ite_neg hf h22
              refine V_iload_n (pc := 71) F dX8_serve_71 rfl 0 rfl ?_
              refine V_goto (pc := 72) (tgt := 84) F dX8_serve_72 (by decide) ?_
              obtain ⟨c30, hf⟩ := chk_some hf
              obtain ⟨f31, e32, hf⟩ := nmd_of hf
              refine V_iast (w2 := wX8 cy a (v.1, f31, v.2.2)) (pc := 84) F 1 rfl c30 e32 dX8_serve_84 rfl ?_
              refine V_aload_n (pc := 85) F dX8_serve_85 rfl 1 rfl ?_
              refine V_get (pc := 86) F 0 8 1 i_X8 rfl (by decide) rfl (mm 1 rfl) dX8_serve_86 rfl rfl ?_
              refine V_bipush (v := 13) (pc := 89) F dX8_serve_89 (by decide) ?_
              refine V_iload_n (pc := 91) F dX8_serve_91 rfl 3 rfl ?_
              refine V_iadd (pc := 92) F dX8_serve_92 ?_
              refine V_iconst (v := (-1)) (pc := 93) F dX8_serve_93 (by decide) ?_
              obtain ⟨c33, hf⟩ := chk_some hf
              obtain ⟨f34, e35, hf⟩ := nmd_of hf
              refine V_iast (w2 := wX8 cy a (v.1, f34, v.2.2)) (pc := 94) F 1 rfl c33 e35 dX8_serve_94 rfl ?_
              refine V_goto (pc := 95) (tgt := 116) F dX8_serve_95 (by decide) ?_
              refine V_iinc (v := (z2 + 1)) (L2 := [(2, .int (z2 + 1)), (3, .int (v.2.1 ((13 : Int32) + z2).toNatClampNeg)), (0, .ref (a 0)), (1, .int z1)]) (pc := 116) F dX8_serve_116 3 rfl rfl (by decide) rfl ?_
              refine V_goto (pc := 119) (tgt := 7) F dX8_serve_119 (by decide) ?_
              refine V.sub [2, 3, 0] rfl ?_
              exact ih z1 (v.1, f34, v.2.2) (z2 + 1) _ hf hk
  unfold fX8_serve at hf
  refine V.eq rfl (show lv_args 0 [.ref (a 0)] = [(0, .ref (a 0))] from rfl) rfl ?_
  refine V_aload_n (pc := 0) F dX8_serve_0 rfl 0 rfl ?_
  obtain ⟨r1, g2, hf⟩ := bind_of hf
  refine V_V (w2 := wX8 cy a v) (rest := []) (st2 := [.int r1]) (pc := 1) F 8 (M_X8_greensNow l D cy N a v r1 g2) (cwV 0 F.ts gX8_serve_X8_greensNow rfl rfl rfl hd_X8_greensNow ⟨Nat.le_of_ble_eq_true rfl, Nat.le_of_ble_eq_true rfl⟩) rfl dX8_serve_1 Fit.whole rfl rfl rfl (Nat.le_of_ble_eq_true rfl) (Nat.zero_le _) (Nat.zero_le _) rfl rfl rfl ?_
  refine V_istore_n (L2 := [(1, .int r1), (0, .ref (a 0))]) (pc := 4) F dX8_serve_4 rfl (by decide) rfl ?_
  refine V_iconst (v := 0) (pc := 5) F dX8_serve_5 (by decide) ?_
  refine V_istore_n (L2 := [(2, .int 0), (1, .int r1), (0, .ref (a 0))]) (pc := 6) F dX8_serve_6 rfl (by decide) rfl ?_
  refine V.sub [2, 1, 0] rfl ?_
  obtain ⟨u36, g37, hf⟩ := bind_of hf
  refine K7 N r1 v 0 u36 g37 ?_
  obtain rfl := some_of hf
  exact V_vret F rfl dX8_serve_122 rfl
theorem hd_X8_holds : yX8_holds.cls = RX8 ∧ yX8_holds.cls ≠ "java/lang/invoke/MethodHandle" ∧ yX8_holds.cls ≠ "java/lang/invoke/VarHandle" ∧ (parseMethodDescriptor yX8_holds.desc).map (fun d => d.parameters.length) = some 2 := by decide +kernel
def fX8_holds (N : Nat) (v : SX8) (x1 : Int32) (x2 : Int32) : Option (Int32) :=
  (fX8_askers N v x1 x2).bind fun r1 =>
    if r1 = 0 then
      some 1
    else
      (fX8_askers N v x1 x2).bind fun r4 =>
        (fX8_waiting N v).bind fun r6 =>
          if (r4 &&& r6) = 0 then
            some 0
          else
            some 1
set_option maxHeartbeats 8000000 in
set_option maxRecDepth 100000 in
theorem M_X8_holds (l : Launch) (D : va_G) (cy : Nat → ClassId) (N : Nat) (a : Nat → Nat) (v : SX8) (x1 : Int32) (x2 : Int32) (o : Int32) (hf : fX8_holds N v x1 x2 = some o) : okM l yX8_holds wsX8_holds (rmz 2 44) D cy [.ref (a 0), .int x1, .int x2] (wX8 cy a v) (wX8 cy a v) (some (.int o)) := by
  refine okM_of (own := RX8) (nme := "holds") (cc := cX8_holds) (maxL := 3) (ret := (some .boolean)) (by decide) rfl rfl rfl (Nat.le_of_ble_eq_true rfl) ?_
  intro p e s m args below meth c A F
  unfold fX8_holds at hf
  refine V.eq rfl (show lv_args 0 [.ref (a 0), .int x1, .int x2] = [(0, .ref (a 0)), (1, .int x1), (2, .int x2)] from rfl) rfl ?_
  refine V_aload_n (pc := 0) F dX8_holds_0 rfl 0 rfl ?_
  refine V_iload_n (pc := 1) F dX8_holds_1 rfl 1 rfl ?_
  refine V_iload_n (pc := 2) F dX8_holds_2 rfl 2 rfl ?_
  obtain ⟨r1, g2, hf⟩ := bind_of hf
  refine V_V (w2 := wX8 cy a v) (rest := []) (st2 := [.int r1]) (pc := 3) F 8 (M_X8_askers l D cy N a v x1 x2 r1 g2) (cwV 2 F.ts gX8_holds_X8_askers rfl rfl rfl hd_X8_askers ⟨Nat.le_of_ble_eq_true rfl, Nat.le_of_ble_eq_true rfl⟩) rfl dX8_holds_3 Fit.whole rfl rfl rfl (Nat.le_of_ble_eq_true rfl) (Nat.zero_le _) (Nat.zero_le _) rfl rfl rfl ?_
  refine V_if_eq (pc := 6) (tgt := 23) F dX8_holds_6 (by decide) (fun h3 => ?_) (fun h3 => ?_)
  · replace hf := ite_pos hf h3
    refine V_iconst (v := 1) (pc := 23) F dX8_holds_23 (by decide) ?_
    refine V_goto (pc := 24) (tgt := 28) F dX8_holds_24 (by decide) ?_
    obtain rfl := some_of hf
    exact V_ret F rfl rfl dX8_holds_28 rfl rfl
  · replace hf := ite_neg hf h3
    refine V_aload_n (pc := 9) F dX8_holds_9 rfl 0 rfl ?_
    refine V_iload_n (pc := 10) F dX8_holds_10 rfl 1 rfl ?_
    refine V_iload_n (pc := 11) F dX8_holds_11 rfl 2 rfl ?_
    obtain ⟨r4, g5, hf⟩ := bind_of hf
    refine V_V (w2 := wX8 cy a v) (rest := []) (st2 := [.int r4]) (pc := 12) F 8 (M_X8_askers l D cy N a v x1 x2 r4 g5) (cwV 2 F.ts gX8_holds_X8_askers rfl rfl rfl hd_X8_askers ⟨Nat.le_of_ble_eq_true rfl, Nat.le_of_ble_eq_true rfl⟩) rfl dX8_holds_12 Fit.whole rfl rfl rfl (Nat.le_of_ble_eq_true rfl) (Nat.zero_le _) (Nat.zero_le _) rfl rfl rfl ?_
    refine V_aload_n (pc := 15) F dX8_holds_15 rfl 0 rfl ?_
    obtain ⟨r6, g7, hf⟩ := bind_of hf
    refine V_V (w2 := wX8 cy a v) (rest := [.int r4]) (st2 := [.int r6, .int r4]) (pc := 16) F 8 (M_X8_waiting l D cy N a v r6 g7) (cwV 0 F.ts gX8_holds_X8_waiting rfl rfl rfl hd_X8_waiting ⟨Nat.le_of_ble_eq_true rfl, Nat.le_of_ble_eq_true rfl⟩) rfl dX8_holds_16 Fit.whole rfl rfl rfl (Nat.le_of_ble_eq_true rfl) (Nat.zero_le _) (Nat.zero_le _) rfl rfl rfl ?_
    refine V_iand (pc := 19) F dX8_holds_19 ?_
    refine V_if_eq (pc := 20) (tgt := 27) F dX8_holds_20 (by decide) (fun h8 => ?_) (fun h8 => ?_)
    · replace hf := ite_pos hf h8
      refine V_iconst (v := 0) (pc := 27) F dX8_holds_27 (by decide) ?_
      obtain rfl := some_of hf
      exact V_ret F rfl rfl dX8_holds_28 rfl rfl
    · replace hf := ite_neg hf h8
      refine V_iconst (v := 1) (pc := 23) F dX8_holds_23 (by decide) ?_
      refine V_goto (pc := 24) (tgt := 28) F dX8_holds_24 (by decide) ?_
      obtain rfl := some_of hf
      exact V_ret F rfl rfl dX8_holds_28 rfl rfl
theorem hd_X8_holding : yX8_holding.cls = RX8 ∧ yX8_holding.cls ≠ "java/lang/invoke/MethodHandle" ∧ yX8_holding.cls ≠ "java/lang/invoke/VarHandle" ∧ (parseMethodDescriptor yX8_holding.desc).map (fun d => d.parameters.length) = some 1 := by decide +kernel
def fX8_holding_L2 (N : Nat) (v : SX8) (z1 : Int32) : Nat → Int32 → Option ((Int32) ⊕ (Unit))
  | 0, _ => none
  | n + 1, z2 =>
    (fX8_rules N v z1).bind fun r1 =>
      if r1 ≤ z2 then
        some (.inr ())
      else
        (fX8_holds N v z1 z2).bind fun r4 =>
          if r4 = 0 then
            fX8_holding_L2 N v z1 n (z2 + 1)
          else
            some (.inl z2)
def fX8_holding (N : Nat) (v : SX8) (x1 : Int32) : Option (Int32) :=
  (fX8_holding_L2 N v x1 N 0).bind fun u7 => onS u7 (fun r => some r) fun q9 =>
    some (-1)
set_option maxHeartbeats 8000000 in
set_option maxRecDepth 100000 in
theorem M_X8_holding (l : Launch) (D : va_G) (cy : Nat → ClassId) (N : Nat) (a : Nat → Nat) (v : SX8) (x1 : Int32) (o : Int32) (hf : fX8_holding N v x1 = some o) : okM l yX8_holding wsX8_holding (rmz 3 66) D cy [.ref (a 0), .int x1] (wX8 cy a v) (wX8 cy a v) (some (.int o)) := by
  refine okM_of (own := RX8) (nme := "holding") (cc := cX8_holding) (maxL := 3) (ret := (some .int)) (by decide) rfl rfl rfl (Nat.le_of_ble_eq_true rfl) ?_
  intro p e s m args below meth c A F
  have K2 : ∀ (n : Nat) (v : SX8) (z1 : Int32) (z2 : Int32) (u : (Int32) ⊕ (Unit)), fX8_holding_L2 N v z1 n z2 = some u → (∀ r, u = .inl r → r = o) → (∀ q, u = .inr q → V p l e (rmz 3 66) s m args below meth c 3 D A 0 0 (MQ below (ok_Q D (wX8 cy a v) (some (.int o)) A) args s 0 0 A) (wX8 cy a v) [] [] 28) → V p l e (rmz 3 66) s m args below meth c 3 D A 0 0 (MQ below (ok_Q D (wX8 cy a v) (some (.int o)) A) args s 0 0 A) (wX8 cy a v) [(0, .ref (a 0)), (1, .int z1), (2, .int z2)] [] 2 := by
    intro n
    induction n with
    | zero =>
      intro v z1 z2 u hf hr hk
      exact nomatch (show (none : Option ((Int32) ⊕ (Unit))) = some u from hf)
    | succ n ih =>
      intro v z1 z2 u hf hr hk
      rw [fX8_holding_L2] at hf
      refine V_iload_n (pc := 2) F dX8_holding_2 rfl 2 rfl ?_
      refine V_aload_n (pc := 3) F dX8_holding_3 rfl 0 rfl ?_
      refine V_iload_n (pc := 4) F dX8_holding_4 rfl 1 rfl ?_
      obtain ⟨r1, g2, hf⟩ := bind_of hf
      refine V_V (w2 := wX8 cy a v) (rest := [.int z2]) (st2 := [.int r1, .int z2]) (pc := 5) F 8 (M_X8_rules l D cy N a v z1 r1 g2) (cwV 1 F.ts gX8_holding_X8_rules rfl rfl rfl hd_X8_rules ⟨Nat.le_of_ble_eq_true rfl, Nat.le_of_ble_eq_true rfl⟩) rfl dX8_holding_5 Fit.whole rfl rfl rfl (Nat.le_of_ble_eq_true rfl) (Nat.zero_le _) (Nat.zero_le _) rfl rfl rfl ?_
      refine V_icmp_ge (pc := 8) (tgt := 28) F dX8_holding_8 (by decide) (fun h3 => ?_) (fun h3 => ?_)
      · replace hf := ite_pos hf h3
        exact V.sub [] rfl (hk _ (some_of hf).symm)
      · replace hf := ite_neg hf h3
        refine V_aload_n (pc := 11) F dX8_holding_11 rfl 0 rfl ?_
        refine V_iload_n (pc := 12) F dX8_holding_12 rfl 1 rfl ?_
        refine V_iload_n (pc := 13) F dX8_holding_13 rfl 2 rfl ?_
        obtain ⟨r4, g5, hf⟩ := bind_of hf
        refine V_V (w2 := wX8 cy a v) (rest := []) (st2 := [.int r4]) (pc := 14) F 8 (M_X8_holds l D cy N a v z1 z2 r4 g5) (cwV 2 F.ts gX8_holding_X8_holds rfl rfl rfl hd_X8_holds ⟨Nat.le_of_ble_eq_true rfl, Nat.le_of_ble_eq_true rfl⟩) rfl dX8_holding_14 Fit.whole rfl rfl rfl (Nat.le_of_ble_eq_true rfl) (Nat.zero_le _) (Nat.zero_le _) rfl rfl rfl ?_
        refine V_if_eq (pc := 17) (tgt := 22) F dX8_holding_17 (by decide) (fun h6 => ?_) (fun h6 => ?_)
        · replace hf := ite_pos hf h6
          refine V_iinc (v := (z2 + 1)) (L2 := [(2, .int (z2 + 1)), (0, .ref (a 0)), (1, .int z1)]) (pc := 22) F dX8_holding_22 2 rfl rfl (by decide) rfl ?_
          refine V_goto (pc := 25) (tgt := 2) F dX8_holding_25 (by decide) ?_
          refine V.sub [1, 2, 0] rfl ?_
          exact ih v z1 (z2 + 1) _ hf hr hk
        · replace hf := ite_neg hf h6
          refine V_iload_n (pc := 20) F dX8_holding_20 rfl 2 rfl ?_
          obtain rfl := hr _ (some_of hf).symm
          exact V_ret F rfl rfl dX8_holding_21 rfl rfl
  unfold fX8_holding at hf
  refine V.eq rfl (show lv_args 0 [.ref (a 0), .int x1] = [(0, .ref (a 0)), (1, .int x1)] from rfl) rfl ?_
  refine V_iconst (v := 0) (pc := 0) F dX8_holding_0 (by decide) ?_
  refine V_istore_n (L2 := [(2, .int 0), (0, .ref (a 0)), (1, .int x1)]) (pc := 1) F dX8_holding_1 rfl (by decide) rfl ?_
  refine V.sub [1, 2, 0] rfl ?_
  obtain ⟨u7, g8, hf⟩ := bind_of hf
  refine K2 N v x1 0 u7 g8 (fun r h10 => ?_) (fun q9 h10 => ?_)
  · subst h10
    replace hf := onS_inl hf
    exact some_of hf
  · subst h10
    replace hf := onS_inr hf
    refine V_iconst (v := (-1)) (pc := 28) F dX8_holding_28 (by decide) ?_
    obtain rfl := some_of hf
    exact V_ret F rfl rfl dX8_holding_29 rfl rfl
