theorem hd_X8_phaseAdded : yX8_phaseAdded.cls = RX8 ∧ yX8_phaseAdded.cls ≠ "java/lang/invoke/MethodHandle" ∧ yX8_phaseAdded.cls ≠ "java/lang/invoke/VarHandle" ∧ (parseMethodDescriptor yX8_phaseAdded.desc).map (fun d => d.parameters.length) = some 2 := by decide +kernel
def fX8_phaseAdded_L10 (N : Nat) (z1 : Int32) (z2 : Int32) (z3 : Int32) : Nat → SX8 → Int32 → Option (SX8)
  | 0, _, _ => none
  | n + 1, v, z4 =>
    if 14 ≤ z4 then
      some v
    else
      chk (((31 : Int32) + ((14 : Int32) * z3)) + z4) 143 (
        nmd (upd v.2.1 (((31 : Int32) + ((14 : Int32) * z3)) + z4).toNatClampNeg (0 : Int32)) fun f4 =>
        fX8_phaseAdded_L10 N z1 z2 z3 n (v.1, f4, v.2.2) (z4 + 1)
      )
def fX8_phaseAdded (N : Nat) (v : SX8) (x1 : Int32) (x2 : Int32) : Option (Int32 × SX8) :=
  chk 0 143 (
    (fX8_phaseAdded_L10 N x1 x2 (v.2.1 (0 : Int32).toNatClampNeg) N v 0).bind fun u6 =>
      chk (((31 : Int32) + ((14 : Int32) * (v.2.1 (0 : Int32).toNatClampNeg))) + 0) 143 (
        nmd (upd u6.2.1 (((31 : Int32) + ((14 : Int32) * (v.2.1 (0 : Int32).toNatClampNeg))) + 0).toNatClampNeg x1) fun f9 =>
        chk (((31 : Int32) + ((14 : Int32) * (v.2.1 (0 : Int32).toNatClampNeg))) + 1) 143 (
          nmd (upd f9 (((31 : Int32) + ((14 : Int32) * (v.2.1 (0 : Int32).toNatClampNeg))) + 1).toNatClampNeg x2) fun f12 =>
          chk 0 143 (
            chk 0 143 (
              nmd (upd f12 (0 : Int32).toNatClampNeg ((f12 (0 : Int32).toNatClampNeg) + 1)) fun f16 =>
              if (v.2.1 (0 : Int32).toNatClampNeg) = 0 then
                chk 2 143 (
                  nmd (upd f16 (2 : Int32).toNatClampNeg (0 : Int32)) fun f24 =>
                  some ((v.2.1 (0 : Int32).toNatClampNeg), (u6.1, f24, u6.2.2))
                )
              else
                chk 2 143 (
                  chk 2 143 (
                    nmd (upd f16 (2 : Int32).toNatClampNeg (f16 (2 : Int32).toNatClampNeg)) fun f21 =>
                    some ((v.2.1 (0 : Int32).toNatClampNeg), (u6.1, f21, u6.2.2))
                  )
                )
            )
          )
        )
      )
  )
set_option maxHeartbeats 8000000 in
set_option maxRecDepth 100000 in
theorem M_X8_phaseAdded (l : Launch) (D : va_G) (cy : Nat → ClassId) (N : Nat) (a : Nat → Nat) (v : SX8) (x1 : Int32) (x2 : Int32) (o : Int32 × SX8) (hf : fX8_phaseAdded N v x1 x2 = some o) : okM l yX8_phaseAdded wsX8_phaseAdded (rmz 0 0) D cy [.ref (a 0), .int x1, .int x2] (wX8 cy a v) (wX8 cy a o.2) (some (.int o.1)) := by
  refine okM_of (own := RX8) (nme := "phaseAdded") (cc := cX8_phaseAdded) (maxL := 5) (ret := (some .int)) (by decide) rfl rfl rfl (Nat.le_of_ble_eq_true rfl) ?_
  intro p e s m args below meth c A F
  have i_X8 : ∀ w ∈ u_ws RX8 TX8 13, w ∈ wsX8_phaseAdded := fun _ h => List.mem_cons_of_mem _ (List.mem_append_right _ h)
  have K10 : ∀ (n : Nat) (z1 : Int32) (z2 : Int32) (z3 : Int32) (v : SX8) (z4 : Int32) (u : SX8), fX8_phaseAdded_L10 N z1 z2 z3 n v z4 = some u → V p l e (rmz 0 0) s m args below meth c 5 D A 0 0 (MQ below (ok_Q D (wX8 cy a o.2) (some (.int o.1)) A) args s 0 0 A) (wX8 cy a u) [(0, .ref (a 0)), (1, .int z1), (2, .int z2), (3, .int z3)] [] 39 → V p l e (rmz 0 0) s m args below meth c 5 D A 0 0 (MQ below (ok_Q D (wX8 cy a o.2) (some (.int o.1)) A) args s 0 0 A) (wX8 cy a v) [(0, .ref (a 0)), (1, .int z1), (2, .int z2), (3, .int z3), (4, .int z4)] [] 10 := by
    intro n
    induction n with
    | zero =>
      intro z1 z2 z3 v z4 u hf hk
      exact nomatch (show (none : Option (SX8)) = some u from hf)
    | succ n ih =>
      intro z1 z2 z3 v z4 u hf hk
      rw [fX8_phaseAdded_L10] at hf
      refine V_iload (pc := 10) F dX8_phaseAdded_10 4 rfl ?_
      refine V_bipush (v := 14) (pc := 12) F dX8_phaseAdded_12 (by decide) ?_
      refine V_icmp_ge (pc := 14) (tgt := 39) F dX8_phaseAdded_14 (by decide) (fun h2 => ?_) (fun h2 => ?_)
      · replace hf := ite_pos hf h2
        obtain rfl := some_of hf
        exact V.sub [0, 1, 2, 3] rfl hk
      · replace hf := ite_neg hf h2
        refine V_aload_n (pc := 17) F dX8_phaseAdded_17 rfl 0 rfl ?_
        refine V_get (pc := 18) F 0 8 1 i_X8 rfl (by decide) rfl (mm 1 rfl) dX8_phaseAdded_18 rfl rfl ?_
        refine V_bipush (v := 31) (pc := 21) F dX8_phaseAdded_21 (by decide) ?_
        refine V_bipush (v := 14) (pc := 23) F dX8_phaseAdded_23 (by decide) ?_
        refine V_iload_n (pc := 25) F dX8_phaseAdded_25 rfl 3 rfl ?_
        refine V_imul (pc := 26) F dX8_phaseAdded_26 ?_
        refine V_iadd (pc := 27) F dX8_phaseAdded_27 ?_
        refine V_iload (pc := 28) F dX8_phaseAdded_28 4 rfl ?_
        refine V_iadd (pc := 30) F dX8_phaseAdded_30 ?_
        refine V_iconst (v := 0) (pc := 31) F dX8_phaseAdded_31 (by decide) ?_
        obtain ⟨c3, hf⟩ := chk_some hf
        obtain ⟨f4, e5, hf⟩ := nmd_of hf
        refine V_iast (w2 := wX8 cy a (v.1, f4, v.2.2)) (pc := 32) F 1 rfl c3 e5 dX8_phaseAdded_32 rfl ?_
        refine V_iinc (v := (z4 + 1)) (L2 := [(4, .int (z4 + 1)), (0, .ref (a 0)), (1, .int z1), (2, .int z2), (3, .int z3)]) (pc := 33) F dX8_phaseAdded_33 4 rfl rfl (by decide) rfl ?_
        refine V_goto (pc := 36) (tgt := 10) F dX8_phaseAdded_36 (by decide) ?_
        refine V.sub [1, 2, 3, 4, 0] rfl ?_
        exact ih z1 z2 z3 (v.1, f4, v.2.2) (z4 + 1) _ hf hk
  unfold fX8_phaseAdded at hf
  refine V.eq rfl (show lv_args 0 [.ref (a 0), .int x1, .int x2] = [(0, .ref (a 0)), (1, .int x1), (2, .int x2)] from rfl) rfl ?_
  refine V_aload_n (pc := 0) F dX8_phaseAdded_0 rfl 0 rfl ?_
  refine V_get (pc := 1) F 0 8 1 i_X8 rfl (by decide) rfl (mm 1 rfl) dX8_phaseAdded_1 rfl rfl ?_
  refine V_iconst (v := 0) (pc := 4) F dX8_phaseAdded_4 (by decide) ?_
  obtain ⟨c1, hf⟩ := chk_some hf
  refine V_iald (pc := 5) F 1 rfl c1 dX8_phaseAdded_5 ?_
  refine V_istore_n (L2 := [(3, .int (v.2.1 (0 : Int32).toNatClampNeg)), (0, .ref (a 0)), (1, .int x1), (2, .int x2)]) (pc := 6) F dX8_phaseAdded_6 rfl (by decide) rfl ?_
  refine V_iconst (v := 0) (pc := 7) F dX8_phaseAdded_7 (by decide) ?_
  refine V_istore (L2 := [(4, .int 0), (3, .int (v.2.1 (0 : Int32).toNatClampNeg)), (0, .ref (a 0)), (1, .int x1), (2, .int x2)]) (pc := 8) F dX8_phaseAdded_8 (by decide) rfl ?_
  refine V.sub [2, 3, 4, 1, 0] rfl ?_
  obtain ⟨u6, g7, hf⟩ := bind_of hf
  refine K10 N x1 x2 (v.2.1 (0 : Int32).toNatClampNeg) v 0 u6 g7 ?_
  refine V_aload_n (pc := 39) F dX8_phaseAdded_39 rfl 0 rfl ?_
  refine V_get (pc := 40) F 0 8 1 i_X8 rfl (by decide) rfl (mm 1 rfl) dX8_phaseAdded_40 rfl rfl ?_
  refine V_bipush (v := 31) (pc := 43) F dX8_phaseAdded_43 (by decide) ?_
  refine V_bipush (v := 14) (pc := 45) F dX8_phaseAdded_45 (by decide) ?_
  refine V_iload_n (pc := 47) F dX8_phaseAdded_47 rfl 3 rfl ?_
  refine V_imul (pc := 48) F dX8_phaseAdded_48 ?_
  refine V_iadd (pc := 49) F dX8_phaseAdded_49 ?_
  refine V_iconst (v := 0) (pc := 50) F dX8_phaseAdded_50 (by decide) ?_
  refine V_iadd (pc := 51) F dX8_phaseAdded_51 ?_
  refine V_iload_n (pc := 52) F dX8_phaseAdded_52 rfl 1 rfl ?_
  obtain ⟨c8, hf⟩ := chk_some hf
  obtain ⟨f9, e10, hf⟩ := nmd_of hf
  refine V_iast (w2 := wX8 cy a (u6.1, f9, u6.2.2)) (pc := 53) F 1 rfl c8 e10 dX8_phaseAdded_53 rfl ?_
  refine V_aload_n (pc := 54) F dX8_phaseAdded_54 rfl 0 rfl ?_
  refine V_get (pc := 55) F 0 8 1 i_X8 rfl (by decide) rfl (mm 1 rfl) dX8_phaseAdded_55 rfl rfl ?_
  refine V_bipush (v := 31) (pc := 58) F dX8_phaseAdded_58 (by decide) ?_
  refine V_bipush (v := 14) (pc := 60) F dX8_phaseAdded_60 (by decide) ?_
  refine V_iload_n (pc := 62) F dX8_phaseAdded_62 rfl 3 rfl ?_
  refine V_imul (pc := 63) F dX8_phaseAdded_63 ?_
  refine V_iadd (pc := 64) F dX8_phaseAdded_64 ?_
  refine V_iconst (v := 1) (pc := 65) F dX8_phaseAdded_65 (by decide) ?_
  refine V_iadd (pc := 66) F dX8_phaseAdded_66 ?_
  refine V_iload_n (pc := 67) F dX8_phaseAdded_67 rfl 2 rfl ?_
  obtain ⟨c11, hf⟩ := chk_some hf
  obtain ⟨f12, e13, hf⟩ := nmd_of hf
  refine V_iast (w2 := wX8 cy a (u6.1, f12, u6.2.2)) (pc := 68) F 1 rfl c11 e13 dX8_phaseAdded_68 rfl ?_
  refine V_aload_n (pc := 69) F dX8_phaseAdded_69 rfl 0 rfl ?_
  refine V_get (pc := 70) F 0 8 1 i_X8 rfl (by decide) rfl (mm 1 rfl) dX8_phaseAdded_70 rfl rfl ?_
  refine V_iconst (v := 0) (pc := 73) F dX8_phaseAdded_73 (by decide) ?_
  refine V_dup2_11 (pc := 74) F dX8_phaseAdded_74 rfl rfl ?_
  obtain ⟨c14, hf⟩ := chk_some hf
  refine V_iald (pc := 75) F 1 rfl c14 dX8_phaseAdded_75 ?_
  refine V_iconst (v := 1) (pc := 76) F dX8_phaseAdded_76 (by decide) ?_
  refine V_iadd (pc := 77) F dX8_phaseAdded_77 ?_
  obtain ⟨c15, hf⟩ := chk_some hf
  obtain ⟨f16, e17, hf⟩ := nmd_of hf
  refine V_iast (w2 := wX8 cy a (u6.1, f16, u6.2.2)) (pc := 78) F 1 rfl c15 e17 dX8_phaseAdded_78 rfl ?_
  refine V_aload_n (pc := 79) F dX8_phaseAdded_79 rfl 0 rfl ?_
  refine V_get (pc := 80) F 0 8 1 i_X8 rfl (by decide) rfl (mm 1 rfl) dX8_phaseAdded_80 rfl rfl ?_
  refine V_iconst (v := 2) (pc := 83) F dX8_phaseAdded_83 (by decide) ?_
  refine V_iload_n (pc := 84) F dX8_phaseAdded_84 rfl 3 rfl ?_
  refine V_if_ne (pc := 85) (tgt := 92) F dX8_phaseAdded_85 (by decide) (fun h18 => ?_) (fun h18 => ?_)
  · replace hf := ite_neg hf h18
    refine V_aload_n (pc := 92) F dX8_phaseAdded_92 rfl 0 rfl ?_
    refine V_get (pc := 93) F 0 8 1 i_X8 rfl (by decide) rfl (mm 1 rfl) dX8_phaseAdded_93 rfl rfl ?_
    refine V_iconst (v := 2) (pc := 96) F dX8_phaseAdded_96 (by decide) ?_
    obtain ⟨c19, hf⟩ := chk_some hf
    refine V_iald (pc := 97) F 1 rfl c19 dX8_phaseAdded_97 ?_
    obtain ⟨c20, hf⟩ := chk_some hf
    obtain ⟨f21, e22, hf⟩ := nmd_of hf
    refine V_iast (w2 := wX8 cy a (u6.1, f21, u6.2.2)) (pc := 98) F 1 rfl c20 e22 dX8_phaseAdded_98 rfl ?_
    refine V_iload_n (pc := 99) F dX8_phaseAdded_99 rfl 3 rfl ?_
    obtain rfl := some_of hf
    exact V_ret F rfl rfl dX8_phaseAdded_100 rfl rfl
  · replace hf := ite_pos hf h18
    refine V_iconst (v := 0) (pc := 88) F dX8_phaseAdded_88 (by decide) ?_
    refine V_goto (pc := 89) (tgt := 98) F dX8_phaseAdded_89 (by decide) ?_
    obtain ⟨c23, hf⟩ := chk_some hf
    obtain ⟨f24, e25, hf⟩ := nmd_of hf
    refine V_iast (w2 := wX8 cy a (u6.1, f24, u6.2.2)) (pc := 98) F 1 rfl c23 e25 dX8_phaseAdded_98 rfl ?_
    refine V_iload_n (pc := 99) F dX8_phaseAdded_99 rfl 3 rfl ?_
    obtain rfl := some_of hf
    exact V_ret F rfl rfl dX8_phaseAdded_100 rfl rfl
