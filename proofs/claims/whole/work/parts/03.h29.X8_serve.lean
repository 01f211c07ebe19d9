theorem hd_X8_serve : yX8_serve.cls = RX8 ∧ yX8_serve.cls ≠ "java/lang/invoke/MethodHandle" ∧ yX8_serve.cls ≠ "java/lang/invoke/VarHandle" ∧ (parseMethodDescriptor yX8_serve.desc).map (fun d => d.parameters.length) = some 0 := by decide +kernel
def fX8_serve_L7 (N : Nat) (z1 : Int32) : Nat → SX8 → Int32 → Option (SX8)
  | 0, _, _ => none
  | n + 1, v, z2 =>
    if 6 ≤ z2 then
      some v
    else
      chk ((13 : Int32) + z2) 143 (
        if (v.2.1 ((13 : Int32) + z2).toNatClampNeg) = (-1) then
          if (v.2.1 ((13 : Int32) + z2).toNatClampNeg) = (-1) then
            fX8_serve_L7 N z1 n v (z2 + 1)
          else
            chk ((13 : Int32) + z2) 143 (
              chk ((13 : Int32) + z2) 143 (
                nmd (upd v.2.1 ((13 : Int32) + z2).toNatClampNeg ((v.2.1 ((13 : Int32) + z2).toNatClampNeg) + 1)) fun f9 =>
                fX8_serve_L7 N z1 n (v.1, f9, v.2.2) (z2 + 1)
              )
            )
        else
          if ((z1 >>> (z2 &&& 31)) &&& 1) = 1 then
            chk ((19 : Int32) + z2) 143 (
              chk ((19 : Int32) + z2) 143 (
                nmd (upd v.2.1 ((19 : Int32) + z2).toNatClampNeg ((v.2.1 ((19 : Int32) + z2).toNatClampNeg) + 1)) fun f19 =>
                chk ((25 : Int32) + z2) 143 (
                  if (v.2.1 ((13 : Int32) + z2).toNatClampNeg) ≤ (f19 ((25 : Int32) + z2).toNatClampNeg) then
                    chk ((25 : Int32) + z2) 143 (
                      chk ((25 : Int32) + z2) 143 (
                        nmd (upd f19 ((25 : Int32) + z2).toNatClampNeg (f19 ((25 : Int32) + z2).toNatClampNeg)) fun f25 =>
                        chk ((13 : Int32) + z2) 143 (
                          nmd (upd f25 ((13 : Int32) + z2).toNatClampNeg ((-1) : Int32)) fun f28 =>
                          fX8_serve_L7 N z1 n (v.1, f28, v.2.2) (z2 + 1)
                        )
                      )
                    )
                  else
                    chk ((25 : Int32) + z2) 143 (
                      nmd (upd f19 ((25 : Int32) + z2).toNatClampNeg (v.2.1 ((13 : Int32) + z2).toNatClampNeg)) fun f31 =>
                      chk ((13 : Int32) + z2) 143 (
                        nmd (upd f31 ((13 : Int32) + z2).toNatClampNeg ((-1) : Int32)) fun f34 =>
                        fX8_serve_L7 N z1 n (v.1, f34, v.2.2) (z2 + 1)
                      )
                    )
                )
              )
            )
          else
            if (v.2.1 ((13 : Int32) + z2).toNatClampNeg) = (-1) then
              fX8_serve_L7 N z1 n v (z2 + 1)
            else
              chk ((13 : Int32) + z2) 143 (
                chk ((13 : Int32) + z2) 143 (
                  nmd (upd v.2.1 ((13 : Int32) + z2).toNatClampNeg ((v.2.1 ((13 : Int32) + z2).toNatClampNeg) + 1)) fun f15 =>
                  fX8_serve_L7 N z1 n (v.1, f15, v.2.2) (z2 + 1)
                )
              )
      )
def fX8_serve (N : Nat) (v : SX8) : Option (SX8) :=
  (fX8_greensNow N v).bind fun r1 =>
    (fX8_serve_L7 N r1 N v 0).bind fun u36 =>
      some u36
set_option maxHeartbeats 8000000 in
set_option maxRecDepth 100000 in
theorem M_X8_serve (l : Launch) (D : va_G) (cy : Nat → ClassId) (N : Nat) (a : Nat → Nat) (v : SX8) (o : SX8) (hf : fX8_serve N v = some o) : okM l yX8_serve wsX8_serve (rmz 3 63) D cy [.ref (a 0)] (wX8 cy a v) (wX8 cy a o) none := by
  refine okM_of (own := RX8) (nme := "serve") (cc := cX8_serve) (maxL := 4) (ret := none) (by decide) rfl rfl rfl (Nat.le_of_ble_eq_true rfl) ?_
  intro p e s m args below meth c A F
  have i_X8 : ∀ w ∈ u_ws RX8 TX8 13, w ∈ wsX8_serve := fun _ h => List.mem_cons_of_mem _ (List.mem_append_right _ h)
  have K7 : ∀ (n : Nat) (z1 : Int32) (v : SX8) (z2 : Int32) (u : SX8), fX8_serve_L7 N z1 n v z2 = some u → V p l e (rmz 3 63) s m args below meth c 4 D A 0 0 (MQ below (ok_Q D (wX8 cy a o) none A) args s 0 0 A) (wX8 cy a u) [] [] 122 → V p l e (rmz 3 63) s m args below meth c 4 D A 0 0 (MQ below (ok_Q D (wX8 cy a o) none A) args s 0 0 A) (wX8 cy a v) [(0, .ref (a 0)), (1, .int z1), (2, .int z2)] [] 7 := by
    intro n
    induction n with
    | zero =>
      intro z1 v z2 u hf hk
      exact nomatch (show (none : Option (SX8)) = some u from hf)
    | succ n ih =>
      intro z1 v z2 u hf hk
      rw [fX8_serve_L7] at hf
      refine V_iload_n (pc := 7) F dX8_serve_7 rfl 2 rfl ?_
      refine V_bipush (v := 6) (pc := 8) F dX8_serve_8 (by decide) ?_
      refine V_icmp_ge (pc := 10) (tgt := 122) F dX8_serve_10 (by decide) (fun h3 => ?_) (fun h3 => ?_)
      · replace hf := ite_pos hf h3
        obtain rfl := some_of hf
        exact V.sub [] rfl hk
      · replace hf := ite_neg hf h3
        refine V_aload_n (pc := 13) F dX8_serve_13 rfl 0 rfl ?_
        refine V_get (pc := 14) F 0 8 1 i_X8 rfl (by decide) rfl (mm 1 rfl) dX8_serve_14 rfl rfl ?_
        refine V_bipush (v := 13) (pc := 17) F dX8_serve_17 (by decide) ?_
        refine V_iload_n (pc := 19) F dX8_serve_19 rfl 2 rfl ?_
        refine V_iadd (pc := 20) F dX8_serve_20 ?_
        obtain ⟨c4, hf⟩ := chk_some hf
        refine V_iald (pc := 21) F 1 rfl c4 dX8_serve_21 ?_
        refine V_istore_n (L2 := [(3, .int (v.2.1 ((13 : Int32) + z2).toNatClampNeg)), (0, .ref (a 0)), (1, .int z1), (2, .int z2)]) (pc := 22) F dX8_serve_22 rfl (by decide) rfl ?_
        refine V_iload_n (pc := 23) F dX8_serve_23 rfl 0 rfl ?_
        refine V_iconst (v := (-1)) (pc := 24) F dX8_serve_24 (by decide) ?_
        refine V_icmp_eq (pc := 25) (tgt := 98) F dX8_serve_25 (by decide) (fun h5 => ?_) (fun h5 => ?_)
        · replace hf := ite_pos hf h5
          refine V_iload_n (pc := 98) F dX8_serve_98 rfl 0 rfl ?_
          refine V_iconst (v := (-1)) (pc := 99) F dX8_serve_99 (by decide) ?_
          refine V_icmp_eq (pc := 100) (tgt := 116) F dX8_serve_100 (by decide) (fun h6 => ?_) (fun h6 => ?_)
          · replace hf := ite_pos hf h6
            refine V_iinc (v := (z2 + 1)) (L2 := [(2, .int (z2 + 1)), (3, .int (v.2.1 ((13 : Int32) + z2).toNatClampNeg)), (0, .ref (a 0)), (1, .int z1)]) (pc := 116) F dX8_serve_116 3 rfl rfl (by decide) rfl ?_
            refine V_goto (pc := 119) (tgt := 7) F dX8_serve_119 (by decide) ?_
            refine V.sub [2, 3, 0] rfl ?_
            exact ih z1 v (z2 + 1) _ hf hk
          · replace hf := ite_neg hf h6
            refine V_aload_n (pc := 103) F dX8_serve_103 rfl 1 rfl ?_
            refine V_get (pc := 104) F 0 8 1 i_X8 rfl (by decide) rfl (mm 1 rfl) dX8_serve_104 rfl rfl ?_
            refine V_bipush (v := 13) (pc := 107) F dX8_serve_107 (by decide) ?_
            refine V_iload_n (pc := 109) F dX8_serve_109 rfl 3 rfl ?_
            refine V_iadd (pc := 110) F dX8_serve_110 ?_
            refine V_dup2_11 (pc := 111) F dX8_serve_111 rfl rfl ?_
            obtain ⟨c7, hf⟩ := chk_some hf
            refine V_iald (pc := 112) F 1 rfl c7 dX8_serve_112 ?_
            refine V_iconst (v := 1) (pc := 113) F dX8_serve_113 (by decide) ?_
            refine V_iadd (pc := 114) F dX8_serve_114 ?_
            obtain ⟨c8, hf⟩ := chk_some hf
            obtain ⟨f9, e10, hf⟩ := nmd_of hf
            refine V_iast (w2 := wX8 cy a (v.1, f9, v.2.2)) (pc := 115) F 1 rfl c8 e10 dX8_serve_115 rfl ?_
            refine V_iinc (v := (z2 + 1)) (L2 := [(2, .int (z2 + 1)), (3, .int (v.2.1 ((13 : Int32) + z2).toNatClampNeg)), (0, .ref (a 0)), (1, .int z1)]) (pc := 116) F dX8_serve_116 3 rfl rfl (by decide) rfl ?_
            refine V_goto (pc := 119) (tgt := 7) F dX8_serve_119 (by decide) ?_
            refine V.sub [2, 3, 0] rfl ?_
            exact ih z1 (v.1, f9, v.2.2) (z2 + 1) _ hf hk
        · replace hf := ite_neg hf h5
          refine V_iload_n (pc := 28) F dX8_serve_28 rfl 2 rfl ?_
          refine V_iload_n (pc := 29) F dX8_serve_29 rfl 3 rfl ?_
          refine V_ishr (pc := 30) F dX8_serve_30 ?_
          refine V_iconst (v := 1) (pc := 31) F dX8_serve_31 (by decide) ?_
          refine V_iand (pc := 32) F dX8_serve_32 ?_
          refine V_iconst (v := 1) (pc := 33) F dX8_serve_33 (by decide) ?_
          refine V_icmp_ne (pc := 34) (tgt := 98) F dX8_serve_34 (by decide) (fun h11 => ?_) (fun h11 => ?_)
          · replace hf := ite_neg hf h11
            refine V_iload_n (pc := 98) F dX8_serve_98 rfl 0 rfl ?_
            refine V_iconst (v := (-1)) (pc := 99) F dX8_serve_99 (by decide) ?_
            refine V_icmp_eq (pc := 100) (tgt := 116) F dX8_serve_100 (by decide) (fun h12 => ?_) (fun h12 => ?_)
            · replace hf := ite_pos hf h12
              refine V_iinc (v := (z2 + 1)) (L2 := [(2, .int (z2 + 1)), (3, .int (v.2.1 ((13 : Int32) + z2).toNatClampNeg)), (0, .ref (a 0)), (1, .int z1)]) (pc := 116) F dX8_serve_116 3 rfl rfl (by decide) rfl ?_
              refine V_goto (pc := 119) (tgt := 7) F dX8_serve_119 (by decide) ?_
              refine V.sub [2, 3, 0] rfl ?_
              exact ih z1 v (z2 + 1) _ hf hk
            · replace hf := ite_neg hf h12
              refine V_aload_n (pc := 103) F dX8_serve_103 rfl 1 rfl ?_
              refine V_get (pc := 104) F 0 8 1 i_X8 rfl (by decide) rfl (mm 1 rfl) dX8_serve_104 rfl rfl ?_
              refine V_bipush (v := 13) (pc := 107) F dX8_serve_107 (by decide) ?_
              refine V_iload_n (pc := 109) F dX8_serve_109 rfl 3 rfl ?_
              refine V_iadd (pc := 110) F dX8_serve_110 ?_
              refine V_dup2_11 (pc := 111) F dX8_serve_111 rfl rfl ?_
              obtain ⟨c13, hf⟩ := chk_some hf
              refine V_iald (pc := 112) F 1 rfl c13 dX8_serve_112 ?_
              refine V_iconst (v := 1) (pc := 113) F dX8_serve_113 (by decide) ?_
              refine V_iadd (pc := 114) F dX8_serve_114 ?_
              obtain ⟨c14, hf⟩ := chk_some hf
              obtain ⟨f15, e16, hf⟩ := nmd_of hf
              refine V_iast (w2 := wX8 cy a (v.1, f15, v.2.2)) (pc := 115) F 1 rfl c14 e16 dX8_serve_115 rfl ?_
              refine V_iinc (v := (z2 + 1)) (L2 := [(2, .int (z2 + 1)), (3, .int (v.2.1 ((13 : Int32) + z2).toNatClampNeg)), (0, .ref (a 0)), (1, .int z1)]) (pc := 116) F dX8_serve_116 3 rfl rfl (by decide) rfl ?_
              refine V_goto (pc := 119) (tgt := 7) F dX8_serve_119 (by decide) ?_
              refine V.sub [2, 3, 0] rfl ?_
              exact ih z1 (v.1, f15, v.2.2) (z2 + 1) _ hf hk
          · replace hf := ite_pos hf h11
            refine V_aload_n (pc := 37) F dX8_serve_37 rfl 1 rfl ?_
            refine V_get (pc := 38) F 0 8 1 i_X8 rfl (by decide) rfl (mm 1 rfl) dX8_serve_38 rfl rfl ?_
            refine V_bipush (v := 19) (pc := 41) F dX8_serve_41 (by decide) ?_
            refine V_iload_n (pc := 43) F dX8_serve_43 rfl 3 rfl ?_
            refine V_iadd (pc := 44) F dX8_serve_44 ?_
            refine V_dup2_11 (pc := 45) F dX8_serve_45 rfl rfl ?_
            obtain ⟨c17, hf⟩ := chk_some hf
            refine V_iald (pc := 46) F 1 rfl c17 dX8_serve_46 ?_
            refine V_iconst (v := 1) (pc := 47) F dX8_serve_47 (by decide) ?_
            refine V_iadd (pc := 48) F dX8_serve_48 ?_
            obtain ⟨c18, hf⟩ := chk_some hf
            obtain ⟨f19, e20, hf⟩ := nmd_of hf
            refine V_iast (w2 := wX8 cy a (v.1, f19, v.2.2)) (pc := 49) F 1 rfl c18 e20 dX8_serve_49 rfl ?_
            refine V_aload_n (pc := 50) F dX8_serve_50 rfl 1 rfl ?_
            refine V_get (pc := 51) F 0 8 1 i_X8 rfl (by decide) rfl (mm 1 rfl) dX8_serve_51 rfl rfl ?_
            refine V_bipush (v := 25) (pc := 54) F dX8_serve_54 (by decide) ?_
            refine V_iload_n (pc := 56) F dX8_serve_56 rfl 3 rfl ?_
            refine V_iadd (pc := 57) F dX8_serve_57 ?_
            refine V_iload_n (pc := 58) F dX8_serve_58 rfl 0 rfl ?_
            refine V_aload_n (pc := 59) F dX8_serve_59 rfl 1 rfl ?_
            refine V_get (pc := 60) F 0 8 1 i_X8 rfl (by decide) rfl (mm 1 rfl) dX8_serve_60 rfl rfl ?_
            refine V_bipush (v := 25) (pc := 63) F dX8_serve_63 (by decide) ?_
            refine V_iload_n (pc := 65) F dX8_serve_65 rfl 3 rfl ?_
            refine V_iadd (pc := 66) F dX8_serve_66 ?_
            obtain ⟨c21, hf⟩ := chk_some hf
            refine V_iald (pc := 67) F 1 rfl c21 dX8_serve_67 ?_
            refine V_icmp_le (pc := 68) (tgt := 75) F dX8_serve_68 (by decide) (fun h22 => ?_) (fun h22 => ?_)
            · replace hf := ite_pos hf h22
              refine V_aload_n (pc := 75) F dX8_serve_75 rfl 1 rfl ?_
              refine V_get (pc := 76) F 0 8 1 i_X8 rfl (by decide) rfl (mm 1 rfl) dX8_serve_76 rfl rfl ?_
              refine V_bipush (v := 25) (pc := 79) F dX8_serve_79 (by decide) ?_
              refine V_iload_n (pc := 81) F dX8_serve_81 rfl 3 rfl ?_
              refine V_iadd (pc := 82) F dX8_serve_82 ?_
              obtain ⟨c23, hf⟩ := chk_some hf
              refine V_iald (pc := 83) F 1 rfl c23 dX8_serve_83 ?_
              obtain ⟨c24, hf⟩ := chk_some hf
              obtain ⟨f25, e26, hf⟩ := nmd_of hf
              refine V_iast (w2 := wX8 cy a (v.1, f25, v.2.2)) (pc := 84) F 1 rfl c24 e26 dX8_serve_84 rfl ?_
              refine V_aload_n (pc := 85) F dX8_serve_85 rfl 1 rfl ?_
              refine V_get (pc := 86) F 0 8 1 i_X8 rfl (by decide) rfl (mm 1 rfl) dX8_serve_86 rfl rfl ?_
              refine V_bipush (v := 13) (pc := 89) F dX8_serve_89 (by decide) ?_
              refine V_iload_n (pc := 91) F dX8_serve_91 rfl 3 rfl ?_
              refine V_iadd (pc := 92) F dX8_serve_92 ?_
              refine V_iconst (v := (-1)) (pc := 93) F dX8_serve_93 (by decide) ?_
              obtain ⟨c27, hf⟩ := chk_some hf
              obtain ⟨f28, e29, hf⟩ := nmd_of hf
              refine V_iast (w2 := wX8 cy a (v.1, f28, v.2.2)) (pc := 94) F 1 rfl c27 e29 dX8_serve_94 rfl ?_
              refine V_goto (pc := 95) (tgt := 116) F dX8_serve_95 (by decide) ?_
              refine V_iinc (v := (z2 + 1)) (L2 := [(2, .int (z2 + 1)), (3, .int (v.2.1 ((13 : Int32) + z2).toNatClampNeg)), (0, .ref (a 0)), (1, .int z1)]) (pc := 116) F dX8_serve_116 3 rfl rfl (by decide) rfl ?_
              refine V_goto (pc := 119) (tgt := 7) F dX8_serve_119 (by decide) ?_
              refine V.sub [2, 3, 0] rfl ?_
              exact ih z1 (v.1, f28, v.2.2) (z2 + 1) _ hf hk
            · replace hf := ite_neg hf h22
              refine V_iload_n (pc := 71) F dX8_serve_71 rfl 0 rfl ?_
              refine V_goto (pc := 72) (tgt := 84) F dX8_serve_72 (by decide) ?_
              obtain ⟨c30, hf⟩ := chk_some hf
              obtain ⟨f31, e32, hf⟩ := nmd_of hf
              refine V_iast (w2 := wX8 cy a (v.1, f31, v.2.2)) (pc := 84) F 1 rfl c30 e32 dX8_serve_84 rfl ?_
              refine V_aload_n (pc := 85) F dX8_serve_85 rfl 1 rfl ?_
              refine V_get (pc := 86) F 0 8 1 i_X8 rfl (by decide) rfl (mm 1 rfl) dX8_serve_86 rfl rfl ?_
              refine V_bipush (v := 13) (pc := 89) F dX8_serve_89 (by decide) ?_
              refine V_iload_n (pc := 91) F dX8_serve_91 rfl 3 rfl ?_
              refine V_iadd (pc := 92) F dX8_serve_92 ?_
              refine V_iconst (v := (-1)) (pc := 93) F dX8_serve_93 (by decide) ?_
              obtain ⟨c33, hf⟩ := chk_some hf
              obtain ⟨f34, e35, hf⟩ := nmd_of hf
              refine V_iast (w2 := wX8 cy a (v.1, f34, v.2.2)) (pc := 94) F 1 rfl c33 e35 dX8_serve_94 rfl ?_
              refine V_goto (pc := 95) (tgt := 116) F dX8_serve_95 (by decide) ?_
              refine V_iinc (v := (z2 + 1)) (L2 := [(2, .int (z2 + 1)), (3, .int (v.2.1 ((13 : Int32) + z2).toNatClampNeg)), (0, .ref (a 0)), (1, .int z1)]) (pc := 116) F dX8_serve_116 3 rfl rfl (by decide) rfl ?_
              refine V_goto (pc := 119) (tgt := 7) F dX8_serve_119 (by decide) ?_
              refine V.sub [2, 3, 0] rfl ?_
              exact ih z1 (v.1, f34, v.2.2) (z2 + 1) _ hf hk
  unfold fX8_serve at hf
  refine V.eq rfl (show lv_args 0 [.ref (a 0)] = [(0, .ref (a 0))] from rfl) rfl ?_
  refine V_aload_n (pc := 0) F dX8_serve_0 rfl 0 rfl ?_
  obtain ⟨r1, g2, hf⟩ := bind_of hf
  refine V_V (w2 := wX8 cy a v) (rest := []) (st2 := [.int r1]) (pc := 1) F 8 (M_X8_greensNow l D cy N a v r1 g2) (cwV 0 F.ts gX8_serve_X8_greensNow rfl rfl rfl hd_X8_greensNow ⟨Nat.le_of_ble_eq_true rfl, Nat.le_of_ble_eq_true rfl⟩) rfl dX8_serve_1 Fit.whole rfl rfl rfl (Nat.le_of_ble_eq_true rfl) (Nat.zero_le _) (Nat.zero_le _) rfl rfl rfl ?_
  refine V_istore_n (L2 := [(1, .int r1), (0, .ref (a 0))]) (pc := 4) F dX8_serve_4 rfl (by decide) rfl ?_
  refine V_iconst (v := 0) (pc := 5) F dX8_serve_5 (by decide) ?_
  refine V_istore_n (L2 := [(2, .int 0), (1, .int r1), (0, .ref (a 0))]) (pc := 6) F dX8_serve_6 rfl (by decide) rfl ?_
  refine V.sub [2, 1, 0] rfl ?_
  obtain ⟨u36, g37, hf⟩ := bind_of hf
  refine K7 N r1 v 0 u36 g37 ?_
  obtain rfl := some_of hf
  exact V_vret F rfl dX8_serve_122 rfl
