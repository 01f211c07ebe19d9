theorem hd_L_tick : yL_tick.cls ≠ "java/lang/invoke/MethodHandle" ∧ yL_tick.cls ≠ "java/lang/invoke/VarHandle" ∧ (parseMethodDescriptor yL_tick.desc).map (fun d => d.parameters.length) = some 5 := by decide +kernel
def fL_tick_L17 (N : Nat) (v : SX7) (v1 : SQ5) (v3 : SQ8) (z1 : Int32) (z5 : Int32) : Nat → SQ18 → Int32 → Option (SQ18)
  | 0, _, _ => none
  | n + 1, v2, z6 =>
    if 6 ≤ z6 then
      some v2
    else
      chk z6 18 (
        if (v2 z6.toNatClampNeg) < 0 then
          fL_tick_L17 N v v1 v3 z1 z5 n v2 (z6 + 1)
        else
          if ((z5 >>> (z6 &&& 31)) &&& 1) = 1 then
            chk ((6 : Int32) + z6) 18 (
              chk ((6 : Int32) + z6) 18 (
                nmd (upd v2 ((6 : Int32) + z6).toNatClampNeg ((v2 ((6 : Int32) + z6).toNatClampNeg) + 1)) fun f29 =>
                chk z6 18 (
                  chk ((12 : Int32) + z6) 18 (
                    if (f29 z6.toNatClampNeg) ≤ (f29 ((12 : Int32) + z6).toNatClampNeg) then
                      chk ((12 : Int32) + z6) 18 (
                        chk ((12 : Int32) + z6) 18 (
                          nmd (upd f29 ((12 : Int32) + z6).toNatClampNeg (f29 ((12 : Int32) + z6).toNatClampNeg)) fun f37 =>
                          chk z6 18 (
                            nmd (upd f37 z6.toNatClampNeg ((-1) : Int32)) fun f41 =>
                            fL_tick_L17 N v v1 v3 z1 z5 n f41 (z6 + 1)
                          )
                        )
                      )
                    else
                      chk z6 18 (
                        chk ((12 : Int32) + z6) 18 (
                          nmd (upd f29 ((12 : Int32) + z6).toNatClampNeg (f29 z6.toNatClampNeg)) fun f45 =>
                          chk z6 18 (
                            nmd (upd f45 z6.toNatClampNeg ((-1) : Int32)) fun f49 =>
                            fL_tick_L17 N v v1 v3 z1 z5 n f49 (z6 + 1)
                          )
                        )
                      )
                  )
                )
              )
            )
          else
            chk ((6 : Int32) + z6) 18 (
              chk ((6 : Int32) + z6) 18 (
                nmd (upd v2 ((6 : Int32) + z6).toNatClampNeg ((v2 ((6 : Int32) + z6).toNatClampNeg) + 0)) fun f14 =>
                chk ((12 : Int32) + z6) 18 (
                  chk ((12 : Int32) + z6) 18 (
                    nmd (upd f14 ((12 : Int32) + z6).toNatClampNeg (f14 ((12 : Int32) + z6).toNatClampNeg)) fun f19 =>
                    chk z6 18 (
                      chk z6 18 (
                        nmd (upd f19 z6.toNatClampNeg ((f19 z6.toNatClampNeg) + 1)) fun f24 =>
                        fL_tick_L17 N v v1 v3 z1 z5 n f24 (z6 + 1)
                      )
                    )
                  )
                )
              )
            )
      )
def fL_tick_L238 (N : Nat) (v : SX7) (v1 : SQ5) (v2 : SQ18) (v3 : SQ8) (z1 : Int32) (z6 : Int32) (z7 : Int32) (z8 : Int32) : Nat → Int32 → Int32 → Option (Int32)
  | 0, _, _ => none
  | n + 1, z9, z10 =>
    if 6 ≤ z10 then
      some z9
    else
      if z9 = 0 then
        if ((z8 >>> (z10 &&& 31)) &&& 1) = 1 then
          chk z10 18 (
            if (v2 z10.toNatClampNeg) < 0 then
              fL_tick_L238 N v v1 v2 v3 z1 z6 z7 z8 n 0 (z10 + 1)
            else
              fL_tick_L238 N v v1 v2 v3 z1 z6 z7 z8 n 1 (z10 + 1)
          )
        else
          fL_tick_L238 N v v1 v2 v3 z1 z6 z7 z8 n 0 (z10 + 1)
      else
        fL_tick_L238 N v v1 v2 v3 z1 z6 z7 z8 n 1 (z10 + 1)
def fL_tick_L187 (N : Nat) (v2 : SQ18) (z1 : Int32) (z6 : Int32) : Nat → SX7 → SQ5 → SQ8 → Int32 → Option ((SX7 × SQ5 × SQ18 × SQ8) ⊕ (SX7 × SQ5 × SQ8))
  | 0, _, _, _, _ => none
  | n + 1, v, v1, v3, z7 =>
    (rt (fX7_phase N v z6 2)).bind fun r60 =>
      if r60.1 ≤ z7 then
        some (.inr (r60.2, v1, v3))
      else
        chk 1 5 (
          (rt (fX7_phase N r60.2 z6 1)).bind fun r64 =>
            if (v1 (1 : Int32).toNatClampNeg) < r64.1 then
              some (.inr (r64.2, v1, v3))
            else
              (rt (fX7_rule N r64.2 z6 z7 1)).bind fun r67 =>
                (fL_tick_L238 N r64.2 v1 v2 v3 z1 z6 z7 r67 N (if r67 = 0 then (1 : Int32) else (0 : Int32)) 0).bind fun u75 =>
                  if u75 = 0 then
                    fL_tick_L187 N v2 z1 z6 n r64.2 v1 v3 (z7 + 1)
                  else
                    (rt (fX7_rule N r64.2 z6 z7 0)).bind fun r78 =>
                      (rt (fX7_phase N r64.2 r78 0)).bind fun r80 =>
                        (rt (fX7_phase N r80.2 z6 0)).bind fun r82 =>
                          chk 2 5 (
                            nmd (upd v1 (2 : Int32).toNatClampNeg (if r80.1 = r82.1 then (0 : Int32) else z1)) fun f86 =>
                            chk 3 5 (
                              nmd (upd f86 (3 : Int32).toNatClampNeg z6) fun f89 =>
                              chk 0 5 (
                                nmd (upd f89 (0 : Int32).toNatClampNeg r78) fun f92 =>
                                chk 1 5 (
                                  nmd (upd f92 (1 : Int32).toNatClampNeg (0 : Int32)) fun f95 =>
                                  chk r78 8 (
                                    chk 2 5 (
                                      chk r78 8 (
                                        nmd (upd v3 r78.toNatClampNeg ((v3 r78.toNatClampNeg) + (if (f95 (2 : Int32).toNatClampNeg) = 0 then (1 : Int32) else (0 : Int32)))) fun f101 =>
                                        some (.inl (r82.2, f95, v2, f101))
                                      )
                                    )
                                  )
                                )
                              )
                            )
                          )
        )
def fL_tick (N : Nat) (v : SX7) (v1 : SQ5) (v2 : SQ18) (v3 : SQ8) (x1 : Int32) : Option (SX7 × SQ5 × SQ18 × SQ8) :=
  (fL_greens N v v1).bind fun r1 =>
    chk 4 5 (
      chk 4 5 (
        nmd (upd v1 (4 : Int32).toNatClampNeg ((v1 (4 : Int32).toNatClampNeg) + 1)) fun f5 =>
        (fL_tick_L17 N r1.2 f5 v3 x1 r1.1 N v2 0).bind fun u51 =>
          chk 2 5 (
            if (f5 (2 : Int32).toNatClampNeg) ≤ 0 then
              chk 1 5 (
                chk 1 5 (
                  nmd (upd f5 (1 : Int32).toNatClampNeg ((f5 (1 : Int32).toNatClampNeg) + 1)) fun f57 =>
                  chk 0 5 (
                    (fL_tick_L187 N u51 x1 (f57 (0 : Int32).toNatClampNeg) N r1.2 f57 v3 0).bind fun u106 => onS u106 (fun r => some r) fun q108 =>
                      some (q108.1, q108.2.1, u51, q108.2.2)
                  )
                )
              )
            else
              chk 2 5 (
                chk 2 5 (
                  nmd (upd f5 (2 : Int32).toNatClampNeg ((f5 (2 : Int32).toNatClampNeg) - 1)) fun f112 =>
                  chk 1 5 (
                    nmd (upd f112 (1 : Int32).toNatClampNeg (0 : Int32)) fun f115 =>
                    chk 0 5 (
                      chk (f115 (0 : Int32).toNatClampNeg) 8 (
                        chk 2 5 (
                          chk (f115 (0 : Int32).toNatClampNeg) 8 (
                            nmd (upd v3 (f115 (0 : Int32).toNatClampNeg).toNatClampNeg ((v3 (f115 (0 : Int32).toNatClampNeg).toNatClampNeg) + (if (f115 (2 : Int32).toNatClampNeg) = 0 then (1 : Int32) else (0 : Int32)))) fun f122 =>
                            some (r1.2, f115, u51, f122)
                          )
                        )
                      )
                    )
                  )
                )
              )
          )
      )
    )
set_option maxHeartbeats 8000000 in
set_option maxRecDepth 100000 in
theorem M_L_tick (l : Launch) (D : va_G) (cy : Nat → ClassId) (N : Nat) (a : Nat → Nat) (a1 : Nat → Nat) (a2 : Nat → Nat) (a3 : Nat → Nat) (v : SX7) (v1 : SQ5) (v2 : SQ18) (v3 : SQ8) (x1 : Int32) (o : SX7 × SQ5 × SQ18 × SQ8) (hf : fL_tick N v v1 v2 v3 x1 = some o) : okM l yL_tick wsL_tick (rmz 6 139) D cy [.ref (a 0), .int x1, .ref (a1 0), .ref (a2 0), .ref (a3 0)] (wQ18 cy a2 v2 ++ (wQ8 cy a3 v3 ++ (wQ5 cy a1 v1 ++ (wX7 cy a v)))) (wQ18 cy a2 o.2.2.1 ++ (wQ8 cy a3 o.2.2.2 ++ (wQ5 cy a1 o.2.1 ++ (wX7 cy a o.1)))) none := by
  refine okM_of (own := RL) (nme := "tick") (cc := cL_tick) (maxL := 11) (ret := none) (by decide) rfl rfl rfl (Nat.le_of_ble_eq_true rfl) ?_
  intro p e s m args below meth c A F
  have K17 : ∀ (n : Nat) (v : SX7) (v1 : SQ5) (v3 : SQ8) (z1 : Int32) (z5 : Int32) (v2 : SQ18) (z6 : Int32) (u : SQ18), fL_tick_L17 N v v1 v3 z1 z5 n v2 z6 = some u → V p l e (rmz 6 139) s m args below meth c 11 D A 0 0 (MQ below (ok_Q D (wQ18 cy a2 o.2.2.1 ++ (wQ8 cy a3 o.2.2.2 ++ (wQ5 cy a1 o.2.1 ++ (wX7 cy a o.1)))) none A) args s 0 0 A) (wQ18 cy a2 u ++ (wQ8 cy a3 v3 ++ (wQ5 cy a1 v1 ++ (wX7 cy a v)))) [(0, .ref (a 0)), (1, .int z1), (2, .ref (a1 0)), (3, .ref (a2 0)), (4, .ref (a3 0))] [] 134 → V p l e (rmz 6 139) s m args below meth c 11 D A 0 0 (MQ below (ok_Q D (wQ18 cy a2 o.2.2.1 ++ (wQ8 cy a3 o.2.2.2 ++ (wQ5 cy a1 o.2.1 ++ (wX7 cy a o.1)))) none A) args s 0 0 A) (wQ18 cy a2 v2 ++ (wQ8 cy a3 v3 ++ (wQ5 cy a1 v1 ++ (wX7 cy a v)))) [(0, .ref (a 0)), (1, .int z1), (2, .ref (a1 0)), (3, .ref (a2 0)), (4, .ref (a3 0)), (5, .int z5), (6, .int z6)] [] 17 := by
    intro n
    induction n with
    | zero =>
      intro v v1 v3 z1 z5 v2 z6 u hf hk
      exact nomatch (show (none : Option (SQ18)) = some u from hf)
    | succ n ih =>
      intro v v1 v3 z1 z5 v2 z6 u hf hk
      rw [fL_tick_L17] at hf
      refine V_iload (pc := 17) F dL_tick_17 6 rfl ?_
      refine V_bipush (v := 6) (pc := 19) F dL_tick_19 (by decide) ?_
      refine V_icmp_ge (pc := 21) (tgt := 134) F dL_tick_21 (by decide) (fun h7 => ?_) (fun h7 => ?_)
      · replace hf := ite_pos hf h7
        obtain rfl := some_of hf
        exact V.sub [0, 1, 2, 3, 4] rfl hk
      · replace hf := ite_neg hf h7
        refine V_aload_n (pc := 24) F dL_tick_24 rfl 3 rfl ?_
        refine V_iload (pc := 25) F dL_tick_25 6 rfl ?_
        obtain ⟨c8, hf⟩ := chk_some hf
        refine V_iald (pc := 27) F 0 rfl c8 dL_tick_27 ?_
        refine V_if_lt (pc := 28) (tgt := 128) F dL_tick_28 (by decide) (fun h9 => ?_) (fun h9 => ?_)
        · replace hf := ite_pos hf h9
          refine V_iinc (v := (z6 + 1)) (L2 := [(6, .int (z6 + 1)), (0, .ref (a 0)), (1, .int z1), (2, .ref (a1 0)), (3, .ref (a2 0)), (4, .ref (a3 0)), (5, .int z5)]) (pc := 128) F dL_tick_128 6 rfl rfl (by decide) rfl ?_
          refine V_goto (pc := 131) (tgt := 17) F dL_tick_131 (by decide) ?_
          refine V.sub [1, 2, 3, 4, 5, 6, 0] rfl ?_
          exact ih v v1 v3 z1 z5 v2 (z6 + 1) _ hf hk
        · replace hf := ite_neg hf h9
          refine V_iload (pc := 31) F dL_tick_31 5 rfl ?_
          refine V_iload (pc := 33) F dL_tick_33 6 rfl ?_
          refine V_ishr (pc := 35) F dL_tick_35 ?_
          refine V_iconst (v := 1) (pc := 36) F dL_tick_36 (by decide) ?_
          refine V_iand (pc := 37) F dL_tick_37 ?_
          refine V_iconst (v := 1) (pc := 38) F dL_tick_38 (by decide) ?_
          refine V_icmp_ne (pc := 39) (tgt := 46) F dL_tick_39 (by decide) (fun h10 => ?_) (fun h10 => ?_)
          · replace hf := ite_neg hf h10
            refine V_iconst (v := 0) (pc := 46) F dL_tick_46 (by decide) ?_
            refine V_istore (L2 := [(7, .int 0), (0, .ref (a 0)), (1, .int z1), (2, .ref (a1 0)), (3, .ref (a2 0)), (4, .ref (a3 0)), (5, .int z5), (6, .int z6)]) (pc := 47) F dL_tick_47 (by decide) rfl ?_
            refine V_aload_n (pc := 49) F dL_tick_49 rfl 4 rfl ?_
            refine V_bipush (v := 6) (pc := 50) F dL_tick_50 (by decide) ?_
            refine V_iload (pc := 52) F dL_tick_52 7 rfl ?_
            refine V_iadd (pc := 54) F dL_tick_54 ?_
            refine V_dup2_11 (pc := 55) F dL_tick_55 rfl rfl ?_
            obtain ⟨c11, hf⟩ := chk_some hf
            refine V_iald (pc := 56) F 0 rfl c11 dL_tick_56 ?_
            refine V_iload (pc := 57) F dL_tick_57 0 rfl ?_
            refine V_if_eq (pc := 59) (tgt := 66) F dL_tick_59 (by decide) (fun h12 => ?_) (fun h12 => ?_)
            · refine V_iconst (v := 0) (pc := 66) F dL_tick_66 (by decide) ?_
              refine V_iadd (pc := 67) F dL_tick_67 ?_
              obtain ⟨c13, hf⟩ := chk_some hf
              obtain ⟨f14, e15, hf⟩ := nmd_of hf
              refine V_iast (w2 := wQ18 cy a2 f14 ++ (wQ8 cy a3 v3 ++ (wQ5 cy a1 v1 ++ (wX7 cy a v)))) (pc := 68) F 0 rfl c13 e15 dL_tick_68 rfl ?_
              refine V_aload_n (pc := 69) F dL_tick_69 rfl 4 rfl ?_
              refine V_bipush (v := 12) (pc := 70) F dL_tick_70 (by decide) ?_
              refine V_iload (pc := 72) F dL_tick_72 7 rfl ?_
              refine V_iadd (pc := 74) F dL_tick_74 ?_
              refine V_iload (pc := 75) F dL_tick_75 0 rfl ?_
              refine V_if_eq (pc := 77) (tgt := 101) F dL_tick_77 (by decide) (fun h16 => ?_) (fun h16 => ?_)
              · refine V_aload_n (pc := 101) F dL_tick_101 rfl 4 rfl ?_
                refine V_bipush (v := 12) (pc := 102) F dL_tick_102 (by decide) ?_
                refine V_iload (pc := 104) F dL_tick_104 7 rfl ?_
                refine V_iadd (pc := 106) F dL_tick_106 ?_
                obtain ⟨c17, hf⟩ := chk_some hf
                refine V_iald (pc := 107) F 0 rfl c17 dL_tick_107 ?_
                obtain ⟨c18, hf⟩ := chk_some hf
                obtain ⟨f19, e20, hf⟩ := nmd_of hf
                refine V_iast (w2 := wQ18 cy a2 f19 ++ (wQ8 cy a3 v3 ++ (wQ5 cy a1 v1 ++ (wX7 cy a v)))) (pc := 108) F 0 rfl c18 e20 dL_tick_108 rfl ?_
                refine V_aload_n (pc := 109) F dL_tick_109 rfl 4 rfl ?_
                refine V_iload (pc := 110) F dL_tick_110 7 rfl ?_
                refine V_iload (pc := 112) F dL_tick_112 0 rfl ?_
                refine V_if_eq (pc := 114) (tgt := 121) F dL_tick_114 (by decide) (fun h21 => ?_) (fun h21 => ?_)
                · refine V_aload_n (pc := 121) F dL_tick_121 rfl 4 rfl ?_
                  refine V_iload (pc := 122) F dL_tick_122 7 rfl ?_
                  obtain ⟨c22, hf⟩ := chk_some hf
                  refine V_iald (pc := 124) F 0 rfl c22 dL_tick_124 ?_
                  refine V_iconst (v := 1) (pc := 125) F dL_tick_125 (by decide) ?_
                  refine V_iadd (pc := 126) F dL_tick_126 ?_
                  obtain ⟨c23, hf⟩ := chk_some hf
                  obtain ⟨f24, e25, hf⟩ := nmd_of hf
                  refine V_iast (w2 := wQ18 cy a2 f24 ++ (wQ8 cy a3 v3 ++ (wQ5 cy a1 v1 ++ (wX7 cy a v)))) (pc := 127) F 0 rfl c23 e25 dL_tick_127 rfl ?_
                  refine V_iinc (v := (z6 + 1)) (L2 := [(6, .int (z6 + 1)), (7, .int 0), (0, .ref (a 0)), (1, .int z1), (2, .ref (a1 0)), (3, .ref (a2 0)), (4, .ref (a3 0)), (5, .int z5)]) (pc := 128) F dL_tick_128 7 rfl rfl (by decide) rfl ?_
                  refine V_goto (pc := 131) (tgt := 17) F dL_tick_131 (by decide) ?_
                  refine V.sub [2, 3, 4, 5, 6, 7, 0] rfl ?_
                  exact ih v v1 v3 z1 z5 f24 (z6 + 1) _ hf hk
                · exact absurd h21 (show ¬ (¬ ((0 : Int32) = (0 : Int32))) by decide)
              · exact absurd h16 (show ¬ (¬ ((0 : Int32) = (0 : Int32))) by decide)
            · exact absurd h12 (show ¬ (¬ ((0 : Int32) = (0 : Int32))) by decide)
          · replace hf := ite_pos hf h10
            refine V_iconst (v := 1) (pc := 42) F dL_tick_42 (by decide) ?_
            refine V_goto (pc := 43) (tgt := 47) F dL_tick_43 (by decide) ?_
            refine V_istore (L2 := [(7, .int 1), (0, .ref (a 0)), (1, .int z1), (2, .ref (a1 0)), (3, .ref (a2 0)), (4, .ref (a3 0)), (5, .int z5), (6, .int z6)]) (pc := 47) F dL_tick_47 (by decide) rfl ?_
            refine V_aload_n (pc := 49) F dL_tick_49 rfl 4 rfl ?_
            refine V_bipush (v := 6) (pc := 50) F dL_tick_50 (by decide) ?_
            refine V_iload (pc := 52) F dL_tick_52 7 rfl ?_
            refine V_iadd (pc := 54) F dL_tick_54 ?_
            refine V_dup2_11 (pc := 55) F dL_tick_55 rfl rfl ?_
            obtain ⟨c26, hf⟩ := chk_some hf
            refine V_iald (pc := 56) F 0 rfl c26 dL_tick_56 ?_
            refine V_iload (pc := 57) F dL_tick_57 0 rfl ?_
            refine V_if_eq (pc := 59) (tgt := 66) F dL_tick_59 (by decide) (fun h27 => ?_) (fun h27 => ?_)
            · exact absurd h27 (show ¬ ((1 : Int32) = (0 : Int32)) by decide)
            · refine V_iconst (v := 1) (pc := 62) F dL_tick_62 (by decide) ?_
              refine V_goto (pc := 63) (tgt := 67) F dL_tick_63 (by decide) ?_
              refine V_iadd (pc := 67) F dL_tick_67 ?_
              obtain ⟨c28, hf⟩ := chk_some hf
              obtain ⟨f29, e30, hf⟩ := nmd_of hf
              refine V_iast (w2 := wQ18 cy a2 f29 ++ (wQ8 cy a3 v3 ++ (wQ5 cy a1 v1 ++ (wX7 cy a v)))) (pc := 68) F 0 rfl c28 e30 dL_tick_68 rfl ?_
              refine V_aload_n (pc := 69) F dL_tick_69 rfl 4 rfl ?_
              refine V_bipush (v := 12) (pc := 70) F dL_tick_70 (by decide) ?_
              refine V_iload (pc := 72) F dL_tick_72 7 rfl ?_
              refine V_iadd (pc := 74) F dL_tick_74 ?_
              refine V_iload (pc := 75) F dL_tick_75 0 rfl ?_
              refine V_if_eq (pc := 77) (tgt := 101) F dL_tick_77 (by decide) (fun h31 => ?_) (fun h31 => ?_)
              · exact absurd h31 (show ¬ ((1 : Int32) = (0 : Int32)) by decide)
              · refine V_aload_n (pc := 80) F dL_tick_80 rfl 4 rfl ?_
                refine V_iload (pc := 81) F dL_tick_81 7 rfl ?_
                obtain ⟨c32, hf⟩ := chk_some hf
                refine V_iald (pc := 83) F 0 rfl c32 dL_tick_83 ?_
                refine V_aload_n (pc := 84) F dL_tick_84 rfl 4 rfl ?_
                refine V_bipush (v := 12) (pc := 85) F dL_tick_85 (by decide) ?_
                refine V_iload (pc := 87) F dL_tick_87 7 rfl ?_
                refine V_iadd (pc := 89) F dL_tick_89 ?_
                obtain ⟨c33, hf⟩ := chk_some hf
                refine V_iald (pc := 90) F 0 rfl c33 dL_tick_90 ?_
                refine V_icmp_le (pc := 91) (tgt := 101) F dL_tick_91 (by decide) (fun h34 => ?_) (fun h34 => ?_)
                · replace hf := ite_pos hf h34
                  refine V_aload_n (pc := 101) F dL_tick_101 rfl 4 rfl ?_
                  refine V_bipush (v := 12) (pc := 102) F dL_tick_102 (by decide) ?_
                  refine V_iload (pc := 104) F dL_tick_104 7 rfl ?_
                  refine V_iadd (pc := 106) F dL_tick_106 ?_
                  obtain ⟨c35, hf⟩ := chk_some hf
                  refine V_iald (pc := 107) F 0 rfl c35 dL_tick_107 ?_
                  obtain ⟨c36, hf⟩ := chk_some hf
                  obtain ⟨f37, e38, hf⟩ := nmd_of hf
                  refine V_iast (w2 := wQ18 cy a2 f37 ++ (wQ8 cy a3 v3 ++ (wQ5 cy a1 v1 ++ (wX7 cy a v)))) (pc := 108) F 0 rfl c36 e38 dL_tick_108 rfl ?_
                  refine V_aload_n (pc := 109) F dL_tick_109 rfl 4 rfl ?_
                  refine V_iload (pc := 110) F dL_tick_110 7 rfl ?_
                  refine V_iload (pc := 112) F dL_tick_112 0 rfl ?_
                  refine V_if_eq (pc := 114) (tgt := 121) F dL_tick_114 (by decide) (fun h39 => ?_) (fun h39 => ?_)
                  · exact absurd h39 (show ¬ ((1 : Int32) = (0 : Int32)) by decide)
                  · refine V_iconst (v := (-1)) (pc := 117) F dL_tick_117 (by decide) ?_
                    refine V_goto (pc := 118) (tgt := 127) F dL_tick_118 (by decide) ?_
                    obtain ⟨c40, hf⟩ := chk_some hf
                    obtain ⟨f41, e42, hf⟩ := nmd_of hf
                    refine V_iast (w2 := wQ18 cy a2 f41 ++ (wQ8 cy a3 v3 ++ (wQ5 cy a1 v1 ++ (wX7 cy a v)))) (pc := 127) F 0 rfl c40 e42 dL_tick_127 rfl ?_
                    refine V_iinc (v := (z6 + 1)) (L2 := [(6, .int (z6 + 1)), (7, .int 1), (0, .ref (a 0)), (1, .int z1), (2, .ref (a1 0)), (3, .ref (a2 0)), (4, .ref (a3 0)), (5, .int z5)]) (pc := 128) F dL_tick_128 7 rfl rfl (by decide) rfl ?_
                    refine V_goto (pc := 131) (tgt := 17) F dL_tick_131 (by decide) ?_
                    refine V.sub [2, 3, 4, 5, 6, 7, 0] rfl ?_
                    exact ih v v1 v3 z1 z5 f41 (z6 + 1) _ hf hk
                · replace hf := ite_neg hf h34
                  refine V_aload_n (pc := 94) F dL_tick_94 rfl 4 rfl ?_
                  refine V_iload (pc := 95) F dL_tick_95 7 rfl ?_
                  obtain ⟨c43, hf⟩ := chk_some hf
                  refine V_iald (pc := 97) F 0 rfl c43 dL_tick_97 ?_
                  refine V_goto (pc := 98) (tgt := 108) F dL_tick_98 (by decide) ?_
                  obtain ⟨c44, hf⟩ := chk_some hf
                  obtain ⟨f45, e46, hf⟩ := nmd_of hf
                  refine V_iast (w2 := wQ18 cy a2 f45 ++ (wQ8 cy a3 v3 ++ (wQ5 cy a1 v1 ++ (wX7 cy a v)))) (pc := 108) F 0 rfl c44 e46 dL_tick_108 rfl ?_
                  refine V_aload_n (pc := 109) F dL_tick_109 rfl 4 rfl ?_
                  refine V_iload (pc := 110) F dL_tick_110 7 rfl ?_
                  refine V_iload (pc := 112) F dL_tick_112 0 rfl ?_
                  refine V_if_eq (pc := 114) (tgt := 121) F dL_tick_114 (by decide) (fun h47 => ?_) (fun h47 => ?_)
                  · exact absurd h47 (show ¬ ((1 : Int32) = (0 : Int32)) by decide)
                  · refine V_iconst (v := (-1)) (pc := 117) F dL_tick_117 (by decide) ?_
                    refine V_goto (pc := 118) (tgt := 127) F dL_tick_118 (by decide) ?_
                    obtain ⟨c48, hf⟩ := chk_some hf
                    obtain ⟨f49, e50, hf⟩ := nmd_of hf
                    refine V_iast (w2 := wQ18 cy a2 f49 ++ (wQ8 cy a3 v3 ++ (wQ5 cy a1 v1 ++ (wX7 cy a v)))) (pc := 127) F 0 rfl c48 e50 dL_tick_127 rfl ?_
                    refine V_iinc (v := (z6 + 1)) (L2 := [(6, .int (z6 + 1)), (7, .int 1), (0, .ref (a 0)), (1, .int z1), (2, .ref (a1 0)), (3, .ref (a2 0)), (4, .ref (a3 0)), (5, .int z5)]) (pc := 128) F dL_tick_128 7 rfl rfl (by decide) rfl ?_
                    refine V_goto (pc := 131) (tgt := 17) F dL_tick_131 (by decide) ?_
                    refine V.sub [2, 3, 4, 5, 6, 7, 0] rfl ?_
                    exact ih v v1 v3 z1 z5 f49 (z6 + 1) _ hf hk
  have K238 : ∀ (n : Nat) (v : SX7) (v1 : SQ5) (v2 : SQ18) (v3 : SQ8) (z1 : Int32) (z6 : Int32) (z7 : Int32) (z8 : Int32) (z9 : Int32) (z10 : Int32) (u : Int32), fL_tick_L238 N v v1 v2 v3 z1 z6 z7 z8 n z9 z10 = some u → V p l e (rmz 6 139) s m args below meth c 11 D A 0 0 (MQ below (ok_Q D (wQ18 cy a2 o.2.2.1 ++ (wQ8 cy a3 o.2.2.2 ++ (wQ5 cy a1 o.2.1 ++ (wX7 cy a o.1)))) none A) args s 0 0 A) (wQ18 cy a2 v2 ++ (wQ8 cy a3 v3 ++ (wQ5 cy a1 v1 ++ (wX7 cy a v)))) [(0, .ref (a 0)), (1, .int z1), (2, .ref (a1 0)), (3, .ref (a2 0)), (4, .ref (a3 0)), (6, .int z6), (7, .int z7), (9, .int u)] [] 281 → V p l e (rmz 6 139) s m args below meth c 11 D A 0 0 (MQ below (ok_Q D (wQ18 cy a2 o.2.2.1 ++ (wQ8 cy a3 o.2.2.2 ++ (wQ5 cy a1 o.2.1 ++ (wX7 cy a o.1)))) none A) args s 0 0 A) (wQ18 cy a2 v2 ++ (wQ8 cy a3 v3 ++ (wQ5 cy a1 v1 ++ (wX7 cy a v)))) [(0, .ref (a 0)), (1, .int z1), (2, .ref (a1 0)), (3, .ref (a2 0)), (4, .ref (a3 0)), (6, .int z6), (7, .int z7), (8, .int z8), (9, .int z9), (10, .int z10)] [] 238 := by
    intro n
    induction n with
    | zero =>
      intro v v1 v2 v3 z1 z6 z7 z8 z9 z10 u hf hk
      exact nomatch (show (none : Option (Int32)) = some u from hf)
    | succ n ih =>
      intro v v1 v2 v3 z1 z6 z7 z8 z9 z10 u hf hk
      rw [fL_tick_L238] at hf
      refine V_iload (pc := 238) F dL_tick_238 9 rfl ?_
      refine V_bipush (v := 6) (pc := 240) F dL_tick_240 (by decide) ?_
      refine V_icmp_ge (pc := 242) (tgt := 281) F dL_tick_242 (by decide) (fun h70 => ?_) (fun h70 => ?_)
      · replace hf := ite_pos hf h70
        obtain rfl := some_of hf
        exact V.sub [0, 1, 2, 3, 4, 5, 6, 8] rfl hk
      · replace hf := ite_neg hf h70
        refine V_iload (pc := 245) F dL_tick_245 8 rfl ?_
        refine V_if_ne (pc := 247) (tgt := 268) F dL_tick_247 (by decide) (fun h71 => ?_) (fun h71 => ?_)
        · replace hf := ite_neg hf h71
          refine V_iconst (v := 1) (pc := 268) F dL_tick_268 (by decide) ?_
          refine V_goto (pc := 269) (tgt := 273) F dL_tick_269 (by decide) ?_
          refine V_istore (L2 := [(9, .int 1), (0, .ref (a 0)), (1, .int z1), (2, .ref (a1 0)), (3, .ref (a2 0)), (4, .ref (a3 0)), (6, .int z6), (7, .int z7), (8, .int z8), (10, .int z10)]) (pc := 273) F dL_tick_273 (by decide) rfl ?_
          refine V_iinc (v := (z10 + 1)) (L2 := [(10, .int (z10 + 1)), (9, .int 1), (0, .ref (a 0)), (1, .int z1), (2, .ref (a1 0)), (3, .ref (a2 0)), (4, .ref (a3 0)), (6, .int z6), (7, .int z7), (8, .int z8)]) (pc := 275) F dL_tick_275 9 rfl rfl (by decide) rfl ?_
          refine V_goto (pc := 278) (tgt := 238) F dL_tick_278 (by decide) ?_
          refine V.sub [2, 3, 4, 5, 6, 7, 8, 9, 1, 0] rfl ?_
          exact ih v v1 v2 v3 z1 z6 z7 z8 1 (z10 + 1) _ hf hk
        · replace hf := ite_pos hf h71
          refine V_iload (pc := 250) F dL_tick_250 7 rfl ?_
          refine V_iload (pc := 252) F dL_tick_252 9 rfl ?_
          refine V_ishr (pc := 254) F dL_tick_254 ?_
          refine V_iconst (v := 1) (pc := 255) F dL_tick_255 (by decide) ?_
          refine V_iand (pc := 256) F dL_tick_256 ?_
          refine V_iconst (v := 1) (pc := 257) F dL_tick_257 (by decide) ?_
          refine V_icmp_ne (pc := 258) (tgt := 272) F dL_tick_258 (by decide) (fun h72 => ?_) (fun h72 => ?_)
          · replace hf := ite_neg hf h72
            refine V_iconst (v := 0) (pc := 272) F dL_tick_272 (by decide) ?_
            refine V_istore (L2 := [(9, .int 0), (0, .ref (a 0)), (1, .int z1), (2, .ref (a1 0)), (3, .ref (a2 0)), (4, .ref (a3 0)), (6, .int z6), (7, .int z7), (8, .int z8), (10, .int z10)]) (pc := 273) F dL_tick_273 (by decide) rfl ?_
            refine V_iinc (v := (z10 + 1)) (L2 := [(10, .int (z10 + 1)), (9, .int 0), (0, .ref (a 0)), (1, .int z1), (2, .ref (a1 0)), (3, .ref (a2 0)), (4, .ref (a3 0)), (6, .int z6), (7, .int z7), (8, .int z8)]) (pc := 275) F dL_tick_275 9 rfl rfl (by decide) rfl ?_
            refine V_goto (pc := 278) (tgt := 238) F dL_tick_278 (by decide) ?_
            refine V.sub [2, 3, 4, 5, 6, 7, 8, 9, 1, 0] rfl ?_
            exact ih v v1 v2 v3 z1 z6 z7 z8 0 (z10 + 1) _ hf hk
          · replace hf := ite_pos hf h72
            refine V_aload_n (pc := 261) F dL_tick_261 rfl 3 rfl ?_
            refine V_iload (pc := 262) F dL_tick_262 9 rfl ?_
            obtain ⟨c73, hf⟩ := chk_some hf
            refine V_iald (pc := 264) F 0 rfl c73 dL_tick_264 ?_
            refine V_if_lt (pc := 265) (tgt := 272) F dL_tick_265 (by decide) (fun h74 => ?_) (fun h74 => ?_)
            · replace hf := ite_pos hf h74
              refine V_iconst (v := 0) (pc := 272) F dL_tick_272 (by decide) ?_
              refine V_istore (L2 := [(9, .int 0), (0, .ref (a 0)), (1, .int z1), (2, .ref (a1 0)), (3, .ref (a2 0)), (4, .ref (a3 0)), (6, .int z6), (7, .int z7), (8, .int z8), (10, .int z10)]) (pc := 273) F dL_tick_273 (by decide) rfl ?_
              refine V_iinc (v := (z10 + 1)) (L2 := [(10, .int (z10 + 1)), (9, .int 0), (0, .ref (a 0)), (1, .int z1), (2, .ref (a1 0)), (3, .ref (a2 0)), (4, .ref (a3 0)), (6, .int z6), (7, .int z7), (8, .int z8)]) (pc := 275) F dL_tick_275 9 rfl rfl (by decide) rfl ?_
              refine V_goto (pc := 278) (tgt := 238) F dL_tick_278 (by decide) ?_
              refine V.sub [2, 3, 4, 5, 6, 7, 8, 9, 1, 0] rfl ?_
              exact ih v v1 v2 v3 z1 z6 z7 z8 0 (z10 + 1) _ hf hk
            · replace hf := ite_neg hf h74
              refine V_iconst (v := 1) (pc := 268) F dL_tick_268 (by decide) ?_
              refine V_goto (pc := 269) (tgt := 273) F dL_tick_269 (by decide) ?_
              refine V_istore (L2 := [(9, .int 1), (0, .ref (a 0)), (1, .int z1), (2, .ref (a1 0)), (3, .ref (a2 0)), (4, .ref (a3 0)), (6, .int z6), (7, .int z7), (8, .int z8), (10, .int z10)]) (pc := 273) F dL_tick_273 (by decide) rfl ?_
              refine V_iinc (v := (z10 + 1)) (L2 := [(10, .int (z10 + 1)), (9, .int 1), (0, .ref (a 0)), (1, .int z1), (2, .ref (a1 0)), (3, .ref (a2 0)), (4, .ref (a3 0)), (6, .int z6), (7, .int z7), (8, .int z8)]) (pc := 275) F dL_tick_275 9 rfl rfl (by decide) rfl ?_
              refine V_goto (pc := 278) (tgt := 238) F dL_tick_278 (by decide) ?_
              refine V.sub [2, 3, 4, 5, 6, 7, 8, 9, 1, 0] rfl ?_
              exact ih v v1 v2 v3 z1 z6 z7 z8 1 (z10 + 1) _ hf hk
  have K187 : ∀ (n : Nat) (v2 : SQ18) (z1 : Int32) (z6 : Int32) (v : SX7) (v1 : SQ5) (v3 : SQ8) (z7 : Int32) (u : (SX7 × SQ5 × SQ18 × SQ8) ⊕ (SX7 × SQ5 × SQ8)), fL_tick_L187 N v2 z1 z6 n v v1 v3 z7 = some u → (∀ r, u = .inl r → r = o) → (∀ q, u = .inr q → V p l e (rmz 6 139) s m args below meth c 11 D A 0 0 (MQ below (ok_Q D (wQ18 cy a2 o.2.2.1 ++ (wQ8 cy a3 o.2.2.2 ++ (wQ5 cy a1 o.2.1 ++ (wX7 cy a o.1)))) none A) args s 0 0 A) (wQ18 cy a2 v2 ++ (wQ8 cy a3 q.2.2 ++ (wQ5 cy a1 q.2.1 ++ (wX7 cy a q.1)))) [] [] 362) → V p l e (rmz 6 139) s m args below meth c 11 D A 0 0 (MQ below (ok_Q D (wQ18 cy a2 o.2.2.1 ++ (wQ8 cy a3 o.2.2.2 ++ (wQ5 cy a1 o.2.1 ++ (wX7 cy a o.1)))) none A) args s 0 0 A) (wQ18 cy a2 v2 ++ (wQ8 cy a3 v3 ++ (wQ5 cy a1 v1 ++ (wX7 cy a v)))) [(0, .ref (a 0)), (1, .int z1), (2, .ref (a1 0)), (3, .ref (a2 0)), (4, .ref (a3 0)), (6, .int z6), (7, .int z7)] [] 187 := by
    intro n
    induction n with
    | zero =>
      intro v2 z1 z6 v v1 v3 z7 u hf hr hk
      exact nomatch (show (none : Option ((SX7 × SQ5 × SQ18 × SQ8) ⊕ (SX7 × SQ5 × SQ8))) = some u from hf)
    | succ n ih =>
      intro v2 z1 z6 v v1 v3 z7 u hf hr hk
      rw [fL_tick_L187] at hf
      refine V_iload (pc := 187) F dL_tick_187 6 rfl ?_
      refine V_aload_n (pc := 189) F dL_tick_189 rfl 0 rfl ?_
      refine V_iload (pc := 190) F dL_tick_190 5 rfl ?_
      refine V_iconst (v := 2) (pc := 192) F dL_tick_192 (by decide) ?_
      obtain ⟨r60, g61, hf⟩ := bind_of hf
      refine V_V (w2 := wQ18 cy a2 v2 ++ (wQ8 cy a3 v3 ++ (wQ5 cy a1 v1 ++ (wX7 cy a r60.2)))) (rest := [.int z7]) (st2 := [.int r60.1, .int z7]) (pc := 193) F 7 (M_X7_phase l D cy N a v z6 2 r60 (rt_of g61)) (cwV 2 F.ts gL_tick_X7_phase rfl rfl rfl hd_X7_phase ⟨Nat.le_of_ble_eq_true rfl, Nat.le_of_ble_eq_true rfl⟩) rfl dL_tick_193 (Fit.right (Fit.right (Fit.right Fit.whole))) fstX7 rfl rfl (Nat.le_of_ble_eq_true rfl) (Nat.zero_le _) (Nat.zero_le _) rfl rfl rfl ?_
      refine V_icmp_ge (pc := 196) (tgt := 362) F dL_tick_196 (by decide) (fun h62 => ?_) (fun h62 => ?_)
      · replace hf := ite_pos hf h62
        exact V.sub [] rfl (hk _ (some_of hf).symm)
      · replace hf := ite_neg hf h62
        refine V_aload_n (pc := 199) F dL_tick_199 rfl 2 rfl ?_
        refine V_iconst (v := 1) (pc := 200) F dL_tick_200 (by decide) ?_
        obtain ⟨c63, hf⟩ := chk_some hf
        refine V_iald (pc := 201) F 2 rfl c63 dL_tick_201 ?_
        refine V_aload_n (pc := 202) F dL_tick_202 rfl 0 rfl ?_
        refine V_iload (pc := 203) F dL_tick_203 5 rfl ?_
        refine V_iconst (v := 1) (pc := 205) F dL_tick_205 (by decide) ?_
        obtain ⟨r64, g65, hf⟩ := bind_of hf
        refine V_V (w2 := wQ18 cy a2 v2 ++ (wQ8 cy a3 v3 ++ (wQ5 cy a1 v1 ++ (wX7 cy a r64.2)))) (rest := [.int (v1 (1 : Int32).toNatClampNeg)]) (st2 := [.int r64.1, .int (v1 (1 : Int32).toNatClampNeg)]) (pc := 206) F 7 (M_X7_phase l D cy N a r60.2 z6 1 r64 (rt_of g65)) (cwV 2 F.ts gL_tick_X7_phase rfl rfl rfl hd_X7_phase ⟨Nat.le_of_ble_eq_true rfl, Nat.le_of_ble_eq_true rfl⟩) rfl dL_tick_206 (Fit.right (Fit.right (Fit.right Fit.whole))) fstX7 rfl rfl (Nat.le_of_ble_eq_true rfl) (Nat.zero_le _) (Nat.zero_le _) rfl rfl rfl ?_
        refine V_icmp_lt (pc := 209) (tgt := 362) F dL_tick_209 (by decide) (fun h66 => ?_) (fun h66 => ?_)
        · replace hf := ite_pos hf h66
          exact V.sub [] rfl (hk _ (some_of hf).symm)
        · replace hf := ite_neg hf h66
          refine V_aload_n (pc := 212) F dL_tick_212 rfl 0 rfl ?_
          refine V_iload (pc := 213) F dL_tick_213 5 rfl ?_
          refine V_iload (pc := 215) F dL_tick_215 6 rfl ?_
          refine V_iconst (v := 1) (pc := 217) F dL_tick_217 (by decide) ?_
          obtain ⟨r67, g68, hf⟩ := bind_of hf
          refine V_V (w2 := wQ18 cy a2 v2 ++ (wQ8 cy a3 v3 ++ (wQ5 cy a1 v1 ++ (wX7 cy a r64.2)))) (rest := []) (st2 := [.int r67]) (pc := 218) F 7 (M_X7_rule l D cy N a r64.2 z6 z7 1 r67 (rt_of g68)) (cwV 3 F.ts gL_tick_X7_rule rfl rfl rfl hd_X7_rule ⟨Nat.le_of_ble_eq_true rfl, Nat.le_of_ble_eq_true rfl⟩) rfl dL_tick_218 (Fit.right (Fit.right (Fit.right Fit.whole))) rfl rfl rfl (Nat.le_of_ble_eq_true rfl) (Nat.zero_le _) (Nat.zero_le _) rfl rfl rfl ?_
          refine V_istore (L2 := [(8, .int r67), (0, .ref (a 0)), (1, .int z1), (2, .ref (a1 0)), (3, .ref (a2 0)), (4, .ref (a3 0)), (6, .int z6), (7, .int z7)]) (pc := 221) F dL_tick_221 (by decide) rfl ?_
          refine V_iload (pc := 223) F dL_tick_223 0 rfl ?_
          have J105 : V p l e (rmz 6 139) s m args below meth c 11 D A 0 0 (MQ below (ok_Q D (wQ18 cy a2 o.2.2.1 ++ (wQ8 cy a3 o.2.2.2 ++ (wQ5 cy a1 o.2.1 ++ (wX7 cy a o.1)))) none A) args s 0 0 A) (wQ18 cy a2 v2 ++ (wQ8 cy a3 v3 ++ (wQ5 cy a1 v1 ++ (wX7 cy a r64.2)))) [(8, .int r67), (0, .ref (a 0)), (1, .int z1), (2, .ref (a1 0)), (3, .ref (a2 0)), (4, .ref (a3 0)), (6, .int z6), (7, .int z7)] [.int (if r67 = 0 then (1 : Int32) else (0 : Int32))] 233 := by
            refine V_istore (L2 := [(9, .int (if r67 = 0 then (1 : Int32) else (0 : Int32))), (8, .int r67), (0, .ref (a 0)), (1, .int z1), (2, .ref (a1 0)), (3, .ref (a2 0)), (4, .ref (a3 0)), (6, .int z6), (7, .int z7)]) (pc := 233) F dL_tick_233 (by decide) rfl ?_
            refine V_iconst (v := 0) (pc := 235) F dL_tick_235 (by decide) ?_
            refine V_istore (L2 := [(10, .int 0), (9, .int (if r67 = 0 then (1 : Int32) else (0 : Int32))), (8, .int r67), (0, .ref (a 0)), (1, .int z1), (2, .ref (a1 0)), (3, .ref (a2 0)), (4, .ref (a3 0)), (6, .int z6), (7, .int z7)]) (pc := 236) F dL_tick_236 (by decide) rfl ?_
            refine V.sub [3, 4, 5, 6, 7, 8, 9, 2, 1, 0] rfl ?_
            obtain ⟨u75, g76, hf⟩ := bind_of hf
            refine K238 N r64.2 v1 v2 v3 z1 z6 z7 r67 (if r67 = 0 then (1 : Int32) else (0 : Int32)) 0 u75 g76 ?_
            refine V_iload (pc := 281) F dL_tick_281 7 rfl ?_
            refine V_if_eq (pc := 283) (tgt := 356) F dL_tick_283 (by decide) (fun h77 => ?_) (fun h77 => ?_)
            · replace hf := ite_pos hf h77
              refine V_iinc (v := (z7 + 1)) (L2 := [(7, .int (z7 + 1)), (0, .ref (a 0)), (1, .int z1), (2, .ref (a1 0)), (3, .ref (a2 0)), (4, .ref (a3 0)), (6, .int z6), (9, .int u75)]) (pc := 356) F dL_tick_356 6 rfl rfl (by decide) rfl ?_
              refine V_goto (pc := 359) (tgt := 187) F dL_tick_359 (by decide) ?_
              refine V.sub [1, 2, 3, 4, 5, 6, 0] rfl ?_
              exact ih v2 z1 z6 r64.2 v1 v3 (z7 + 1) _ hf hr hk
            · replace hf := ite_neg hf h77
              refine V_aload_n (pc := 286) F dL_tick_286 rfl 0 rfl ?_
              refine V_iload (pc := 287) F dL_tick_287 5 rfl ?_
              refine V_iload (pc := 289) F dL_tick_289 6 rfl ?_
              refine V_iconst (v := 0) (pc := 291) F dL_tick_291 (by decide) ?_
              obtain ⟨r78, g79, hf⟩ := bind_of hf
              refine V_V (w2 := wQ18 cy a2 v2 ++ (wQ8 cy a3 v3 ++ (wQ5 cy a1 v1 ++ (wX7 cy a r64.2)))) (rest := []) (st2 := [.int r78]) (pc := 292) F 7 (M_X7_rule l D cy N a r64.2 z6 z7 0 r78 (rt_of g79)) (cwV 3 F.ts gL_tick_X7_rule rfl rfl rfl hd_X7_rule ⟨Nat.le_of_ble_eq_true rfl, Nat.le_of_ble_eq_true rfl⟩) rfl dL_tick_292 (Fit.right (Fit.right (Fit.right Fit.whole))) rfl rfl rfl (Nat.le_of_ble_eq_true rfl) (Nat.zero_le _) (Nat.zero_le _) rfl rfl rfl ?_
              refine V_istore (L2 := [(10, .int r78), (0, .ref (a 0)), (1, .int z1), (2, .ref (a1 0)), (3, .ref (a2 0)), (4, .ref (a3 0)), (6, .int z6), (7, .int z7), (9, .int u75)]) (pc := 295) F dL_tick_295 (by decide) rfl ?_
              refine V_aload_n (pc := 297) F dL_tick_297 rfl 3 rfl ?_
              refine V_iconst (v := 2) (pc := 298) F dL_tick_298 (by decide) ?_
              refine V_aload_n (pc := 299) F dL_tick_299 rfl 1 rfl ?_
              refine V_iload (pc := 300) F dL_tick_300 0 rfl ?_
              refine V_iconst (v := 0) (pc := 302) F dL_tick_302 (by decide) ?_
              obtain ⟨r80, g81, hf⟩ := bind_of hf
              refine V_V (w2 := wQ18 cy a2 v2 ++ (wQ8 cy a3 v3 ++ (wQ5 cy a1 v1 ++ (wX7 cy a r80.2)))) (rest := [.int 2, .ref (a1 0)]) (st2 := [.int r80.1, .int 2, .ref (a1 0)]) (pc := 303) F 7 (M_X7_phase l D cy N a r64.2 r78 0 r80 (rt_of g81)) (cwV 2 F.ts gL_tick_X7_phase rfl rfl rfl hd_X7_phase ⟨Nat.le_of_ble_eq_true rfl, Nat.le_of_ble_eq_true rfl⟩) rfl dL_tick_303 (Fit.right (Fit.right (Fit.right Fit.whole))) fstX7 rfl rfl (Nat.le_of_ble_eq_true rfl) (Nat.zero_le _) (Nat.zero_le _) rfl rfl rfl ?_
              refine V_aload_n (pc := 306) F dL_tick_306 rfl 1 rfl ?_
              refine V_iload (pc := 307) F dL_tick_307 6 rfl ?_
              refine V_iconst (v := 0) (pc := 309) F dL_tick_309 (by decide) ?_
              obtain ⟨r82, g83, hf⟩ := bind_of hf
              refine V_V (w2 := wQ18 cy a2 v2 ++ (wQ8 cy a3 v3 ++ (wQ5 cy a1 v1 ++ (wX7 cy a r82.2)))) (rest := [.int r80.1, .int 2, .ref (a1 0)]) (st2 := [.int r82.1, .int r80.1, .int 2, .ref (a1 0)]) (pc := 310) F 7 (M_X7_phase l D cy N a r80.2 z6 0 r82 (rt_of g83)) (cwV 2 F.ts gL_tick_X7_phase rfl rfl rfl hd_X7_phase ⟨Nat.le_of_ble_eq_true rfl, Nat.le_of_ble_eq_true rfl⟩) rfl dL_tick_310 (Fit.right (Fit.right (Fit.right Fit.whole))) fstX7 rfl rfl (Nat.le_of_ble_eq_true rfl) (Nat.zero_le _) (Nat.zero_le _) rfl rfl rfl ?_
              have J104 : V p l e (rmz 6 139) s m args below meth c 11 D A 0 0 (MQ below (ok_Q D (wQ18 cy a2 o.2.2.1 ++ (wQ8 cy a3 o.2.2.2 ++ (wQ5 cy a1 o.2.1 ++ (wX7 cy a o.1)))) none A) args s 0 0 A) (wQ18 cy a2 v2 ++ (wQ8 cy a3 v3 ++ (wQ5 cy a1 v1 ++ (wX7 cy a r82.2)))) [(10, .int r78), (0, .ref (a 0)), (1, .int z1), (2, .ref (a1 0)), (3, .ref (a2 0)), (4, .ref (a3 0)), (6, .int z6), (7, .int z7), (9, .int u75)] [.int (if r80.1 = r82.1 then (0 : Int32) else z1), .int 2, .ref (a1 0)] 321 := by
                obtain ⟨c85, hf⟩ := chk_some hf
                obtain ⟨f86, e87, hf⟩ := nmd_of hf
                refine V_iast (w2 := wQ18 cy a2 v2 ++ (wQ8 cy a3 v3 ++ (wQ5 cy a1 f86 ++ (wX7 cy a r82.2)))) (pc := 321) F 2 rfl c85 e87 dL_tick_321 rfl ?_
                refine V_aload_n (pc := 322) F dL_tick_322 rfl 3 rfl ?_
                refine V_iconst (v := 3) (pc := 323) F dL_tick_323 (by decide) ?_
                refine V_iload (pc := 324) F dL_tick_324 6 rfl ?_
                obtain ⟨c88, hf⟩ := chk_some hf
                obtain ⟨f89, e90, hf⟩ := nmd_of hf
                refine V_iast (w2 := wQ18 cy a2 v2 ++ (wQ8 cy a3 v3 ++ (wQ5 cy a1 f89 ++ (wX7 cy a r82.2)))) (pc := 326) F 2 rfl c88 e90 dL_tick_326 rfl ?_
                refine V_aload_n (pc := 327) F dL_tick_327 rfl 3 rfl ?_
                refine V_iconst (v := 0) (pc := 328) F dL_tick_328 (by decide) ?_
                refine V_iload (pc := 329) F dL_tick_329 0 rfl ?_
                obtain ⟨c91, hf⟩ := chk_some hf
                obtain ⟨f92, e93, hf⟩ := nmd_of hf
                refine V_iast (w2 := wQ18 cy a2 v2 ++ (wQ8 cy a3 v3 ++ (wQ5 cy a1 f92 ++ (wX7 cy a r82.2)))) (pc := 331) F 2 rfl c91 e93 dL_tick_331 rfl ?_
                refine V_aload_n (pc := 332) F dL_tick_332 rfl 3 rfl ?_
                refine V_iconst (v := 1) (pc := 333) F dL_tick_333 (by decide) ?_
                refine V_iconst (v := 0) (pc := 334) F dL_tick_334 (by decide) ?_
                obtain ⟨c94, hf⟩ := chk_some hf
                obtain ⟨f95, e96, hf⟩ := nmd_of hf
                refine V_iast (w2 := wQ18 cy a2 v2 ++ (wQ8 cy a3 v3 ++ (wQ5 cy a1 f95 ++ (wX7 cy a r82.2)))) (pc := 335) F 2 rfl c94 e96 dL_tick_335 rfl ?_
                refine V_aload (pc := 336) F dL_tick_336 5 rfl ?_
                refine V_iload (pc := 338) F dL_tick_338 0 rfl ?_
                refine V_dup2_11 (pc := 340) F dL_tick_340 rfl rfl ?_
                obtain ⟨c97, hf⟩ := chk_some hf
                refine V_iald (pc := 341) F 1 rfl c97 dL_tick_341 ?_
                refine V_aload_n (pc := 342) F dL_tick_342 rfl 3 rfl ?_
                refine V_iconst (v := 2) (pc := 343) F dL_tick_343 (by decide) ?_
                obtain ⟨c98, hf⟩ := chk_some hf
                refine V_iald (pc := 344) F 2 rfl c98 dL_tick_344 ?_
                have J103 : V p l e (rmz 6 139) s m args below meth c 11 D A 0 0 (MQ below (ok_Q D (wQ18 cy a2 o.2.2.1 ++ (wQ8 cy a3 o.2.2.2 ++ (wQ5 cy a1 o.2.1 ++ (wX7 cy a o.1)))) none A) args s 0 0 A) (wQ18 cy a2 v2 ++ (wQ8 cy a3 v3 ++ (wQ5 cy a1 f95 ++ (wX7 cy a r82.2)))) [(10, .int r78), (0, .ref (a 0)), (1, .int z1), (2, .ref (a1 0)), (3, .ref (a2 0)), (4, .ref (a3 0)), (6, .int z6), (7, .int z7), (9, .int u75)] [.int (if (f95 (2 : Int32).toNatClampNeg) = 0 then (1 : Int32) else (0 : Int32)), .int (v3 r78.toNatClampNeg), .int r78, .ref (a3 0)] 353 := by
                  refine V_iadd (pc := 353) F dL_tick_353 ?_
                  obtain ⟨c100, hf⟩ := chk_some hf
                  obtain ⟨f101, e102, hf⟩ := nmd_of hf
                  refine V_iast (w2 := wQ18 cy a2 v2 ++ (wQ8 cy a3 f101 ++ (wQ5 cy a1 f95 ++ (wX7 cy a r82.2)))) (pc := 354) F 1 rfl c100 e102 dL_tick_354 rfl ?_
                  obtain rfl := hr _ (some_of hf).symm
                  exact V_vret F rfl dL_tick_355 rfl
                refine V_if_ne (pc := 345) (tgt := 352) F dL_tick_345 (by decide) (fun h99 => ?_) (fun h99 => ?_)
                · refine V_iconst (v := 0) (pc := 352) F dL_tick_352 (by decide) ?_
                  exact V.eq rfl rfl (by rw [if_neg h99]) J103
                · refine V_iconst (v := 1) (pc := 348) F dL_tick_348 (by decide) ?_
                  refine V_goto (pc := 349) (tgt := 353) F dL_tick_349 (by decide) ?_
                  exact V.eq rfl rfl (by rw [if_pos h99]) J103
              refine V_icmp_ne (pc := 313) (tgt := 320) F dL_tick_313 (by decide) (fun h84 => ?_) (fun h84 => ?_)
              · refine V_iload_n (pc := 320) F dL_tick_320 rfl 2 rfl ?_
                exact V.eq rfl rfl (by rw [if_neg h84]) J104
              · refine V_iconst (v := 0) (pc := 316) F dL_tick_316 (by decide) ?_
                refine V_goto (pc := 317) (tgt := 321) F dL_tick_317 (by decide) ?_
                exact V.eq rfl rfl (by rw [if_pos h84]) J104
          refine V_if_ne (pc := 225) (tgt := 232) F dL_tick_225 (by decide) (fun h69 => ?_) (fun h69 => ?_)
          · refine V_iconst (v := 0) (pc := 232) F dL_tick_232 (by decide) ?_
            exact V.eq rfl rfl (by rw [if_neg h69]) J105
          · refine V_iconst (v := 1) (pc := 228) F dL_tick_228 (by decide) ?_
            refine V_goto (pc := 229) (tgt := 233) F dL_tick_229 (by decide) ?_
            exact V.eq rfl rfl (by rw [if_pos h69]) J105
  unfold fL_tick at hf
  refine V.eq rfl (show lv_args 0 [.ref (a 0), .int x1, .ref (a1 0), .ref (a2 0), .ref (a3 0)] = [(0, .ref (a 0)), (1, .int x1), (2, .ref (a1 0)), (3, .ref (a2 0)), (4, .ref (a3 0))] from rfl) rfl ?_
  refine V_aload_n (pc := 0) F dL_tick_0 rfl 0 rfl ?_
  refine V_aload_n (pc := 1) F dL_tick_1 rfl 2 rfl ?_
  obtain ⟨r1, g2, hf⟩ := bind_of hf
  refine V_SM (w2 := wQ18 cy a2 v2 ++ (wQ8 cy a3 v3 ++ (wQ5 cy a1 v1 ++ (wX7 cy a r1.2)))) (rest := []) (st2 := [.int r1.1]) (pc := 2) F (M_L_greens l D cy N a a1 v v1 r1 g2) (va_cwS 2 F.ts gL_tick_L_greens rfl rfl rfl hd_L_greens ⟨Nat.le_of_ble_eq_true rfl, Nat.le_of_ble_eq_true rfl⟩) rfl dL_tick_2 (Fit.right (Fit.right Fit.whole)) (fst_app rfl fstX7) (Nat.le_of_ble_eq_true rfl) (Nat.zero_le _) (Nat.zero_le _) rfl rfl rfl ?_
  refine V_istore (L2 := [(5, .int r1.1), (0, .ref (a 0)), (1, .int x1), (2, .ref (a1 0)), (3, .ref (a2 0)), (4, .ref (a3 0))]) (pc := 5) F dL_tick_5 (by decide) rfl ?_
  refine V_aload_n (pc := 7) F dL_tick_7 rfl 3 rfl ?_
  refine V_iconst (v := 4) (pc := 8) F dL_tick_8 (by decide) ?_
  refine V_dup2_11 (pc := 9) F dL_tick_9 rfl rfl ?_
  obtain ⟨c3, hf⟩ := chk_some hf
  refine V_iald (pc := 10) F 2 rfl c3 dL_tick_10 ?_
  refine V_iconst (v := 1) (pc := 11) F dL_tick_11 (by decide) ?_
  refine V_iadd (pc := 12) F dL_tick_12 ?_
  obtain ⟨c4, hf⟩ := chk_some hf
  obtain ⟨f5, e6, hf⟩ := nmd_of hf
  refine V_iast (w2 := wQ18 cy a2 v2 ++ (wQ8 cy a3 v3 ++ (wQ5 cy a1 f5 ++ (wX7 cy a r1.2)))) (pc := 13) F 2 rfl c4 e6 dL_tick_13 rfl ?_
  refine V_iconst (v := 0) (pc := 14) F dL_tick_14 (by decide) ?_
  refine V_istore (L2 := [(6, .int 0), (5, .int r1.1), (0, .ref (a 0)), (1, .int x1), (2, .ref (a1 0)), (3, .ref (a2 0)), (4, .ref (a3 0))]) (pc := 15) F dL_tick_15 (by decide) rfl ?_
  refine V.sub [2, 3, 4, 5, 6, 1, 0] rfl ?_
  obtain ⟨u51, g52, hf⟩ := bind_of hf
  refine K17 N r1.2 f5 v3 x1 r1.1 v2 0 u51 g52 ?_
  refine V_aload_n (pc := 134) F dL_tick_134 rfl 2 rfl ?_
  refine V_iconst (v := 2) (pc := 135) F dL_tick_135 (by decide) ?_
  obtain ⟨c53, hf⟩ := chk_some hf
  refine V_iald (pc := 136) F 2 rfl c53 dL_tick_136 ?_
  refine V_if_le (pc := 137) (tgt := 172) F dL_tick_137 (by decide) (fun h54 => ?_) (fun h54 => ?_)
  · replace hf := ite_pos hf h54
    refine V_aload_n (pc := 172) F dL_tick_172 rfl 2 rfl ?_
    refine V_iconst (v := 1) (pc := 173) F dL_tick_173 (by decide) ?_
    refine V_dup2_11 (pc := 174) F dL_tick_174 rfl rfl ?_
    obtain ⟨c55, hf⟩ := chk_some hf
    refine V_iald (pc := 175) F 2 rfl c55 dL_tick_175 ?_
    refine V_iconst (v := 1) (pc := 176) F dL_tick_176 (by decide) ?_
    refine V_iadd (pc := 177) F dL_tick_177 ?_
    obtain ⟨c56, hf⟩ := chk_some hf
    obtain ⟨f57, e58, hf⟩ := nmd_of hf
    refine V_iast (w2 := wQ18 cy a2 u51 ++ (wQ8 cy a3 v3 ++ (wQ5 cy a1 f57 ++ (wX7 cy a r1.2)))) (pc := 178) F 2 rfl c56 e58 dL_tick_178 rfl ?_
    refine V_aload_n (pc := 179) F dL_tick_179 rfl 2 rfl ?_
    refine V_iconst (v := 0) (pc := 180) F dL_tick_180 (by decide) ?_
    obtain ⟨c59, hf⟩ := chk_some hf
    refine V_iald (pc := 181) F 2 rfl c59 dL_tick_181 ?_
    refine V_istore (L2 := [(6, .int (f57 (0 : Int32).toNatClampNeg)), (0, .ref (a 0)), (1, .int x1), (2, .ref (a1 0)), (3, .ref (a2 0)), (4, .ref (a3 0))]) (pc := 182) F dL_tick_182 (by decide) rfl ?_
    refine V_iconst (v := 0) (pc := 184) F dL_tick_184 (by decide) ?_
    refine V_istore (L2 := [(7, .int 0), (6, .int (f57 (0 : Int32).toNatClampNeg)), (0, .ref (a 0)), (1, .int x1), (2, .ref (a1 0)), (3, .ref (a2 0)), (4, .ref (a3 0))]) (pc := 185) F dL_tick_185 (by decide) rfl ?_
    refine V.sub [2, 3, 4, 5, 6, 1, 0] rfl ?_
    obtain ⟨u106, g107, hf⟩ := bind_of hf
    refine K187 N u51 x1 (f57 (0 : Int32).toNatClampNeg) r1.2 f57 v3 0 u106 g107 (fun r h109 => ?_) (fun q108 h109 => ?_)
    · subst h109
      replace hf := onS_inl hf
      exact some_of hf
    · subst h109
      replace hf := onS_inr hf
      obtain rfl := some_of hf
      exact V_vret F rfl dL_tick_362 rfl
  · replace hf := ite_neg hf h54
    refine V_aload_n (pc := 140) F dL_tick_140 rfl 2 rfl ?_
    refine V_iconst (v := 2) (pc := 141) F dL_tick_141 (by decide) ?_
    refine V_dup2_11 (pc := 142) F dL_tick_142 rfl rfl ?_
    obtain ⟨c110, hf⟩ := chk_some hf
    refine V_iald (pc := 143) F 2 rfl c110 dL_tick_143 ?_
    refine V_iconst (v := 1) (pc := 144) F dL_tick_144 (by decide) ?_
    refine V_isub (pc := 145) F dL_tick_145 ?_
    obtain ⟨c111, hf⟩ := chk_some hf
    obtain ⟨f112, e113, hf⟩ := nmd_of hf
    refine V_iast (w2 := wQ18 cy a2 u51 ++ (wQ8 cy a3 v3 ++ (wQ5 cy a1 f112 ++ (wX7 cy a r1.2)))) (pc := 146) F 2 rfl c111 e113 dL_tick_146 rfl ?_
    refine V_aload_n (pc := 147) F dL_tick_147 rfl 2 rfl ?_
    refine V_iconst (v := 1) (pc := 148) F dL_tick_148 (by decide) ?_
    refine V_iconst (v := 0) (pc := 149) F dL_tick_149 (by decide) ?_
    obtain ⟨c114, hf⟩ := chk_some hf
    obtain ⟨f115, e116, hf⟩ := nmd_of hf
    refine V_iast (w2 := wQ18 cy a2 u51 ++ (wQ8 cy a3 v3 ++ (wQ5 cy a1 f115 ++ (wX7 cy a r1.2)))) (pc := 150) F 2 rfl c114 e116 dL_tick_150 rfl ?_
    refine V_aload (pc := 151) F dL_tick_151 4 rfl ?_
    refine V_aload_n (pc := 153) F dL_tick_153 rfl 2 rfl ?_
    refine V_iconst (v := 0) (pc := 154) F dL_tick_154 (by decide) ?_
    obtain ⟨c117, hf⟩ := chk_some hf
    refine V_iald (pc := 155) F 2 rfl c117 dL_tick_155 ?_
    refine V_dup2_11 (pc := 156) F dL_tick_156 rfl rfl ?_
    obtain ⟨c118, hf⟩ := chk_some hf
    refine V_iald (pc := 157) F 1 rfl c118 dL_tick_157 ?_
    refine V_aload_n (pc := 158) F dL_tick_158 rfl 2 rfl ?_
    refine V_iconst (v := 2) (pc := 159) F dL_tick_159 (by decide) ?_
    obtain ⟨c119, hf⟩ := chk_some hf
    refine V_iald (pc := 160) F 2 rfl c119 dL_tick_160 ?_
    have J124 : V p l e (rmz 6 139) s m args below meth c 11 D A 0 0 (MQ below (ok_Q D (wQ18 cy a2 o.2.2.1 ++ (wQ8 cy a3 o.2.2.2 ++ (wQ5 cy a1 o.2.1 ++ (wX7 cy a o.1)))) none A) args s 0 0 A) (wQ18 cy a2 u51 ++ (wQ8 cy a3 v3 ++ (wQ5 cy a1 f115 ++ (wX7 cy a r1.2)))) [(0, .ref (a 0)), (1, .int x1), (2, .ref (a1 0)), (3, .ref (a2 0)), (4, .ref (a3 0))] [.int (if (f115 (2 : Int32).toNatClampNeg) = 0 then (1 : Int32) else (0 : Int32)), .int (v3 (f115 (0 : Int32).toNatClampNeg).toNatClampNeg), .int (f115 (0 : Int32).toNatClampNeg), .ref (a3 0)] 169 := by
      refine V_iadd (pc := 169) F dL_tick_169 ?_
      obtain ⟨c121, hf⟩ := chk_some hf
      obtain ⟨f122, e123, hf⟩ := nmd_of hf
      refine V_iast (w2 := wQ18 cy a2 u51 ++ (wQ8 cy a3 f122 ++ (wQ5 cy a1 f115 ++ (wX7 cy a r1.2)))) (pc := 170) F 1 rfl c121 e123 dL_tick_170 rfl ?_
      obtain rfl := some_of hf
      exact V_vret F rfl dL_tick_171 rfl
    refine V_if_ne (pc := 161) (tgt := 168) F dL_tick_161 (by decide) (fun h120 => ?_) (fun h120 => ?_)
    · refine V_iconst (v := 0) (pc := 168) F dL_tick_168 (by decide) ?_
      exact V.eq rfl rfl (by rw [if_neg h120]) J124
    · refine V_iconst (v := 1) (pc := 164) F dL_tick_164 (by decide) ?_
      refine V_goto (pc := 165) (tgt := 169) F dL_tick_165 (by decide) ?_
      exact V.eq rfl rfl (by rw [if_pos h120]) J124
