theorem hd_L_comers : yL_comers.cls ≠ "java/lang/invoke/MethodHandle" ∧ yL_comers.cls ≠ "java/lang/invoke/VarHandle" ∧ (parseMethodDescriptor yL_comers.desc).map (fun d => d.parameters.length) = some 2 := by decide +kernel
def fL_comers_L25 (N : Nat) (z2 : Int32) (z4 : Int32) : Nat → SX7 → Int32 → Int32 → Option (SX7 × Int32)
  | 0, _, _, _ => none
  | n + 1, v, z3, z5 =>
    if (z2 * 4) ≤ z5 then
      some (v, z3)
    else
      if ((z3 >>> ((z5 / 4) &&& 31)) &&& 1) = 1 then
        (rt (fX7_phase N v (z5 / 4) 2)).bind fun r6 =>
          if r6.1 ≤ (z5 - z5 / 4 * 4) then
            fL_comers_L25 N z2 z4 n r6.2 (z3 ||| 0) (z5 + 1)
          else
            (rt (fX7_rule N r6.2 (z5 / 4) (z5 - z5 / 4 * 4) 0)).bind fun r9 =>
              fL_comers_L25 N z2 z4 n r6.2 (z3 ||| ((1 : Int32) <<< (r9 &&& 31))) (z5 + 1)
      else
        fL_comers_L25 N z2 z4 n v (z3 ||| 0) (z5 + 1)
def fL_comers_L13 (N : Nat) (z2 : Int32) : Nat → SX7 → Int32 → Int32 → Option (SX7 × Int32)
  | 0, _, _, _ => none
  | n + 1, v, z3, z4 =>
    if z4 = z3 then
      some (v, z3)
    else
      (fL_comers_L25 N z2 z3 N v z3 0).bind fun u11 =>
        fL_comers_L13 N z2 n u11.1 u11.2 z3
def fL_comers_L116 (N : Nat) (z2 : Int32) (z3 : Int32) (z5 : Int32) (z6 : Int32) (z7 : Int32) (z8 : Int32) : Nat → SX7 → Int32 → Int32 → Option (SX7 × Int32)
  | 0, _, _, _ => none
  | n + 1, v, z9, z10 =>
    if 36 ≤ z10 then
      some (v, z9)
    else
      (rt (fX7_phase N v z8 0)).bind fun r17 =>
        if ((r17.1 >>> ((z10 / 6) &&& 31)) &&& 1) = 1 then
          (rt (fX7_phase N r17.2 z8 0)).bind fun r22 =>
            if ((r22.1 >>> ((z10 - z10 / 6 * 6) &&& 31)) &&& 1) = 1 then
              if z9 = 0 then
                (rt (fX7_direction N r22.2 (z10 / 6) 2)).bind fun r29 =>
                  if ((r29 >>> ((z10 - z10 / 6 * 6) &&& 31)) &&& 1) = 1 then
                    fL_comers_L116 N z2 z3 z5 z6 z7 z8 n r22.2 1 (z10 + 1)
                  else
                    fL_comers_L116 N z2 z3 z5 z6 z7 z8 n r22.2 0 (z10 + 1)
              else
                fL_comers_L116 N z2 z3 z5 z6 z7 z8 n r22.2 1 (z10 + 1)
            else
              if z9 = 0 then
                fL_comers_L116 N z2 z3 z5 z6 z7 z8 n r22.2 0 (z10 + 1)
              else
                fL_comers_L116 N z2 z3 z5 z6 z7 z8 n r22.2 1 (z10 + 1)
        else
          if z9 = 0 then
            fL_comers_L116 N z2 z3 z5 z6 z7 z8 n r17.2 0 (z10 + 1)
          else
            fL_comers_L116 N z2 z3 z5 z6 z7 z8 n r17.2 1 (z10 + 1)
def fL_comers_L104 (N : Nat) (z2 : Int32) (z3 : Int32) : Nat → SX7 → Int32 → Int32 → Int32 → Int32 → Option ((Int32 × SX7) ⊕ (SX7 × Int32 × Int32 × Int32))
  | 0, _, _, _, _, _ => none
  | n + 1, v, z5, z6, z7, z8 =>
    if z2 ≤ z8 then
      some (.inr (v, z5, z6, z7))
    else
      (fL_comers_L116 N z2 z3 z5 z6 z7 z8 N v 0 0).bind fun u32 =>
        (rt (fX7_phase N u32.1 z8 3)).bind fun r34 =>
          if u32.2 = 0 then
            if r34.1 = 0 then
              (rt (fX7_phase N r34.2 z8 4)).bind fun r38 =>
                if r38.1 = ((z3 >>> (z8 &&& 31)) &&& 1) then
                  if u32.2 = 0 then
                    if u32.2 = 0 then
                      fL_comers_L104 N z2 z3 n r38.2 (z5 + 0) (z6 + ((z3 >>> (z8 &&& 31)) &&& 1)) (z7 + 0) (z8 + 1)
                    else
                      fL_comers_L104 N z2 z3 n r38.2 (z5 + 0) (z6 + ((z3 >>> (z8 &&& 31)) &&& 1)) (z7 + ((z3 >>> (z8 &&& 31)) &&& 1)) (z8 + 1)
                  else
                    if u32.2 = 0 then
                      fL_comers_L104 N z2 z3 n r38.2 (z5 + 1) (z6 + ((z3 >>> (z8 &&& 31)) &&& 1)) (z7 + 0) (z8 + 1)
                    else
                      fL_comers_L104 N z2 z3 n r38.2 (z5 + 1) (z6 + ((z3 >>> (z8 &&& 31)) &&& 1)) (z7 + ((z3 >>> (z8 &&& 31)) &&& 1)) (z8 + 1)
                else
                  some (.inl (0, r38.2))
            else
              some (.inl (0, r34.2))
          else
            if r34.1 = 1 then
              (rt (fX7_phase N r34.2 z8 4)).bind fun r45 =>
                if r45.1 = ((z3 >>> (z8 &&& 31)) &&& 1) then
                  if u32.2 = 0 then
                    if u32.2 = 0 then
                      fL_comers_L104 N z2 z3 n r45.2 (z5 + 0) (z6 + ((z3 >>> (z8 &&& 31)) &&& 1)) (z7 + 0) (z8 + 1)
                    else
                      fL_comers_L104 N z2 z3 n r45.2 (z5 + 0) (z6 + ((z3 >>> (z8 &&& 31)) &&& 1)) (z7 + ((z3 >>> (z8 &&& 31)) &&& 1)) (z8 + 1)
                  else
                    if u32.2 = 0 then
                      fL_comers_L104 N z2 z3 n r45.2 (z5 + 1) (z6 + ((z3 >>> (z8 &&& 31)) &&& 1)) (z7 + 0) (z8 + 1)
                    else
                      fL_comers_L104 N z2 z3 n r45.2 (z5 + 1) (z6 + ((z3 >>> (z8 &&& 31)) &&& 1)) (z7 + ((z3 >>> (z8 &&& 31)) &&& 1)) (z8 + 1)
                else
                  some (.inl (0, r45.2))
            else
              some (.inl (0, r34.2))
def fL_comers (N : Nat) (v : SX7) (x1 : Int32) : Option (Int32 × SX7) :=
  (rt (fX7_count N v 0)).bind fun r1 =>
    (fL_comers_L13 N r1.1 N r1.2 ((1 : Int32) <<< (x1 &&& 31)) 0).bind fun u13 =>
      (fL_comers_L104 N r1.1 u13.2 N u13.1 0 0 0 0).bind fun u51 => onS u51 (fun r => some r) fun q53 =>
        (rt (fX7_count N q53.1 6)).bind fun r55 =>
          if r55.1 = q53.2.1 then
            (rt (fX7_count N r55.2 7)).bind fun r58 =>
              if r58.1 = q53.2.2.1 then
                (rt (fX7_count N r58.2 8)).bind fun r61 =>
                  if r61.1 = q53.2.2.2 then
                    (fX7_safeShare N r61.2).bind fun r64 =>
                      must (decide ((FP.ddiv (FP.i2d (r1.1 - q53.2.1)) (FP.i2d r1.1)) &&& 0x7fffffffffffffff ≤ 0x7ff0000000000000)) (
                        if (Op.cmpValue (FP.dcmp r64 (FP.ddiv (FP.i2d (r1.1 - q53.2.1)) (FP.i2d r1.1))) .l) = 0 then
                          some (1, r61.2)
                        else
                          some (0, r61.2)
                      )
                  else
                    some (0, r61.2)
              else
                some (0, r58.2)
          else
            some (0, r55.2)
set_option maxHeartbeats 8000000 in
set_option maxRecDepth 100000 in
theorem M_L_comers (l : Launch) (D : va_G) (cy : Nat → ClassId) (N : Nat) (a : Nat → Nat) (v : SX7) (x1 : Int32) (o : Int32 × SX7) (hf : fL_comers N v x1 = some o) : okM l yL_comers wsL_comers (rmz 6 140) D cy [.ref (a 0), .int x1] (wX7 cy a v) (wX7 cy a o.2) (some (.int o.1)) := by
  refine okM_of (own := RL) (nme := "comers") (cc := cL_comers) (maxL := 12) (ret := (some .boolean)) (by decide) rfl rfl rfl (Nat.le_of_ble_eq_true rfl) ?_
  intro p e s m args below meth c A F
  have K25 : ∀ (n : Nat) (z2 : Int32) (z4 : Int32) (v : SX7) (z3 : Int32) (z5 : Int32) (u : SX7 × Int32), fL_comers_L25 N z2 z4 n v z3 z5 = some u → V p l e (rmz 6 140) s m args below meth c 12 D A 0 0 (MQ below (ok_Q D (wX7 cy a o.2) (some (.int o.1)) A) args s 0 0 A) (wX7 cy a u.1) [(0, .ref (a 0)), (2, .int z2), (3, .int u.2), (4, .int z4)] [] 89 → V p l e (rmz 6 140) s m args below meth c 12 D A 0 0 (MQ below (ok_Q D (wX7 cy a o.2) (some (.int o.1)) A) args s 0 0 A) (wX7 cy a v) [(0, .ref (a 0)), (2, .int z2), (3, .int z3), (4, .int z4), (5, .int z5)] [] 25 := by
    intro n
    induction n with
    | zero =>
      intro z2 z4 v z3 z5 u hf hk
      exact nomatch (show (none : Option (SX7 × Int32)) = some u from hf)
    | succ n ih =>
      intro z2 z4 v z3 z5 u hf hk
      rw [fL_comers_L25] at hf
      refine V_iload (pc := 25) F dL_comers_25 4 rfl ?_
      refine V_iload_n (pc := 27) F dL_comers_27 rfl 1 rfl ?_
      refine V_iconst (v := 4) (pc := 28) F dL_comers_28 (by decide) ?_
      refine V_imul (pc := 29) F dL_comers_29 ?_
      refine V_icmp_ge (pc := 30) (tgt := 89) F dL_comers_30 (by decide) (fun h4 => ?_) (fun h4 => ?_)
      · replace hf := ite_pos hf h4
        obtain rfl := some_of hf
        exact V.sub [0, 1, 2, 3] rfl hk
      · replace hf := ite_neg hf h4
        refine V_iload_n (pc := 33) F dL_comers_33 rfl 2 rfl ?_
        refine V_iload_n (pc := 34) F dL_comers_34 rfl 2 rfl ?_
        refine V_iload (pc := 35) F dL_comers_35 4 rfl ?_
        refine V_iconst (v := 4) (pc := 37) F dL_comers_37 (by decide) ?_
        refine V_idiv (pc := 38) F dL_comers_38 (by decide) ?_
        refine V_ishr (pc := 39) F dL_comers_39 ?_
        refine V_iconst (v := 1) (pc := 40) F dL_comers_40 (by decide) ?_
        refine V_iand (pc := 41) F dL_comers_41 ?_
        refine V_iconst (v := 1) (pc := 42) F dL_comers_42 (by decide) ?_
        refine V_icmp_ne (pc := 43) (tgt := 80) F dL_comers_43 (by decide) (fun h5 => ?_) (fun h5 => ?_)
        · replace hf := ite_neg hf h5
          refine V_iconst (v := 0) (pc := 80) F dL_comers_80 (by decide) ?_
          refine V_ior (pc := 81) F dL_comers_81 ?_
          refine V_istore_n (L2 := [(3, .int (z3 ||| 0)), (0, .ref (a 0)), (2, .int z2), (4, .int z4), (5, .int z5)]) (pc := 82) F dL_comers_82 rfl (by decide) rfl ?_
          refine V_iinc (v := (z5 + 1)) (L2 := [(5, .int (z5 + 1)), (3, .int (z3 ||| 0)), (0, .ref (a 0)), (2, .int z2), (4, .int z4)]) (pc := 83) F dL_comers_83 4 rfl rfl (by decide) rfl ?_
          refine V_goto (pc := 86) (tgt := 25) F dL_comers_86 (by decide) ?_
          refine V.sub [2, 3, 1, 4, 0] rfl ?_
          exact ih z2 z4 v (z3 ||| 0) (z5 + 1) _ hf hk
        · replace hf := ite_pos hf h5
          refine V_iload (pc := 46) F dL_comers_46 4 rfl ?_
          refine V_iconst (v := 4) (pc := 48) F dL_comers_48 (by decide) ?_
          refine V_irem (pc := 49) F dL_comers_49 (by decide) ?_
          refine V_aload_n (pc := 50) F dL_comers_50 rfl 0 rfl ?_
          refine V_iload (pc := 51) F dL_comers_51 4 rfl ?_
          refine V_iconst (v := 4) (pc := 53) F dL_comers_53 (by decide) ?_
          refine V_idiv (pc := 54) F dL_comers_54 (by decide) ?_
          refine V_iconst (v := 2) (pc := 55) F dL_comers_55 (by decide) ?_
          obtain ⟨r6, g7, hf⟩ := bind_of hf
          refine V_V (w2 := wX7 cy a r6.2) (rest := [.int (z5 - z5 / 4 * 4), .int z3]) (st2 := [.int r6.1, .int (z5 - z5 / 4 * 4), .int z3]) (pc := 56) F 7 (M_X7_phase l D cy N a v (z5 / 4) 2 r6 (rt_of g7)) (cwV 2 F.ts gL_comers_X7_phase rfl rfl rfl hd_X7_phase ⟨Nat.le_of_ble_eq_true rfl, Nat.le_of_ble_eq_true rfl⟩) rfl dL_comers_56 Fit.whole fstX7 rfl rfl (Nat.le_of_ble_eq_true rfl) (Nat.zero_le _) (Nat.zero_le _) rfl rfl rfl ?_
          refine V_icmp_ge (pc := 59) (tgt := 80) F dL_comers_59 (by decide) (fun h8 => ?_) (fun h8 => ?_)
          · replace hf := ite_pos hf h8
            refine V_iconst (v := 0) (pc := 80) F dL_comers_80 (by decide) ?_
            refine V_ior (pc := 81) F dL_comers_81 ?_
            refine V_istore_n (L2 := [(3, .int (z3 ||| 0)), (0, .ref (a 0)), (2, .int z2), (4, .int z4), (5, .int z5)]) (pc := 82) F dL_comers_82 rfl (by decide) rfl ?_
            refine V_iinc (v := (z5 + 1)) (L2 := [(5, .int (z5 + 1)), (3, .int (z3 ||| 0)), (0, .ref (a 0)), (2, .int z2), (4, .int z4)]) (pc := 83) F dL_comers_83 4 rfl rfl (by decide) rfl ?_
            refine V_goto (pc := 86) (tgt := 25) F dL_comers_86 (by decide) ?_
            refine V.sub [2, 3, 1, 4, 0] rfl ?_
            exact ih z2 z4 r6.2 (z3 ||| 0) (z5 + 1) _ hf hk
          · replace hf := ite_neg hf h8
            refine V_iconst (v := 1) (pc := 62) F dL_comers_62 (by decide) ?_
            refine V_aload_n (pc := 63) F dL_comers_63 rfl 0 rfl ?_
            refine V_iload (pc := 64) F dL_comers_64 4 rfl ?_
            refine V_iconst (v := 4) (pc := 66) F dL_comers_66 (by decide) ?_
            refine V_idiv (pc := 67) F dL_comers_67 (by decide) ?_
            refine V_iload (pc := 68) F dL_comers_68 4 rfl ?_
            refine V_iconst (v := 4) (pc := 70) F dL_comers_70 (by decide) ?_
            refine V_irem (pc := 71) F dL_comers_71 (by decide) ?_
            refine V_iconst (v := 0) (pc := 72) F dL_comers_72 (by decide) ?_
            obtain ⟨r9, g10, hf⟩ := bind_of hf
            refine V_V (w2 := wX7 cy a r6.2) (rest := [.int 1, .int z3]) (st2 := [.int r9, .int 1, .int z3]) (pc := 73) F 7 (M_X7_rule l D cy N a r6.2 (z5 / 4) (z5 - z5 / 4 * 4) 0 r9 (rt_of g10)) (cwV 3 F.ts gL_comers_X7_rule rfl rfl rfl hd_X7_rule ⟨Nat.le_of_ble_eq_true rfl, Nat.le_of_ble_eq_true rfl⟩) rfl dL_comers_73 Fit.whole rfl rfl rfl (Nat.le_of_ble_eq_true rfl) (Nat.zero_le _) (Nat.zero_le _) rfl rfl rfl ?_
            refine V_ishl (pc := 76) F dL_comers_76 ?_
            refine V_goto (pc := 77) (tgt := 81) F dL_comers_77 (by decide) ?_
            refine V_ior (pc := 81) F dL_comers_81 ?_
            refine V_istore_n (L2 := [(3, .int (z3 ||| ((1 : Int32) <<< (r9 &&& 31)))), (0, .ref (a 0)), (2, .int z2), (4, .int z4), (5, .int z5)]) (pc := 82) F dL_comers_82 rfl (by decide) rfl ?_
            refine V_iinc (v := (z5 + 1)) (L2 := [(5, .int (z5 + 1)), (3, .int (z3 ||| ((1 : Int32) <<< (r9 &&& 31)))), (0, .ref (a 0)), (2, .int z2), (4, .int z4)]) (pc := 83) F dL_comers_83 4 rfl rfl (by decide) rfl ?_
            refine V_goto (pc := 86) (tgt := 25) F dL_comers_86 (by decide) ?_
            refine V.sub [2, 3, 1, 4, 0] rfl ?_
            exact ih z2 z4 r6.2 (z3 ||| ((1 : Int32) <<< (r9 &&& 31))) (z5 + 1) _ hf hk
  have K13 : ∀ (n : Nat) (z2 : Int32) (v : SX7) (z3 : Int32) (z4 : Int32) (u : SX7 × Int32), fL_comers_L13 N z2 n v z3 z4 = some u → V p l e (rmz 6 140) s m args below meth c 12 D A 0 0 (MQ below (ok_Q D (wX7 cy a o.2) (some (.int o.1)) A) args s 0 0 A) (wX7 cy a u.1) [(0, .ref (a 0)), (2, .int z2), (3, .int u.2)] [] 92 → V p l e (rmz 6 140) s m args below meth c 12 D A 0 0 (MQ below (ok_Q D (wX7 cy a o.2) (some (.int o.1)) A) args s 0 0 A) (wX7 cy a v) [(0, .ref (a 0)), (2, .int z2), (3, .int z3), (4, .int z4)] [] 13 := by
    intro n
    induction n with
    | zero =>
      intro z2 v z3 z4 u hf hk
      exact nomatch (show (none : Option (SX7 × Int32)) = some u from hf)
    | succ n ih =>
      intro z2 v z3 z4 u hf hk
      rw [fL_comers_L13] at hf
      refine V_iload (pc := 13) F dL_comers_13 3 rfl ?_
      refine V_iload_n (pc := 15) F dL_comers_15 rfl 2 rfl ?_
      refine V_icmp_eq (pc := 16) (tgt := 92) F dL_comers_16 (by decide) (fun h3 => ?_) (fun h3 => ?_)
      · replace hf := ite_pos hf h3
        obtain rfl := some_of hf
        exact V.sub [0, 1, 2] rfl hk
      · replace hf := ite_neg hf h3
        refine V_iload_n (pc := 19) F dL_comers_19 rfl 2 rfl ?_
        refine V_istore (L2 := [(4, .int z3), (0, .ref (a 0)), (2, .int z2), (3, .int z3)]) (pc := 20) F dL_comers_20 (by decide) rfl ?_
        refine V_iconst (v := 0) (pc := 22) F dL_comers_22 (by decide) ?_
        refine V_istore (L2 := [(5, .int 0), (4, .int z3), (0, .ref (a 0)), (2, .int z2), (3, .int z3)]) (pc := 23) F dL_comers_23 (by decide) rfl ?_
        refine V.sub [2, 3, 4, 1, 0] rfl ?_
        obtain ⟨u11, g12, hf⟩ := bind_of hf
        refine K25 N z2 z3 v z3 0 u11 g12 ?_
        refine V_goto (pc := 89) (tgt := 13) F dL_comers_89 (by decide) ?_
        refine V.sub [0, 1, 2, 3] rfl ?_
        exact ih z2 u11.1 u11.2 z3 _ hf hk
  have K116 : ∀ (n : Nat) (z2 : Int32) (z3 : Int32) (z5 : Int32) (z6 : Int32) (z7 : Int32) (z8 : Int32) (v : SX7) (z9 : Int32) (z10 : Int32) (u : SX7 × Int32), fL_comers_L116 N z2 z3 z5 z6 z7 z8 n v z9 z10 = some u → V p l e (rmz 6 140) s m args below meth c 12 D A 0 0 (MQ below (ok_Q D (wX7 cy a o.2) (some (.int o.1)) A) args s 0 0 A) (wX7 cy a u.1) [(0, .ref (a 0)), (2, .int z2), (3, .int z3), (5, .int z5), (6, .int z6), (7, .int z7), (8, .int z8), (9, .int u.2)] [] 213 → V p l e (rmz 6 140) s m args below meth c 12 D A 0 0 (MQ below (ok_Q D (wX7 cy a o.2) (some (.int o.1)) A) args s 0 0 A) (wX7 cy a v) [(0, .ref (a 0)), (2, .int z2), (3, .int z3), (5, .int z5), (6, .int z6), (7, .int z7), (8, .int z8), (9, .int z9), (10, .int z10)] [] 116 := by
    intro n
    induction n with
    | zero =>
      intro z2 z3 z5 z6 z7 z8 v z9 z10 u hf hk
      exact nomatch (show (none : Option (SX7 × Int32)) = some u from hf)
    | succ n ih =>
      intro z2 z3 z5 z6 z7 z8 v z9 z10 u hf hk
      rw [fL_comers_L116] at hf
      refine V_iload (pc := 116) F dL_comers_116 8 rfl ?_
      refine V_bipush (v := 36) (pc := 118) F dL_comers_118 (by decide) ?_
      refine V_icmp_ge (pc := 120) (tgt := 213) F dL_comers_120 (by decide) (fun h16 => ?_) (fun h16 => ?_)
      · replace hf := ite_pos hf h16
        obtain rfl := some_of hf
        exact V.sub [0, 1, 2, 3, 4, 5, 6, 7] rfl hk
      · replace hf := ite_neg hf h16
        refine V_aload_n (pc := 123) F dL_comers_123 rfl 0 rfl ?_
        refine V_iload (pc := 124) F dL_comers_124 6 rfl ?_
        refine V_iconst (v := 0) (pc := 126) F dL_comers_126 (by decide) ?_
        obtain ⟨r17, g18, hf⟩ := bind_of hf
        refine V_V (w2 := wX7 cy a r17.2) (rest := []) (st2 := [.int r17.1]) (pc := 127) F 7 (M_X7_phase l D cy N a v z8 0 r17 (rt_of g18)) (cwV 2 F.ts gL_comers_X7_phase rfl rfl rfl hd_X7_phase ⟨Nat.le_of_ble_eq_true rfl, Nat.le_of_ble_eq_true rfl⟩) rfl dL_comers_127 Fit.whole fstX7 rfl rfl (Nat.le_of_ble_eq_true rfl) (Nat.zero_le _) (Nat.zero_le _) rfl rfl rfl ?_
        refine V_iload (pc := 130) F dL_comers_130 8 rfl ?_
        refine V_bipush (v := 6) (pc := 132) F dL_comers_132 (by decide) ?_
        refine V_idiv (pc := 134) F dL_comers_134 (by decide) ?_
        refine V_ishr (pc := 135) F dL_comers_135 ?_
        refine V_iconst (v := 1) (pc := 136) F dL_comers_136 (by decide) ?_
        refine V_iand (pc := 137) F dL_comers_137 ?_
        refine V_iconst (v := 1) (pc := 138) F dL_comers_138 (by decide) ?_
        refine V_icmp_ne (pc := 139) (tgt := 165) F dL_comers_139 (by decide) (fun h19 => ?_) (fun h19 => ?_)
        · replace hf := ite_neg hf h19
          refine V_iconst (v := 0) (pc := 165) F dL_comers_165 (by decide) ?_
          refine V_istore (L2 := [(11, .int 0), (0, .ref (a 0)), (2, .int z2), (3, .int z3), (5, .int z5), (6, .int z6), (7, .int z7), (8, .int z8), (9, .int z9), (10, .int z10)]) (pc := 166) F dL_comers_166 (by decide) rfl ?_
          refine V_iload (pc := 168) F dL_comers_168 8 rfl ?_
          refine V_if_ne (pc := 170) (tgt := 200) F dL_comers_170 (by decide) (fun h20 => ?_) (fun h20 => ?_)
          · replace hf := ite_neg hf h20
            refine V_iconst (v := 1) (pc := 200) F dL_comers_200 (by decide) ?_
            refine V_goto (pc := 201) (tgt := 205) F dL_comers_201 (by decide) ?_
            refine V_istore (L2 := [(9, .int 1), (11, .int 0), (0, .ref (a 0)), (2, .int z2), (3, .int z3), (5, .int z5), (6, .int z6), (7, .int z7), (8, .int z8), (10, .int z10)]) (pc := 205) F dL_comers_205 (by decide) rfl ?_
            refine V_iinc (v := (z10 + 1)) (L2 := [(10, .int (z10 + 1)), (9, .int 1), (11, .int 0), (0, .ref (a 0)), (2, .int z2), (3, .int z3), (5, .int z5), (6, .int z6), (7, .int z7), (8, .int z8)]) (pc := 207) F dL_comers_207 9 rfl rfl (by decide) rfl ?_
            refine V_goto (pc := 210) (tgt := 116) F dL_comers_210 (by decide) ?_
            refine V.sub [3, 4, 5, 6, 7, 8, 9, 1, 0] rfl ?_
            exact ih z2 z3 z5 z6 z7 z8 r17.2 1 (z10 + 1) _ hf hk
          · replace hf := ite_pos hf h20
            refine V_iload (pc := 173) F dL_comers_173 0 rfl ?_
            refine V_if_eq (pc := 175) (tgt := 204) F dL_comers_175 (by decide) (fun h21 => ?_) (fun h21 => ?_)
            · refine V_iconst (v := 0) (pc := 204) F dL_comers_204 (by decide) ?_
              refine V_istore (L2 := [(9, .int 0), (11, .int 0), (0, .ref (a 0)), (2, .int z2), (3, .int z3), (5, .int z5), (6, .int z6), (7, .int z7), (8, .int z8), (10, .int z10)]) (pc := 205) F dL_comers_205 (by decide) rfl ?_
              refine V_iinc (v := (z10 + 1)) (L2 := [(10, .int (z10 + 1)), (9, .int 0), (11, .int 0), (0, .ref (a 0)), (2, .int z2), (3, .int z3), (5, .int z5), (6, .int z6), (7, .int z7), (8, .int z8)]) (pc := 207) F dL_comers_207 9 rfl rfl (by decide) rfl ?_
              refine V_goto (pc := 210) (tgt := 116) F dL_comers_210 (by decide) ?_
              refine V.sub [3, 4, 5, 6, 7, 8, 9, 1, 0] rfl ?_
              exact ih z2 z3 z5 z6 z7 z8 r17.2 0 (z10 + 1) _ hf hk
            · exact absurd h21 (show ¬ (¬ ((0 : Int32) = (0 : Int32))) by decide)
        · replace hf := ite_pos hf h19
          refine V_aload_n (pc := 142) F dL_comers_142 rfl 0 rfl ?_
          refine V_iload (pc := 143) F dL_comers_143 6 rfl ?_
          refine V_iconst (v := 0) (pc := 145) F dL_comers_145 (by decide) ?_
          obtain ⟨r22, g23, hf⟩ := bind_of hf
          refine V_V (w2 := wX7 cy a r22.2) (rest := []) (st2 := [.int r22.1]) (pc := 146) F 7 (M_X7_phase l D cy N a r17.2 z8 0 r22 (rt_of g23)) (cwV 2 F.ts gL_comers_X7_phase rfl rfl rfl hd_X7_phase ⟨Nat.le_of_ble_eq_true rfl, Nat.le_of_ble_eq_true rfl⟩) rfl dL_comers_146 Fit.whole fstX7 rfl rfl (Nat.le_of_ble_eq_true rfl) (Nat.zero_le _) (Nat.zero_le _) rfl rfl rfl ?_
          refine V_iload (pc := 149) F dL_comers_149 8 rfl ?_
          refine V_bipush (v := 6) (pc := 151) F dL_comers_151 (by decide) ?_
          refine V_irem (pc := 153) F dL_comers_153 (by decide) ?_
          refine V_ishr (pc := 154) F dL_comers_154 ?_
          refine V_iconst (v := 1) (pc := 155) F dL_comers_155 (by decide) ?_
          refine V_iand (pc := 156) F dL_comers_156 ?_
          refine V_iconst (v := 1) (pc := 157) F dL_comers_157 (by decide) ?_
          refine V_icmp_ne (pc := 158) (tgt := 165) F dL_comers_158 (by decide) (fun h24 => ?_) (fun h24 => ?_)
          · replace hf := ite_neg hf h24
            refine V_iconst (v := 0) (pc := 165) F dL_comers_165 (by decide) ?_
            refine V_istore (L2 := [(11, .int 0), (0, .ref (a 0)), (2, .int z2), (3, .int z3), (5, .int z5), (6, .int z6), (7, .int z7), (8, .int z8), (9, .int z9), (10, .int z10)]) (pc := 166) F dL_comers_166 (by decide) rfl ?_
            refine V_iload (pc := 168) F dL_comers_168 8 rfl ?_
            refine V_if_ne (pc := 170) (tgt := 200) F dL_comers_170 (by decide) (fun h25 => ?_) (fun h25 => ?_)
            · replace hf := ite_neg hf h25
              refine V_iconst (v := 1) (pc := 200) F dL_comers_200 (by decide) ?_
              refine V_goto (pc := 201) (tgt := 205) F dL_comers_201 (by decide) ?_
              refine V_istore (L2 := [(9, .int 1), (11, .int 0), (0, .ref (a 0)), (2, .int z2), (3, .int z3), (5, .int z5), (6, .int z6), (7, .int z7), (8, .int z8), (10, .int z10)]) (pc := 205) F dL_comers_205 (by decide) rfl ?_
              refine V_iinc (v := (z10 + 1)) (L2 := [(10, .int (z10 + 1)), (9, .int 1), (11, .int 0), (0, .ref (a 0)), (2, .int z2), (3, .int z3), (5, .int z5), (6, .int z6), (7, .int z7), (8, .int z8)]) (pc := 207) F dL_comers_207 9 rfl rfl (by decide) rfl ?_
              refine V_goto (pc := 210) (tgt := 116) F dL_comers_210 (by decide) ?_
              refine V.sub [3, 4, 5, 6, 7, 8, 9, 1, 0] rfl ?_
              exact ih z2 z3 z5 z6 z7 z8 r22.2 1 (z10 + 1) _ hf hk
            · replace hf := ite_pos hf h25
              refine V_iload (pc := 173) F dL_comers_173 0 rfl ?_
              refine V_if_eq (pc := 175) (tgt := 204) F dL_comers_175 (by decide) (fun h26 => ?_) (fun h26 => ?_)
              · refine V_iconst (v := 0) (pc := 204) F dL_comers_204 (by decide) ?_
                refine V_istore (L2 := [(9, .int 0), (11, .int 0), (0, .ref (a 0)), (2, .int z2), (3, .int z3), (5, .int z5), (6, .int z6), (7, .int z7), (8, .int z8), (10, .int z10)]) (pc := 205) F dL_comers_205 (by decide) rfl ?_
                refine V_iinc (v := (z10 + 1)) (L2 := [(10, .int (z10 + 1)), (9, .int 0), (11, .int 0), (0, .ref (a 0)), (2, .int z2), (3, .int z3), (5, .int z5), (6, .int z6), (7, .int z7), (8, .int z8)]) (pc := 207) F dL_comers_207 9 rfl rfl (by decide) rfl ?_
                refine V_goto (pc := 210) (tgt := 116) F dL_comers_210 (by decide) ?_
                refine V.sub [3, 4, 5, 6, 7, 8, 9, 1, 0] rfl ?_
                exact ih z2 z3 z5 z6 z7 z8 r22.2 0 (z10 + 1) _ hf hk
              · exact absurd h26 (show ¬ (¬ ((0 : Int32) = (0 : Int32))) by decide)
          · replace hf := ite_pos hf h24
            refine V_iconst (v := 1) (pc := 161) F dL_comers_161 (by decide) ?_
            refine V_goto (pc := 162) (tgt := 166) F dL_comers_162 (by decide) ?_
            refine V_istore (L2 := [(11, .int 1), (0, .ref (a 0)), (2, .int z2), (3, .int z3), (5, .int z5), (6, .int z6), (7, .int z7), (8, .int z8), (9, .int z9), (10, .int z10)]) (pc := 166) F dL_comers_166 (by decide) rfl ?_
            refine V_iload (pc := 168) F dL_comers_168 8 rfl ?_
            refine V_if_ne (pc := 170) (tgt := 200) F dL_comers_170 (by decide) (fun h27 => ?_) (fun h27 => ?_)
            · replace hf := ite_neg hf h27
              refine V_iconst (v := 1) (pc := 200) F dL_comers_200 (by decide) ?_
              refine V_goto (pc := 201) (tgt := 205) F dL_comers_201 (by decide) ?_
              refine V_istore (L2 := [(9, .int 1), (11, .int 1), (0, .ref (a 0)), (2, .int z2), (3, .int z3), (5, .int z5), (6, .int z6), (7, .int z7), (8, .int z8), (10, .int z10)]) (pc := 205) F dL_comers_205 (by decide) rfl ?_
              refine V_iinc (v := (z10 + 1)) (L2 := [(10, .int (z10 + 1)), (9, .int 1), (11, .int 1), (0, .ref (a 0)), (2, .int z2), (3, .int z3), (5, .int z5), (6, .int z6), (7, .int z7), (8, .int z8)]) (pc := 207) F dL_comers_207 9 rfl rfl (by decide) rfl ?_
              refine V_goto (pc := 210) (tgt := 116) F dL_comers_210 (by decide) ?_
              refine V.sub [3, 4, 5, 6, 7, 8, 9, 1, 0] rfl ?_
              exact ih z2 z3 z5 z6 z7 z8 r22.2 1 (z10 + 1) _ hf hk
            · replace hf := ite_pos hf h27
              refine V_iload (pc := 173) F dL_comers_173 0 rfl ?_
              refine V_if_eq (pc := 175) (tgt := 204) F dL_comers_175 (by decide) (fun h28 => ?_) (fun h28 => ?_)
              · exact absurd h28 (show ¬ ((1 : Int32) = (0 : Int32)) by decide)
              · refine V_aload_n (pc := 178) F dL_comers_178 rfl 1 rfl ?_
                refine V_iload (pc := 179) F dL_comers_179 9 rfl ?_
                refine V_bipush (v := 6) (pc := 181) F dL_comers_181 (by decide) ?_
                refine V_idiv (pc := 183) F dL_comers_183 (by decide) ?_
                refine V_iconst (v := 2) (pc := 184) F dL_comers_184 (by decide) ?_
                obtain ⟨r29, g30, hf⟩ := bind_of hf
                refine V_V (w2 := wX7 cy a r22.2) (rest := []) (st2 := [.int r29]) (pc := 185) F 7 (M_X7_direction l D cy N a r22.2 (z10 / 6) 2 r29 (rt_of g30)) (cwV 2 F.ts gL_comers_X7_direction rfl rfl rfl hd_X7_direction ⟨Nat.le_of_ble_eq_true rfl, Nat.le_of_ble_eq_true rfl⟩) rfl dL_comers_185 Fit.whole rfl rfl rfl (Nat.le_of_ble_eq_true rfl) (Nat.zero_le _) (Nat.zero_le _) rfl rfl rfl ?_
                refine V_iload (pc := 188) F dL_comers_188 9 rfl ?_
                refine V_bipush (v := 6) (pc := 190) F dL_comers_190 (by decide) ?_
                refine V_irem (pc := 192) F dL_comers_192 (by decide) ?_
                refine V_ishr (pc := 193) F dL_comers_193 ?_
                refine V_iconst (v := 1) (pc := 194) F dL_comers_194 (by decide) ?_
                refine V_iand (pc := 195) F dL_comers_195 ?_
                refine V_iconst (v := 1) (pc := 196) F dL_comers_196 (by decide) ?_
                refine V_icmp_ne (pc := 197) (tgt := 204) F dL_comers_197 (by decide) (fun h31 => ?_) (fun h31 => ?_)
                · replace hf := ite_neg hf h31
                  refine V_iconst (v := 0) (pc := 204) F dL_comers_204 (by decide) ?_
                  refine V_istore (L2 := [(9, .int 0), (11, .int 1), (0, .ref (a 0)), (2, .int z2), (3, .int z3), (5, .int z5), (6, .int z6), (7, .int z7), (8, .int z8), (10, .int z10)]) (pc := 205) F dL_comers_205 (by decide) rfl ?_
                  refine V_iinc (v := (z10 + 1)) (L2 := [(10, .int (z10 + 1)), (9, .int 0), (11, .int 1), (0, .ref (a 0)), (2, .int z2), (3, .int z3), (5, .int z5), (6, .int z6), (7, .int z7), (8, .int z8)]) (pc := 207) F dL_comers_207 9 rfl rfl (by decide) rfl ?_
                  refine V_goto (pc := 210) (tgt := 116) F dL_comers_210 (by decide) ?_
                  refine V.sub [3, 4, 5, 6, 7, 8, 9, 1, 0] rfl ?_
                  exact ih z2 z3 z5 z6 z7 z8 r22.2 0 (z10 + 1) _ hf hk
                · replace hf := ite_pos hf h31
                  refine V_iconst (v := 1) (pc := 200) F dL_comers_200 (by decide) ?_
                  refine V_goto (pc := 201) (tgt := 205) F dL_comers_201 (by decide) ?_
                  refine V_istore (L2 := [(9, .int 1), (11, .int 1), (0, .ref (a 0)), (2, .int z2), (3, .int z3), (5, .int z5), (6, .int z6), (7, .int z7), (8, .int z8), (10, .int z10)]) (pc := 205) F dL_comers_205 (by decide) rfl ?_
                  refine V_iinc (v := (z10 + 1)) (L2 := [(10, .int (z10 + 1)), (9, .int 1), (11, .int 1), (0, .ref (a 0)), (2, .int z2), (3, .int z3), (5, .int z5), (6, .int z6), (7, .int z7), (8, .int z8)]) (pc := 207) F dL_comers_207 9 rfl rfl (by decide) rfl ?_
                  refine V_goto (pc := 210) (tgt := 116) F dL_comers_210 (by decide) ?_
                  refine V.sub [3, 4, 5, 6, 7, 8, 9, 1, 0] rfl ?_
                  exact ih z2 z3 z5 z6 z7 z8 r22.2 1 (z10 + 1) _ hf hk
  have K104 : ∀ (n : Nat) (z2 : Int32) (z3 : Int32) (v : SX7) (z5 : Int32) (z6 : Int32) (z7 : Int32) (z8 : Int32) (u : (Int32 × SX7) ⊕ (SX7 × Int32 × Int32 × Int32)), fL_comers_L104 N z2 z3 n v z5 z6 z7 z8 = some u → (∀ r, u = .inl r → r = o) → (∀ q, u = .inr q → V p l e (rmz 6 140) s m args below meth c 12 D A 0 0 (MQ below (ok_Q D (wX7 cy a o.2) (some (.int o.1)) A) args s 0 0 A) (wX7 cy a q.1) [(0, .ref (a 0)), (2, .int z2), (5, .int q.2.1), (6, .int q.2.2.1), (7, .int q.2.2.2)] [] 303) → V p l e (rmz 6 140) s m args below meth c 12 D A 0 0 (MQ below (ok_Q D (wX7 cy a o.2) (some (.int o.1)) A) args s 0 0 A) (wX7 cy a v) [(0, .ref (a 0)), (2, .int z2), (3, .int z3), (5, .int z5), (6, .int z6), (7, .int z7), (8, .int z8)] [] 104 := by
    intro n
    induction n with
    | zero =>
      intro z2 z3 v z5 z6 z7 z8 u hf hr hk
      exact nomatch (show (none : Option ((Int32 × SX7) ⊕ (SX7 × Int32 × Int32 × Int32))) = some u from hf)
    | succ n ih =>
      intro z2 z3 v z5 z6 z7 z8 u hf hr hk
      rw [fL_comers_L104] at hf
      refine V_iload (pc := 104) F dL_comers_104 6 rfl ?_
      refine V_iload_n (pc := 106) F dL_comers_106 rfl 1 rfl ?_
      refine V_icmp_ge (pc := 107) (tgt := 303) F dL_comers_107 (by decide) (fun h15 => ?_) (fun h15 => ?_)
      · replace hf := ite_pos hf h15
        exact V.sub [0, 1, 3, 4, 5] rfl (hk _ (some_of hf).symm)
      · replace hf := ite_neg hf h15
        refine V_iconst (v := 0) (pc := 110) F dL_comers_110 (by decide) ?_
        refine V_istore (L2 := [(9, .int 0), (0, .ref (a 0)), (2, .int z2), (3, .int z3), (5, .int z5), (6, .int z6), (7, .int z7), (8, .int z8)]) (pc := 111) F dL_comers_111 (by decide) rfl ?_
        refine V_iconst (v := 0) (pc := 113) F dL_comers_113 (by decide) ?_
        refine V_istore (L2 := [(10, .int 0), (9, .int 0), (0, .ref (a 0)), (2, .int z2), (3, .int z3), (5, .int z5), (6, .int z6), (7, .int z7), (8, .int z8)]) (pc := 114) F dL_comers_114 (by decide) rfl ?_
        refine V.sub [2, 3, 4, 5, 6, 7, 8, 1, 0] rfl ?_
        obtain ⟨u32, g33, hf⟩ := bind_of hf
        refine K116 N z2 z3 z5 z6 z7 z8 v 0 0 u32 g33 ?_
        refine V_aload_n (pc := 213) F dL_comers_213 rfl 0 rfl ?_
        refine V_iload (pc := 214) F dL_comers_214 6 rfl ?_
        refine V_iconst (v := 3) (pc := 216) F dL_comers_216 (by decide) ?_
        obtain ⟨r34, g35, hf⟩ := bind_of hf
        refine V_V (w2 := wX7 cy a r34.2) (rest := []) (st2 := [.int r34.1]) (pc := 217) F 7 (M_X7_phase l D cy N a u32.1 z8 3 r34 (rt_of g35)) (cwV 2 F.ts gL_comers_X7_phase rfl rfl rfl hd_X7_phase ⟨Nat.le_of_ble_eq_true rfl, Nat.le_of_ble_eq_true rfl⟩) rfl dL_comers_217 Fit.whole fstX7 rfl rfl (Nat.le_of_ble_eq_true rfl) (Nat.zero_le _) (Nat.zero_le _) rfl rfl rfl ?_
        refine V_iload (pc := 220) F dL_comers_220 7 rfl ?_
        refine V_if_eq (pc := 222) (tgt := 229) F dL_comers_222 (by decide) (fun h36 => ?_) (fun h36 => ?_)
        · replace hf := ite_pos hf h36
          refine V_iconst (v := 0) (pc := 229) F dL_comers_229 (by decide) ?_
          refine V_icmp_ne (pc := 230) (tgt := 249) F dL_comers_230 (by decide) (fun h37 => ?_) (fun h37 => ?_)
          · replace hf := ite_neg hf h37
            refine V_iconst (v := 0) (pc := 249) F dL_comers_249 (by decide) ?_
            obtain rfl := hr _ (some_of hf).symm
            exact V_ret F rfl rfl dL_comers_250 rfl rfl
          · replace hf := ite_pos hf h37
            refine V_aload_n (pc := 233) F dL_comers_233 rfl 0 rfl ?_
            refine V_iload (pc := 234) F dL_comers_234 6 rfl ?_
            refine V_iconst (v := 4) (pc := 236) F dL_comers_236 (by decide) ?_
            obtain ⟨r38, g39, hf⟩ := bind_of hf
            refine V_V (w2 := wX7 cy a r38.2) (rest := []) (st2 := [.int r38.1]) (pc := 237) F 7 (M_X7_phase l D cy N a r34.2 z8 4 r38 (rt_of g39)) (cwV 2 F.ts gL_comers_X7_phase rfl rfl rfl hd_X7_phase ⟨Nat.le_of_ble_eq_true rfl, Nat.le_of_ble_eq_true rfl⟩) rfl dL_comers_237 Fit.whole fstX7 rfl rfl (Nat.le_of_ble_eq_true rfl) (Nat.zero_le _) (Nat.zero_le _) rfl rfl rfl ?_
            refine V_iload_n (pc := 240) F dL_comers_240 rfl 2 rfl ?_
            refine V_iload (pc := 241) F dL_comers_241 6 rfl ?_
            refine V_ishr (pc := 243) F dL_comers_243 ?_
            refine V_iconst (v := 1) (pc := 244) F dL_comers_244 (by decide) ?_
            refine V_iand (pc := 245) F dL_comers_245 ?_
            refine V_icmp_eq (pc := 246) (tgt := 251) F dL_comers_246 (by decide) (fun h40 => ?_) (fun h40 => ?_)
            · replace hf := ite_pos hf h40
              refine V_iload (pc := 251) F dL_comers_251 3 rfl ?_
              refine V_iload (pc := 253) F dL_comers_253 7 rfl ?_
              refine V_if_eq (pc := 255) (tgt := 262) F dL_comers_255 (by decide) (fun h41 => ?_) (fun h41 => ?_)
              · replace hf := ite_pos hf h41
                refine V_iconst (v := 0) (pc := 262) F dL_comers_262 (by decide) ?_
                refine V_iadd (pc := 263) F dL_comers_263 ?_
                refine V_istore (L2 := [(5, .int (z5 + 0)), (0, .ref (a 0)), (2, .int z2), (3, .int z3), (6, .int z6), (7, .int z7), (8, .int z8), (9, .int u32.2)]) (pc := 264) F dL_comers_264 (by decide) rfl ?_
                refine V_iload (pc := 266) F dL_comers_266 4 rfl ?_
                refine V_iload_n (pc := 268) F dL_comers_268 rfl 3 rfl ?_
                refine V_iload (pc := 269) F dL_comers_269 6 rfl ?_
                refine V_ishr (pc := 271) F dL_comers_271 ?_
                refine V_iconst (v := 1) (pc := 272) F dL_comers_272 (by decide) ?_
                refine V_iand (pc := 273) F dL_comers_273 ?_
                refine V_iadd (pc := 274) F dL_comers_274 ?_
                refine V_istore (L2 := [(6, .int (z6 + ((z3 >>> (z8 &&& 31)) &&& 1))), (5, .int (z5 + 0)), (0, .ref (a 0)), (2, .int z2), (3, .int z3), (7, .int z7), (8, .int z8), (9, .int u32.2)]) (pc := 275) F dL_comers_275 (by decide) rfl ?_
                refine V_iload (pc := 277) F dL_comers_277 5 rfl ?_
                refine V_iload (pc := 279) F dL_comers_279 7 rfl ?_
                refine V_if_eq (pc := 281) (tgt := 293) F dL_comers_281 (by decide) (fun h42 => ?_) (fun h42 => ?_)
                · replace hf := ite_pos hf h42
                  refine V_iconst (v := 0) (pc := 293) F dL_comers_293 (by decide) ?_
                  refine V_iadd (pc := 294) F dL_comers_294 ?_
                  refine V_istore (L2 := [(7, .int (z7 + 0)), (6, .int (z6 + ((z3 >>> (z8 &&& 31)) &&& 1))), (5, .int (z5 + 0)), (0, .ref (a 0)), (2, .int z2), (3, .int z3), (8, .int z8), (9, .int u32.2)]) (pc := 295) F dL_comers_295 (by decide) rfl ?_
                  refine V_iinc (v := (z8 + 1)) (L2 := [(8, .int (z8 + 1)), (7, .int (z7 + 0)), (6, .int (z6 + ((z3 >>> (z8 &&& 31)) &&& 1))), (5, .int (z5 + 0)), (0, .ref (a 0)), (2, .int z2), (3, .int z3), (9, .int u32.2)]) (pc := 297) F dL_comers_297 6 rfl rfl (by decide) rfl ?_
                  refine V_goto (pc := 300) (tgt := 104) F dL_comers_300 (by decide) ?_
                  refine V.sub [4, 5, 6, 3, 2, 1, 0] rfl ?_
                  exact ih z2 z3 r38.2 (z5 + 0) (z6 + ((z3 >>> (z8 &&& 31)) &&& 1)) (z7 + 0) (z8 + 1) _ hf hr hk
                · replace hf := ite_neg hf h42
                  refine V_iload_n (pc := 284) F dL_comers_284 rfl 4 rfl ?_
                  refine V_iload (pc := 285) F dL_comers_285 6 rfl ?_
                  refine V_ishr (pc := 287) F dL_comers_287 ?_
                  refine V_iconst (v := 1) (pc := 288) F dL_comers_288 (by decide) ?_
                  refine V_iand (pc := 289) F dL_comers_289 ?_
                  refine V_goto (pc := 290) (tgt := 294) F dL_comers_290 (by decide) ?_
                  refine V_iadd (pc := 294) F dL_comers_294 ?_
                  refine V_istore (L2 := [(7, .int (z7 + ((z3 >>> (z8 &&& 31)) &&& 1))), (6, .int (z6 + ((z3 >>> (z8 &&& 31)) &&& 1))), (5, .int (z5 + 0)), (0, .ref (a 0)), (2, .int z2), (3, .int z3), (8, .int z8), (9, .int u32.2)]) (pc := 295) F dL_comers_295 (by decide) rfl ?_
                  refine V_iinc (v := (z8 + 1)) (L2 := [(8, .int (z8 + 1)), (7, .int (z7 + ((z3 >>> (z8 &&& 31)) &&& 1))), (6, .int (z6 + ((z3 >>> (z8 &&& 31)) &&& 1))), (5, .int (z5 + 0)), (0, .ref (a 0)), (2, .int z2), (3, .int z3), (9, .int u32.2)]) (pc := 297) F dL_comers_297 6 rfl rfl (by decide) rfl ?_
                  refine V_goto (pc := 300) (tgt := 104) F dL_comers_300 (by decide) ?_
                  refine V.sub [4, 5, 6, 3, 2, 1, 0] rfl ?_
                  exact ih z2 z3 r38.2 (z5 + 0) (z6 + ((z3 >>> (z8 &&& 31)) &&& 1)) (z7 + ((z3 >>> (z8 &&& 31)) &&& 1)) (z8 + 1) _ hf hr hk
              · replace hf := ite_neg hf h41
                refine V_iconst (v := 1) (pc := 258) F dL_comers_258 (by decide) ?_
                refine V_goto (pc := 259) (tgt := 263) F dL_comers_259 (by decide) ?_
                refine V_iadd (pc := 263) F dL_comers_263 ?_
                refine V_istore (L2 := [(5, .int (z5 + 1)), (0, .ref (a 0)), (2, .int z2), (3, .int z3), (6, .int z6), (7, .int z7), (8, .int z8), (9, .int u32.2)]) (pc := 264) F dL_comers_264 (by decide) rfl ?_
                refine V_iload (pc := 266) F dL_comers_266 4 rfl ?_
                refine V_iload_n (pc := 268) F dL_comers_268 rfl 3 rfl ?_
                refine V_iload (pc := 269) F dL_comers_269 6 rfl ?_
                refine V_ishr (pc := 271) F dL_comers_271 ?_
                refine V_iconst (v := 1) (pc := 272) F dL_comers_272 (by decide) ?_
                refine V_iand (pc := 273) F dL_comers_273 ?_
                refine V_iadd (pc := 274) F dL_comers_274 ?_
                refine V_istore (L2 := [(6, .int (z6 + ((z3 >>> (z8 &&& 31)) &&& 1))), (5, .int (z5 + 1)), (0, .ref (a 0)), (2, .int z2), (3, .int z3), (7, .int z7), (8, .int z8), (9, .int u32.2)]) (pc := 275) F dL_comers_275 (by decide) rfl ?_
                refine V_iload (pc := 277) F dL_comers_277 5 rfl ?_
                refine V_iload (pc := 279) F dL_comers_279 7 rfl ?_
                refine V_if_eq (pc := 281) (tgt := 293) F dL_comers_281 (by decide) (fun h43 => ?_) (fun h43 => ?_)
                · replace hf := ite_pos hf h43
                  refine V_iconst (v := 0) (pc := 293) F dL_comers_293 (by decide) ?_
                  refine V_iadd (pc := 294) F dL_comers_294 ?_
                  refine V_istore (L2 := [(7, .int (z7 + 0)), (6, .int (z6 + ((z3 >>> (z8 &&& 31)) &&& 1))), (5, .int (z5 + 1)), (0, .ref (a 0)), (2, .int z2), (3, .int z3), (8, .int z8), (9, .int u32.2)]) (pc := 295) F dL_comers_295 (by decide) rfl ?_
                  refine V_iinc (v := (z8 + 1)) (L2 := [(8, .int (z8 + 1)), (7, .int (z7 + 0)), (6, .int (z6 + ((z3 >>> (z8 &&& 31)) &&& 1))), (5, .int (z5 + 1)), (0, .ref (a 0)), (2, .int z2), (3, .int z3), (9, .int u32.2)]) (pc := 297) F dL_comers_297 6 rfl rfl (by decide) rfl ?_
                  refine V_goto (pc := 300) (tgt := 104) F dL_comers_300 (by decide) ?_
                  refine V.sub [4, 5, 6, 3, 2, 1, 0] rfl ?_
                  exact ih z2 z3 r38.2 (z5 + 1) (z6 + ((z3 >>> (z8 &&& 31)) &&& 1)) (z7 + 0) (z8 + 1) _ hf hr hk
                · replace hf := ite_neg hf h43
                  refine V_iload_n (pc := 284) F dL_comers_284 rfl 4 rfl ?_
                  refine V_iload (pc := 285) F dL_comers_285 6 rfl ?_
                  refine V_ishr (pc := 287) F dL_comers_287 ?_
                  refine V_iconst (v := 1) (pc := 288) F dL_comers_288 (by decide) ?_
                  refine V_iand (pc := 289) F dL_comers_289 ?_
                  refine V_goto (pc := 290) (tgt := 294) F dL_comers_290 (by decide) ?_
                  refine V_iadd (pc := 294) F dL_comers_294 ?_
                  refine V_istore (L2 := [(7, .int (z7 + ((z3 >>> (z8 &&& 31)) &&& 1))), (6, .int (z6 + ((z3 >>> (z8 &&& 31)) &&& 1))), (5, .int (z5 + 1)), (0, .ref (a 0)), (2, .int z2), (3, .int z3), (8, .int z8), (9, .int u32.2)]) (pc := 295) F dL_comers_295 (by decide) rfl ?_
                  refine V_iinc (v := (z8 + 1)) (L2 := [(8, .int (z8 + 1)), (7, .int (z7 + ((z3 >>> (z8 &&& 31)) &&& 1))), (6, .int (z6 + ((z3 >>> (z8 &&& 31)) &&& 1))), (5, .int (z5 + 1)), (0, .ref (a 0)), (2, .int z2), (3, .int z3), (9, .int u32.2)]) (pc := 297) F dL_comers_297 6 rfl rfl (by decide) rfl ?_
                  refine V_goto (pc := 300) (tgt := 104) F dL_comers_300 (by decide) ?_
                  refine V.sub [4, 5, 6, 3, 2, 1, 0] rfl ?_
                  exact ih z2 z3 r38.2 (z5 + 1) (z6 + ((z3 >>> (z8 &&& 31)) &&& 1)) (z7 + ((z3 >>> (z8 &&& 31)) &&& 1)) (z8 + 1) _ hf hr hk
            · replace hf := ite_neg hf h40
              refine V_iconst (v := 0) (pc := 249) F dL_comers_249 (by decide) ?_
              obtain rfl := hr _ (some_of hf).symm
              exact V_ret F rfl rfl dL_comers_250 rfl rfl
        · replace hf := ite_neg hf h36
          refine V_iconst (v := 1) (pc := 225) F dL_comers_225 (by decide) ?_
          refine V_goto (pc := 226) (tgt := 230) F dL_comers_226 (by decide) ?_
          refine V_icmp_ne (pc := 230) (tgt := 249) F dL_comers_230 (by decide) (fun h44 => ?_) (fun h44 => ?_)
          · replace hf := ite_neg hf h44
            refine V_iconst (v := 0) (pc := 249) F dL_comers_249 (by decide) ?_
            obtain rfl := hr _ (some_of hf).symm
            exact V_ret F rfl rfl dL_comers_250 rfl rfl
          · replace hf := ite_pos hf h44
            refine V_aload_n (pc := 233) F dL_comers_233 rfl 0 rfl ?_
            refine V_iload (pc := 234) F dL_comers_234 6 rfl ?_
            refine V_iconst (v := 4) (pc := 236) F dL_comers_236 (by decide) ?_
            obtain ⟨r45, g46, hf⟩ := bind_of hf
            refine V_V (w2 := wX7 cy a r45.2) (rest := []) (st2 := [.int r45.1]) (pc := 237) F 7 (M_X7_phase l D cy N a r34.2 z8 4 r45 (rt_of g46)) (cwV 2 F.ts gL_comers_X7_phase rfl rfl rfl hd_X7_phase ⟨Nat.le_of_ble_eq_true rfl, Nat.le_of_ble_eq_true rfl⟩) rfl dL_comers_237 Fit.whole fstX7 rfl rfl (Nat.le_of_ble_eq_true rfl) (Nat.zero_le _) (Nat.zero_le _) rfl rfl rfl ?_
            refine V_iload_n (pc := 240) F dL_comers_240 rfl 2 rfl ?_
            refine V_iload (pc := 241) F dL_comers_241 6 rfl ?_
            refine V_ishr (pc := 243) F dL_comers_243 ?_
            refine V_iconst (v := 1) (pc := 244) F dL_comers_244 (by decide) ?_
            refine V_iand (pc := 245) F dL_comers_245 ?_
            refine V_icmp_eq (pc := 246) (tgt := 251) F dL_comers_246 (by decide) (fun h47 => ?_) (fun h47 => ?_)
            · replace hf := ite_pos hf h47
              refine V_iload (pc := 251) F dL_comers_251 3 rfl ?_
              refine V_iload (pc := 253) F dL_comers_253 7 rfl ?_
              refine V_if_eq (pc := 255) (tgt := 262) F dL_comers_255 (by decide) (fun h48 => ?_) (fun h48 => ?_)
              · replace hf := ite_pos hf h48
                refine V_iconst (v := 0) (pc := 262) F dL_comers_262 (by decide) ?_
                refine V_iadd (pc := 263) F dL_comers_263 ?_
                refine V_istore (L2 := [(5, .int (z5 + 0)), (0, .ref (a 0)), (2, .int z2), (3, .int z3), (6, .int z6), (7, .int z7), (8, .int z8), (9, .int u32.2)]) (pc := 264) F dL_comers_264 (by decide) rfl ?_
                refine V_iload (pc := 266) F dL_comers_266 4 rfl ?_
                refine V_iload_n (pc := 268) F dL_comers_268 rfl 3 rfl ?_
                refine V_iload (pc := 269) F dL_comers_269 6 rfl ?_
                refine V_ishr (pc := 271) F dL_comers_271 ?_
                refine V_iconst (v := 1) (pc := 272) F dL_comers_272 (by decide) ?_
                refine V_iand (pc := 273) F dL_comers_273 ?_
                refine V_iadd (pc := 274) F dL_comers_274 ?_
                refine V_istore (L2 := [(6, .int (z6 + ((z3 >>> (z8 &&& 31)) &&& 1))), (5, .int (z5 + 0)), (0, .ref (a 0)), (2, .int z2), (3, .int z3), (7, .int z7), (8, .int z8), (9, .int u32.2)]) (pc := 275) F dL_comers_275 (by decide) rfl ?_
                refine V_iload (pc := 277) F dL_comers_277 5 rfl ?_
                refine V_iload (pc := 279) F dL_comers_279 7 rfl ?_
                refine V_if_eq (pc := 281) (tgt := 293) F dL_comers_281 (by decide) (fun h49 => ?_) (fun h49 => ?_)
                · replace hf := ite_pos hf h49
                  refine V_iconst (v := 0) (pc := 293) F dL_comers_293 (by decide) ?_
                  refine V_iadd (pc := 294) F dL_comers_294 ?_
                  refine V_istore (L2 := [(7, .int (z7 + 0)), (6, .int (z6 + ((z3 >>> (z8 &&& 31)) &&& 1))), (5, .int (z5 + 0)), (0, .ref (a 0)), (2, .int z2), (3, .int z3), (8, .int z8), (9, .int u32.2)]) (pc := 295) F dL_comers_295 (by decide) rfl ?_
                  refine V_iinc (v := (z8 + 1)) (L2 := [(8, .int (z8 + 1)), (7, .int (z7 + 0)), (6, .int (z6 + ((z3 >>> (z8 &&& 31)) &&& 1))), (5, .int (z5 + 0)), (0, .ref (a 0)), (2, .int z2), (3, .int z3), (9, .int u32.2)]) (pc := 297) F dL_comers_297 6 rfl rfl (by decide) rfl ?_
                  refine V_goto (pc := 300) (tgt := 104) F dL_comers_300 (by decide) ?_
                  refine V.sub [4, 5, 6, 3, 2, 1, 0] rfl ?_
                  exact ih z2 z3 r45.2 (z5 + 0) (z6 + ((z3 >>> (z8 &&& 31)) &&& 1)) (z7 + 0) (z8 + 1) _ hf hr hk
                · replace hf := ite_neg hf h49
                  refine V_iload_n (pc := 284) F dL_comers_284 rfl 4 rfl ?_
                  refine V_iload (pc := 285) F dL_comers_285 6 rfl ?_
                  refine V_ishr (pc := 287) F dL_comers_287 ?_
                  refine V_iconst (v := 1) (pc := 288) F dL_comers_288 (by decide) ?_
                  refine V_iand (pc := 289) F dL_comers_289 ?_
                  refine V_goto (pc := 290) (tgt := 294) F dL_comers_290 (by decide) ?_
                  refine V_iadd (pc := 294) F dL_comers_294 ?_
                  refine V_istore (L2 := [(7, .int (z7 + ((z3 >>> (z8 &&& 31)) &&& 1))), (6, .int (z6 + ((z3 >>> (z8 &&& 31)) &&& 1))), (5, .int (z5 + 0)), (0, .ref (a 0)), (2, .int z2), (3, .int z3), (8, .int z8), (9, .int u32.2)]) (pc := 295) F dL_comers_295 (by decide) rfl ?_
                  refine V_iinc (v := (z8 + 1)) (L2 := [(8, .int (z8 + 1)), (7, .int (z7 + ((z3 >>> (z8 &&& 31)) &&& 1))), (6, .int (z6 + ((z3 >>> (z8 &&& 31)) &&& 1))), (5, .int (z5 + 0)), (0, .ref (a 0)), (2, .int z2), (3, .int z3), (9, .int u32.2)]) (pc := 297) F dL_comers_297 6 rfl rfl (by decide) rfl ?_
                  refine V_goto (pc := 300) (tgt := 104) F dL_comers_300 (by decide) ?_
                  refine V.sub [4, 5, 6, 3, 2, 1, 0] rfl ?_
                  exact ih z2 z3 r45.2 (z5 + 0) (z6 + ((z3 >>> (z8 &&& 31)) &&& 1)) (z7 + ((z3 >>> (z8 &&& 31)) &&& 1)) (z8 + 1) _ hf hr hk
              · replace hf := ite_neg hf h48
                refine V_iconst (v := 1) (pc := 258) F dL_comers_258 (by decide) ?_
                refine V_goto (pc := 259) (tgt := 263) F dL_comers_259 (by decide) ?_
                refine V_iadd (pc := 263) F dL_comers_263 ?_
                refine V_istore (L2 := [(5, .int (z5 + 1)), (0, .ref (a 0)), (2, .int z2), (3, .int z3), (6, .int z6), (7, .int z7), (8, .int z8), (9, .int u32.2)]) (pc := 264) F dL_comers_264 (by decide) rfl ?_
                refine V_iload (pc := 266) F dL_comers_266 4 rfl ?_
                refine V_iload_n (pc := 268) F dL_comers_268 rfl 3 rfl ?_
                refine V_iload (pc := 269) F dL_comers_269 6 rfl ?_
                refine V_ishr (pc := 271) F dL_comers_271 ?_
                refine V_iconst (v := 1) (pc := 272) F dL_comers_272 (by decide) ?_
                refine V_iand (pc := 273) F dL_comers_273 ?_
                refine V_iadd (pc := 274) F dL_comers_274 ?_
                refine V_istore (L2 := [(6, .int (z6 + ((z3 >>> (z8 &&& 31)) &&& 1))), (5, .int (z5 + 1)), (0, .ref (a 0)), (2, .int z2), (3, .int z3), (7, .int z7), (8, .int z8), (9, .int u32.2)]) (pc := 275) F dL_comers_275 (by decide) rfl ?_
                refine V_iload (pc := 277) F dL_comers_277 5 rfl ?_
                refine V_iload (pc := 279) F dL_comers_279 7 rfl ?_
                refine V_if_eq (pc := 281) (tgt := 293) F dL_comers_281 (by decide) (fun h50 => ?_) (fun h50 => ?_)
                · replace hf := ite_pos hf h50
                  refine V_iconst (v := 0) (pc := 293) F dL_comers_293 (by decide) ?_
                  refine V_iadd (pc := 294) F dL_comers_294 ?_
                  refine V_istore (L2 := [(7, .int (z7 + 0)), (6, .int (z6 + ((z3 >>> (z8 &&& 31)) &&& 1))), (5, .int (z5 + 1)), (0, .ref (a 0)), (2, .int z2), (3, .int z3), (8, .int z8), (9, .int u32.2)]) (pc := 295) F dL_comers_295 (by decide) rfl ?_
                  refine V_iinc (v := (z8 + 1)) (L2 := [(8, .int (z8 + 1)), (7, .int (z7 + 0)), (6, .int (z6 + ((z3 >>> (z8 &&& 31)) &&& 1))), (5, .int (z5 + 1)), (0, .ref (a 0)), (2, .int z2), (3, .int z3), (9, .int u32.2)]) (pc := 297) F dL_comers_297 6 rfl rfl (by decide) rfl ?_
                  refine V_goto (pc := 300) (tgt := 104) F dL_comers_300 (by decide) ?_
                  refine V.sub [4, 5, 6, 3, 2, 1, 0] rfl ?_
                  exact ih z2 z3 r45.2 (z5 + 1) (z6 + ((z3 >>> (z8 &&& 31)) &&& 1)) (z7 + 0) (z8 + 1) _ hf hr hk
                · replace hf := ite_neg hf h50
                  refine V_iload_n (pc := 284) F dL_comers_284 rfl 4 rfl ?_
                  refine V_iload (pc := 285) F dL_comers_285 6 rfl ?_
                  refine V_ishr (pc := 287) F dL_comers_287 ?_
                  refine V_iconst (v := 1) (pc := 288) F dL_comers_288 (by decide) ?_
                  refine V_iand (pc := 289) F dL_comers_289 ?_
                  refine V_goto (pc := 290) (tgt := 294) F dL_comers_290 (by decide) ?_
                  refine V_iadd (pc := 294) F dL_comers_294 ?_
                  refine V_istore (L2 := [(7, .int (z7 + ((z3 >>> (z8 &&& 31)) &&& 1))), (6, .int (z6 + ((z3 >>> (z8 &&& 31)) &&& 1))), (5, .int (z5 + 1)), (0, .ref (a 0)), (2, .int z2), (3, .int z3), (8, .int z8), (9, .int u32.2)]) (pc := 295) F dL_comers_295 (by decide) rfl ?_
                  refine V_iinc (v := (z8 + 1)) (L2 := [(8, .int (z8 + 1)), (7, .int (z7 + ((z3 >>> (z8 &&& 31)) &&& 1))), (6, .int (z6 + ((z3 >>> (z8 &&& 31)) &&& 1))), (5, .int (z5 + 1)), (0, .ref (a 0)), (2, .int z2), (3, .int z3), (9, .int u32.2)]) (pc := 297) F dL_comers_297 6 rfl rfl (by decide) rfl ?_
                  refine V_goto (pc := 300) (tgt := 104) F dL_comers_300 (by decide) ?_
                  refine V.sub [4, 5, 6, 3, 2, 1, 0] rfl ?_
                  exact ih z2 z3 r45.2 (z5 + 1) (z6 + ((z3 >>> (z8 &&& 31)) &&& 1)) (z7 + ((z3 >>> (z8 &&& 31)) &&& 1)) (z8 + 1) _ hf hr hk
            · replace hf := ite_neg hf h47
              refine V_iconst (v := 0) (pc := 249) F dL_comers_249 (by decide) ?_
              obtain rfl := hr _ (some_of hf).symm
              exact V_ret F rfl rfl dL_comers_250 rfl rfl
  unfold fL_comers at hf
  refine V.eq rfl (show lv_args 0 [.ref (a 0), .int x1] = [(0, .ref (a 0)), (1, .int x1)] from rfl) rfl ?_
  refine V_aload_n (pc := 0) F dL_comers_0 rfl 0 rfl ?_
  refine V_iconst (v := 0) (pc := 1) F dL_comers_1 (by decide) ?_
  obtain ⟨r1, g2, hf⟩ := bind_of hf
  refine V_V (w2 := wX7 cy a r1.2) (rest := []) (st2 := [.int r1.1]) (pc := 2) F 7 (M_X7_count l D cy N a v 0 r1 (rt_of g2)) (cwV 1 F.ts gL_comers_X7_count rfl rfl rfl hd_X7_count ⟨Nat.le_of_ble_eq_true rfl, Nat.le_of_ble_eq_true rfl⟩) rfl dL_comers_2 Fit.whole fstX7 rfl rfl (Nat.le_of_ble_eq_true rfl) (Nat.zero_le _) (Nat.zero_le _) rfl rfl rfl ?_
  refine V_istore_n (L2 := [(2, .int r1.1), (0, .ref (a 0)), (1, .int x1)]) (pc := 5) F dL_comers_5 rfl (by decide) rfl ?_
  refine V_iconst (v := 1) (pc := 6) F dL_comers_6 (by decide) ?_
  refine V_iload_n (pc := 7) F dL_comers_7 rfl 2 rfl ?_
  refine V_ishl (pc := 8) F dL_comers_8 ?_
  refine V_istore_n (L2 := [(3, .int ((1 : Int32) <<< (x1 &&& 31))), (2, .int r1.1), (0, .ref (a 0)), (1, .int x1)]) (pc := 9) F dL_comers_9 rfl (by decide) rfl ?_
  refine V_iconst (v := 0) (pc := 10) F dL_comers_10 (by decide) ?_
  refine V_istore (L2 := [(4, .int 0), (3, .int ((1 : Int32) <<< (x1 &&& 31))), (2, .int r1.1), (0, .ref (a 0)), (1, .int x1)]) (pc := 11) F dL_comers_11 (by decide) rfl ?_
  refine V.sub [3, 2, 1, 0] rfl ?_
  obtain ⟨u13, g14, hf⟩ := bind_of hf
  refine K13 N r1.1 r1.2 ((1 : Int32) <<< (x1 &&& 31)) 0 u13 g14 ?_
  refine V_iconst (v := 0) (pc := 92) F dL_comers_92 (by decide) ?_
  refine V_istore (L2 := [(5, .int 0), (0, .ref (a 0)), (2, .int r1.1), (3, .int u13.2)]) (pc := 93) F dL_comers_93 (by decide) rfl ?_
  refine V_iconst (v := 0) (pc := 95) F dL_comers_95 (by decide) ?_
  refine V_istore (L2 := [(6, .int 0), (5, .int 0), (0, .ref (a 0)), (2, .int r1.1), (3, .int u13.2)]) (pc := 96) F dL_comers_96 (by decide) rfl ?_
  refine V_iconst (v := 0) (pc := 98) F dL_comers_98 (by decide) ?_
  refine V_istore (L2 := [(7, .int 0), (6, .int 0), (5, .int 0), (0, .ref (a 0)), (2, .int r1.1), (3, .int u13.2)]) (pc := 99) F dL_comers_99 (by decide) rfl ?_
  refine V_iconst (v := 0) (pc := 101) F dL_comers_101 (by decide) ?_
  refine V_istore (L2 := [(8, .int 0), (7, .int 0), (6, .int 0), (5, .int 0), (0, .ref (a 0)), (2, .int r1.1), (3, .int u13.2)]) (pc := 102) F dL_comers_102 (by decide) rfl ?_
  refine V.sub [4, 5, 6, 3, 2, 1, 0] rfl ?_
  obtain ⟨u51, g52, hf⟩ := bind_of hf
  refine K104 N r1.1 u13.2 u13.1 0 0 0 0 u51 g52 (fun r h54 => ?_) (fun q53 h54 => ?_)
  · subst h54
    replace hf := onS_inl hf
    exact some_of hf
  · subst h54
    replace hf := onS_inr hf
    refine V_aload_n (pc := 303) F dL_comers_303 rfl 0 rfl ?_
    refine V_bipush (v := 6) (pc := 304) F dL_comers_304 (by decide) ?_
    obtain ⟨r55, g56, hf⟩ := bind_of hf
    refine V_V (w2 := wX7 cy a r55.2) (rest := []) (st2 := [.int r55.1]) (pc := 306) F 7 (M_X7_count l D cy N a q53.1 6 r55 (rt_of g56)) (cwV 1 F.ts gL_comers_X7_count rfl rfl rfl hd_X7_count ⟨Nat.le_of_ble_eq_true rfl, Nat.le_of_ble_eq_true rfl⟩) rfl dL_comers_306 Fit.whole fstX7 rfl rfl (Nat.le_of_ble_eq_true rfl) (Nat.zero_le _) (Nat.zero_le _) rfl rfl rfl ?_
    refine V_iload (pc := 309) F dL_comers_309 2 rfl ?_
    refine V_icmp_ne (pc := 311) (tgt := 356) F dL_comers_311 (by decide) (fun h57 => ?_) (fun h57 => ?_)
    · replace hf := ite_neg hf h57
      refine V_iconst (v := 0) (pc := 356) F dL_comers_356 (by decide) ?_
      obtain rfl := some_of hf
      exact V_ret F rfl rfl dL_comers_357 rfl rfl
    · replace hf := ite_pos hf h57
      refine V_aload_n (pc := 314) F dL_comers_314 rfl 0 rfl ?_
      refine V_bipush (v := 7) (pc := 315) F dL_comers_315 (by decide) ?_
      obtain ⟨r58, g59, hf⟩ := bind_of hf
      refine V_V (w2 := wX7 cy a r58.2) (rest := []) (st2 := [.int r58.1]) (pc := 317) F 7 (M_X7_count l D cy N a r55.2 7 r58 (rt_of g59)) (cwV 1 F.ts gL_comers_X7_count rfl rfl rfl hd_X7_count ⟨Nat.le_of_ble_eq_true rfl, Nat.le_of_ble_eq_true rfl⟩) rfl dL_comers_317 Fit.whole fstX7 rfl rfl (Nat.le_of_ble_eq_true rfl) (Nat.zero_le _) (Nat.zero_le _) rfl rfl rfl ?_
      refine V_iload (pc := 320) F dL_comers_320 3 rfl ?_
      refine V_icmp_ne (pc := 322) (tgt := 356) F dL_comers_322 (by decide) (fun h60 => ?_) (fun h60 => ?_)
      · replace hf := ite_neg hf h60
        refine V_iconst (v := 0) (pc := 356) F dL_comers_356 (by decide) ?_
        obtain rfl := some_of hf
        exact V_ret F rfl rfl dL_comers_357 rfl rfl
      · replace hf := ite_pos hf h60
        refine V_aload_n (pc := 325) F dL_comers_325 rfl 0 rfl ?_
        refine V_bipush (v := 8) (pc := 326) F dL_comers_326 (by decide) ?_
        obtain ⟨r61, g62, hf⟩ := bind_of hf
        refine V_V (w2 := wX7 cy a r61.2) (rest := []) (st2 := [.int r61.1]) (pc := 328) F 7 (M_X7_count l D cy N a r58.2 8 r61 (rt_of g62)) (cwV 1 F.ts gL_comers_X7_count rfl rfl rfl hd_X7_count ⟨Nat.le_of_ble_eq_true rfl, Nat.le_of_ble_eq_true rfl⟩) rfl dL_comers_328 Fit.whole fstX7 rfl rfl (Nat.le_of_ble_eq_true rfl) (Nat.zero_le _) (Nat.zero_le _) rfl rfl rfl ?_
        refine V_iload (pc := 331) F dL_comers_331 4 rfl ?_
        refine V_icmp_ne (pc := 333) (tgt := 356) F dL_comers_333 (by decide) (fun h63 => ?_) (fun h63 => ?_)
        · replace hf := ite_neg hf h63
          refine V_iconst (v := 0) (pc := 356) F dL_comers_356 (by decide) ?_
          obtain rfl := some_of hf
          exact V_ret F rfl rfl dL_comers_357 rfl rfl
        · replace hf := ite_pos hf h63
          refine V_aload_n (pc := 336) F dL_comers_336 rfl 0 rfl ?_
          obtain ⟨r64, g65, hf⟩ := bind_of hf
          refine V_V (w2 := wX7 cy a r61.2) (rest := []) (st2 := [.double r64]) (pc := 337) F 7 (M_X7_safeShare l D cy N a r61.2 r64 g65) (cwV 0 F.ts gL_comers_X7_safeShare rfl rfl rfl hd_X7_safeShare ⟨Nat.le_of_ble_eq_true rfl, Nat.le_of_ble_eq_true rfl⟩) rfl dL_comers_337 Fit.whole rfl rfl rfl (Nat.le_of_ble_eq_true rfl) (Nat.zero_le _) (Nat.zero_le _) rfl rfl rfl ?_
          refine V_iload_n (pc := 340) F dL_comers_340 rfl 1 rfl ?_
          refine V_iload (pc := 341) F dL_comers_341 2 rfl ?_
          refine V_isub (pc := 343) F dL_comers_343 ?_
          refine V_i2d (pc := 344) F dL_comers_344 ?_
          refine V_iload_n (pc := 345) F dL_comers_345 rfl 1 rfl ?_
          refine V_i2d (pc := 346) F dL_comers_346 ?_
          obtain ⟨c66, hf⟩ := must_some hf
          refine V_ddiv (pc := 347) F dL_comers_347 (n64_of c66) ?_
          refine V_dcmp (pc := 348) F dL_comers_348 ?_
          refine V_if_ne (pc := 349) (tgt := 356) F dL_comers_349 (by decide) (fun h67 => ?_) (fun h67 => ?_)
          · replace hf := ite_neg hf h67
            refine V_iconst (v := 0) (pc := 356) F dL_comers_356 (by decide) ?_
            obtain rfl := some_of hf
            exact V_ret F rfl rfl dL_comers_357 rfl rfl
          · replace hf := ite_pos hf h67
            refine V_iconst (v := 1) (pc := 352) F dL_comers_352 (by decide) ?_
            refine V_goto (pc := 353) (tgt := 357) F dL_comers_353 (by decide) ?_
            obtain rfl := some_of hf
            exact V_ret F rfl rfl dL_comers_357 rfl rfl
