theorem hd_L_tells : yL_tells.cls ≠ "java/lang/invoke/MethodHandle" ∧ yL_tells.cls ≠ "java/lang/invoke/VarHandle" ∧ (parseMethodDescriptor yL_tells.desc).map (fun d => d.parameters.length) = some 4 := by decide +kernel
def fL_tells_L46 (N : Nat) (v1 : SQ5) (v2 : SQ18) (v3 : SQ8) (z4 : Int32) (z5 : Int32) (z6 : Int32) : Nat → SX7 → Int32 → Int32 → Option (SX7 × Int32)
  | 0, _, _, _ => none
  | n + 1, v, z7, z8 =>
    (rt (fX7_count N v 0)).bind fun r6 =>
      if r6.1 ≤ z8 then
        some (r6.2, z7)
      else
        (rt (fX7_phase N r6.2 z8 0)).bind fun r9 =>
          fL_tells_L46 N v1 v2 v3 z4 z5 z6 n r9.2 (z7 ||| (((r9.1 >>> (z6 &&& 31)) &&& 1) <<< (z8 &&& 31))) (z8 + 1)
def fL_tells_L13 (N : Nat) (v1 : SQ5) (v2 : SQ18) (v3 : SQ8) (z5 : Int32) : Nat → SX7 → Int32 → Int32 → Option ((Int32 × SX7) ⊕ (SX7 × Int32))
  | 0, _, _, _ => none
  | n + 1, v, z4, z6 =>
    if 6 ≤ z6 then
      some (.inr (v, z4))
    else
      chk z6 18 (
        (fL_tells_L46 N v1 v2 v3 (z4 ||| (if (v2 z6.toNatClampNeg) < 0 then (0 : Int32) else ((1 : Int32) <<< (z6 &&& 31)))) z5 z6 N v 0 0).bind fun u11 =>
          (rt (fX7_direction N u11.1 z6 0)).bind fun r13 =>
            if r13 = ((z5 >>> (z6 &&& 31)) &&& 1) then
              (rt (fX7_direction N u11.1 z6 1)).bind fun r17 =>
                chk z6 18 (
                  if 0 ≤ (v2 z6.toNatClampNeg) then
                    chk z6 18 (
                      if r17 = (v2 z6.toNatClampNeg) then
                        (rt (fX7_direction N u11.1 z6 3)).bind fun r24 =>
                          chk ((6 : Int32) + z6) 18 (
                            if r24 = (v2 ((6 : Int32) + z6).toNatClampNeg) then
                              (rt (fX7_direction N u11.1 z6 4)).bind fun r29 =>
                                chk ((12 : Int32) + z6) 18 (
                                  if r29 = (v2 ((12 : Int32) + z6).toNatClampNeg) then
                                    (rt (fX7_direction N u11.1 z6 5)).bind fun r34 =>
                                      if r34 = u11.2 then
                                        fL_tells_L13 N v1 v2 v3 z5 n u11.1 (z4 ||| (if (v2 z6.toNatClampNeg) < 0 then (0 : Int32) else ((1 : Int32) <<< (z6 &&& 31)))) (z6 + 1)
                                      else
                                        some (.inl (0, u11.1))
                                  else
                                    some (.inl (0, u11.1))
                                )
                            else
                              some (.inl (0, u11.1))
                          )
                      else
                        some (.inl (0, u11.1))
                    )
                  else
                    if r17 = (-1) then
                      (rt (fX7_direction N u11.1 z6 3)).bind fun r41 =>
                        chk ((6 : Int32) + z6) 18 (
                          if r41 = (v2 ((6 : Int32) + z6).toNatClampNeg) then
                            (rt (fX7_direction N u11.1 z6 4)).bind fun r46 =>
                              chk ((12 : Int32) + z6) 18 (
                                if r46 = (v2 ((12 : Int32) + z6).toNatClampNeg) then
                                  (rt (fX7_direction N u11.1 z6 5)).bind fun r51 =>
                                    if r51 = u11.2 then
                                      fL_tells_L13 N v1 v2 v3 z5 n u11.1 (z4 ||| (if (v2 z6.toNatClampNeg) < 0 then (0 : Int32) else ((1 : Int32) <<< (z6 &&& 31)))) (z6 + 1)
                                    else
                                      some (.inl (0, u11.1))
                                else
                                  some (.inl (0, u11.1))
                              )
                          else
                            some (.inl (0, u11.1))
                        )
                    else
                      some (.inl (0, u11.1))
                )
            else
              some (.inl (0, u11.1))
      )
def fL_tells_L227 (N : Nat) (v1 : SQ5) (v2 : SQ18) (v3 : SQ8) (z4 : Int32) (z5 : Int32) (z6 : Int32) : Nat → SX7 → Int32 → Int32 → Option (SX7 × Int32)
  | 0, _, _, _ => none
  | n + 1, v, z7, z8 =>
    (rt (fX7_phase N v z6 2)).bind fun r68 =>
      if r68.1 ≤ z8 then
        some (r68.2, z7)
      else
        if z7 = 0 then
          fL_tells_L227 N v1 v2 v3 z4 z5 z6 n r68.2 0 (z8 + 1)
        else
          (rt (fX7_rule N r68.2 z6 z8 2)).bind fun r72 =>
            (rt (fX7_rule N r68.2 z6 z8 1)).bind fun r74 =>
              if r74 = 0 then
                if r72 = 1 then
                  fL_tells_L227 N v1 v2 v3 z4 z5 z6 n r68.2 1 (z8 + 1)
                else
                  fL_tells_L227 N v1 v2 v3 z4 z5 z6 n r68.2 0 (z8 + 1)
              else
                (rt (fX7_rule N r68.2 z6 z8 1)).bind fun r78 =>
                  if (r78 &&& z4) = 0 then
                    if r72 = 0 then
                      fL_tells_L227 N v1 v2 v3 z4 z5 z6 n r68.2 1 (z8 + 1)
                    else
                      fL_tells_L227 N v1 v2 v3 z4 z5 z6 n r68.2 0 (z8 + 1)
                  else
                    if r72 = 1 then
                      fL_tells_L227 N v1 v2 v3 z4 z5 z6 n r68.2 1 (z8 + 1)
                    else
                      fL_tells_L227 N v1 v2 v3 z4 z5 z6 n r68.2 0 (z8 + 1)
def fL_tells_L193 (N : Nat) (v1 : SQ5) (v2 : SQ18) (v3 : SQ8) (z4 : Int32) (z5 : Int32) : Nat → SX7 → Int32 → Option ((Int32 × SX7) ⊕ (SX7))
  | 0, _, _ => none
  | n + 1, v, z6 =>
    (rt (fX7_count N v 0)).bind fun r61 =>
      if r61.1 ≤ z6 then
        some (.inr r61.2)
      else
        (rt (fX7_phase N r61.2 z6 5)).bind fun r64 =>
          chk z6 8 (
            (fL_tells_L227 N v1 v2 v3 z4 z5 z6 N r64.2 (if r64.1 = (v3 z6.toNatClampNeg) then (1 : Int32) else (0 : Int32)) 0).bind fun u83 =>
              if u83.2 = 0 then
                some (.inl (0, u83.1))
              else
                fL_tells_L193 N v1 v2 v3 z4 z5 n u83.1 (z6 + 1)
          )
def fL_tells (N : Nat) (v : SX7) (v1 : SQ5) (v2 : SQ18) (v3 : SQ8) : Option (Int32 × SX7) :=
  (fL_greens N v v1).bind fun r1 =>
    (fL_tells_L13 N v1 v2 v3 r1.1 N r1.2 0 0).bind fun u57 => onS u57 (fun r => some r) fun q59 =>
      (fL_tells_L193 N v1 v2 v3 q59.2 r1.1 N q59.1 0).bind fun u87 => onS u87 (fun r => some r) fun q89 =>
        (rt (fX7_count N q89 1)).bind fun r91 =>
          chk 0 5 (
            if r91.1 = (v1 (0 : Int32).toNatClampNeg) then
              (rt (fX7_count N r91.2 2)).bind fun r95 =>
                chk 2 5 (
                  if (v1 (2 : Int32).toNatClampNeg) ≤ 0 then
                    chk 1 5 (
                      if r95.1 = (v1 (1 : Int32).toNatClampNeg) then
                        (rt (fX7_count N r95.2 3)).bind fun r101 =>
                          chk 2 5 (
                            if r101.1 = (v1 (2 : Int32).toNatClampNeg) then
                              (rt (fX7_count N r101.2 4)).bind fun r105 =>
                                if r105.1 = r1.1 then
                                  (rt (fX7_count N r105.2 5)).bind fun r108 =>
                                    if r108.1 = q59.2 then
                                      (rt (fX7_count N r108.2 9)).bind fun r111 =>
                                        chk 4 5 (
                                          if r111.1 = (v1 (4 : Int32).toNatClampNeg) then
                                            some (1, r111.2)
                                          else
                                            some (0, r111.2)
                                        )
                                    else
                                      some (0, r108.2)
                                else
                                  some (0, r105.2)
                            else
                              some (0, r101.2)
                          )
                      else
                        some (0, r95.2)
                    )
                  else
                    if r95.1 = (-1) then
                      (rt (fX7_count N r95.2 3)).bind fun r116 =>
                        chk 2 5 (
                          if r116.1 = (v1 (2 : Int32).toNatClampNeg) then
                            (rt (fX7_count N r116.2 4)).bind fun r120 =>
                              if r120.1 = r1.1 then
                                (rt (fX7_count N r120.2 5)).bind fun r123 =>
                                  if r123.1 = q59.2 then
                                    (rt (fX7_count N r123.2 9)).bind fun r126 =>
                                      chk 4 5 (
                                        if r126.1 = (v1 (4 : Int32).toNatClampNeg) then
                                          some (1, r126.2)
                                        else
                                          some (0, r126.2)
                                      )
                                  else
                                    some (0, r123.2)
                              else
                                some (0, r120.2)
                          else
                            some (0, r116.2)
                        )
                    else
                      some (0, r95.2)
                )
            else
              some (0, r91.2)
          )
set_option maxHeartbeats 8000000 in
set_option maxRecDepth 100000 in
theorem M_L_tells (l : Launch) (D : va_G) (cy : Nat → ClassId) (N : Nat) (a : Nat → Nat) (a1 : Nat → Nat) (a2 : Nat → Nat) (a3 : Nat → Nat) (v : SX7) (v1 : SQ5) (v2 : SQ18) (v3 : SQ8) (o : Int32 × SX7) (hf : fL_tells N v v1 v2 v3 = some o) : okM l yL_tells wsL_tells (rmz 6 140) D cy [.ref (a 0), .ref (a1 0), .ref (a2 0), .ref (a3 0)] (wQ18 cy a2 v2 ++ (wQ8 cy a3 v3 ++ (wQ5 cy a1 v1 ++ (wX7 cy a v)))) (wQ18 cy a2 v2 ++ (wQ8 cy a3 v3 ++ (wQ5 cy a1 v1 ++ (wX7 cy a o.2)))) (some (.int o.1)) := by
  refine okM_of (own := RL) (nme := "tells") (cc := cL_tells) (maxL := 9) (ret := (some .boolean)) (by decide) rfl rfl rfl (Nat.le_of_ble_eq_true rfl) ?_
  intro p e s m args below meth c A F
  have K46 : ∀ (n : Nat) (v1 : SQ5) (v2 : SQ18) (v3 : SQ8) (z4 : Int32) (z5 : Int32) (z6 : Int32) (v : SX7) (z7 : Int32) (z8 : Int32) (u : SX7 × Int32), fL_tells_L46 N v1 v2 v3 z4 z5 z6 n v z7 z8 = some u → V p l e (rmz 6 140) s m args below meth c 9 D A 0 0 (MQ below (ok_Q D (wQ18 cy a2 v2 ++ (wQ8 cy a3 v3 ++ (wQ5 cy a1 v1 ++ (wX7 cy a o.2)))) (some (.int o.1)) A) args s 0 0 A) (wQ18 cy a2 v2 ++ (wQ8 cy a3 v3 ++ (wQ5 cy a1 v1 ++ (wX7 cy a u.1)))) [(0, .ref (a 0)), (1, .ref (a1 0)), (2, .ref (a2 0)), (3, .ref (a3 0)), (4, .int z4), (5, .int z5), (6, .int z6), (7, .int u.2)] [] 82 → V p l e (rmz 6 140) s m args below meth c 9 D A 0 0 (MQ below (ok_Q D (wQ18 cy a2 v2 ++ (wQ8 cy a3 v3 ++ (wQ5 cy a1 v1 ++ (wX7 cy a o.2)))) (some (.int o.1)) A) args s 0 0 A) (wQ18 cy a2 v2 ++ (wQ8 cy a3 v3 ++ (wQ5 cy a1 v1 ++ (wX7 cy a v)))) [(0, .ref (a 0)), (1, .ref (a1 0)), (2, .ref (a2 0)), (3, .ref (a3 0)), (4, .int z4), (5, .int z5), (6, .int z6), (7, .int z7), (8, .int z8)] [] 46 := by
    intro n
    induction n with
    | zero =>
      intro v1 v2 v3 z4 z5 z6 v z7 z8 u hf hk
      exact nomatch (show (none : Option (SX7 × Int32)) = some u from hf)
    | succ n ih =>
      intro v1 v2 v3 z4 z5 z6 v z7 z8 u hf hk
      rw [fL_tells_L46] at hf
      refine V_iload (pc := 46) F dL_tells_46 8 rfl ?_
      refine V_aload_n (pc := 48) F dL_tells_48 rfl 0 rfl ?_
      refine V_iconst (v := 0) (pc := 49) F dL_tells_49 (by decide) ?_
      obtain ⟨r6, g7, hf⟩ := bind_of hf
      refine V_V (w2 := wQ18 cy a2 v2 ++ (wQ8 cy a3 v3 ++ (wQ5 cy a1 v1 ++ (wX7 cy a r6.2)))) (rest := [.int z8]) (st2 := [.int r6.1, .int z8]) (pc := 50) F 7 (M_X7_count l D cy N a v 0 r6 (rt_of g7)) (cwV 1 F.ts gL_tells_X7_count rfl rfl rfl hd_X7_count ⟨Nat.le_of_ble_eq_true rfl, Nat.le_of_ble_eq_true rfl⟩) rfl dL_tells_50 (Fit.right (Fit.right (Fit.right Fit.whole))) fstX7 rfl rfl (Nat.le_of_ble_eq_true rfl) (Nat.zero_le _) (Nat.zero_le _) rfl rfl rfl ?_
      refine V_icmp_ge (pc := 53) (tgt := 82) F dL_tells_53 (by decide) (fun h8 => ?_) (fun h8 => ?_)
      · replace hf := ite_pos hf h8
        obtain rfl := some_of hf
        exact V.sub [0, 1, 2, 3, 4, 5, 6, 7] rfl hk
      · replace hf := ite_neg hf h8
        refine V_iload (pc := 56) F dL_tells_56 7 rfl ?_
        refine V_aload_n (pc := 58) F dL_tells_58 rfl 0 rfl ?_
        refine V_iload (pc := 59) F dL_tells_59 8 rfl ?_
        refine V_iconst (v := 0) (pc := 61) F dL_tells_61 (by decide) ?_
        obtain ⟨r9, g10, hf⟩ := bind_of hf
        refine V_V (w2 := wQ18 cy a2 v2 ++ (wQ8 cy a3 v3 ++ (wQ5 cy a1 v1 ++ (wX7 cy a r9.2)))) (rest := [.int z7]) (st2 := [.int r9.1, .int z7]) (pc := 62) F 7 (M_X7_phase l D cy N a r6.2 z8 0 r9 (rt_of g10)) (cwV 2 F.ts gL_tells_X7_phase rfl rfl rfl hd_X7_phase ⟨Nat.le_of_ble_eq_true rfl, Nat.le_of_ble_eq_true rfl⟩) rfl dL_tells_62 (Fit.right (Fit.right (Fit.right Fit.whole))) fstX7 rfl rfl (Nat.le_of_ble_eq_true rfl) (Nat.zero_le _) (Nat.zero_le _) rfl rfl rfl ?_
        refine V_iload (pc := 65) F dL_tells_65 6 rfl ?_
        refine V_ishr (pc := 67) F dL_tells_67 ?_
        refine V_iconst (v := 1) (pc := 68) F dL_tells_68 (by decide) ?_
        refine V_iand (pc := 69) F dL_tells_69 ?_
        refine V_iload (pc := 70) F dL_tells_70 8 rfl ?_
        refine V_ishl (pc := 72) F dL_tells_72 ?_
        refine V_ior (pc := 73) F dL_tells_73 ?_
        refine V_istore (L2 := [(7, .int (z7 ||| (((r9.1 >>> (z6 &&& 31)) &&& 1) <<< (z8 &&& 31)))), (0, .ref (a 0)), (1, .ref (a1 0)), (2, .ref (a2 0)), (3, .ref (a3 0)), (4, .int z4), (5, .int z5), (6, .int z6), (8, .int z8)]) (pc := 74) F dL_tells_74 (by decide) rfl ?_
        refine V_iinc (v := (z8 + 1)) (L2 := [(8, .int (z8 + 1)), (7, .int (z7 ||| (((r9.1 >>> (z6 &&& 31)) &&& 1) <<< (z8 &&& 31)))), (0, .ref (a 0)), (1, .ref (a1 0)), (2, .ref (a2 0)), (3, .ref (a3 0)), (4, .int z4), (5, .int z5), (6, .int z6)]) (pc := 76) F dL_tells_76 8 rfl rfl (by decide) rfl ?_
        refine V_goto (pc := 79) (tgt := 46) F dL_tells_79 (by decide) ?_
        refine V.sub [2, 3, 4, 5, 6, 7, 8, 1, 0] rfl ?_
        exact ih v1 v2 v3 z4 z5 z6 r9.2 (z7 ||| (((r9.1 >>> (z6 &&& 31)) &&& 1) <<< (z8 &&& 31))) (z8 + 1) _ hf hk
  have K13 : ∀ (n : Nat) (v1 : SQ5) (v2 : SQ18) (v3 : SQ8) (z5 : Int32) (v : SX7) (z4 : Int32) (z6 : Int32) (u : (Int32 × SX7) ⊕ (SX7 × Int32)), fL_tells_L13 N v1 v2 v3 z5 n v z4 z6 = some u → (∀ r, u = .inl r → r = o) → (∀ q, u = .inr q → V p l e (rmz 6 140) s m args below meth c 9 D A 0 0 (MQ below (ok_Q D (wQ18 cy a2 v2 ++ (wQ8 cy a3 v3 ++ (wQ5 cy a1 v1 ++ (wX7 cy a o.2)))) (some (.int o.1)) A) args s 0 0 A) (wQ18 cy a2 v2 ++ (wQ8 cy a3 v3 ++ (wQ5 cy a1 v1 ++ (wX7 cy a q.1)))) [(0, .ref (a 0)), (1, .ref (a1 0)), (3, .ref (a3 0)), (4, .int q.2), (5, .int z5)] [] 190) → V p l e (rmz 6 140) s m args below meth c 9 D A 0 0 (MQ below (ok_Q D (wQ18 cy a2 v2 ++ (wQ8 cy a3 v3 ++ (wQ5 cy a1 v1 ++ (wX7 cy a o.2)))) (some (.int o.1)) A) args s 0 0 A) (wQ18 cy a2 v2 ++ (wQ8 cy a3 v3 ++ (wQ5 cy a1 v1 ++ (wX7 cy a v)))) [(0, .ref (a 0)), (1, .ref (a1 0)), (2, .ref (a2 0)), (3, .ref (a3 0)), (4, .int z4), (5, .int z5), (6, .int z6)] [] 13 := by
    intro n
    induction n with
    | zero =>
      intro v1 v2 v3 z5 v z4 z6 u hf hr hk
      exact nomatch (show (none : Option ((Int32 × SX7) ⊕ (SX7 × Int32))) = some u from hf)
    | succ n ih =>
      intro v1 v2 v3 z5 v z4 z6 u hf hr hk
      rw [fL_tells_L13] at hf
      refine V_iload (pc := 13) F dL_tells_13 6 rfl ?_
      refine V_bipush (v := 6) (pc := 15) F dL_tells_15 (by decide) ?_
      refine V_icmp_ge (pc := 17) (tgt := 190) F dL_tells_17 (by decide) (fun h3 => ?_) (fun h3 => ?_)
      · replace hf := ite_pos hf h3
        exact V.sub [0, 1, 3, 4, 5] rfl (hk _ (some_of hf).symm)
      · replace hf := ite_neg hf h3
        refine V_iload (pc := 20) F dL_tells_20 4 rfl ?_
        refine V_aload_n (pc := 22) F dL_tells_22 rfl 2 rfl ?_
        refine V_iload (pc := 23) F dL_tells_23 6 rfl ?_
        obtain ⟨c4, hf⟩ := chk_some hf
        refine V_iald (pc := 25) F 0 rfl c4 dL_tells_25 ?_
        have J56 : V p l e (rmz 6 140) s m args below meth c 9 D A 0 0 (MQ below (ok_Q D (wQ18 cy a2 v2 ++ (wQ8 cy a3 v3 ++ (wQ5 cy a1 v1 ++ (wX7 cy a o.2)))) (some (.int o.1)) A) args s 0 0 A) (wQ18 cy a2 v2 ++ (wQ8 cy a3 v3 ++ (wQ5 cy a1 v1 ++ (wX7 cy a v)))) [(0, .ref (a 0)), (1, .ref (a1 0)), (2, .ref (a2 0)), (3, .ref (a3 0)), (4, .int z4), (5, .int z5), (6, .int z6)] [.int (if (v2 z6.toNatClampNeg) < 0 then (0 : Int32) else ((1 : Int32) <<< (z6 &&& 31))), .int z4] 37 := by
          refine V_ior (pc := 37) F dL_tells_37 ?_
          refine V_istore (L2 := [(4, .int (z4 ||| (if (v2 z6.toNatClampNeg) < 0 then (0 : Int32) else ((1 : Int32) <<< (z6 &&& 31))))), (0, .ref (a 0)), (1, .ref (a1 0)), (2, .ref (a2 0)), (3, .ref (a3 0)), (5, .int z5), (6, .int z6)]) (pc := 38) F dL_tells_38 (by decide) rfl ?_
          refine V_iconst (v := 0) (pc := 40) F dL_tells_40 (by decide) ?_
          refine V_istore (L2 := [(7, .int 0), (4, .int (z4 ||| (if (v2 z6.toNatClampNeg) < 0 then (0 : Int32) else ((1 : Int32) <<< (z6 &&& 31))))), (0, .ref (a 0)), (1, .ref (a1 0)), (2, .ref (a2 0)), (3, .ref (a3 0)), (5, .int z5), (6, .int z6)]) (pc := 41) F dL_tells_41 (by decide) rfl ?_
          refine V_iconst (v := 0) (pc := 43) F dL_tells_43 (by decide) ?_
          refine V_istore (L2 := [(8, .int 0), (7, .int 0), (4, .int (z4 ||| (if (v2 z6.toNatClampNeg) < 0 then (0 : Int32) else ((1 : Int32) <<< (z6 &&& 31))))), (0, .ref (a 0)), (1, .ref (a1 0)), (2, .ref (a2 0)), (3, .ref (a3 0)), (5, .int z5), (6, .int z6)]) (pc := 44) F dL_tells_44 (by decide) rfl ?_
          refine V.sub [3, 4, 5, 6, 2, 7, 8, 1, 0] rfl ?_
          obtain ⟨u11, g12, hf⟩ := bind_of hf
          refine K46 N v1 v2 v3 (z4 ||| (if (v2 z6.toNatClampNeg) < 0 then (0 : Int32) else ((1 : Int32) <<< (z6 &&& 31)))) z5 z6 v 0 0 u11 g12 ?_
          refine V_aload_n (pc := 82) F dL_tells_82 rfl 0 rfl ?_
          refine V_iload (pc := 83) F dL_tells_83 6 rfl ?_
          refine V_iconst (v := 0) (pc := 85) F dL_tells_85 (by decide) ?_
          obtain ⟨r13, g14, hf⟩ := bind_of hf
          refine V_V (w2 := wQ18 cy a2 v2 ++ (wQ8 cy a3 v3 ++ (wQ5 cy a1 v1 ++ (wX7 cy a u11.1)))) (rest := []) (st2 := [.int r13]) (pc := 86) F 7 (M_X7_direction l D cy N a u11.1 z6 0 r13 (rt_of g14)) (cwV 2 F.ts gL_tells_X7_direction rfl rfl rfl hd_X7_direction ⟨Nat.le_of_ble_eq_true rfl, Nat.le_of_ble_eq_true rfl⟩) rfl dL_tells_86 (Fit.right (Fit.right (Fit.right Fit.whole))) rfl rfl rfl (Nat.le_of_ble_eq_true rfl) (Nat.zero_le _) (Nat.zero_le _) rfl rfl rfl ?_
          refine V_iload (pc := 89) F dL_tells_89 5 rfl ?_
          refine V_iload (pc := 91) F dL_tells_91 6 rfl ?_
          refine V_ishr (pc := 93) F dL_tells_93 ?_
          refine V_iconst (v := 1) (pc := 94) F dL_tells_94 (by decide) ?_
          refine V_iand (pc := 95) F dL_tells_95 ?_
          refine V_icmp_ne (pc := 96) (tgt := 174) F dL_tells_96 (by decide) (fun h15 => ?_) (fun h15 => ?_)
          · replace hf := ite_neg hf h15
            refine V_iconst (v := 0) (pc := 174) F dL_tells_174 (by decide) ?_
            refine V_istore (L2 := [(8, .int 0), (0, .ref (a 0)), (1, .ref (a1 0)), (2, .ref (a2 0)), (3, .ref (a3 0)), (4, .int (z4 ||| (if (v2 z6.toNatClampNeg) < 0 then (0 : Int32) else ((1 : Int32) <<< (z6 &&& 31))))), (5, .int z5), (6, .int z6), (7, .int u11.2)]) (pc := 175) F dL_tells_175 (by decide) rfl ?_
            refine V_iload (pc := 177) F dL_tells_177 0 rfl ?_
            refine V_if_ne (pc := 179) (tgt := 184) F dL_tells_179 (by decide) (fun h16 => ?_) (fun h16 => ?_)
            · exact absurd h16 (show ¬ (¬ (0 : Int32) = (0 : Int32)) by decide)
            · refine V_iconst (v := 0) (pc := 182) F dL_tells_182 (by decide) ?_
              obtain rfl := hr _ (some_of hf).symm
              exact V_ret F rfl rfl dL_tells_183 rfl rfl
          · replace hf := ite_pos hf h15
            refine V_aload_n (pc := 99) F dL_tells_99 rfl 0 rfl ?_
            refine V_iload (pc := 100) F dL_tells_100 6 rfl ?_
            refine V_iconst (v := 1) (pc := 102) F dL_tells_102 (by decide) ?_
            obtain ⟨r17, g18, hf⟩ := bind_of hf
            refine V_V (w2 := wQ18 cy a2 v2 ++ (wQ8 cy a3 v3 ++ (wQ5 cy a1 v1 ++ (wX7 cy a u11.1)))) (rest := []) (st2 := [.int r17]) (pc := 103) F 7 (M_X7_direction l D cy N a u11.1 z6 1 r17 (rt_of g18)) (cwV 2 F.ts gL_tells_X7_direction rfl rfl rfl hd_X7_direction ⟨Nat.le_of_ble_eq_true rfl, Nat.le_of_ble_eq_true rfl⟩) rfl dL_tells_103 (Fit.right (Fit.right (Fit.right Fit.whole))) rfl rfl rfl (Nat.le_of_ble_eq_true rfl) (Nat.zero_le _) (Nat.zero_le _) rfl rfl rfl ?_
            refine V_aload_n (pc := 106) F dL_tells_106 rfl 2 rfl ?_
            refine V_iload (pc := 107) F dL_tells_107 6 rfl ?_
            obtain ⟨c19, hf⟩ := chk_some hf
            refine V_iald (pc := 109) F 0 rfl c19 dL_tells_109 ?_
            refine V_if_ge (pc := 110) (tgt := 117) F dL_tells_110 (by decide) (fun h20 => ?_) (fun h20 => ?_)
            · replace hf := ite_pos hf h20
              refine V_aload_n (pc := 117) F dL_tells_117 rfl 2 rfl ?_
              refine V_iload (pc := 118) F dL_tells_118 6 rfl ?_
              obtain ⟨c21, hf⟩ := chk_some hf
              refine V_iald (pc := 120) F 0 rfl c21 dL_tells_120 ?_
              refine V_icmp_ne (pc := 121) (tgt := 174) F dL_tells_121 (by decide) (fun h22 => ?_) (fun h22 => ?_)
              · replace hf := ite_neg hf h22
                refine V_iconst (v := 0) (pc := 174) F dL_tells_174 (by decide) ?_
                refine V_istore (L2 := [(8, .int 0), (0, .ref (a 0)), (1, .ref (a1 0)), (2, .ref (a2 0)), (3, .ref (a3 0)), (4, .int (z4 ||| (if (v2 z6.toNatClampNeg) < 0 then (0 : Int32) else ((1 : Int32) <<< (z6 &&& 31))))), (5, .int z5), (6, .int z6), (7, .int u11.2)]) (pc := 175) F dL_tells_175 (by decide) rfl ?_
                refine V_iload (pc := 177) F dL_tells_177 0 rfl ?_
                refine V_if_ne (pc := 179) (tgt := 184) F dL_tells_179 (by decide) (fun h23 => ?_) (fun h23 => ?_)
                · exact absurd h23 (show ¬ (¬ (0 : Int32) = (0 : Int32)) by decide)
                · refine V_iconst (v := 0) (pc := 182) F dL_tells_182 (by decide) ?_
                  obtain rfl := hr _ (some_of hf).symm
                  exact V_ret F rfl rfl dL_tells_183 rfl rfl
              · replace hf := ite_pos hf h22
                refine V_aload_n (pc := 124) F dL_tells_124 rfl 0 rfl ?_
                refine V_iload (pc := 125) F dL_tells_125 6 rfl ?_
                refine V_iconst (v := 3) (pc := 127) F dL_tells_127 (by decide) ?_
                obtain ⟨r24, g25, hf⟩ := bind_of hf
                refine V_V (w2 := wQ18 cy a2 v2 ++ (wQ8 cy a3 v3 ++ (wQ5 cy a1 v1 ++ (wX7 cy a u11.1)))) (rest := []) (st2 := [.int r24]) (pc := 128) F 7 (M_X7_direction l D cy N a u11.1 z6 3 r24 (rt_of g25)) (cwV 2 F.ts gL_tells_X7_direction rfl rfl rfl hd_X7_direction ⟨Nat.le_of_ble_eq_true rfl, Nat.le_of_ble_eq_true rfl⟩) rfl dL_tells_128 (Fit.right (Fit.right (Fit.right Fit.whole))) rfl rfl rfl (Nat.le_of_ble_eq_true rfl) (Nat.zero_le _) (Nat.zero_le _) rfl rfl rfl ?_
                refine V_aload_n (pc := 131) F dL_tells_131 rfl 2 rfl ?_
                refine V_bipush (v := 6) (pc := 132) F dL_tells_132 (by decide) ?_
                refine V_iload (pc := 134) F dL_tells_134 6 rfl ?_
                refine V_iadd (pc := 136) F dL_tells_136 ?_
                obtain ⟨c26, hf⟩ := chk_some hf
                refine V_iald (pc := 137) F 0 rfl c26 dL_tells_137 ?_
                refine V_icmp_ne (pc := 138) (tgt := 174) F dL_tells_138 (by decide) (fun h27 => ?_) (fun h27 => ?_)
                · replace hf := ite_neg hf h27
                  refine V_iconst (v := 0) (pc := 174) F dL_tells_174 (by decide) ?_
                  refine V_istore (L2 := [(8, .int 0), (0, .ref (a 0)), (1, .ref (a1 0)), (2, .ref (a2 0)), (3, .ref (a3 0)), (4, .int (z4 ||| (if (v2 z6.toNatClampNeg) < 0 then (0 : Int32) else ((1 : Int32) <<< (z6 &&& 31))))), (5, .int z5), (6, .int z6), (7, .int u11.2)]) (pc := 175) F dL_tells_175 (by decide) rfl ?_
                  refine V_iload (pc := 177) F dL_tells_177 0 rfl ?_
                  refine V_if_ne (pc := 179) (tgt := 184) F dL_tells_179 (by decide) (fun h28 => ?_) (fun h28 => ?_)
                  · exact absurd h28 (show ¬ (¬ (0 : Int32) = (0 : Int32)) by decide)
                  · refine V_iconst (v := 0) (pc := 182) F dL_tells_182 (by decide) ?_
                    obtain rfl := hr _ (some_of hf).symm
                    exact V_ret F rfl rfl dL_tells_183 rfl rfl
                · replace hf := ite_pos hf h27
                  refine V_aload_n (pc := 141) F dL_tells_141 rfl 0 rfl ?_
                  refine V_iload (pc := 142) F dL_tells_142 6 rfl ?_
                  refine V_iconst (v := 4) (pc := 144) F dL_tells_144 (by decide) ?_
                  obtain ⟨r29, g30, hf⟩ := bind_of hf
                  refine V_V (w2 := wQ18 cy a2 v2 ++ (wQ8 cy a3 v3 ++ (wQ5 cy a1 v1 ++ (wX7 cy a u11.1)))) (rest := []) (st2 := [.int r29]) (pc := 145) F 7 (M_X7_direction l D cy N a u11.1 z6 4 r29 (rt_of g30)) (cwV 2 F.ts gL_tells_X7_direction rfl rfl rfl hd_X7_direction ⟨Nat.le_of_ble_eq_true rfl, Nat.le_of_ble_eq_true rfl⟩) rfl dL_tells_145 (Fit.right (Fit.right (Fit.right Fit.whole))) rfl rfl rfl (Nat.le_of_ble_eq_true rfl) (Nat.zero_le _) (Nat.zero_le _) rfl rfl rfl ?_
                  refine V_aload_n (pc := 148) F dL_tells_148 rfl 2 rfl ?_
                  refine V_bipush (v := 12) (pc := 149) F dL_tells_149 (by decide) ?_
                  refine V_iload (pc := 151) F dL_tells_151 6 rfl ?_
                  refine V_iadd (pc := 153) F dL_tells_153 ?_
                  obtain ⟨c31, hf⟩ := chk_some hf
                  refine V_iald (pc := 154) F 0 rfl c31 dL_tells_154 ?_
                  refine V_icmp_ne (pc := 155) (tgt := 174) F dL_tells_155 (by decide) (fun h32 => ?_) (fun h32 => ?_)
                  · replace hf := ite_neg hf h32
                    refine V_iconst (v := 0) (pc := 174) F dL_tells_174 (by decide) ?_
                    refine V_istore (L2 := [(8, .int 0), (0, .ref (a 0)), (1, .ref (a1 0)), (2, .ref (a2 0)), (3, .ref (a3 0)), (4, .int (z4 ||| (if (v2 z6.toNatClampNeg) < 0 then (0 : Int32) else ((1 : Int32) <<< (z6 &&& 31))))), (5, .int z5), (6, .int z6), (7, .int u11.2)]) (pc := 175) F dL_tells_175 (by decide) rfl ?_
                    refine V_iload (pc := 177) F dL_tells_177 0 rfl ?_
                    refine V_if_ne (pc := 179) (tgt := 184) F dL_tells_179 (by decide) (fun h33 => ?_) (fun h33 => ?_)
                    · exact absurd h33 (show ¬ (¬ (0 : Int32) = (0 : Int32)) by decide)
                    · refine V_iconst (v := 0) (pc := 182) F dL_tells_182 (by decide) ?_
                      obtain rfl := hr _ (some_of hf).symm
                      exact V_ret F rfl rfl dL_tells_183 rfl rfl
                  · replace hf := ite_pos hf h32
                    refine V_aload_n (pc := 158) F dL_tells_158 rfl 0 rfl ?_
                    refine V_iload (pc := 159) F dL_tells_159 6 rfl ?_
                    refine V_iconst (v := 5) (pc := 161) F dL_tells_161 (by decide) ?_
                    obtain ⟨r34, g35, hf⟩ := bind_of hf
                    refine V_V (w2 := wQ18 cy a2 v2 ++ (wQ8 cy a3 v3 ++ (wQ5 cy a1 v1 ++ (wX7 cy a u11.1)))) (rest := []) (st2 := [.int r34]) (pc := 162) F 7 (M_X7_direction l D cy N a u11.1 z6 5 r34 (rt_of g35)) (cwV 2 F.ts gL_tells_X7_direction rfl rfl rfl hd_X7_direction ⟨Nat.le_of_ble_eq_true rfl, Nat.le_of_ble_eq_true rfl⟩) rfl dL_tells_162 (Fit.right (Fit.right (Fit.right Fit.whole))) rfl rfl rfl (Nat.le_of_ble_eq_true rfl) (Nat.zero_le _) (Nat.zero_le _) rfl rfl rfl ?_
                    refine V_iload (pc := 165) F dL_tells_165 7 rfl ?_
                    refine V_icmp_ne (pc := 167) (tgt := 174) F dL_tells_167 (by decide) (fun h36 => ?_) (fun h36 => ?_)
                    · replace hf := ite_neg hf h36
                      refine V_iconst (v := 0) (pc := 174) F dL_tells_174 (by decide) ?_
                      refine V_istore (L2 := [(8, .int 0), (0, .ref (a 0)), (1, .ref (a1 0)), (2, .ref (a2 0)), (3, .ref (a3 0)), (4, .int (z4 ||| (if (v2 z6.toNatClampNeg) < 0 then (0 : Int32) else ((1 : Int32) <<< (z6 &&& 31))))), (5, .int z5), (6, .int z6), (7, .int u11.2)]) (pc := 175) F dL_tells_175 (by decide) rfl ?_
                      refine V_iload (pc := 177) F dL_tells_177 0 rfl ?_
                      refine V_if_ne (pc := 179) (tgt := 184) F dL_tells_179 (by decide) (fun h37 => ?_) (fun h37 => ?_)
                      · exact absurd h37 (show ¬ (¬ (0 : Int32) = (0 : Int32)) by decide)
                      · refine V_iconst (v := 0) (pc := 182) F dL_tells_182 (by decide) ?_
                        obtain rfl := hr _ (some_of hf).symm
                        exact V_ret F rfl rfl dL_tells_183 rfl rfl
                    · replace hf := ite_pos hf h36
                      refine V_iconst (v := 1) (pc := 170) F dL_tells_170 (by decide) ?_
                      refine V_goto (pc := 171) (tgt := 175) F dL_tells_171 (by decide) ?_
                      refine V_istore (L2 := [(8, .int 1), (0, .ref (a 0)), (1, .ref (a1 0)), (2, .ref (a2 0)), (3, .ref (a3 0)), (4, .int (z4 ||| (if (v2 z6.toNatClampNeg) < 0 then (0 : Int32) else ((1 : Int32) <<< (z6 &&& 31))))), (5, .int z5), (6, .int z6), (7, .int u11.2)]) (pc := 175) F dL_tells_175 (by decide) rfl ?_
                      refine V_iload (pc := 177) F dL_tells_177 0 rfl ?_
                      refine V_if_ne (pc := 179) (tgt := 184) F dL_tells_179 (by decide) (fun h38 => ?_) (fun h38 => ?_)
                      · refine V_iinc (v := (z6 + 1)) (L2 := [(6, .int (z6 + 1)), (8, .int 1), (0, .ref (a 0)), (1, .ref (a1 0)), (2, .ref (a2 0)), (3, .ref (a3 0)), (4, .int (z4 ||| (if (v2 z6.toNatClampNeg) < 0 then (0 : Int32) else ((1 : Int32) <<< (z6 &&& 31))))), (5, .int z5), (7, .int u11.2)]) (pc := 184) F dL_tells_184 7 rfl rfl (by decide) rfl ?_
                        refine V_goto (pc := 187) (tgt := 13) F dL_tells_187 (by decide) ?_
                        refine V.sub [2, 3, 4, 5, 6, 7, 0] rfl ?_
                        exact ih v1 v2 v3 z5 u11.1 (z4 ||| (if (v2 z6.toNatClampNeg) < 0 then (0 : Int32) else ((1 : Int32) <<< (z6 &&& 31)))) (z6 + 1) _ hf hr hk
                      · exact absurd h38 (show ¬ ((1 : Int32) = (0 : Int32)) by decide)
            · replace hf := ite_neg hf h20
              refine V_iconst (v := (-1)) (pc := 113) F dL_tells_113 (by decide) ?_
              refine V_goto (pc := 114) (tgt := 121) F dL_tells_114 (by decide) ?_
              refine V_icmp_ne (pc := 121) (tgt := 174) F dL_tells_121 (by decide) (fun h39 => ?_) (fun h39 => ?_)
              · replace hf := ite_neg hf h39
                refine V_iconst (v := 0) (pc := 174) F dL_tells_174 (by decide) ?_
                refine V_istore (L2 := [(8, .int 0), (0, .ref (a 0)), (1, .ref (a1 0)), (2, .ref (a2 0)), (3, .ref (a3 0)), (4, .int (z4 ||| (if (v2 z6.toNatClampNeg) < 0 then (0 : Int32) else ((1 : Int32) <<< (z6 &&& 31))))), (5, .int z5), (6, .int z6), (7, .int u11.2)]) (pc := 175) F dL_tells_175 (by decide) rfl ?_
                refine V_iload (pc := 177) F dL_tells_177 0 rfl ?_
                refine V_if_ne (pc := 179) (tgt := 184) F dL_tells_179 (by decide) (fun h40 => ?_) (fun h40 => ?_)
                · exact absurd h40 (show ¬ (¬ (0 : Int32) = (0 : Int32)) by decide)
                · refine V_iconst (v := 0) (pc := 182) F dL_tells_182 (by decide) ?_
                  obtain rfl := hr _ (some_of hf).symm
                  exact V_ret F rfl rfl dL_tells_183 rfl rfl
              · replace hf := ite_pos hf h39
                refine V_aload_n (pc := 124) F dL_tells_124 rfl 0 rfl ?_
                refine V_iload (pc := 125) F dL_tells_125 6 rfl ?_
                refine V_iconst (v := 3) (pc := 127) F dL_tells_127 (by decide) ?_
                obtain ⟨r41, g42, hf⟩ := bind_of hf
                refine V_V (w2 := wQ18 cy a2 v2 ++ (wQ8 cy a3 v3 ++ (wQ5 cy a1 v1 ++ (wX7 cy a u11.1)))) (rest := []) (st2 := [.int r41]) (pc := 128) F 7 (M_X7_direction l D cy N a u11.1 z6 3 r41 (rt_of g42)) (cwV 2 F.ts gL_tells_X7_direction rfl rfl rfl hd_X7_direction ⟨Nat.le_of_ble_eq_true rfl, Nat.le_of_ble_eq_true rfl⟩) rfl dL_tells_128 (Fit.right (Fit.right (Fit.right Fit.whole))) rfl rfl rfl (Nat.le_of_ble_eq_true rfl) (Nat.zero_le _) (Nat.zero_le _) rfl rfl rfl ?_
                refine V_aload_n (pc := 131) F dL_tells_131 rfl 2 rfl ?_
                refine V_bipush (v := 6) (pc := 132) F dL_tells_132 (by decide) ?_
                refine V_iload (pc := 134) F dL_tells_134 6 rfl ?_
                refine V_iadd (pc := 136) F dL_tells_136 ?_
                obtain ⟨c43, hf⟩ := chk_some hf
                refine V_iald (pc := 137) F 0 rfl c43 dL_tells_137 ?_
                refine V_icmp_ne (pc := 138) (tgt := 174) F dL_tells_138 (by decide) (fun h44 => ?_) (fun h44 => ?_)
                · replace hf := ite_neg hf h44
                  refine V_iconst (v := 0) (pc := 174) F dL_tells_174 (by decide) ?_
                  refine V_istore (L2 := [(8, .int 0), (0, .ref (a 0)), (1, .ref (a1 0)), (2, .ref (a2 0)), (3, .ref (a3 0)), (4, .int (z4 ||| (if (v2 z6.toNatClampNeg) < 0 then (0 : Int32) else ((1 : Int32) <<< (z6 &&& 31))))), (5, .int z5), (6, .int z6), (7, .int u11.2)]) (pc := 175) F dL_tells_175 (by decide) rfl ?_
                  refine V_iload (pc := 177) F dL_tells_177 0 rfl ?_
                  refine V_if_ne (pc := 179) (tgt := 184) F dL_tells_179 (by decide) (fun h45 => ?_) (fun h45 => ?_)
                  · exact absurd h45 (show ¬ (¬ (0 : Int32) = (0 : Int32)) by decide)
                  · refine V_iconst (v := 0) (pc := 182) F dL_tells_182 (by decide) ?_
                    obtain rfl := hr _ (some_of hf).symm
                    exact V_ret F rfl rfl dL_tells_183 rfl rfl
                · replace hf := ite_pos hf h44
                  refine V_aload_n (pc := 141) F dL_tells_141 rfl 0 rfl ?_
                  refine V_iload (pc := 142) F dL_tells_142 6 rfl ?_
                  refine V_iconst (v := 4) (pc := 144) F dL_tells_144 (by decide) ?_
                  obtain ⟨r46, g47, hf⟩ := bind_of hf
                  refine V_V (w2 := wQ18 cy a2 v2 ++ (wQ8 cy a3 v3 ++ (wQ5 cy a1 v1 ++ (wX7 cy a u11.1)))) (rest := []) (st2 := [.int r46]) (pc := 145) F 7 (M_X7_direction l D cy N a u11.1 z6 4 r46 (rt_of g47)) (cwV 2 F.ts gL_tells_X7_direction rfl rfl rfl hd_X7_direction ⟨Nat.le_of_ble_eq_true rfl, Nat.le_of_ble_eq_true rfl⟩) rfl dL_tells_145 (Fit.right (Fit.right (Fit.right Fit.whole))) rfl rfl rfl (Nat.le_of_ble_eq_true rfl) (Nat.zero_le _) (Nat.zero_le _) rfl rfl rfl ?_
                  refine V_aload_n (pc := 148) F dL_tells_148 rfl 2 rfl ?_
                  refine V_bipush (v := 12) (pc := 149) F dL_tells_149 (by decide) ?_
                  refine V_iload (pc := 151) F dL_tells_151 6 rfl ?_
                  refine V_iadd (pc := 153) F dL_tells_153 ?_
                  obtain ⟨c48, hf⟩ := chk_some hf
                  refine V_iald (pc := 154) F 0 rfl c48 dL_tells_154 ?_
                  refine V_icmp_ne (pc := 155) (tgt := 174) F dL_tells_155 (by decide) (fun h49 => ?_) (fun h49 => ?_)
                  · replace hf := ite_neg hf h49
                    refine V_iconst (v := 0) (pc := 174) F dL_tells_174 (by decide) ?_
                    refine V_istore (L2 := [(8, .int 0), (0, .ref (a 0)), (1, .ref (a1 0)), (2, .ref (a2 0)), (3, .ref (a3 0)), (4, .int (z4 ||| (if (v2 z6.toNatClampNeg) < 0 then (0 : Int32) else ((1 : Int32) <<< (z6 &&& 31))))), (5, .int z5), (6, .int z6), (7, .int u11.2)]) (pc := 175) F dL_tells_175 (by decide) rfl ?_
                    refine V_iload (pc := 177) F dL_tells_177 0 rfl ?_
                    refine V_if_ne (pc := 179) (tgt := 184) F dL_tells_179 (by decide) (fun h50 => ?_) (fun h50 => ?_)
                    · exact absurd h50 (show ¬ (¬ (0 : Int32) = (0 : Int32)) by decide)
                    · refine V_iconst (v := 0) (pc := 182) F dL_tells_182 (by decide) ?_
                      obtain rfl := hr _ (some_of hf).symm
                      exact V_ret F rfl rfl dL_tells_183 rfl rfl
                  · replace hf := ite_pos hf h49
                    refine V_aload_n (pc := 158) F dL_tells_158 rfl 0 rfl ?_
                    refine V_iload (pc := 159) F dL_tells_159 6 rfl ?_
                    refine V_iconst (v := 5) (pc := 161) F dL_tells_161 (by decide) ?_
                    obtain ⟨r51, g52, hf⟩ := bind_of hf
                    refine V_V (w2 := wQ18 cy a2 v2 ++ (wQ8 cy a3 v3 ++ (wQ5 cy a1 v1 ++ (wX7 cy a u11.1)))) (rest := []) (st2 := [.int r51]) (pc := 162) F 7 (M_X7_direction l D cy N a u11.1 z6 5 r51 (rt_of g52)) (cwV 2 F.ts gL_tells_X7_direction rfl rfl rfl hd_X7_direction ⟨Nat.le_of_ble_eq_true rfl, Nat.le_of_ble_eq_true rfl⟩) rfl dL_tells_162 (Fit.right (Fit.right (Fit.right Fit.whole))) rfl rfl rfl (Nat.le_of_ble_eq_true rfl) (Nat.zero_le _) (Nat.zero_le _) rfl rfl rfl ?_
                    refine V_iload (pc := 165) F dL_tells_165 7 rfl ?_
                    refine V_icmp_ne (pc := 167) (tgt := 174) F dL_tells_167 (by decide) (fun h53 => ?_) (fun h53 => ?_)
                    · replace hf := ite_neg hf h53
                      refine V_iconst (v := 0) (pc := 174) F dL_tells_174 (by decide) ?_
                      refine V_istore (L2 := [(8, .int 0), (0, .ref (a 0)), (1, .ref (a1 0)), (2, .ref (a2 0)), (3, .ref (a3 0)), (4, .int (z4 ||| (if (v2 z6.toNatClampNeg) < 0 then (0 : Int32) else ((1 : Int32) <<< (z6 &&& 31))))), (5, .int z5), (6, .int z6), (7, .int u11.2)]) (pc := 175) F dL_tells_175 (by decide) rfl ?_
                      refine V_iload (pc := 177) F dL_tells_177 0 rfl ?_
                      refine V_if_ne (pc := 179) (tgt := 184) F dL_tells_179 (by decide) (fun h54 => ?_) (fun h54 => ?_)
                      · exact absurd h54 (show ¬ (¬ (0 : Int32) = (0 : Int32)) by decide)
                      · refine V_iconst (v := 0) (pc := 182) F dL_tells_182 (by decide) ?_
                        obtain rfl := hr _ (some_of hf).symm
                        exact V_ret F rfl rfl dL_tells_183 rfl rfl
                    · replace hf := ite_pos hf h53
                      refine V_iconst (v := 1) (pc := 170) F dL_tells_170 (by decide) ?_
                      refine V_goto (pc := 171) (tgt := 175) F dL_tells_171 (by decide) ?_
                      refine V_istore (L2 := [(8, .int 1), (0, .ref (a 0)), (1, .ref (a1 0)), (2, .ref (a2 0)), (3, .ref (a3 0)), (4, .int (z4 ||| (if (v2 z6.toNatClampNeg) < 0 then (0 : Int32) else ((1 : Int32) <<< (z6 &&& 31))))), (5, .int z5), (6, .int z6), (7, .int u11.2)]) (pc := 175) F dL_tells_175 (by decide) rfl ?_
                      refine V_iload (pc := 177) F dL_tells_177 0 rfl ?_
                      refine V_if_ne (pc := 179) (tgt := 184) F dL_tells_179 (by decide) (fun h55 => ?_) (fun h55 => ?_)
                      · refine V_iinc (v := (z6 + 1)) (L2 := [(6, .int (z6 + 1)), (8, .int 1), (0, .ref (a 0)), (1, .ref (a1 0)), (2, .ref (a2 0)), (3, .ref (a3 0)), (4, .int (z4 ||| (if (v2 z6.toNatClampNeg) < 0 then (0 : Int32) else ((1 : Int32) <<< (z6 &&& 31))))), (5, .int z5), (7, .int u11.2)]) (pc := 184) F dL_tells_184 7 rfl rfl (by decide) rfl ?_
                        refine V_goto (pc := 187) (tgt := 13) F dL_tells_187 (by decide) ?_
                        refine V.sub [2, 3, 4, 5, 6, 7, 0] rfl ?_
                        exact ih v1 v2 v3 z5 u11.1 (z4 ||| (if (v2 z6.toNatClampNeg) < 0 then (0 : Int32) else ((1 : Int32) <<< (z6 &&& 31)))) (z6 + 1) _ hf hr hk
                      · exact absurd h55 (show ¬ ((1 : Int32) = (0 : Int32)) by decide)
        refine V_if_lt (pc := 26) (tgt := 36) F dL_tells_26 (by decide) (fun h5 => ?_) (fun h5 => ?_)
        · refine V_iconst (v := 0) (pc := 36) F dL_tells_36 (by decide) ?_
          exact V.eq rfl rfl (by rw [if_pos h5]) J56
        · refine V_iconst (v := 1) (pc := 29) F dL_tells_29 (by decide) ?_
          refine V_iload (pc := 30) F dL_tells_30 6 rfl ?_
          refine V_ishl (pc := 32) F dL_tells_32 ?_
          refine V_goto (pc := 33) (tgt := 37) F dL_tells_33 (by decide) ?_
          exact V.eq rfl rfl (by rw [if_neg h5]) J56
  have K227 : ∀ (n : Nat) (v1 : SQ5) (v2 : SQ18) (v3 : SQ8) (z4 : Int32) (z5 : Int32) (z6 : Int32) (v : SX7) (z7 : Int32) (z8 : Int32) (u : SX7 × Int32), fL_tells_L227 N v1 v2 v3 z4 z5 z6 n v z7 z8 = some u → V p l e (rmz 6 140) s m args below meth c 9 D A 0 0 (MQ below (ok_Q D (wQ18 cy a2 v2 ++ (wQ8 cy a3 v3 ++ (wQ5 cy a1 v1 ++ (wX7 cy a o.2)))) (some (.int o.1)) A) args s 0 0 A) (wQ18 cy a2 v2 ++ (wQ8 cy a3 v3 ++ (wQ5 cy a1 v1 ++ (wX7 cy a u.1)))) [(0, .ref (a 0)), (1, .ref (a1 0)), (3, .ref (a3 0)), (4, .int z4), (5, .int z5), (6, .int z6), (7, .int u.2)] [] 301 → V p l e (rmz 6 140) s m args below meth c 9 D A 0 0 (MQ below (ok_Q D (wQ18 cy a2 v2 ++ (wQ8 cy a3 v3 ++ (wQ5 cy a1 v1 ++ (wX7 cy a o.2)))) (some (.int o.1)) A) args s 0 0 A) (wQ18 cy a2 v2 ++ (wQ8 cy a3 v3 ++ (wQ5 cy a1 v1 ++ (wX7 cy a v)))) [(0, .ref (a 0)), (1, .ref (a1 0)), (3, .ref (a3 0)), (4, .int z4), (5, .int z5), (6, .int z6), (7, .int z7), (8, .int z8)] [] 227 := by
    intro n
    induction n with
    | zero =>
      intro v1 v2 v3 z4 z5 z6 v z7 z8 u hf hk
      exact nomatch (show (none : Option (SX7 × Int32)) = some u from hf)
    | succ n ih =>
      intro v1 v2 v3 z4 z5 z6 v z7 z8 u hf hk
      rw [fL_tells_L227] at hf
      refine V_iload (pc := 227) F dL_tells_227 7 rfl ?_
      refine V_aload_n (pc := 229) F dL_tells_229 rfl 0 rfl ?_
      refine V_iload (pc := 230) F dL_tells_230 5 rfl ?_
      refine V_iconst (v := 2) (pc := 232) F dL_tells_232 (by decide) ?_
      obtain ⟨r68, g69, hf⟩ := bind_of hf
      refine V_V (w2 := wQ18 cy a2 v2 ++ (wQ8 cy a3 v3 ++ (wQ5 cy a1 v1 ++ (wX7 cy a r68.2)))) (rest := [.int z8]) (st2 := [.int r68.1, .int z8]) (pc := 233) F 7 (M_X7_phase l D cy N a v z6 2 r68 (rt_of g69)) (cwV 2 F.ts gL_tells_X7_phase rfl rfl rfl hd_X7_phase ⟨Nat.le_of_ble_eq_true rfl, Nat.le_of_ble_eq_true rfl⟩) rfl dL_tells_233 (Fit.right (Fit.right (Fit.right Fit.whole))) fstX7 rfl rfl (Nat.le_of_ble_eq_true rfl) (Nat.zero_le _) (Nat.zero_le _) rfl rfl rfl ?_
      refine V_icmp_ge (pc := 236) (tgt := 301) F dL_tells_236 (by decide) (fun h70 => ?_) (fun h70 => ?_)
      · replace hf := ite_pos hf h70
        obtain rfl := some_of hf
        exact V.sub [0, 1, 2, 3, 4, 5, 6] rfl hk
      · replace hf := ite_neg hf h70
        refine V_iload (pc := 239) F dL_tells_239 6 rfl ?_
        refine V_if_eq (pc := 241) (tgt := 292) F dL_tells_241 (by decide) (fun h71 => ?_) (fun h71 => ?_)
        · replace hf := ite_pos hf h71
          refine V_iconst (v := 0) (pc := 292) F dL_tells_292 (by decide) ?_
          refine V_istore (L2 := [(7, .int 0), (0, .ref (a 0)), (1, .ref (a1 0)), (3, .ref (a3 0)), (4, .int z4), (5, .int z5), (6, .int z6), (8, .int z8)]) (pc := 293) F dL_tells_293 (by decide) rfl ?_
          refine V_iinc (v := (z8 + 1)) (L2 := [(8, .int (z8 + 1)), (7, .int 0), (0, .ref (a 0)), (1, .ref (a1 0)), (3, .ref (a3 0)), (4, .int z4), (5, .int z5), (6, .int z6)]) (pc := 295) F dL_tells_295 7 rfl rfl (by decide) rfl ?_
          refine V_goto (pc := 298) (tgt := 227) F dL_tells_298 (by decide) ?_
          refine V.sub [2, 3, 4, 5, 6, 7, 1, 0] rfl ?_
          exact ih v1 v2 v3 z4 z5 z6 r68.2 0 (z8 + 1) _ hf hk
        · replace hf := ite_neg hf h71
          refine V_aload_n (pc := 244) F dL_tells_244 rfl 0 rfl ?_
          refine V_iload (pc := 245) F dL_tells_245 5 rfl ?_
          refine V_iload (pc := 247) F dL_tells_247 7 rfl ?_
          refine V_iconst (v := 2) (pc := 249) F dL_tells_249 (by decide) ?_
          obtain ⟨r72, g73, hf⟩ := bind_of hf
          refine V_V (w2 := wQ18 cy a2 v2 ++ (wQ8 cy a3 v3 ++ (wQ5 cy a1 v1 ++ (wX7 cy a r68.2)))) (rest := []) (st2 := [.int r72]) (pc := 250) F 7 (M_X7_rule l D cy N a r68.2 z6 z8 2 r72 (rt_of g73)) (cwV 3 F.ts gL_tells_X7_rule rfl rfl rfl hd_X7_rule ⟨Nat.le_of_ble_eq_true rfl, Nat.le_of_ble_eq_true rfl⟩) rfl dL_tells_250 (Fit.right (Fit.right (Fit.right Fit.whole))) rfl rfl rfl (Nat.le_of_ble_eq_true rfl) (Nat.zero_le _) (Nat.zero_le _) rfl rfl rfl ?_
          refine V_aload_n (pc := 253) F dL_tells_253 rfl 0 rfl ?_
          refine V_iload (pc := 254) F dL_tells_254 5 rfl ?_
          refine V_iload (pc := 256) F dL_tells_256 7 rfl ?_
          refine V_iconst (v := 1) (pc := 258) F dL_tells_258 (by decide) ?_
          obtain ⟨r74, g75, hf⟩ := bind_of hf
          refine V_V (w2 := wQ18 cy a2 v2 ++ (wQ8 cy a3 v3 ++ (wQ5 cy a1 v1 ++ (wX7 cy a r68.2)))) (rest := [.int r72]) (st2 := [.int r74, .int r72]) (pc := 259) F 7 (M_X7_rule l D cy N a r68.2 z6 z8 1 r74 (rt_of g75)) (cwV 3 F.ts gL_tells_X7_rule rfl rfl rfl hd_X7_rule ⟨Nat.le_of_ble_eq_true rfl, Nat.le_of_ble_eq_true rfl⟩) rfl dL_tells_259 (Fit.right (Fit.right (Fit.right Fit.whole))) rfl rfl rfl (Nat.le_of_ble_eq_true rfl) (Nat.zero_le _) (Nat.zero_le _) rfl rfl rfl ?_
          refine V_if_eq (pc := 262) (tgt := 280) F dL_tells_262 (by decide) (fun h76 => ?_) (fun h76 => ?_)
          · replace hf := ite_pos hf h76
            refine V_iconst (v := 1) (pc := 280) F dL_tells_280 (by decide) ?_
            refine V_goto (pc := 281) (tgt := 285) F dL_tells_281 (by decide) ?_
            refine V_icmp_ne (pc := 285) (tgt := 292) F dL_tells_285 (by decide) (fun h77 => ?_) (fun h77 => ?_)
            · replace hf := ite_neg hf h77
              refine V_iconst (v := 0) (pc := 292) F dL_tells_292 (by decide) ?_
              refine V_istore (L2 := [(7, .int 0), (0, .ref (a 0)), (1, .ref (a1 0)), (3, .ref (a3 0)), (4, .int z4), (5, .int z5), (6, .int z6), (8, .int z8)]) (pc := 293) F dL_tells_293 (by decide) rfl ?_
              refine V_iinc (v := (z8 + 1)) (L2 := [(8, .int (z8 + 1)), (7, .int 0), (0, .ref (a 0)), (1, .ref (a1 0)), (3, .ref (a3 0)), (4, .int z4), (5, .int z5), (6, .int z6)]) (pc := 295) F dL_tells_295 7 rfl rfl (by decide) rfl ?_
              refine V_goto (pc := 298) (tgt := 227) F dL_tells_298 (by decide) ?_
              refine V.sub [2, 3, 4, 5, 6, 7, 1, 0] rfl ?_
              exact ih v1 v2 v3 z4 z5 z6 r68.2 0 (z8 + 1) _ hf hk
            · replace hf := ite_pos hf h77
              refine V_iconst (v := 1) (pc := 288) F dL_tells_288 (by decide) ?_
              refine V_goto (pc := 289) (tgt := 293) F dL_tells_289 (by decide) ?_
              refine V_istore (L2 := [(7, .int 1), (0, .ref (a 0)), (1, .ref (a1 0)), (3, .ref (a3 0)), (4, .int z4), (5, .int z5), (6, .int z6), (8, .int z8)]) (pc := 293) F dL_tells_293 (by decide) rfl ?_
              refine V_iinc (v := (z8 + 1)) (L2 := [(8, .int (z8 + 1)), (7, .int 1), (0, .ref (a 0)), (1, .ref (a1 0)), (3, .ref (a3 0)), (4, .int z4), (5, .int z5), (6, .int z6)]) (pc := 295) F dL_tells_295 7 rfl rfl (by decide) rfl ?_
              refine V_goto (pc := 298) (tgt := 227) F dL_tells_298 (by decide) ?_
              refine V.sub [2, 3, 4, 5, 6, 7, 1, 0] rfl ?_
              exact ih v1 v2 v3 z4 z5 z6 r68.2 1 (z8 + 1) _ hf hk
          · replace hf := ite_neg hf h76
            refine V_aload_n (pc := 265) F dL_tells_265 rfl 0 rfl ?_
            refine V_iload (pc := 266) F dL_tells_266 5 rfl ?_
            refine V_iload (pc := 268) F dL_tells_268 7 rfl ?_
            refine V_iconst (v := 1) (pc := 270) F dL_tells_270 (by decide) ?_
            obtain ⟨r78, g79, hf⟩ := bind_of hf
            refine V_V (w2 := wQ18 cy a2 v2 ++ (wQ8 cy a3 v3 ++ (wQ5 cy a1 v1 ++ (wX7 cy a r68.2)))) (rest := [.int r72]) (st2 := [.int r78, .int r72]) (pc := 271) F 7 (M_X7_rule l D cy N a r68.2 z6 z8 1 r78 (rt_of g79)) (cwV 3 F.ts gL_tells_X7_rule rfl rfl rfl hd_X7_rule ⟨Nat.le_of_ble_eq_true rfl, Nat.le_of_ble_eq_true rfl⟩) rfl dL_tells_271 (Fit.right (Fit.right (Fit.right Fit.whole))) rfl rfl rfl (Nat.le_of_ble_eq_true rfl) (Nat.zero_le _) (Nat.zero_le _) rfl rfl rfl ?_
            refine V_iload (pc := 274) F dL_tells_274 3 rfl ?_
            refine V_iand (pc := 276) F dL_tells_276 ?_
            refine V_if_eq (pc := 277) (tgt := 284) F dL_tells_277 (by decide) (fun h80 => ?_) (fun h80 => ?_)
            · replace hf := ite_pos hf h80
              refine V_iconst (v := 0) (pc := 284) F dL_tells_284 (by decide) ?_
              refine V_icmp_ne (pc := 285) (tgt := 292) F dL_tells_285 (by decide) (fun h81 => ?_) (fun h81 => ?_)
              · replace hf := ite_neg hf h81
                refine V_iconst (v := 0) (pc := 292) F dL_tells_292 (by decide) ?_
                refine V_istore (L2 := [(7, .int 0), (0, .ref (a 0)), (1, .ref (a1 0)), (3, .ref (a3 0)), (4, .int z4), (5, .int z5), (6, .int z6), (8, .int z8)]) (pc := 293) F dL_tells_293 (by decide) rfl ?_
                refine V_iinc (v := (z8 + 1)) (L2 := [(8, .int (z8 + 1)), (7, .int 0), (0, .ref (a 0)), (1, .ref (a1 0)), (3, .ref (a3 0)), (4, .int z4), (5, .int z5), (6, .int z6)]) (pc := 295) F dL_tells_295 7 rfl rfl (by decide) rfl ?_
                refine V_goto (pc := 298) (tgt := 227) F dL_tells_298 (by decide) ?_
                refine V.sub [2, 3, 4, 5, 6, 7, 1, 0] rfl ?_
                exact ih v1 v2 v3 z4 z5 z6 r68.2 0 (z8 + 1) _ hf hk
              · replace hf := ite_pos hf h81
                refine V_iconst (v := 1) (pc := 288) F dL_tells_288 (by decide) ?_
                refine V_goto (pc := 289) (tgt := 293) F dL_tells_289 (by decide) ?_
                refine V_istore (L2 := [(7, .int 1), (0, .ref (a 0)), (1, .ref (a1 0)), (3, .ref (a3 0)), (4, .int z4), (5, .int z5), (6, .int z6), (8, .int z8)]) (pc := 293) F dL_tells_293 (by decide) rfl ?_
                refine V_iinc (v := (z8 + 1)) (L2 := [(8, .int (z8 + 1)), (7, .int 1), (0, .ref (a 0)), (1, .ref (a1 0)), (3, .ref (a3 0)), (4, .int z4), (5, .int z5), (6, .int z6)]) (pc := 295) F dL_tells_295 7 rfl rfl (by decide) rfl ?_
                refine V_goto (pc := 298) (tgt := 227) F dL_tells_298 (by decide) ?_
                refine V.sub [2, 3, 4, 5, 6, 7, 1, 0] rfl ?_
                exact ih v1 v2 v3 z4 z5 z6 r68.2 1 (z8 + 1) _ hf hk
            · replace hf := ite_neg hf h80
              refine V_iconst (v := 1) (pc := 280) F dL_tells_280 (by decide) ?_
              refine V_goto (pc := 281) (tgt := 285) F dL_tells_281 (by decide) ?_
              refine V_icmp_ne (pc := 285) (tgt := 292) F dL_tells_285 (by decide) (fun h82 => ?_) (fun h82 => ?_)
              · replace hf := ite_neg hf h82
                refine V_iconst (v := 0) (pc := 292) F dL_tells_292 (by decide) ?_
                refine V_istore (L2 := [(7, .int 0), (0, .ref (a 0)), (1, .ref (a1 0)), (3, .ref (a3 0)), (4, .int z4), (5, .int z5), (6, .int z6), (8, .int z8)]) (pc := 293) F dL_tells_293 (by decide) rfl ?_
                refine V_iinc (v := (z8 + 1)) (L2 := [(8, .int (z8 + 1)), (7, .int 0), (0, .ref (a 0)), (1, .ref (a1 0)), (3, .ref (a3 0)), (4, .int z4), (5, .int z5), (6, .int z6)]) (pc := 295) F dL_tells_295 7 rfl rfl (by decide) rfl ?_
                refine V_goto (pc := 298) (tgt := 227) F dL_tells_298 (by decide) ?_
                refine V.sub [2, 3, 4, 5, 6, 7, 1, 0] rfl ?_
                exact ih v1 v2 v3 z4 z5 z6 r68.2 0 (z8 + 1) _ hf hk
              · replace hf := ite_pos hf h82
                refine V_iconst (v := 1) (pc := 288) F dL_tells_288 (by decide) ?_
                refine V_goto (pc := 289) (tgt := 293) F dL_tells_289 (by decide) ?_
                refine V_istore (L2 := [(7, .int 1), (0, .ref (a 0)), (1, .ref (a1 0)), (3, .ref (a3 0)), (4, .int z4), (5, .int z5), (6, .int z6), (8, .int z8)]) (pc := 293) F dL_tells_293 (by decide) rfl ?_
                refine V_iinc (v := (z8 + 1)) (L2 := [(8, .int (z8 + 1)), (7, .int 1), (0, .ref (a 0)), (1, .ref (a1 0)), (3, .ref (a3 0)), (4, .int z4), (5, .int z5), (6, .int z6)]) (pc := 295) F dL_tells_295 7 rfl rfl (by decide) rfl ?_
                refine V_goto (pc := 298) (tgt := 227) F dL_tells_298 (by decide) ?_
                refine V.sub [2, 3, 4, 5, 6, 7, 1, 0] rfl ?_
                exact ih v1 v2 v3 z4 z5 z6 r68.2 1 (z8 + 1) _ hf hk
  have K193 : ∀ (n : Nat) (v1 : SQ5) (v2 : SQ18) (v3 : SQ8) (z4 : Int32) (z5 : Int32) (v : SX7) (z6 : Int32) (u : (Int32 × SX7) ⊕ (SX7)), fL_tells_L193 N v1 v2 v3 z4 z5 n v z6 = some u → (∀ r, u = .inl r → r = o) → (∀ q, u = .inr q → V p l e (rmz 6 140) s m args below meth c 9 D A 0 0 (MQ below (ok_Q D (wQ18 cy a2 v2 ++ (wQ8 cy a3 v3 ++ (wQ5 cy a1 v1 ++ (wX7 cy a o.2)))) (some (.int o.1)) A) args s 0 0 A) (wQ18 cy a2 v2 ++ (wQ8 cy a3 v3 ++ (wQ5 cy a1 v1 ++ (wX7 cy a q)))) [(0, .ref (a 0)), (1, .ref (a1 0)), (4, .int z4), (5, .int z5)] [] 314) → V p l e (rmz 6 140) s m args below meth c 9 D A 0 0 (MQ below (ok_Q D (wQ18 cy a2 v2 ++ (wQ8 cy a3 v3 ++ (wQ5 cy a1 v1 ++ (wX7 cy a o.2)))) (some (.int o.1)) A) args s 0 0 A) (wQ18 cy a2 v2 ++ (wQ8 cy a3 v3 ++ (wQ5 cy a1 v1 ++ (wX7 cy a v)))) [(0, .ref (a 0)), (1, .ref (a1 0)), (3, .ref (a3 0)), (4, .int z4), (5, .int z5), (6, .int z6)] [] 193 := by
    intro n
    induction n with
    | zero =>
      intro v1 v2 v3 z4 z5 v z6 u hf hr hk
      exact nomatch (show (none : Option ((Int32 × SX7) ⊕ (SX7))) = some u from hf)
    | succ n ih =>
      intro v1 v2 v3 z4 z5 v z6 u hf hr hk
      rw [fL_tells_L193] at hf
      refine V_iload (pc := 193) F dL_tells_193 5 rfl ?_
      refine V_aload_n (pc := 195) F dL_tells_195 rfl 0 rfl ?_
      refine V_iconst (v := 0) (pc := 196) F dL_tells_196 (by decide) ?_
      obtain ⟨r61, g62, hf⟩ := bind_of hf
      refine V_V (w2 := wQ18 cy a2 v2 ++ (wQ8 cy a3 v3 ++ (wQ5 cy a1 v1 ++ (wX7 cy a r61.2)))) (rest := [.int z6]) (st2 := [.int r61.1, .int z6]) (pc := 197) F 7 (M_X7_count l D cy N a v 0 r61 (rt_of g62)) (cwV 1 F.ts gL_tells_X7_count rfl rfl rfl hd_X7_count ⟨Nat.le_of_ble_eq_true rfl, Nat.le_of_ble_eq_true rfl⟩) rfl dL_tells_197 (Fit.right (Fit.right (Fit.right Fit.whole))) fstX7 rfl rfl (Nat.le_of_ble_eq_true rfl) (Nat.zero_le _) (Nat.zero_le _) rfl rfl rfl ?_
      refine V_icmp_ge (pc := 200) (tgt := 314) F dL_tells_200 (by decide) (fun h63 => ?_) (fun h63 => ?_)
      · replace hf := ite_pos hf h63
        exact V.sub [0, 1, 3, 4] rfl (hk _ (some_of hf).symm)
      · replace hf := ite_neg hf h63
        refine V_aload_n (pc := 203) F dL_tells_203 rfl 0 rfl ?_
        refine V_iload (pc := 204) F dL_tells_204 5 rfl ?_
        refine V_iconst (v := 5) (pc := 206) F dL_tells_206 (by decide) ?_
        obtain ⟨r64, g65, hf⟩ := bind_of hf
        refine V_V (w2 := wQ18 cy a2 v2 ++ (wQ8 cy a3 v3 ++ (wQ5 cy a1 v1 ++ (wX7 cy a r64.2)))) (rest := []) (st2 := [.int r64.1]) (pc := 207) F 7 (M_X7_phase l D cy N a r61.2 z6 5 r64 (rt_of g65)) (cwV 2 F.ts gL_tells_X7_phase rfl rfl rfl hd_X7_phase ⟨Nat.le_of_ble_eq_true rfl, Nat.le_of_ble_eq_true rfl⟩) rfl dL_tells_207 (Fit.right (Fit.right (Fit.right Fit.whole))) fstX7 rfl rfl (Nat.le_of_ble_eq_true rfl) (Nat.zero_le _) (Nat.zero_le _) rfl rfl rfl ?_
        refine V_aload_n (pc := 210) F dL_tells_210 rfl 2 rfl ?_
        refine V_iload (pc := 211) F dL_tells_211 5 rfl ?_
        obtain ⟨c66, hf⟩ := chk_some hf
        refine V_iald (pc := 213) F 1 rfl c66 dL_tells_213 ?_
        have J86 : V p l e (rmz 6 140) s m args below meth c 9 D A 0 0 (MQ below (ok_Q D (wQ18 cy a2 v2 ++ (wQ8 cy a3 v3 ++ (wQ5 cy a1 v1 ++ (wX7 cy a o.2)))) (some (.int o.1)) A) args s 0 0 A) (wQ18 cy a2 v2 ++ (wQ8 cy a3 v3 ++ (wQ5 cy a1 v1 ++ (wX7 cy a r64.2)))) [(0, .ref (a 0)), (1, .ref (a1 0)), (3, .ref (a3 0)), (4, .int z4), (5, .int z5), (6, .int z6)] [.int (if r64.1 = (v3 z6.toNatClampNeg) then (1 : Int32) else (0 : Int32))] 222 := by
          refine V_istore (L2 := [(7, .int (if r64.1 = (v3 z6.toNatClampNeg) then (1 : Int32) else (0 : Int32))), (0, .ref (a 0)), (1, .ref (a1 0)), (3, .ref (a3 0)), (4, .int z4), (5, .int z5), (6, .int z6)]) (pc := 222) F dL_tells_222 (by decide) rfl ?_
          refine V_iconst (v := 0) (pc := 224) F dL_tells_224 (by decide) ?_
          refine V_istore (L2 := [(8, .int 0), (7, .int (if r64.1 = (v3 z6.toNatClampNeg) then (1 : Int32) else (0 : Int32))), (0, .ref (a 0)), (1, .ref (a1 0)), (3, .ref (a3 0)), (4, .int z4), (5, .int z5), (6, .int z6)]) (pc := 225) F dL_tells_225 (by decide) rfl ?_
          refine V.sub [2, 3, 4, 5, 6, 7, 1, 0] rfl ?_
          obtain ⟨u83, g84, hf⟩ := bind_of hf
          refine K227 N v1 v2 v3 z4 z5 z6 r64.2 (if r64.1 = (v3 z6.toNatClampNeg) then (1 : Int32) else (0 : Int32)) 0 u83 g84 ?_
          refine V_iload (pc := 301) F dL_tells_301 6 rfl ?_
          refine V_if_ne (pc := 303) (tgt := 308) F dL_tells_303 (by decide) (fun h85 => ?_) (fun h85 => ?_)
          · replace hf := ite_neg hf h85
            refine V_iinc (v := (z6 + 1)) (L2 := [(6, .int (z6 + 1)), (0, .ref (a 0)), (1, .ref (a1 0)), (3, .ref (a3 0)), (4, .int z4), (5, .int z5), (7, .int u83.2)]) (pc := 308) F dL_tells_308 5 rfl rfl (by decide) rfl ?_
            refine V_goto (pc := 311) (tgt := 193) F dL_tells_311 (by decide) ?_
            refine V.sub [1, 2, 3, 4, 5, 0] rfl ?_
            exact ih v1 v2 v3 z4 z5 u83.1 (z6 + 1) _ hf hr hk
          · replace hf := ite_pos hf h85
            refine V_iconst (v := 0) (pc := 306) F dL_tells_306 (by decide) ?_
            obtain rfl := hr _ (some_of hf).symm
            exact V_ret F rfl rfl dL_tells_307 rfl rfl
        refine V_icmp_ne (pc := 214) (tgt := 221) F dL_tells_214 (by decide) (fun h67 => ?_) (fun h67 => ?_)
        · refine V_iconst (v := 0) (pc := 221) F dL_tells_221 (by decide) ?_
          exact V.eq rfl rfl (by rw [if_neg h67]) J86
        · refine V_iconst (v := 1) (pc := 217) F dL_tells_217 (by decide) ?_
          refine V_goto (pc := 218) (tgt := 222) F dL_tells_218 (by decide) ?_
          exact V.eq rfl rfl (by rw [if_pos h67]) J86
  unfold fL_tells at hf
  refine V.eq rfl (show lv_args 0 [.ref (a 0), .ref (a1 0), .ref (a2 0), .ref (a3 0)] = [(0, .ref (a 0)), (1, .ref (a1 0)), (2, .ref (a2 0)), (3, .ref (a3 0))] from rfl) rfl ?_
  refine V_iconst (v := 0) (pc := 0) F dL_tells_0 (by decide) ?_
  refine V_istore (L2 := [(4, .int 0), (0, .ref (a 0)), (1, .ref (a1 0)), (2, .ref (a2 0)), (3, .ref (a3 0))]) (pc := 1) F dL_tells_1 (by decide) rfl ?_
  refine V_aload_n (pc := 3) F dL_tells_3 rfl 1 rfl ?_
  refine V_aload_n (pc := 4) F dL_tells_4 rfl 2 rfl ?_
  obtain ⟨r1, g2, hf⟩ := bind_of hf
  refine V_SM (w2 := wQ18 cy a2 v2 ++ (wQ8 cy a3 v3 ++ (wQ5 cy a1 v1 ++ (wX7 cy a r1.2)))) (rest := []) (st2 := [.int r1.1]) (pc := 5) F (M_L_greens l D cy N a a1 v v1 r1 g2) (va_cwS 2 F.ts gL_tells_L_greens rfl rfl rfl hd_L_greens ⟨Nat.le_of_ble_eq_true rfl, Nat.le_of_ble_eq_true rfl⟩) rfl dL_tells_5 (Fit.right (Fit.right Fit.whole)) (fst_app rfl fstX7) (Nat.le_of_ble_eq_true rfl) (Nat.zero_le _) (Nat.zero_le _) rfl rfl rfl ?_
  refine V_istore (L2 := [(5, .int r1.1), (4, .int 0), (0, .ref (a 0)), (1, .ref (a1 0)), (2, .ref (a2 0)), (3, .ref (a3 0))]) (pc := 8) F dL_tells_8 (by decide) rfl ?_
  refine V_iconst (v := 0) (pc := 10) F dL_tells_10 (by decide) ?_
  refine V_istore (L2 := [(6, .int 0), (5, .int r1.1), (4, .int 0), (0, .ref (a 0)), (1, .ref (a1 0)), (2, .ref (a2 0)), (3, .ref (a3 0))]) (pc := 11) F dL_tells_11 (by decide) rfl ?_
  refine V.sub [3, 4, 5, 6, 2, 1, 0] rfl ?_
  obtain ⟨u57, g58, hf⟩ := bind_of hf
  refine K13 N v1 v2 v3 r1.1 r1.2 0 0 u57 g58 (fun r h60 => ?_) (fun q59 h60 => ?_)
  · subst h60
    replace hf := onS_inl hf
    exact some_of hf
  · subst h60
    replace hf := onS_inr hf
    refine V_iconst (v := 0) (pc := 190) F dL_tells_190 (by decide) ?_
    refine V_istore (L2 := [(6, .int 0), (0, .ref (a 0)), (1, .ref (a1 0)), (3, .ref (a3 0)), (4, .int q59.2), (5, .int r1.1)]) (pc := 191) F dL_tells_191 (by decide) rfl ?_
    refine V.sub [1, 2, 3, 4, 5, 0] rfl ?_
    obtain ⟨u87, g88, hf⟩ := bind_of hf
    refine K193 N v1 v2 v3 q59.2 r1.1 q59.1 0 u87 g88 (fun r h90 => ?_) (fun q89 h90 => ?_)
    · subst h90
      replace hf := onS_inl hf
      exact some_of hf
    · subst h90
      replace hf := onS_inr hf
      refine V_aload_n (pc := 314) F dL_tells_314 rfl 0 rfl ?_
      refine V_iconst (v := 1) (pc := 315) F dL_tells_315 (by decide) ?_
      obtain ⟨r91, g92, hf⟩ := bind_of hf
      refine V_V (w2 := wQ18 cy a2 v2 ++ (wQ8 cy a3 v3 ++ (wQ5 cy a1 v1 ++ (wX7 cy a r91.2)))) (rest := []) (st2 := [.int r91.1]) (pc := 316) F 7 (M_X7_count l D cy N a q89 1 r91 (rt_of g92)) (cwV 1 F.ts gL_tells_X7_count rfl rfl rfl hd_X7_count ⟨Nat.le_of_ble_eq_true rfl, Nat.le_of_ble_eq_true rfl⟩) rfl dL_tells_316 (Fit.right (Fit.right (Fit.right Fit.whole))) fstX7 rfl rfl (Nat.le_of_ble_eq_true rfl) (Nat.zero_le _) (Nat.zero_le _) rfl rfl rfl ?_
      refine V_aload_n (pc := 319) F dL_tells_319 rfl 1 rfl ?_
      refine V_iconst (v := 0) (pc := 320) F dL_tells_320 (by decide) ?_
      obtain ⟨c93, hf⟩ := chk_some hf
      refine V_iald (pc := 321) F 2 rfl c93 dL_tells_321 ?_
      refine V_icmp_ne (pc := 322) (tgt := 393) F dL_tells_322 (by decide) (fun h94 => ?_) (fun h94 => ?_)
      · replace hf := ite_neg hf h94
        refine V_iconst (v := 0) (pc := 393) F dL_tells_393 (by decide) ?_
        obtain rfl := some_of hf
        exact V_ret F rfl rfl dL_tells_394 rfl rfl
      · replace hf := ite_pos hf h94
        refine V_aload_n (pc := 325) F dL_tells_325 rfl 0 rfl ?_
        refine V_iconst (v := 2) (pc := 326) F dL_tells_326 (by decide) ?_
        obtain ⟨r95, g96, hf⟩ := bind_of hf
        refine V_V (w2 := wQ18 cy a2 v2 ++ (wQ8 cy a3 v3 ++ (wQ5 cy a1 v1 ++ (wX7 cy a r95.2)))) (rest := []) (st2 := [.int r95.1]) (pc := 327) F 7 (M_X7_count l D cy N a r91.2 2 r95 (rt_of g96)) (cwV 1 F.ts gL_tells_X7_count rfl rfl rfl hd_X7_count ⟨Nat.le_of_ble_eq_true rfl, Nat.le_of_ble_eq_true rfl⟩) rfl dL_tells_327 (Fit.right (Fit.right (Fit.right Fit.whole))) fstX7 rfl rfl (Nat.le_of_ble_eq_true rfl) (Nat.zero_le _) (Nat.zero_le _) rfl rfl rfl ?_
        refine V_aload_n (pc := 330) F dL_tells_330 rfl 1 rfl ?_
        refine V_iconst (v := 2) (pc := 331) F dL_tells_331 (by decide) ?_
        obtain ⟨c97, hf⟩ := chk_some hf
        refine V_iald (pc := 332) F 2 rfl c97 dL_tells_332 ?_
        refine V_if_le (pc := 333) (tgt := 340) F dL_tells_333 (by decide) (fun h98 => ?_) (fun h98 => ?_)
        · replace hf := ite_pos hf h98
          refine V_aload_n (pc := 340) F dL_tells_340 rfl 1 rfl ?_
          refine V_iconst (v := 1) (pc := 341) F dL_tells_341 (by decide) ?_
          obtain ⟨c99, hf⟩ := chk_some hf
          refine V_iald (pc := 342) F 2 rfl c99 dL_tells_342 ?_
          refine V_icmp_ne (pc := 343) (tgt := 393) F dL_tells_343 (by decide) (fun h100 => ?_) (fun h100 => ?_)
          · replace hf := ite_neg hf h100
            refine V_iconst (v := 0) (pc := 393) F dL_tells_393 (by decide) ?_
            obtain rfl := some_of hf
            exact V_ret F rfl rfl dL_tells_394 rfl rfl
          · replace hf := ite_pos hf h100
            refine V_aload_n (pc := 346) F dL_tells_346 rfl 0 rfl ?_
            refine V_iconst (v := 3) (pc := 347) F dL_tells_347 (by decide) ?_
            obtain ⟨r101, g102, hf⟩ := bind_of hf
            refine V_V (w2 := wQ18 cy a2 v2 ++ (wQ8 cy a3 v3 ++ (wQ5 cy a1 v1 ++ (wX7 cy a r101.2)))) (rest := []) (st2 := [.int r101.1]) (pc := 348) F 7 (M_X7_count l D cy N a r95.2 3 r101 (rt_of g102)) (cwV 1 F.ts gL_tells_X7_count rfl rfl rfl hd_X7_count ⟨Nat.le_of_ble_eq_true rfl, Nat.le_of_ble_eq_true rfl⟩) rfl dL_tells_348 (Fit.right (Fit.right (Fit.right Fit.whole))) fstX7 rfl rfl (Nat.le_of_ble_eq_true rfl) (Nat.zero_le _) (Nat.zero_le _) rfl rfl rfl ?_
            refine V_aload_n (pc := 351) F dL_tells_351 rfl 1 rfl ?_
            refine V_iconst (v := 2) (pc := 352) F dL_tells_352 (by decide) ?_
            obtain ⟨c103, hf⟩ := chk_some hf
            refine V_iald (pc := 353) F 2 rfl c103 dL_tells_353 ?_
            refine V_icmp_ne (pc := 354) (tgt := 393) F dL_tells_354 (by decide) (fun h104 => ?_) (fun h104 => ?_)
            · replace hf := ite_neg hf h104
              refine V_iconst (v := 0) (pc := 393) F dL_tells_393 (by decide) ?_
              obtain rfl := some_of hf
              exact V_ret F rfl rfl dL_tells_394 rfl rfl
            · replace hf := ite_pos hf h104
              refine V_aload_n (pc := 357) F dL_tells_357 rfl 0 rfl ?_
              refine V_iconst (v := 4) (pc := 358) F dL_tells_358 (by decide) ?_
              obtain ⟨r105, g106, hf⟩ := bind_of hf
              refine V_V (w2 := wQ18 cy a2 v2 ++ (wQ8 cy a3 v3 ++ (wQ5 cy a1 v1 ++ (wX7 cy a r105.2)))) (rest := []) (st2 := [.int r105.1]) (pc := 359) F 7 (M_X7_count l D cy N a r101.2 4 r105 (rt_of g106)) (cwV 1 F.ts gL_tells_X7_count rfl rfl rfl hd_X7_count ⟨Nat.le_of_ble_eq_true rfl, Nat.le_of_ble_eq_true rfl⟩) rfl dL_tells_359 (Fit.right (Fit.right (Fit.right Fit.whole))) fstX7 rfl rfl (Nat.le_of_ble_eq_true rfl) (Nat.zero_le _) (Nat.zero_le _) rfl rfl rfl ?_
              refine V_iload (pc := 362) F dL_tells_362 3 rfl ?_
              refine V_icmp_ne (pc := 364) (tgt := 393) F dL_tells_364 (by decide) (fun h107 => ?_) (fun h107 => ?_)
              · replace hf := ite_neg hf h107
                refine V_iconst (v := 0) (pc := 393) F dL_tells_393 (by decide) ?_
                obtain rfl := some_of hf
                exact V_ret F rfl rfl dL_tells_394 rfl rfl
              · replace hf := ite_pos hf h107
                refine V_aload_n (pc := 367) F dL_tells_367 rfl 0 rfl ?_
                refine V_iconst (v := 5) (pc := 368) F dL_tells_368 (by decide) ?_
                obtain ⟨r108, g109, hf⟩ := bind_of hf
                refine V_V (w2 := wQ18 cy a2 v2 ++ (wQ8 cy a3 v3 ++ (wQ5 cy a1 v1 ++ (wX7 cy a r108.2)))) (rest := []) (st2 := [.int r108.1]) (pc := 369) F 7 (M_X7_count l D cy N a r105.2 5 r108 (rt_of g109)) (cwV 1 F.ts gL_tells_X7_count rfl rfl rfl hd_X7_count ⟨Nat.le_of_ble_eq_true rfl, Nat.le_of_ble_eq_true rfl⟩) rfl dL_tells_369 (Fit.right (Fit.right (Fit.right Fit.whole))) fstX7 rfl rfl (Nat.le_of_ble_eq_true rfl) (Nat.zero_le _) (Nat.zero_le _) rfl rfl rfl ?_
                refine V_iload (pc := 372) F dL_tells_372 2 rfl ?_
                refine V_icmp_ne (pc := 374) (tgt := 393) F dL_tells_374 (by decide) (fun h110 => ?_) (fun h110 => ?_)
                · replace hf := ite_neg hf h110
                  refine V_iconst (v := 0) (pc := 393) F dL_tells_393 (by decide) ?_
                  obtain rfl := some_of hf
                  exact V_ret F rfl rfl dL_tells_394 rfl rfl
                · replace hf := ite_pos hf h110
                  refine V_aload_n (pc := 377) F dL_tells_377 rfl 0 rfl ?_
                  refine V_bipush (v := 9) (pc := 378) F dL_tells_378 (by decide) ?_
                  obtain ⟨r111, g112, hf⟩ := bind_of hf
                  refine V_V (w2 := wQ18 cy a2 v2 ++ (wQ8 cy a3 v3 ++ (wQ5 cy a1 v1 ++ (wX7 cy a r111.2)))) (rest := []) (st2 := [.int r111.1]) (pc := 380) F 7 (M_X7_count l D cy N a r108.2 9 r111 (rt_of g112)) (cwV 1 F.ts gL_tells_X7_count rfl rfl rfl hd_X7_count ⟨Nat.le_of_ble_eq_true rfl, Nat.le_of_ble_eq_true rfl⟩) rfl dL_tells_380 (Fit.right (Fit.right (Fit.right Fit.whole))) fstX7 rfl rfl (Nat.le_of_ble_eq_true rfl) (Nat.zero_le _) (Nat.zero_le _) rfl rfl rfl ?_
                  refine V_aload_n (pc := 383) F dL_tells_383 rfl 1 rfl ?_
                  refine V_iconst (v := 4) (pc := 384) F dL_tells_384 (by decide) ?_
                  obtain ⟨c113, hf⟩ := chk_some hf
                  refine V_iald (pc := 385) F 2 rfl c113 dL_tells_385 ?_
                  refine V_icmp_ne (pc := 386) (tgt := 393) F dL_tells_386 (by decide) (fun h114 => ?_) (fun h114 => ?_)
                  · replace hf := ite_neg hf h114
                    refine V_iconst (v := 0) (pc := 393) F dL_tells_393 (by decide) ?_
                    obtain rfl := some_of hf
                    exact V_ret F rfl rfl dL_tells_394 rfl rfl
                  · replace hf := ite_pos hf h114
                    refine V_iconst (v := 1) (pc := 389) F dL_tells_389 (by decide) ?_
                    refine V_goto (pc := 390) (tgt := 394) F dL_tells_390 (by decide) ?_
                    obtain rfl := some_of hf
                    exact V_ret F rfl rfl dL_tells_394 rfl rfl
        · replace hf := ite_neg hf h98
          refine V_iconst (v := (-1)) (pc := 336) F dL_tells_336 (by decide) ?_
          refine V_goto (pc := 337) (tgt := 343) F dL_tells_337 (by decide) ?_
          refine V_icmp_ne (pc := 343) (tgt := 393) F dL_tells_343 (by decide) (fun h115 => ?_) (fun h115 => ?_)
          · replace hf := ite_neg hf h115
            refine V_iconst (v := 0) (pc := 393) F dL_tells_393 (by decide) ?_
            obtain rfl := some_of hf
            exact V_ret F rfl rfl dL_tells_394 rfl rfl
          · replace hf := ite_pos hf h115
            refine V_aload_n (pc := 346) F dL_tells_346 rfl 0 rfl ?_
            refine V_iconst (v := 3) (pc := 347) F dL_tells_347 (by decide) ?_
            obtain ⟨r116, g117, hf⟩ := bind_of hf
            refine V_V (w2 := wQ18 cy a2 v2 ++ (wQ8 cy a3 v3 ++ (wQ5 cy a1 v1 ++ (wX7 cy a r116.2)))) (rest := []) (st2 := [.int r116.1]) (pc := 348) F 7 (M_X7_count l D cy N a r95.2 3 r116 (rt_of g117)) (cwV 1 F.ts gL_tells_X7_count rfl rfl rfl hd_X7_count ⟨Nat.le_of_ble_eq_true rfl, Nat.le_of_ble_eq_true rfl⟩) rfl dL_tells_348 (Fit.right (Fit.right (Fit.right Fit.whole))) fstX7 rfl rfl (Nat.le_of_ble_eq_true rfl) (Nat.zero_le _) (Nat.zero_le _) rfl rfl rfl ?_
            refine V_aload_n (pc := 351) F dL_tells_351 rfl 1 rfl ?_
            refine V_iconst (v := 2) (pc := 352) F dL_tells_352 (by decide) ?_
            obtain ⟨c118, hf⟩ := chk_some hf
            refine V_iald (pc := 353) F 2 rfl c118 dL_tells_353 ?_
            refine V_icmp_ne (pc := 354) (tgt := 393) F dL_tells_354 (by decide) (fun h119 => ?_) (fun h119 => ?_)
            · replace hf := ite_neg hf h119
              refine V_iconst (v := 0) (pc := 393) F dL_tells_393 (by decide) ?_
              obtain rfl := some_of hf
              exact V_ret F rfl rfl dL_tells_394 rfl rfl
            · replace hf := ite_pos hf h119
              refine V_aload_n (pc := 357) F dL_tells_357 rfl 0 rfl ?_
              refine V_iconst (v := 4) (pc := 358) F dL_tells_358 (by decide) ?_
              obtain ⟨r120, g121, hf⟩ := bind_of hf
              refine V_V (w2 := wQ18 cy a2 v2 ++ (wQ8 cy a3 v3 ++ (wQ5 cy a1 v1 ++ (wX7 cy a r120.2)))) (rest := []) (st2 := [.int r120.1]) (pc := 359) F 7 (M_X7_count l D cy N a r116.2 4 r120 (rt_of g121)) (cwV 1 F.ts gL_tells_X7_count rfl rfl rfl hd_X7_count ⟨Nat.le_of_ble_eq_true rfl, Nat.le_of_ble_eq_true rfl⟩) rfl dL_tells_359 (Fit.right (Fit.right (Fit.right Fit.whole))) fstX7 rfl rfl (Nat.le_of_ble_eq_true rfl) (Nat.zero_le _) (Nat.zero_le _) rfl rfl rfl ?_
              refine V_iload (pc := 362) F dL_tells_362 3 rfl ?_
              refine V_icmp_ne (pc := 364) (tgt := 393) F dL_tells_364 (by decide) (fun h122 => ?_) (fun h122 => ?_)
              · replace hf := ite_neg hf h122
                refine V_iconst (v := 0) (pc := 393) F dL_tells_393 (by decide) ?_
                obtain rfl := some_of hf
                exact V_ret F rfl rfl dL_tells_394 rfl rfl
              · replace hf := ite_pos hf h122
                refine V_aload_n (pc := 367) F dL_tells_367 rfl 0 rfl ?_
                refine V_iconst (v := 5) (pc := 368) F dL_tells_368 (by decide) ?_
                obtain ⟨r123, g124, hf⟩ := bind_of hf
                refine V_V (w2 := wQ18 cy a2 v2 ++ (wQ8 cy a3 v3 ++ (wQ5 cy a1 v1 ++ (wX7 cy a r123.2)))) (rest := []) (st2 := [.int r123.1]) (pc := 369) F 7 (M_X7_count l D cy N a r120.2 5 r123 (rt_of g124)) (cwV 1 F.ts gL_tells_X7_count rfl rfl rfl hd_X7_count ⟨Nat.le_of_ble_eq_true rfl, Nat.le_of_ble_eq_true rfl⟩) rfl dL_tells_369 (Fit.right (Fit.right (Fit.right Fit.whole))) fstX7 rfl rfl (Nat.le_of_ble_eq_true rfl) (Nat.zero_le _) (Nat.zero_le _) rfl rfl rfl ?_
                refine V_iload (pc := 372) F dL_tells_372 2 rfl ?_
                refine V_icmp_ne (pc := 374) (tgt := 393) F dL_tells_374 (by decide) (fun h125 => ?_) (fun h125 => ?_)
                · replace hf := ite_neg hf h125
                  refine V_iconst (v := 0) (pc := 393) F dL_tells_393 (by decide) ?_
                  obtain rfl := some_of hf
                  exact V_ret F rfl rfl dL_tells_394 rfl rfl
                · replace hf := ite_pos hf h125
                  refine V_aload_n (pc := 377) F dL_tells_377 rfl 0 rfl ?_
                  refine V_bipush (v := 9) (pc := 378) F dL_tells_378 (by decide) ?_
                  obtain ⟨r126, g127, hf⟩ := bind_of hf
                  refine V_V (w2 := wQ18 cy a2 v2 ++ (wQ8 cy a3 v3 ++ (wQ5 cy a1 v1 ++ (wX7 cy a r126.2)))) (rest := []) (st2 := [.int r126.1]) (pc := 380) F 7 (M_X7_count l D cy N a r123.2 9 r126 (rt_of g127)) (cwV 1 F.ts gL_tells_X7_count rfl rfl rfl hd_X7_count ⟨Nat.le_of_ble_eq_true rfl, Nat.le_of_ble_eq_true rfl⟩) rfl dL_tells_380 (Fit.right (Fit.right (Fit.right Fit.whole))) fstX7 rfl rfl (Nat.le_of_ble_eq_true rfl) (Nat.zero_le _) (Nat.zero_le _) rfl rfl rfl ?_
                  refine V_aload_n (pc := 383) F dL_tells_383 rfl 1 rfl ?_
                  refine V_iconst (v := 4) (pc := 384) F dL_tells_384 (by decide) ?_
                  obtain ⟨c128, hf⟩ := chk_some hf
                  refine V_iald (pc := 385) F 2 rfl c128 dL_tells_385 ?_
                  refine V_icmp_ne (pc := 386) (tgt := 393) F dL_tells_386 (by decide) (fun h129 => ?_) (fun h129 => ?_)
                  · replace hf := ite_neg hf h129
                    refine V_iconst (v := 0) (pc := 393) F dL_tells_393 (by decide) ?_
                    obtain rfl := some_of hf
                    exact V_ret F rfl rfl dL_tells_394 rfl rfl
                  · replace hf := ite_pos hf h129
                    refine V_iconst (v := 1) (pc := 389) F dL_tells_389 (by decide) ?_
                    refine V_goto (pc := 390) (tgt := 394) F dL_tells_390 (by decide) ?_
                    obtain rfl := some_of hf
                    exact V_ret F rfl rfl dL_tells_394 rfl rfl
