theorem hd_L_served : yL_served.cls ≠ "java/lang/invoke/MethodHandle" ∧ yL_served.cls ≠ "java/lang/invoke/VarHandle" ∧ (parseMethodDescriptor yL_served.desc).map (fun d => d.parameters.length) = some 5 := by decide +kernel
def fL_served_L175 (N : Nat) (sn : Nat) (sx : Nat → Int32) (z2 : Int32) (z4 : Int32) (z5 : Int32) (z6 : Int32) (z7 : Int32) (z8 : Int32) (z9 : Int32) : Nat → SX7 → Int32 → Option (SX7)
  | 0, _, _ => none
  | n + 1, v, z10 =>
    if 6 ≤ z10 then
      some v
    else
      if z10 = z4 then
        (rt (fX7_come N v z10)).bind fun r33 =>
          fL_served_L175 N sn sx z2 z4 z5 z6 z7 z8 z9 n r33.2 (z10 + 1)
      else
        if ((z9 >>> (z10 &&& 31)) &&& 1) = 1 then
          (rt (fX7_come N v z10)).bind fun r36 =>
            fL_served_L175 N sn sx z2 z4 z5 z6 z7 z8 z9 n r36.2 (z10 + 1)
        else
          fL_served_L175 N sn sx z2 z4 z5 z6 z7 z8 z9 n v (z10 + 1)
def fL_served_L132 (N : Nat) (sn : Nat) (sx : Nat → Int32) (z2 : Int32) (z4 : Int32) (z5 : Int32) (z6 : Int32) (z7 : Int32) : Nat → SX7 → Int32 → Option (SX7 × Int32)
  | 0, _, _ => none
  | n + 1, v, z8 =>
    if 60 ≤ z8 then
      some (v, z8)
    else
      (rt (fX7_count N v 4)).bind fun r26 =>
        if ((r26.1 >>> (z4 &&& 31)) &&& 1) = 0 then
          (fL_cell N sn sx (z2 + (z8 / 5))).bind fun r29 =>
            (fL_served_L175 N sn sx z2 z4 z5 z6 z7 z8 (r29 >>> (((6 : Int32) * (z8 - z8 / 5 * 5)) &&& 31)) N r26.2 0).bind fun u38 =>
              (rt (fX7_run N u38 1)).bind fun r40 =>
                fL_served_L132 N sn sx z2 z4 z5 z6 z7 n r40.2 (z8 + 1)
        else
          some (r26.2, z8)
def fL_served (N : Nat) (sn : Nat) (sx : Nat → Int32) (v : SX7) (x2 : Int32) (x3 : Int32) (x4 : Int32) : Option (Int32 × SX7) :=
  (rt (fX7_waitFor N v x4 x3 1)).bind fun r1 =>
    (rt (fX7_waitFor N r1.2 x4 x3 0)).bind fun r3 =>
      (rt (fX7_starves N r3.2 x4 x3)).bind fun r5 =>
        if (if 0 ≤ r1.1 then (0 : Int32) else (1 : Int32)) = (if r5.1 = 1 then (1 : Int32) else (0 : Int32)) then
          if (if r5.1 = 1 then (1 : Int32) else (0 : Int32)) = 0 then
            if r3.1 < 0 then
              some (0, r5.2)
            else
              if r1.1 < r3.1 then
                some (0, r5.2)
              else
                (rt (fX7_phase N r5.2 x3 0)).bind fun r87 =>
                  if ((r87.1 >>> (x4 &&& 31)) &&& 1) = 1 then
                    if r1.1 = 0 then
                      if r3.1 = 0 then
                        (rt (fX7_start N r87.2 x3)).bind fun r118 =>
                          (rt (fX7_phase N r118.2 x3 0)).bind fun r120 =>
                            if r118.1 = r120.1 then
                              (rt (fX7_count N r120.2 5)).bind fun r123 =>
                                if r123.1 = 0 then
                                  (rt (fX7_count N r123.2 2)).bind fun r126 =>
                                    if r126.1 = 0 then
                                      (fL_served_L132 N sn sx x2 x4 r1.1 r3.1 (if r5.1 = 1 then (1 : Int32) else (0 : Int32)) N r126.2 0).bind fun u129 =>
                                        (rt (fX7_count N u129.1 4)).bind fun r131 =>
                                          if (if ((r131.1 >>> (x4 &&& 31)) &&& 1) = 1 then (1 : Int32) else (0 : Int32)) = 0 then
                                            if (if r5.1 = 1 then (1 : Int32) else (0 : Int32)) = 0 then
                                              if r1.1 < 60 then
                                                some (0, r131.2)
                                              else
                                                some (1, r131.2)
                                            else
                                              some (1, r131.2)
                                          else
                                            if (if r5.1 = 1 then (1 : Int32) else (0 : Int32)) = 0 then
                                              if r1.1 < u129.2 then
                                                some (0, r131.2)
                                              else
                                                if r3.1 < 0 then
                                                  some (0, r131.2)
                                                else
                                                  if u129.2 < r3.1 then
                                                    some (0, r131.2)
                                                  else
                                                    some (1, r131.2)
                                            else
                                              if r3.1 < 0 then
                                                some (0, r131.2)
                                              else
                                                if u129.2 < r3.1 then
                                                  some (0, r131.2)
                                                else
                                                  some (1, r131.2)
                                    else
                                      some (0, r126.2)
                                else
                                  some (0, r123.2)
                            else
                              some (0, r120.2)
                      else
                        some (0, r87.2)
                    else
                      some (0, r87.2)
                  else
                    (rt (fX7_start N r87.2 x3)).bind fun r90 =>
                      (rt (fX7_phase N r90.2 x3 0)).bind fun r92 =>
                        if r90.1 = r92.1 then
                          (rt (fX7_count N r92.2 5)).bind fun r95 =>
                            if r95.1 = 0 then
                              (rt (fX7_count N r95.2 2)).bind fun r98 =>
                                if r98.1 = 0 then
                                  (fL_served_L132 N sn sx x2 x4 r1.1 r3.1 (if r5.1 = 1 then (1 : Int32) else (0 : Int32)) N r98.2 0).bind fun u101 =>
                                    (rt (fX7_count N u101.1 4)).bind fun r103 =>
                                      if (if ((r103.1 >>> (x4 &&& 31)) &&& 1) = 1 then (1 : Int32) else (0 : Int32)) = 0 then
                                        if (if r5.1 = 1 then (1 : Int32) else (0 : Int32)) = 0 then
                                          if r1.1 < 60 then
                                            some (0, r103.2)
                                          else
                                            some (1, r103.2)
                                        else
                                          some (1, r103.2)
                                      else
                                        if (if r5.1 = 1 then (1 : Int32) else (0 : Int32)) = 0 then
                                          if r1.1 < u101.2 then
                                            some (0, r103.2)
                                          else
                                            if r3.1 < 0 then
                                              some (0, r103.2)
                                            else
                                              if u101.2 < r3.1 then
                                                some (0, r103.2)
                                              else
                                                some (1, r103.2)
                                        else
                                          if r3.1 < 0 then
                                            some (0, r103.2)
                                          else
                                            if u101.2 < r3.1 then
                                              some (0, r103.2)
                                            else
                                              some (1, r103.2)
                                else
                                  some (0, r98.2)
                            else
                              some (0, r95.2)
                        else
                          some (0, r92.2)
          else
            (rt (fX7_phase N r5.2 x3 0)).bind fun r11 =>
              if ((r11.1 >>> (x4 &&& 31)) &&& 1) = 1 then
                if r1.1 = 0 then
                  if r3.1 = 0 then
                    (rt (fX7_start N r11.2 x3)).bind fun r59 =>
                      (rt (fX7_phase N r59.2 x3 0)).bind fun r61 =>
                        if r59.1 = r61.1 then
                          (rt (fX7_count N r61.2 5)).bind fun r64 =>
                            if r64.1 = 0 then
                              (rt (fX7_count N r64.2 2)).bind fun r67 =>
                                if r67.1 = 0 then
                                  (fL_served_L132 N sn sx x2 x4 r1.1 r3.1 (if r5.1 = 1 then (1 : Int32) else (0 : Int32)) N r67.2 0).bind fun u70 =>
                                    (rt (fX7_count N u70.1 4)).bind fun r72 =>
                                      if (if ((r72.1 >>> (x4 &&& 31)) &&& 1) = 1 then (1 : Int32) else (0 : Int32)) = 0 then
                                        if (if r5.1 = 1 then (1 : Int32) else (0 : Int32)) = 0 then
                                          if r1.1 < 60 then
                                            some (0, r72.2)
                                          else
                                            some (1, r72.2)
                                        else
                                          some (1, r72.2)
                                      else
                                        if (if r5.1 = 1 then (1 : Int32) else (0 : Int32)) = 0 then
                                          if r1.1 < u70.2 then
                                            some (0, r72.2)
                                          else
                                            if r3.1 < 0 then
                                              some (0, r72.2)
                                            else
                                              if u70.2 < r3.1 then
                                                some (0, r72.2)
                                              else
                                                some (1, r72.2)
                                        else
                                          if r3.1 < 0 then
                                            some (0, r72.2)
                                          else
                                            if u70.2 < r3.1 then
                                              some (0, r72.2)
                                            else
                                              some (1, r72.2)
                                else
                                  some (0, r67.2)
                            else
                              some (0, r64.2)
                        else
                          some (0, r61.2)
                  else
                    some (0, r11.2)
                else
                  some (0, r11.2)
              else
                (rt (fX7_start N r11.2 x3)).bind fun r14 =>
                  (rt (fX7_phase N r14.2 x3 0)).bind fun r16 =>
                    if r14.1 = r16.1 then
                      (rt (fX7_count N r16.2 5)).bind fun r19 =>
                        if r19.1 = 0 then
                          (rt (fX7_count N r19.2 2)).bind fun r22 =>
                            if r22.1 = 0 then
                              (fL_served_L132 N sn sx x2 x4 r1.1 r3.1 (if r5.1 = 1 then (1 : Int32) else (0 : Int32)) N r22.2 0).bind fun u42 =>
                                (rt (fX7_count N u42.1 4)).bind fun r44 =>
                                  if (if ((r44.1 >>> (x4 &&& 31)) &&& 1) = 1 then (1 : Int32) else (0 : Int32)) = 0 then
                                    if (if r5.1 = 1 then (1 : Int32) else (0 : Int32)) = 0 then
                                      if r1.1 < 60 then
                                        some (0, r44.2)
                                      else
                                        some (1, r44.2)
                                    else
                                      some (1, r44.2)
                                  else
                                    if (if r5.1 = 1 then (1 : Int32) else (0 : Int32)) = 0 then
                                      if r1.1 < u42.2 then
                                        some (0, r44.2)
                                      else
                                        if r3.1 < 0 then
                                          some (0, r44.2)
                                        else
                                          if u42.2 < r3.1 then
                                            some (0, r44.2)
                                          else
                                            some (1, r44.2)
                                    else
                                      if r3.1 < 0 then
                                        some (0, r44.2)
                                      else
                                        if u42.2 < r3.1 then
                                          some (0, r44.2)
                                        else
                                          some (1, r44.2)
                            else
                              some (0, r22.2)
                        else
                          some (0, r19.2)
                    else
                      some (0, r16.2)
        else
          some (0, r5.2)
set_option maxHeartbeats 8000000 in
set_option maxRecDepth 100000 in
theorem M_L_served (l : Launch) (D : va_G) (cy : Nat → ClassId) (N : Nat) (sb : Nat) (sn : Nat) (sx : Nat → Int32) (a : Nat → Nat) (v : SX7) (x2 : Int32) (x3 : Int32) (x4 : Int32) (o : Int32 × SX7) (hf : fL_served N sn sx v x2 x3 x4 = some o) : okS l yL_served wsL_served (rmz 6 142) D cy sb sn sx [.ref (a 0), .ref sb, .int x2, .int x3, .int x4] (wX7 cy a v) (wX7 cy a o.2) (some (.int o.1)) := by
  refine okS_of (own := RL) (nme := "served") (cc := cL_served) (maxL := 11) (ret := (some .boolean)) (by decide) rfl rfl rfl (Nat.le_of_ble_eq_true rfl) ?_
  intro p e s m args below meth c A F G
  have K175 : ∀ (n : Nat) (z2 : Int32) (z4 : Int32) (z5 : Int32) (z6 : Int32) (z7 : Int32) (z8 : Int32) (z9 : Int32) (v : SX7) (z10 : Int32) (u : SX7), fL_served_L175 N sn sx z2 z4 z5 z6 z7 z8 z9 n v z10 = some u → V p l e (rmz 6 142) s m args below meth c 11 D A 0 0 (MQ below (ok_Q D (wX7 cy a o.2) (some (.int o.1)) A) args s 0 0 A) (wX7 cy a u) [(0, .ref (a 0)), (1, .ref sb), (2, .int z2), (4, .int z4), (5, .int z5), (6, .int z6), (7, .int z7), (8, .int z8)] [] 213 → V p l e (rmz 6 142) s m args below meth c 11 D A 0 0 (MQ below (ok_Q D (wX7 cy a o.2) (some (.int o.1)) A) args s 0 0 A) (wX7 cy a v) [(0, .ref (a 0)), (1, .ref sb), (2, .int z2), (4, .int z4), (5, .int z5), (6, .int z6), (7, .int z7), (8, .int z8), (9, .int z9), (10, .int z10)] [] 175 := by
    intro n
    induction n with
    | zero =>
      intro z2 z4 z5 z6 z7 z8 z9 v z10 u hf hk
      exact nomatch (show (none : Option (SX7)) = some u from hf)
    | succ n ih =>
      intro z2 z4 z5 z6 z7 z8 z9 v z10 u hf hk
      rw [fL_served_L175] at hf
      refine V_iload (pc := 175) F dL_served_175 9 rfl ?_
      refine V_bipush (v := 6) (pc := 177) F dL_served_177 (by decide) ?_
      refine V_icmp_ge (pc := 179) (tgt := 213) F dL_served_179 (by decide) (fun h31 => ?_) (fun h31 => ?_)
      · replace hf := ite_pos hf h31
        obtain rfl := some_of hf
        exact V.sub [0, 1, 2, 3, 4, 5, 6, 7] rfl hk
      · replace hf := ite_neg hf h31
        refine V_iload (pc := 182) F dL_served_182 9 rfl ?_
        refine V_iload (pc := 184) F dL_served_184 3 rfl ?_
        refine V_icmp_eq (pc := 186) (tgt := 200) F dL_served_186 (by decide) (fun h32 => ?_) (fun h32 => ?_)
        · replace hf := ite_pos hf h32
          refine V_aload_n (pc := 200) F dL_served_200 rfl 0 rfl ?_
          refine V_iload (pc := 201) F dL_served_201 9 rfl ?_
          obtain ⟨r33, g34, hf⟩ := bind_of hf
          refine V_V (w2 := wX7 cy a r33.2) (rest := []) (st2 := [.int r33.1]) (pc := 203) F 7 (M_X7_come l D cy N a v z10 r33 (rt_of g34)) (cwV 1 F.ts gL_served_X7_come rfl rfl rfl hd_X7_come ⟨Nat.le_of_ble_eq_true rfl, Nat.le_of_ble_eq_true rfl⟩) rfl dL_served_203 Fit.whole fstX7 rfl rfl (Nat.le_of_ble_eq_true rfl) (Nat.zero_le _) (Nat.zero_le _) rfl rfl rfl ?_
          refine V_pop (pc := 206) F dL_served_206 rfl ?_
          refine V_iinc (v := (z10 + 1)) (L2 := [(10, .int (z10 + 1)), (0, .ref (a 0)), (1, .ref sb), (2, .int z2), (4, .int z4), (5, .int z5), (6, .int z6), (7, .int z7), (8, .int z8), (9, .int z9)]) (pc := 207) F dL_served_207 9 rfl rfl (by decide) rfl ?_
          refine V_goto (pc := 210) (tgt := 175) F dL_served_210 (by decide) ?_
          refine V.sub [1, 2, 3, 4, 5, 6, 7, 8, 9, 0] rfl ?_
          exact ih z2 z4 z5 z6 z7 z8 z9 r33.2 (z10 + 1) _ hf hk
        · replace hf := ite_neg hf h32
          refine V_iload (pc := 189) F dL_served_189 8 rfl ?_
          refine V_iload (pc := 191) F dL_served_191 9 rfl ?_
          refine V_ishr (pc := 193) F dL_served_193 ?_
          refine V_iconst (v := 1) (pc := 194) F dL_served_194 (by decide) ?_
          refine V_iand (pc := 195) F dL_served_195 ?_
          refine V_iconst (v := 1) (pc := 196) F dL_served_196 (by decide) ?_
          refine V_icmp_ne (pc := 197) (tgt := 207) F dL_served_197 (by decide) (fun h35 => ?_) (fun h35 => ?_)
          · replace hf := ite_neg hf h35
            refine V_iinc (v := (z10 + 1)) (L2 := [(10, .int (z10 + 1)), (0, .ref (a 0)), (1, .ref sb), (2, .int z2), (4, .int z4), (5, .int z5), (6, .int z6), (7, .int z7), (8, .int z8), (9, .int z9)]) (pc := 207) F dL_served_207 9 rfl rfl (by decide) rfl ?_
            refine V_goto (pc := 210) (tgt := 175) F dL_served_210 (by decide) ?_
            refine V.sub [1, 2, 3, 4, 5, 6, 7, 8, 9, 0] rfl ?_
            exact ih z2 z4 z5 z6 z7 z8 z9 v (z10 + 1) _ hf hk
          · replace hf := ite_pos hf h35
            refine V_aload_n (pc := 200) F dL_served_200 rfl 0 rfl ?_
            refine V_iload (pc := 201) F dL_served_201 9 rfl ?_
            obtain ⟨r36, g37, hf⟩ := bind_of hf
            refine V_V (w2 := wX7 cy a r36.2) (rest := []) (st2 := [.int r36.1]) (pc := 203) F 7 (M_X7_come l D cy N a v z10 r36 (rt_of g37)) (cwV 1 F.ts gL_served_X7_come rfl rfl rfl hd_X7_come ⟨Nat.le_of_ble_eq_true rfl, Nat.le_of_ble_eq_true rfl⟩) rfl dL_served_203 Fit.whole fstX7 rfl rfl (Nat.le_of_ble_eq_true rfl) (Nat.zero_le _) (Nat.zero_le _) rfl rfl rfl ?_
            refine V_pop (pc := 206) F dL_served_206 rfl ?_
            refine V_iinc (v := (z10 + 1)) (L2 := [(10, .int (z10 + 1)), (0, .ref (a 0)), (1, .ref sb), (2, .int z2), (4, .int z4), (5, .int z5), (6, .int z6), (7, .int z7), (8, .int z8), (9, .int z9)]) (pc := 207) F dL_served_207 9 rfl rfl (by decide) rfl ?_
            refine V_goto (pc := 210) (tgt := 175) F dL_served_210 (by decide) ?_
            refine V.sub [1, 2, 3, 4, 5, 6, 7, 8, 9, 0] rfl ?_
            exact ih z2 z4 z5 z6 z7 z8 z9 r36.2 (z10 + 1) _ hf hk
  have K132 : ∀ (n : Nat) (z2 : Int32) (z4 : Int32) (z5 : Int32) (z6 : Int32) (z7 : Int32) (v : SX7) (z8 : Int32) (u : SX7 × Int32), fL_served_L132 N sn sx z2 z4 z5 z6 z7 n v z8 = some u → V p l e (rmz 6 142) s m args below meth c 11 D A 0 0 (MQ below (ok_Q D (wX7 cy a o.2) (some (.int o.1)) A) args s 0 0 A) (wX7 cy a u.1) [(0, .ref (a 0)), (4, .int z4), (5, .int z5), (6, .int z6), (7, .int z7), (8, .int u.2)] [] 225 → V p l e (rmz 6 142) s m args below meth c 11 D A 0 0 (MQ below (ok_Q D (wX7 cy a o.2) (some (.int o.1)) A) args s 0 0 A) (wX7 cy a v) [(0, .ref (a 0)), (1, .ref sb), (2, .int z2), (4, .int z4), (5, .int z5), (6, .int z6), (7, .int z7), (8, .int z8)] [] 132 := by
    intro n
    induction n with
    | zero =>
      intro z2 z4 z5 z6 z7 v z8 u hf hk
      exact nomatch (show (none : Option (SX7 × Int32)) = some u from hf)
    | succ n ih =>
      intro z2 z4 z5 z6 z7 v z8 u hf hk
      rw [fL_served_L132] at hf
      refine V_iload (pc := 132) F dL_served_132 7 rfl ?_
      refine V_bipush (v := 60) (pc := 134) F dL_served_134 (by decide) ?_
      refine V_icmp_ge (pc := 136) (tgt := 225) F dL_served_136 (by decide) (fun h25 => ?_) (fun h25 => ?_)
      · replace hf := ite_pos hf h25
        obtain rfl := some_of hf
        exact V.sub [0, 3, 4, 5, 6, 7] rfl hk
      · replace hf := ite_neg hf h25
        refine V_aload_n (pc := 139) F dL_served_139 rfl 0 rfl ?_
        refine V_iconst (v := 4) (pc := 140) F dL_served_140 (by decide) ?_
        obtain ⟨r26, g27, hf⟩ := bind_of hf
        refine V_V (w2 := wX7 cy a r26.2) (rest := []) (st2 := [.int r26.1]) (pc := 141) F 7 (M_X7_count l D cy N a v 4 r26 (rt_of g27)) (cwV 1 F.ts gL_served_X7_count rfl rfl rfl hd_X7_count ⟨Nat.le_of_ble_eq_true rfl, Nat.le_of_ble_eq_true rfl⟩) rfl dL_served_141 Fit.whole fstX7 rfl rfl (Nat.le_of_ble_eq_true rfl) (Nat.zero_le _) (Nat.zero_le _) rfl rfl rfl ?_
        refine V_iload (pc := 144) F dL_served_144 3 rfl ?_
        refine V_ishr (pc := 146) F dL_served_146 ?_
        refine V_iconst (v := 1) (pc := 147) F dL_served_147 (by decide) ?_
        refine V_iand (pc := 148) F dL_served_148 ?_
        refine V_if_ne (pc := 149) (tgt := 225) F dL_served_149 (by decide) (fun h28 => ?_) (fun h28 => ?_)
        · replace hf := ite_neg hf h28
          obtain rfl := some_of hf
          exact V.sub [0, 3, 4, 5, 6, 7] rfl hk
        · replace hf := ite_pos hf h28
          refine V_aload_n (pc := 152) F dL_served_152 rfl 1 rfl ?_
          refine V_iload_n (pc := 153) F dL_served_153 rfl 2 rfl ?_
          refine V_iload (pc := 154) F dL_served_154 7 rfl ?_
          refine V_iconst (v := 5) (pc := 156) F dL_served_156 (by decide) ?_
          refine V_idiv (pc := 157) F dL_served_157 (by decide) ?_
          refine V_iadd (pc := 158) F dL_served_158 ?_
          obtain ⟨r29, g30, hf⟩ := bind_of hf
          refine V_SS (w2 := wX7 cy a r26.2) (rest := []) (st2 := [.int r29]) (pc := 159) F G (M_L_cell l D cy N sb sn sx (z2 + (z8 / 5)) r29 g30) (va_cwS 2 F.ts gL_served_L_cell rfl rfl rfl hd_L_cell ⟨Nat.le_of_ble_eq_true rfl, Nat.le_of_ble_eq_true rfl⟩) rfl dL_served_159 Fit.nil rfl (Nat.le_of_ble_eq_true rfl) (Nat.zero_le _) (Nat.zero_le _) rfl rfl rfl ?_
          refine V_bipush (v := 6) (pc := 162) F dL_served_162 (by decide) ?_
          refine V_iload (pc := 164) F dL_served_164 7 rfl ?_
          refine V_iconst (v := 5) (pc := 166) F dL_served_166 (by decide) ?_
          refine V_irem (pc := 167) F dL_served_167 (by decide) ?_
          refine V_imul (pc := 168) F dL_served_168 ?_
          refine V_ishr (pc := 169) F dL_served_169 ?_
          refine V_istore (L2 := [(9, .int (r29 >>> (((6 : Int32) * (z8 - z8 / 5 * 5)) &&& 31))), (0, .ref (a 0)), (1, .ref sb), (2, .int z2), (4, .int z4), (5, .int z5), (6, .int z6), (7, .int z7), (8, .int z8)]) (pc := 170) F dL_served_170 (by decide) rfl ?_
          refine V_iconst (v := 0) (pc := 172) F dL_served_172 (by decide) ?_
          refine V_istore (L2 := [(10, .int 0), (9, .int (r29 >>> (((6 : Int32) * (z8 - z8 / 5 * 5)) &&& 31))), (0, .ref (a 0)), (1, .ref sb), (2, .int z2), (4, .int z4), (5, .int z5), (6, .int z6), (7, .int z7), (8, .int z8)]) (pc := 173) F dL_served_173 (by decide) rfl ?_
          refine V.sub [2, 3, 4, 5, 6, 7, 8, 9, 1, 0] rfl ?_
          obtain ⟨u38, g39, hf⟩ := bind_of hf
          refine K175 N z2 z4 z5 z6 z7 z8 (r29 >>> (((6 : Int32) * (z8 - z8 / 5 * 5)) &&& 31)) r26.2 0 u38 g39 ?_
          refine V_aload_n (pc := 213) F dL_served_213 rfl 0 rfl ?_
          refine V_iconst (v := 1) (pc := 214) F dL_served_214 (by decide) ?_
          obtain ⟨r40, g41, hf⟩ := bind_of hf
          refine V_V (w2 := wX7 cy a r40.2) (rest := []) (st2 := [.int r40.1]) (pc := 215) F 7 (M_X7_run l D cy N a u38 1 r40 (rt_of g41)) (cwV 1 F.ts gL_served_X7_run rfl rfl rfl hd_X7_run ⟨Nat.le_of_ble_eq_true rfl, Nat.le_of_ble_eq_true rfl⟩) rfl dL_served_215 Fit.whole fstX7 rfl rfl (Nat.le_of_ble_eq_true rfl) (Nat.zero_le _) (Nat.zero_le _) rfl rfl rfl ?_
          refine V_pop (pc := 218) F dL_served_218 rfl ?_
          refine V_iinc (v := (z8 + 1)) (L2 := [(8, .int (z8 + 1)), (0, .ref (a 0)), (1, .ref sb), (2, .int z2), (4, .int z4), (5, .int z5), (6, .int z6), (7, .int z7)]) (pc := 219) F dL_served_219 7 rfl rfl (by decide) rfl ?_
          refine V_goto (pc := 222) (tgt := 132) F dL_served_222 (by decide) ?_
          refine V.sub [1, 2, 3, 4, 5, 6, 7, 0] rfl ?_
          exact ih z2 z4 z5 z6 z7 r40.2 (z8 + 1) _ hf hk
  unfold fL_served at hf
  refine V.eq rfl (show lv_args 0 [.ref (a 0), .ref sb, .int x2, .int x3, .int x4] = [(0, .ref (a 0)), (1, .ref sb), (2, .int x2), (3, .int x3), (4, .int x4)] from rfl) rfl ?_
  refine V_aload_n (pc := 0) F dL_served_0 rfl 0 rfl ?_
  refine V_iload (pc := 1) F dL_served_1 4 rfl ?_
  refine V_iload_n (pc := 3) F dL_served_3 rfl 3 rfl ?_
  refine V_iconst (v := 1) (pc := 4) F dL_served_4 (by decide) ?_
  obtain ⟨r1, g2, hf⟩ := bind_of hf
  refine V_V (w2 := wX7 cy a r1.2) (rest := []) (st2 := [.int r1.1]) (pc := 5) F 7 (M_X7_waitFor l D cy N a v x4 x3 1 r1 (rt_of g2)) (cwV 3 F.ts gL_served_X7_waitFor rfl rfl rfl hd_X7_waitFor ⟨Nat.le_of_ble_eq_true rfl, Nat.le_of_ble_eq_true rfl⟩) rfl dL_served_5 Fit.whole fstX7 rfl rfl (Nat.le_of_ble_eq_true rfl) (Nat.zero_le _) (Nat.zero_le _) rfl rfl rfl ?_
  refine V_istore (L2 := [(5, .int r1.1), (0, .ref (a 0)), (1, .ref sb), (2, .int x2), (3, .int x3), (4, .int x4)]) (pc := 8) F dL_served_8 (by decide) rfl ?_
  refine V_aload_n (pc := 10) F dL_served_10 rfl 1 rfl ?_
  refine V_iload (pc := 11) F dL_served_11 5 rfl ?_
  refine V_iload_n (pc := 13) F dL_served_13 rfl 4 rfl ?_
  refine V_iconst (v := 0) (pc := 14) F dL_served_14 (by decide) ?_
  obtain ⟨r3, g4, hf⟩ := bind_of hf
  refine V_V (w2 := wX7 cy a r3.2) (rest := []) (st2 := [.int r3.1]) (pc := 15) F 7 (M_X7_waitFor l D cy N a r1.2 x4 x3 0 r3 (rt_of g4)) (cwV 3 F.ts gL_served_X7_waitFor rfl rfl rfl hd_X7_waitFor ⟨Nat.le_of_ble_eq_true rfl, Nat.le_of_ble_eq_true rfl⟩) rfl dL_served_15 Fit.whole fstX7 rfl rfl (Nat.le_of_ble_eq_true rfl) (Nat.zero_le _) (Nat.zero_le _) rfl rfl rfl ?_
  refine V_istore (L2 := [(6, .int r3.1), (5, .int r1.1), (0, .ref (a 0)), (1, .ref sb), (2, .int x2), (3, .int x3), (4, .int x4)]) (pc := 18) F dL_served_18 (by decide) rfl ?_
  refine V_aload_n (pc := 20) F dL_served_20 rfl 2 rfl ?_
  refine V_iload (pc := 21) F dL_served_21 6 rfl ?_
  refine V_iload_n (pc := 23) F dL_served_23 rfl 5 rfl ?_
  obtain ⟨r5, g6, hf⟩ := bind_of hf
  refine V_V (w2 := wX7 cy a r5.2) (rest := []) (st2 := [.int r5.1]) (pc := 24) F 7 (M_X7_starves l D cy N a r3.2 x4 x3 r5 (rt_of g6)) (cwV 2 F.ts gL_served_X7_starves rfl rfl rfl hd_X7_starves ⟨Nat.le_of_ble_eq_true rfl, Nat.le_of_ble_eq_true rfl⟩) rfl dL_served_24 Fit.whole fstX7 rfl rfl (Nat.le_of_ble_eq_true rfl) (Nat.zero_le _) (Nat.zero_le _) rfl rfl rfl ?_
  refine V_iconst (v := 1) (pc := 27) F dL_served_27 (by decide) ?_
  have J145 : V p l e (rmz 6 142) s m args below meth c 11 D A 0 0 (MQ below (ok_Q D (wX7 cy a o.2) (some (.int o.1)) A) args s 0 0 A) (wX7 cy a r5.2) [(6, .int r3.1), (5, .int r1.1), (0, .ref (a 0)), (1, .ref sb), (2, .int x2), (3, .int x3), (4, .int x4)] [.int (if r5.1 = 1 then (1 : Int32) else (0 : Int32))] 36 := by
    refine V_istore (L2 := [(7, .int (if r5.1 = 1 then (1 : Int32) else (0 : Int32))), (6, .int r3.1), (5, .int r1.1), (0, .ref (a 0)), (1, .ref sb), (2, .int x2), (3, .int x3), (4, .int x4)]) (pc := 36) F dL_served_36 (by decide) rfl ?_
    refine V_iload (pc := 38) F dL_served_38 2 rfl ?_
    have J144 : V p l e (rmz 6 142) s m args below meth c 11 D A 0 0 (MQ below (ok_Q D (wX7 cy a o.2) (some (.int o.1)) A) args s 0 0 A) (wX7 cy a r5.2) [(7, .int (if r5.1 = 1 then (1 : Int32) else (0 : Int32))), (6, .int r3.1), (5, .int r1.1), (0, .ref (a 0)), (1, .ref sb), (2, .int x2), (3, .int x3), (4, .int x4)] [.int (if 0 ≤ r1.1 then (0 : Int32) else (1 : Int32))] 48 := by
      refine V_iload (pc := 48) F dL_served_48 0 rfl ?_
      refine V_icmp_ne (pc := 50) (tgt := 95) F dL_served_50 (by decide) (fun h9 => ?_) (fun h9 => ?_)
      · replace hf := ite_neg hf h9
        refine V_iconst (v := 0) (pc := 95) F dL_served_95 (by decide) ?_
        obtain rfl := some_of hf
        exact V_ret F rfl rfl dL_served_96 rfl rfl
      · replace hf := ite_pos hf h9
        refine V_iload (pc := 53) F dL_served_53 0 rfl ?_
        refine V_if_ne (pc := 55) (tgt := 70) F dL_served_55 (by decide) (fun h10 => ?_) (fun h10 => ?_)
        · replace hf := ite_neg hf h10
          refine V_aload_n (pc := 70) F dL_served_70 rfl 3 rfl ?_
          refine V_iload_n (pc := 71) F dL_served_71 rfl 6 rfl ?_
          refine V_iconst (v := 0) (pc := 72) F dL_served_72 (by decide) ?_
          obtain ⟨r11, g12, hf⟩ := bind_of hf
          refine V_V (w2 := wX7 cy a r11.2) (rest := []) (st2 := [.int r11.1]) (pc := 73) F 7 (M_X7_phase l D cy N a r5.2 x3 0 r11 (rt_of g12)) (cwV 2 F.ts gL_served_X7_phase rfl rfl rfl hd_X7_phase ⟨Nat.le_of_ble_eq_true rfl, Nat.le_of_ble_eq_true rfl⟩) rfl dL_served_73 Fit.whole fstX7 rfl rfl (Nat.le_of_ble_eq_true rfl) (Nat.zero_le _) (Nat.zero_le _) rfl rfl rfl ?_
          refine V_iload (pc := 76) F dL_served_76 7 rfl ?_
          refine V_ishr (pc := 78) F dL_served_78 ?_
          refine V_iconst (v := 1) (pc := 79) F dL_served_79 (by decide) ?_
          refine V_iand (pc := 80) F dL_served_80 ?_
          refine V_iconst (v := 1) (pc := 81) F dL_served_81 (by decide) ?_
          refine V_icmp_ne (pc := 82) (tgt := 97) F dL_served_82 (by decide) (fun h13 => ?_) (fun h13 => ?_)
          · replace hf := ite_neg hf h13
            refine V_aload_n (pc := 97) F dL_served_97 rfl 3 rfl ?_
            refine V_iload_n (pc := 98) F dL_served_98 rfl 6 rfl ?_
            obtain ⟨r14, g15, hf⟩ := bind_of hf
            refine V_V (w2 := wX7 cy a r14.2) (rest := []) (st2 := [.int r14.1]) (pc := 99) F 7 (M_X7_start l D cy N a r11.2 x3 r14 (rt_of g15)) (cwV 1 F.ts gL_served_X7_start rfl rfl rfl hd_X7_start ⟨Nat.le_of_ble_eq_true rfl, Nat.le_of_ble_eq_true rfl⟩) rfl dL_served_99 Fit.whole fstX7 rfl rfl (Nat.le_of_ble_eq_true rfl) (Nat.zero_le _) (Nat.zero_le _) rfl rfl rfl ?_
            refine V_aload_n (pc := 102) F dL_served_102 rfl 3 rfl ?_
            refine V_iload_n (pc := 103) F dL_served_103 rfl 6 rfl ?_
            refine V_iconst (v := 0) (pc := 104) F dL_served_104 (by decide) ?_
            obtain ⟨r16, g17, hf⟩ := bind_of hf
            refine V_V (w2 := wX7 cy a r16.2) (rest := [.int r14.1]) (st2 := [.int r16.1, .int r14.1]) (pc := 105) F 7 (M_X7_phase l D cy N a r14.2 x3 0 r16 (rt_of g17)) (cwV 2 F.ts gL_served_X7_phase rfl rfl rfl hd_X7_phase ⟨Nat.le_of_ble_eq_true rfl, Nat.le_of_ble_eq_true rfl⟩) rfl dL_served_105 Fit.whole fstX7 rfl rfl (Nat.le_of_ble_eq_true rfl) (Nat.zero_le _) (Nat.zero_le _) rfl rfl rfl ?_
            refine V_icmp_ne (pc := 108) (tgt := 127) F dL_served_108 (by decide) (fun h18 => ?_) (fun h18 => ?_)
            · replace hf := ite_neg hf h18
              refine V_iconst (v := 0) (pc := 127) F dL_served_127 (by decide) ?_
              obtain rfl := some_of hf
              exact V_ret F rfl rfl dL_served_128 rfl rfl
            · replace hf := ite_pos hf h18
              refine V_aload_n (pc := 111) F dL_served_111 rfl 3 rfl ?_
              refine V_iconst (v := 5) (pc := 112) F dL_served_112 (by decide) ?_
              obtain ⟨r19, g20, hf⟩ := bind_of hf
              refine V_V (w2 := wX7 cy a r19.2) (rest := []) (st2 := [.int r19.1]) (pc := 113) F 7 (M_X7_count l D cy N a r16.2 5 r19 (rt_of g20)) (cwV 1 F.ts gL_served_X7_count rfl rfl rfl hd_X7_count ⟨Nat.le_of_ble_eq_true rfl, Nat.le_of_ble_eq_true rfl⟩) rfl dL_served_113 Fit.whole fstX7 rfl rfl (Nat.le_of_ble_eq_true rfl) (Nat.zero_le _) (Nat.zero_le _) rfl rfl rfl ?_
              refine V_if_ne (pc := 116) (tgt := 127) F dL_served_116 (by decide) (fun h21 => ?_) (fun h21 => ?_)
              · replace hf := ite_neg hf h21
                refine V_iconst (v := 0) (pc := 127) F dL_served_127 (by decide) ?_
                obtain rfl := some_of hf
                exact V_ret F rfl rfl dL_served_128 rfl rfl
              · replace hf := ite_pos hf h21
                refine V_aload_n (pc := 119) F dL_served_119 rfl 3 rfl ?_
                refine V_iconst (v := 2) (pc := 120) F dL_served_120 (by decide) ?_
                obtain ⟨r22, g23, hf⟩ := bind_of hf
                refine V_V (w2 := wX7 cy a r22.2) (rest := []) (st2 := [.int r22.1]) (pc := 121) F 7 (M_X7_count l D cy N a r19.2 2 r22 (rt_of g23)) (cwV 1 F.ts gL_served_X7_count rfl rfl rfl hd_X7_count ⟨Nat.le_of_ble_eq_true rfl, Nat.le_of_ble_eq_true rfl⟩) rfl dL_served_121 Fit.whole fstX7 rfl rfl (Nat.le_of_ble_eq_true rfl) (Nat.zero_le _) (Nat.zero_le _) rfl rfl rfl ?_
                refine V_if_eq (pc := 124) (tgt := 129) F dL_served_124 (by decide) (fun h24 => ?_) (fun h24 => ?_)
                · replace hf := ite_pos hf h24
                  refine V_iconst (v := 0) (pc := 129) F dL_served_129 (by decide) ?_
                  refine V_istore (L2 := [(8, .int 0), (7, .int (if r5.1 = 1 then (1 : Int32) else (0 : Int32))), (6, .int r3.1), (5, .int r1.1), (0, .ref (a 0)), (1, .ref sb), (2, .int x2), (3, .int x3), (4, .int x4)]) (pc := 130) F dL_served_130 (by decide) rfl ?_
                  refine V.sub [4, 5, 6, 8, 3, 2, 1, 0] rfl ?_
                  obtain ⟨u42, g43, hf⟩ := bind_of hf
                  refine K132 N x2 x4 r1.1 r3.1 (if r5.1 = 1 then (1 : Int32) else (0 : Int32)) r22.2 0 u42 g43 ?_
                  refine V_aload_n (pc := 225) F dL_served_225 rfl 0 rfl ?_
                  refine V_iconst (v := 4) (pc := 226) F dL_served_226 (by decide) ?_
                  obtain ⟨r44, g45, hf⟩ := bind_of hf
                  refine V_V (w2 := wX7 cy a r44.2) (rest := []) (st2 := [.int r44.1]) (pc := 227) F 7 (M_X7_count l D cy N a u42.1 4 r44 (rt_of g45)) (cwV 1 F.ts gL_served_X7_count rfl rfl rfl hd_X7_count ⟨Nat.le_of_ble_eq_true rfl, Nat.le_of_ble_eq_true rfl⟩) rfl dL_served_227 Fit.whole fstX7 rfl rfl (Nat.le_of_ble_eq_true rfl) (Nat.zero_le _) (Nat.zero_le _) rfl rfl rfl ?_
                  refine V_iload (pc := 230) F dL_served_230 1 rfl ?_
                  refine V_ishr (pc := 232) F dL_served_232 ?_
                  refine V_iconst (v := 1) (pc := 233) F dL_served_233 (by decide) ?_
                  refine V_iand (pc := 234) F dL_served_234 ?_
                  refine V_iconst (v := 1) (pc := 235) F dL_served_235 (by decide) ?_
                  have J56 : V p l e (rmz 6 142) s m args below meth c 11 D A 0 0 (MQ below (ok_Q D (wX7 cy a o.2) (some (.int o.1)) A) args s 0 0 A) (wX7 cy a r44.2) [(0, .ref (a 0)), (4, .int x4), (5, .int r1.1), (6, .int r3.1), (7, .int (if r5.1 = 1 then (1 : Int32) else (0 : Int32))), (8, .int u42.2)] [.int (if ((r44.1 >>> (x4 &&& 31)) &&& 1) = 1 then (1 : Int32) else (0 : Int32))] 244 := by
                    refine V_istore (L2 := [(9, .int (if ((r44.1 >>> (x4 &&& 31)) &&& 1) = 1 then (1 : Int32) else (0 : Int32))), (0, .ref (a 0)), (4, .int x4), (5, .int r1.1), (6, .int r3.1), (7, .int (if r5.1 = 1 then (1 : Int32) else (0 : Int32))), (8, .int u42.2)]) (pc := 244) F dL_served_244 (by decide) rfl ?_
                    refine V_iload (pc := 246) F dL_served_246 0 rfl ?_
                    refine V_if_eq (pc := 248) (tgt := 283) F dL_served_248 (by decide) (fun h47 => ?_) (fun h47 => ?_)
                    · replace hf := ite_pos hf h47
                      refine V_iload (pc := 283) F dL_served_283 5 rfl ?_
                      refine V_if_ne (pc := 285) (tgt := 295) F dL_served_285 (by decide) (fun h48 => ?_) (fun h48 => ?_)
                      · replace hf := ite_neg hf h48
                        refine V_iconst (v := 1) (pc := 295) F dL_served_295 (by decide) ?_
                        refine V_goto (pc := 296) (tgt := 300) F dL_served_296 (by decide) ?_
                        obtain rfl := some_of hf
                        exact V_ret F rfl rfl dL_served_300 rfl rfl
                      · replace hf := ite_pos hf h48
                        refine V_iload (pc := 288) F dL_served_288 3 rfl ?_
                        refine V_bipush (v := 60) (pc := 290) F dL_served_290 (by decide) ?_
                        refine V_icmp_lt (pc := 292) (tgt := 299) F dL_served_292 (by decide) (fun h49 => ?_) (fun h49 => ?_)
                        · replace hf := ite_pos hf h49
                          refine V_iconst (v := 0) (pc := 299) F dL_served_299 (by decide) ?_
                          obtain rfl := some_of hf
                          exact V_ret F rfl rfl dL_served_300 rfl rfl
                        · replace hf := ite_neg hf h49
                          refine V_iconst (v := 1) (pc := 295) F dL_served_295 (by decide) ?_
                          refine V_goto (pc := 296) (tgt := 300) F dL_served_296 (by decide) ?_
                          obtain rfl := some_of hf
                          exact V_ret F rfl rfl dL_served_300 rfl rfl
                    · replace hf := ite_neg hf h47
                      refine V_iload (pc := 251) F dL_served_251 5 rfl ?_
                      refine V_if_ne (pc := 253) (tgt := 263) F dL_served_253 (by decide) (fun h50 => ?_) (fun h50 => ?_)
                      · replace hf := ite_neg hf h50
                        refine V_iload (pc := 263) F dL_served_263 4 rfl ?_
                        refine V_if_lt (pc := 265) (tgt := 279) F dL_served_265 (by decide) (fun h51 => ?_) (fun h51 => ?_)
                        · replace hf := ite_pos hf h51
                          refine V_iconst (v := 0) (pc := 279) F dL_served_279 (by decide) ?_
                          refine V_goto (pc := 280) (tgt := 300) F dL_served_280 (by decide) ?_
                          obtain rfl := some_of hf
                          exact V_ret F rfl rfl dL_served_300 rfl rfl
                        · replace hf := ite_neg hf h51
                          refine V_iload (pc := 268) F dL_served_268 6 rfl ?_
                          refine V_iload (pc := 270) F dL_served_270 4 rfl ?_
                          refine V_icmp_lt (pc := 272) (tgt := 279) F dL_served_272 (by decide) (fun h52 => ?_) (fun h52 => ?_)
                          · replace hf := ite_pos hf h52
                            refine V_iconst (v := 0) (pc := 279) F dL_served_279 (by decide) ?_
                            refine V_goto (pc := 280) (tgt := 300) F dL_served_280 (by decide) ?_
                            obtain rfl := some_of hf
                            exact V_ret F rfl rfl dL_served_300 rfl rfl
                          · replace hf := ite_neg hf h52
                            refine V_iconst (v := 1) (pc := 275) F dL_served_275 (by decide) ?_
                            refine V_goto (pc := 276) (tgt := 300) F dL_served_276 (by decide) ?_
                            obtain rfl := some_of hf
                            exact V_ret F rfl rfl dL_served_300 rfl rfl
                      · replace hf := ite_pos hf h50
                        refine V_iload (pc := 256) F dL_served_256 6 rfl ?_
                        refine V_iload (pc := 258) F dL_served_258 3 rfl ?_
                        refine V_icmp_gt (pc := 260) (tgt := 279) F dL_served_260 (by decide) (fun h53 => ?_) (fun h53 => ?_)
                        · replace hf := ite_pos hf h53
                          refine V_iconst (v := 0) (pc := 279) F dL_served_279 (by decide) ?_
                          refine V_goto (pc := 280) (tgt := 300) F dL_served_280 (by decide) ?_
                          obtain rfl := some_of hf
                          exact V_ret F rfl rfl dL_served_300 rfl rfl
                        · replace hf := ite_neg hf h53
                          refine V_iload (pc := 263) F dL_served_263 4 rfl ?_
                          refine V_if_lt (pc := 265) (tgt := 279) F dL_served_265 (by decide) (fun h54 => ?_) (fun h54 => ?_)
                          · replace hf := ite_pos hf h54
                            refine V_iconst (v := 0) (pc := 279) F dL_served_279 (by decide) ?_
                            refine V_goto (pc := 280) (tgt := 300) F dL_served_280 (by decide) ?_
                            obtain rfl := some_of hf
                            exact V_ret F rfl rfl dL_served_300 rfl rfl
                          · replace hf := ite_neg hf h54
                            refine V_iload (pc := 268) F dL_served_268 6 rfl ?_
                            refine V_iload (pc := 270) F dL_served_270 4 rfl ?_
                            refine V_icmp_lt (pc := 272) (tgt := 279) F dL_served_272 (by decide) (fun h55 => ?_) (fun h55 => ?_)
                            · replace hf := ite_pos hf h55
                              refine V_iconst (v := 0) (pc := 279) F dL_served_279 (by decide) ?_
                              refine V_goto (pc := 280) (tgt := 300) F dL_served_280 (by decide) ?_
                              obtain rfl := some_of hf
                              exact V_ret F rfl rfl dL_served_300 rfl rfl
                            · replace hf := ite_neg hf h55
                              refine V_iconst (v := 1) (pc := 275) F dL_served_275 (by decide) ?_
                              refine V_goto (pc := 276) (tgt := 300) F dL_served_276 (by decide) ?_
                              obtain rfl := some_of hf
                              exact V_ret F rfl rfl dL_served_300 rfl rfl
                  refine V_icmp_ne (pc := 236) (tgt := 243) F dL_served_236 (by decide) (fun h46 => ?_) (fun h46 => ?_)
                  · refine V_iconst (v := 0) (pc := 243) F dL_served_243 (by decide) ?_
                    exact V.eq rfl rfl (by rw [if_neg h46]) J56
                  · refine V_iconst (v := 1) (pc := 239) F dL_served_239 (by decide) ?_
                    refine V_goto (pc := 240) (tgt := 244) F dL_served_240 (by decide) ?_
                    exact V.eq rfl rfl (by rw [if_pos h46]) J56
                · replace hf := ite_neg hf h24
                  refine V_iconst (v := 0) (pc := 127) F dL_served_127 (by decide) ?_
                  obtain rfl := some_of hf
                  exact V_ret F rfl rfl dL_served_128 rfl rfl
          · replace hf := ite_pos hf h13
            refine V_iload (pc := 85) F dL_served_85 2 rfl ?_
            refine V_if_ne (pc := 87) (tgt := 95) F dL_served_87 (by decide) (fun h57 => ?_) (fun h57 => ?_)
            · replace hf := ite_neg hf h57
              refine V_iconst (v := 0) (pc := 95) F dL_served_95 (by decide) ?_
              obtain rfl := some_of hf
              exact V_ret F rfl rfl dL_served_96 rfl rfl
            · replace hf := ite_pos hf h57
              refine V_iload (pc := 90) F dL_served_90 1 rfl ?_
              refine V_if_eq (pc := 92) (tgt := 97) F dL_served_92 (by decide) (fun h58 => ?_) (fun h58 => ?_)
              · replace hf := ite_pos hf h58
                refine V_aload_n (pc := 97) F dL_served_97 rfl 3 rfl ?_
                refine V_iload_n (pc := 98) F dL_served_98 rfl 6 rfl ?_
                obtain ⟨r59, g60, hf⟩ := bind_of hf
                refine V_V (w2 := wX7 cy a r59.2) (rest := []) (st2 := [.int r59.1]) (pc := 99) F 7 (M_X7_start l D cy N a r11.2 x3 r59 (rt_of g60)) (cwV 1 F.ts gL_served_X7_start rfl rfl rfl hd_X7_start ⟨Nat.le_of_ble_eq_true rfl, Nat.le_of_ble_eq_true rfl⟩) rfl dL_served_99 Fit.whole fstX7 rfl rfl (Nat.le_of_ble_eq_true rfl) (Nat.zero_le _) (Nat.zero_le _) rfl rfl rfl ?_
                refine V_aload_n (pc := 102) F dL_served_102 rfl 3 rfl ?_
                refine V_iload_n (pc := 103) F dL_served_103 rfl 6 rfl ?_
                refine V_iconst (v := 0) (pc := 104) F dL_served_104 (by decide) ?_
                obtain ⟨r61, g62, hf⟩ := bind_of hf
                refine V_V (w2 := wX7 cy a r61.2) (rest := [.int r59.1]) (st2 := [.int r61.1, .int r59.1]) (pc := 105) F 7 (M_X7_phase l D cy N a r59.2 x3 0 r61 (rt_of g62)) (cwV 2 F.ts gL_served_X7_phase rfl rfl rfl hd_X7_phase ⟨Nat.le_of_ble_eq_true rfl, Nat.le_of_ble_eq_true rfl⟩) rfl dL_served_105 Fit.whole fstX7 rfl rfl (Nat.le_of_ble_eq_true rfl) (Nat.zero_le _) (Nat.zero_le _) rfl rfl rfl ?_
                refine V_icmp_ne (pc := 108) (tgt := 127) F dL_served_108 (by decide) (fun h63 => ?_) (fun h63 => ?_)
                · replace hf := ite_neg hf h63
                  refine V_iconst (v := 0) (pc := 127) F dL_served_127 (by decide) ?_
                  obtain rfl := some_of hf
                  exact V_ret F rfl rfl dL_served_128 rfl rfl
                · replace hf := ite_pos hf h63
                  refine V_aload_n (pc := 111) F dL_served_111 rfl 3 rfl ?_
                  refine V_iconst (v := 5) (pc := 112) F dL_served_112 (by decide) ?_
                  obtain ⟨r64, g65, hf⟩ := bind_of hf
                  refine V_V (w2 := wX7 cy a r64.2) (rest := []) (st2 := [.int r64.1]) (pc := 113) F 7 (M_X7_count l D cy N a r61.2 5 r64 (rt_of g65)) (cwV 1 F.ts gL_served_X7_count rfl rfl rfl hd_X7_count ⟨Nat.le_of_ble_eq_true rfl, Nat.le_of_ble_eq_true rfl⟩) rfl dL_served_113 Fit.whole fstX7 rfl rfl (Nat.le_of_ble_eq_true rfl) (Nat.zero_le _) (Nat.zero_le _) rfl rfl rfl ?_
                  refine V_if_ne (pc := 116) (tgt := 127) F dL_served_116 (by decide) (fun h66 => ?_) (fun h66 => ?_)
                  · replace hf := ite_neg hf h66
                    refine V_iconst (v := 0) (pc := 127) F dL_served_127 (by decide) ?_
                    obtain rfl := some_of hf
                    exact V_ret F rfl rfl dL_served_128 rfl rfl
                  · replace hf := ite_pos hf h66
                    refine V_aload_n (pc := 119) F dL_served_119 rfl 3 rfl ?_
                    refine V_iconst (v := 2) (pc := 120) F dL_served_120 (by decide) ?_
                    obtain ⟨r67, g68, hf⟩ := bind_of hf
                    refine V_V (w2 := wX7 cy a r67.2) (rest := []) (st2 := [.int r67.1]) (pc := 121) F 7 (M_X7_count l D cy N a r64.2 2 r67 (rt_of g68)) (cwV 1 F.ts gL_served_X7_count rfl rfl rfl hd_X7_count ⟨Nat.le_of_ble_eq_true rfl, Nat.le_of_ble_eq_true rfl⟩) rfl dL_served_121 Fit.whole fstX7 rfl rfl (Nat.le_of_ble_eq_true rfl) (Nat.zero_le _) (Nat.zero_le _) rfl rfl rfl ?_
                    refine V_if_eq (pc := 124) (tgt := 129) F dL_served_124 (by decide) (fun h69 => ?_) (fun h69 => ?_)
                    · replace hf := ite_pos hf h69
                      refine V_iconst (v := 0) (pc := 129) F dL_served_129 (by decide) ?_
                      refine V_istore (L2 := [(8, .int 0), (7, .int (if r5.1 = 1 then (1 : Int32) else (0 : Int32))), (6, .int r3.1), (5, .int r1.1), (0, .ref (a 0)), (1, .ref sb), (2, .int x2), (3, .int x3), (4, .int x4)]) (pc := 130) F dL_served_130 (by decide) rfl ?_
                      refine V.sub [4, 5, 6, 8, 3, 2, 1, 0] rfl ?_
                      obtain ⟨u70, g71, hf⟩ := bind_of hf
                      refine K132 N x2 x4 r1.1 r3.1 (if r5.1 = 1 then (1 : Int32) else (0 : Int32)) r67.2 0 u70 g71 ?_
                      refine V_aload_n (pc := 225) F dL_served_225 rfl 0 rfl ?_
                      refine V_iconst (v := 4) (pc := 226) F dL_served_226 (by decide) ?_
                      obtain ⟨r72, g73, hf⟩ := bind_of hf
                      refine V_V (w2 := wX7 cy a r72.2) (rest := []) (st2 := [.int r72.1]) (pc := 227) F 7 (M_X7_count l D cy N a u70.1 4 r72 (rt_of g73)) (cwV 1 F.ts gL_served_X7_count rfl rfl rfl hd_X7_count ⟨Nat.le_of_ble_eq_true rfl, Nat.le_of_ble_eq_true rfl⟩) rfl dL_served_227 Fit.whole fstX7 rfl rfl (Nat.le_of_ble_eq_true rfl) (Nat.zero_le _) (Nat.zero_le _) rfl rfl rfl ?_
                      refine V_iload (pc := 230) F dL_served_230 1 rfl ?_
                      refine V_ishr (pc := 232) F dL_served_232 ?_
                      refine V_iconst (v := 1) (pc := 233) F dL_served_233 (by decide) ?_
                      refine V_iand (pc := 234) F dL_served_234 ?_
                      refine V_iconst (v := 1) (pc := 235) F dL_served_235 (by decide) ?_
                      have J84 : V p l e (rmz 6 142) s m args below meth c 11 D A 0 0 (MQ below (ok_Q D (wX7 cy a o.2) (some (.int o.1)) A) args s 0 0 A) (wX7 cy a r72.2) [(0, .ref (a 0)), (4, .int x4), (5, .int r1.1), (6, .int r3.1), (7, .int (if r5.1 = 1 then (1 : Int32) else (0 : Int32))), (8, .int u70.2)] [.int (if ((r72.1 >>> (x4 &&& 31)) &&& 1) = 1 then (1 : Int32) else (0 : Int32))] 244 := by
                        refine V_istore (L2 := [(9, .int (if ((r72.1 >>> (x4 &&& 31)) &&& 1) = 1 then (1 : Int32) else (0 : Int32))), (0, .ref (a 0)), (4, .int x4), (5, .int r1.1), (6, .int r3.1), (7, .int (if r5.1 = 1 then (1 : Int32) else (0 : Int32))), (8, .int u70.2)]) (pc := 244) F dL_served_244 (by decide) rfl ?_
                        refine V_iload (pc := 246) F dL_served_246 0 rfl ?_
                        refine V_if_eq (pc := 248) (tgt := 283) F dL_served_248 (by decide) (fun h75 => ?_) (fun h75 => ?_)
                        · replace hf := ite_pos hf h75
                          refine V_iload (pc := 283) F dL_served_283 5 rfl ?_
                          refine V_if_ne (pc := 285) (tgt := 295) F dL_served_285 (by decide) (fun h76 => ?_) (fun h76 => ?_)
                          · replace hf := ite_neg hf h76
                            refine V_iconst (v := 1) (pc := 295) F dL_served_295 (by decide) ?_
                            refine V_goto (pc := 296) (tgt := 300) F dL_served_296 (by decide) ?_
                            obtain rfl := some_of hf
                            exact V_ret F rfl rfl dL_served_300 rfl rfl
                          · replace hf := ite_pos hf h76
                            refine V_iload (pc := 288) F dL_served_288 3 rfl ?_
                            refine V_bipush (v := 60) (pc := 290) F dL_served_290 (by decide) ?_
                            refine V_icmp_lt (pc := 292) (tgt := 299) F dL_served_292 (by decide) (fun h77 => ?_) (fun h77 => ?_)
                            · replace hf := ite_pos hf h77
                              refine V_iconst (v := 0) (pc := 299) F dL_served_299 (by decide) ?_
                              obtain rfl := some_of hf
                              exact V_ret F rfl rfl dL_served_300 rfl rfl
                            · replace hf := ite_neg hf h77
                              refine V_iconst (v := 1) (pc := 295) F dL_served_295 (by decide) ?_
                              refine V_goto (pc := 296) (tgt := 300) F dL_served_296 (by decide) ?_
                              obtain rfl := some_of hf
                              exact V_ret F rfl rfl dL_served_300 rfl rfl
                        · replace hf := ite_neg hf h75
                          refine V_iload (pc := 251) F dL_served_251 5 rfl ?_
                          refine V_if_ne (pc := 253) (tgt := 263) F dL_served_253 (by decide) (fun h78 => ?_) (fun h78 => ?_)
                          · replace hf := ite_neg hf h78
                            refine V_iload (pc := 263) F dL_served_263 4 rfl ?_
                            refine V_if_lt (pc := 265) (tgt := 279) F dL_served_265 (by decide) (fun h79 => ?_) (fun h79 => ?_)
                            · replace hf := ite_pos hf h79
                              refine V_iconst (v := 0) (pc := 279) F dL_served_279 (by decide) ?_
                              refine V_goto (pc := 280) (tgt := 300) F dL_served_280 (by decide) ?_
                              obtain rfl := some_of hf
                              exact V_ret F rfl rfl dL_served_300 rfl rfl
                            · replace hf := ite_neg hf h79
                              refine V_iload (pc := 268) F dL_served_268 6 rfl ?_
                              refine V_iload (pc := 270) F dL_served_270 4 rfl ?_
                              refine V_icmp_lt (pc := 272) (tgt := 279) F dL_served_272 (by decide) (fun h80 => ?_) (fun h80 => ?_)
                              · replace hf := ite_pos hf h80
                                refine V_iconst (v := 0) (pc := 279) F dL_served_279 (by decide) ?_
                                refine V_goto (pc := 280) (tgt := 300) F dL_served_280 (by decide) ?_
                                obtain rfl := some_of hf
                                exact V_ret F rfl rfl dL_served_300 rfl rfl
                              · replace hf := ite_neg hf h80
                                refine V_iconst (v := 1) (pc := 275) F dL_served_275 (by decide) ?_
                                refine V_goto (pc := 276) (tgt := 300) F dL_served_276 (by decide) ?_
                                obtain rfl := some_of hf
                                exact V_ret F rfl rfl dL_served_300 rfl rfl
                          · replace hf := ite_pos hf h78
                            refine V_iload (pc := 256) F dL_served_256 6 rfl ?_
                            refine V_iload (pc := 258) F dL_served_258 3 rfl ?_
                            refine V_icmp_gt (pc := 260) (tgt := 279) F dL_served_260 (by decide) (fun h81 => ?_) (fun h81 => ?_)
                            · replace hf := ite_pos hf h81
                              refine V_iconst (v := 0) (pc := 279) F dL_served_279 (by decide) ?_
                              refine V_goto (pc := 280) (tgt := 300) F dL_served_280 (by decide) ?_
                              obtain rfl := some_of hf
                              exact V_ret F rfl rfl dL_served_300 rfl rfl
                            · replace hf := ite_neg hf h81
                              refine V_iload (pc := 263) F dL_served_263 4 rfl ?_
                              refine V_if_lt (pc := 265) (tgt := 279) F dL_served_265 (by decide) (fun h82 => ?_) (fun h82 => ?_)
                              · replace hf := ite_pos hf h82
                                refine V_iconst (v := 0) (pc := 279) F dL_served_279 (by decide) ?_
                                refine V_goto (pc := 280) (tgt := 300) F dL_served_280 (by decide) ?_
                                obtain rfl := some_of hf
                                exact V_ret F rfl rfl dL_served_300 rfl rfl
                              · replace hf := ite_neg hf h82
                                refine V_iload (pc := 268) F dL_served_268 6 rfl ?_
                                refine V_iload (pc := 270) F dL_served_270 4 rfl ?_
                                refine V_icmp_lt (pc := 272) (tgt := 279) F dL_served_272 (by decide) (fun h83 => ?_) (fun h83 => ?_)
                                · replace hf := ite_pos hf h83
                                  refine V_iconst (v := 0) (pc := 279) F dL_served_279 (by decide) ?_
                                  refine V_goto (pc := 280) (tgt := 300) F dL_served_280 (by decide) ?_
                                  obtain rfl := some_of hf
                                  exact V_ret F rfl rfl dL_served_300 rfl rfl
                                · replace hf := ite_neg hf h83
                                  refine V_iconst (v := 1) (pc := 275) F dL_served_275 (by decide) ?_
                                  refine V_goto (pc := 276) (tgt := 300) F dL_served_276 (by decide) ?_
                                  obtain rfl := some_of hf
                                  exact V_ret F rfl rfl dL_served_300 rfl rfl
                      refine V_icmp_ne (pc := 236) (tgt := 243) F dL_served_236 (by decide) (fun h74 => ?_) (fun h74 => ?_)
                      · refine V_iconst (v := 0) (pc := 243) F dL_served_243 (by decide) ?_
                        exact V.eq rfl rfl (by rw [if_neg h74]) J84
                      · refine V_iconst (v := 1) (pc := 239) F dL_served_239 (by decide) ?_
                        refine V_goto (pc := 240) (tgt := 244) F dL_served_240 (by decide) ?_
                        exact V.eq rfl rfl (by rw [if_pos h74]) J84
                    · replace hf := ite_neg hf h69
                      refine V_iconst (v := 0) (pc := 127) F dL_served_127 (by decide) ?_
                      obtain rfl := some_of hf
                      exact V_ret F rfl rfl dL_served_128 rfl rfl
              · replace hf := ite_neg hf h58
                refine V_iconst (v := 0) (pc := 95) F dL_served_95 (by decide) ?_
                obtain rfl := some_of hf
                exact V_ret F rfl rfl dL_served_96 rfl rfl
        · replace hf := ite_pos hf h10
          refine V_iload (pc := 58) F dL_served_58 1 rfl ?_
          refine V_if_lt (pc := 60) (tgt := 95) F dL_served_60 (by decide) (fun h85 => ?_) (fun h85 => ?_)
          · replace hf := ite_pos hf h85
            refine V_iconst (v := 0) (pc := 95) F dL_served_95 (by decide) ?_
            obtain rfl := some_of hf
            exact V_ret F rfl rfl dL_served_96 rfl rfl
          · replace hf := ite_neg hf h85
            refine V_iload (pc := 63) F dL_served_63 1 rfl ?_
            refine V_iload (pc := 65) F dL_served_65 2 rfl ?_
            refine V_icmp_gt (pc := 67) (tgt := 95) F dL_served_67 (by decide) (fun h86 => ?_) (fun h86 => ?_)
            · replace hf := ite_pos hf h86
              refine V_iconst (v := 0) (pc := 95) F dL_served_95 (by decide) ?_
              obtain rfl := some_of hf
              exact V_ret F rfl rfl dL_served_96 rfl rfl
            · replace hf := ite_neg hf h86
              refine V_aload_n (pc := 70) F dL_served_70 rfl 3 rfl ?_
              refine V_iload_n (pc := 71) F dL_served_71 rfl 6 rfl ?_
              refine V_iconst (v := 0) (pc := 72) F dL_served_72 (by decide) ?_
              obtain ⟨r87, g88, hf⟩ := bind_of hf
              refine V_V (w2 := wX7 cy a r87.2) (rest := []) (st2 := [.int r87.1]) (pc := 73) F 7 (M_X7_phase l D cy N a r5.2 x3 0 r87 (rt_of g88)) (cwV 2 F.ts gL_served_X7_phase rfl rfl rfl hd_X7_phase ⟨Nat.le_of_ble_eq_true rfl, Nat.le_of_ble_eq_true rfl⟩) rfl dL_served_73 Fit.whole fstX7 rfl rfl (Nat.le_of_ble_eq_true rfl) (Nat.zero_le _) (Nat.zero_le _) rfl rfl rfl ?_
              refine V_iload (pc := 76) F dL_served_76 7 rfl ?_
              refine V_ishr (pc := 78) F dL_served_78 ?_
              refine V_iconst (v := 1) (pc := 79) F dL_served_79 (by decide) ?_
              refine V_iand (pc := 80) F dL_served_80 ?_
              refine V_iconst (v := 1) (pc := 81) F dL_served_81 (by decide) ?_
              refine V_icmp_ne (pc := 82) (tgt := 97) F dL_served_82 (by decide) (fun h89 => ?_) (fun h89 => ?_)
              · replace hf := ite_neg hf h89
                refine V_aload_n (pc := 97) F dL_served_97 rfl 3 rfl ?_
                refine V_iload_n (pc := 98) F dL_served_98 rfl 6 rfl ?_
                obtain ⟨r90, g91, hf⟩ := bind_of hf
                refine V_V (w2 := wX7 cy a r90.2) (rest := []) (st2 := [.int r90.1]) (pc := 99) F 7 (M_X7_start l D cy N a r87.2 x3 r90 (rt_of g91)) (cwV 1 F.ts gL_served_X7_start rfl rfl rfl hd_X7_start ⟨Nat.le_of_ble_eq_true rfl, Nat.le_of_ble_eq_true rfl⟩) rfl dL_served_99 Fit.whole fstX7 rfl rfl (Nat.le_of_ble_eq_true rfl) (Nat.zero_le _) (Nat.zero_le _) rfl rfl rfl ?_
                refine V_aload_n (pc := 102) F dL_served_102 rfl 3 rfl ?_
                refine V_iload_n (pc := 103) F dL_served_103 rfl 6 rfl ?_
                refine V_iconst (v := 0) (pc := 104) F dL_served_104 (by decide) ?_
                obtain ⟨r92, g93, hf⟩ := bind_of hf
                refine V_V (w2 := wX7 cy a r92.2) (rest := [.int r90.1]) (st2 := [.int r92.1, .int r90.1]) (pc := 105) F 7 (M_X7_phase l D cy N a r90.2 x3 0 r92 (rt_of g93)) (cwV 2 F.ts gL_served_X7_phase rfl rfl rfl hd_X7_phase ⟨Nat.le_of_ble_eq_true rfl, Nat.le_of_ble_eq_true rfl⟩) rfl dL_served_105 Fit.whole fstX7 rfl rfl (Nat.le_of_ble_eq_true rfl) (Nat.zero_le _) (Nat.zero_le _) rfl rfl rfl ?_
                refine V_icmp_ne (pc := 108) (tgt := 127) F dL_served_108 (by decide) (fun h94 => ?_) (fun h94 => ?_)
                · replace hf := ite_neg hf h94
                  refine V_iconst (v := 0) (pc := 127) F dL_served_127 (by decide) ?_
                  obtain rfl := some_of hf
                  exact V_ret F rfl rfl dL_served_128 rfl rfl
                · replace hf := ite_pos hf h94
                  refine V_aload_n (pc := 111) F dL_served_111 rfl 3 rfl ?_
                  refine V_iconst (v := 5) (pc := 112) F dL_served_112 (by decide) ?_
                  obtain ⟨r95, g96, hf⟩ := bind_of hf
                  refine V_V (w2 := wX7 cy a r95.2) (rest := []) (st2 := [.int r95.1]) (pc := 113) F 7 (M_X7_count l D cy N a r92.2 5 r95 (rt_of g96)) (cwV 1 F.ts gL_served_X7_count rfl rfl rfl hd_X7_count ⟨Nat.le_of_ble_eq_true rfl, Nat.le_of_ble_eq_true rfl⟩) rfl dL_served_113 Fit.whole fstX7 rfl rfl (Nat.le_of_ble_eq_true rfl) (Nat.zero_le _) (Nat.zero_le _) rfl rfl rfl ?_
                  refine V_if_ne (pc := 116) (tgt := 127) F dL_served_116 (by decide) (fun h97 => ?_) (fun h97 => ?_)
                  · replace hf := ite_neg hf h97
                    refine V_iconst (v := 0) (pc := 127) F dL_served_127 (by decide) ?_
                    obtain rfl := some_of hf
                    exact V_ret F rfl rfl dL_served_128 rfl rfl
                  · replace hf := ite_pos hf h97
                    refine V_aload_n (pc := 119) F dL_served_119 rfl 3 rfl ?_
                    refine V_iconst (v := 2) (pc := 120) F dL_served_120 (by decide) ?_
                    obtain ⟨r98, g99, hf⟩ := bind_of hf
                    refine V_V (w2 := wX7 cy a r98.2) (rest := []) (st2 := [.int r98.1]) (pc := 121) F 7 (M_X7_count l D cy N a r95.2 2 r98 (rt_of g99)) (cwV 1 F.ts gL_served_X7_count rfl rfl rfl hd_X7_count ⟨Nat.le_of_ble_eq_true rfl, Nat.le_of_ble_eq_true rfl⟩) rfl dL_served_121 Fit.whole fstX7 rfl rfl (Nat.le_of_ble_eq_true rfl) (Nat.zero_le _) (Nat.zero_le _) rfl rfl rfl ?_
                    refine V_if_eq (pc := 124) (tgt := 129) F dL_served_124 (by decide) (fun h100 => ?_) (fun h100 => ?_)
                    · replace hf := ite_pos hf h100
                      refine V_iconst (v := 0) (pc := 129) F dL_served_129 (by decide) ?_
                      refine V_istore (L2 := [(8, .int 0), (7, .int (if r5.1 = 1 then (1 : Int32) else (0 : Int32))), (6, .int r3.1), (5, .int r1.1), (0, .ref (a 0)), (1, .ref sb), (2, .int x2), (3, .int x3), (4, .int x4)]) (pc := 130) F dL_served_130 (by decide) rfl ?_
                      refine V.sub [4, 5, 6, 8, 3, 2, 1, 0] rfl ?_
                      obtain ⟨u101, g102, hf⟩ := bind_of hf
                      refine K132 N x2 x4 r1.1 r3.1 (if r5.1 = 1 then (1 : Int32) else (0 : Int32)) r98.2 0 u101 g102 ?_
                      refine V_aload_n (pc := 225) F dL_served_225 rfl 0 rfl ?_
                      refine V_iconst (v := 4) (pc := 226) F dL_served_226 (by decide) ?_
                      obtain ⟨r103, g104, hf⟩ := bind_of hf
                      refine V_V (w2 := wX7 cy a r103.2) (rest := []) (st2 := [.int r103.1]) (pc := 227) F 7 (M_X7_count l D cy N a u101.1 4 r103 (rt_of g104)) (cwV 1 F.ts gL_served_X7_count rfl rfl rfl hd_X7_count ⟨Nat.le_of_ble_eq_true rfl, Nat.le_of_ble_eq_true rfl⟩) rfl dL_served_227 Fit.whole fstX7 rfl rfl (Nat.le_of_ble_eq_true rfl) (Nat.zero_le _) (Nat.zero_le _) rfl rfl rfl ?_
                      refine V_iload (pc := 230) F dL_served_230 1 rfl ?_
                      refine V_ishr (pc := 232) F dL_served_232 ?_
                      refine V_iconst (v := 1) (pc := 233) F dL_served_233 (by decide) ?_
                      refine V_iand (pc := 234) F dL_served_234 ?_
                      refine V_iconst (v := 1) (pc := 235) F dL_served_235 (by decide) ?_
                      have J115 : V p l e (rmz 6 142) s m args below meth c 11 D A 0 0 (MQ below (ok_Q D (wX7 cy a o.2) (some (.int o.1)) A) args s 0 0 A) (wX7 cy a r103.2) [(0, .ref (a 0)), (4, .int x4), (5, .int r1.1), (6, .int r3.1), (7, .int (if r5.1 = 1 then (1 : Int32) else (0 : Int32))), (8, .int u101.2)] [.int (if ((r103.1 >>> (x4 &&& 31)) &&& 1) = 1 then (1 : Int32) else (0 : Int32))] 244 := by
                        refine V_istore (L2 := [(9, .int (if ((r103.1 >>> (x4 &&& 31)) &&& 1) = 1 then (1 : Int32) else (0 : Int32))), (0, .ref (a 0)), (4, .int x4), (5, .int r1.1), (6, .int r3.1), (7, .int (if r5.1 = 1 then (1 : Int32) else (0 : Int32))), (8, .int u101.2)]) (pc := 244) F dL_served_244 (by decide) rfl ?_
                        refine V_iload (pc := 246) F dL_served_246 0 rfl ?_
                        refine V_if_eq (pc := 248) (tgt := 283) F dL_served_248 (by decide) (fun h106 => ?_) (fun h106 => ?_)
                        · replace hf := ite_pos hf h106
                          refine V_iload (pc := 283) F dL_served_283 5 rfl ?_
                          refine V_if_ne (pc := 285) (tgt := 295) F dL_served_285 (by decide) (fun h107 => ?_) (fun h107 => ?_)
                          · replace hf := ite_neg hf h107
                            refine V_iconst (v := 1) (pc := 295) F dL_served_295 (by decide) ?_
                            refine V_goto (pc := 296) (tgt := 300) F dL_served_296 (by decide) ?_
                            obtain rfl := some_of hf
                            exact V_ret F rfl rfl dL_served_300 rfl rfl
                          · replace hf := ite_pos hf h107
                            refine V_iload (pc := 288) F dL_served_288 3 rfl ?_
                            refine V_bipush (v := 60) (pc := 290) F dL_served_290 (by decide) ?_
                            refine V_icmp_lt (pc := 292) (tgt := 299) F dL_served_292 (by decide) (fun h108 => ?_) (fun h108 => ?_)
                            · replace hf := ite_pos hf h108
                              refine V_iconst (v := 0) (pc := 299) F dL_served_299 (by decide) ?_
                              obtain rfl := some_of hf
                              exact V_ret F rfl rfl dL_served_300 rfl rfl
                            · replace hf := ite_neg hf h108
                              refine V_iconst (v := 1) (pc := 295) F dL_served_295 (by decide) ?_
                              refine V_goto (pc := 296) (tgt := 300) F dL_served_296 (by decide) ?_
                              obtain rfl := some_of hf
                              exact V_ret F rfl rfl dL_served_300 rfl rfl
                        · replace hf := ite_neg hf h106
                          refine V_iload (pc := 251) F dL_served_251 5 rfl ?_
                          refine V_if_ne (pc := 253) (tgt := 263) F dL_served_253 (by decide) (fun h109 => ?_) (fun h109 => ?_)
                          · replace hf := ite_neg hf h109
                            refine V_iload (pc := 263) F dL_served_263 4 rfl ?_
                            refine V_if_lt (pc := 265) (tgt := 279) F dL_served_265 (by decide) (fun h110 => ?_) (fun h110 => ?_)
                            · replace hf := ite_pos hf h110
                              refine V_iconst (v := 0) (pc := 279) F dL_served_279 (by decide) ?_
                              refine V_goto (pc := 280) (tgt := 300) F dL_served_280 (by decide) ?_
                              obtain rfl := some_of hf
                              exact V_ret F rfl rfl dL_served_300 rfl rfl
                            · replace hf := ite_neg hf h110
                              refine V_iload (pc := 268) F dL_served_268 6 rfl ?_
                              refine V_iload (pc := 270) F dL_served_270 4 rfl ?_
                              refine V_icmp_lt (pc := 272) (tgt := 279) F dL_served_272 (by decide) (fun h111 => ?_) (fun h111 => ?_)
                              · replace hf := ite_pos hf h111
                                refine V_iconst (v := 0) (pc := 279) F dL_served_279 (by decide) ?_
                                refine V_goto (pc := 280) (tgt := 300) F dL_served_280 (by decide) ?_
                                obtain rfl := some_of hf
                                exact V_ret F rfl rfl dL_served_300 rfl rfl
                              · replace hf := ite_neg hf h111
                                refine V_iconst (v := 1) (pc := 275) F dL_served_275 (by decide) ?_
                                refine V_goto (pc := 276) (tgt := 300) F dL_served_276 (by decide) ?_
                                obtain rfl := some_of hf
                                exact V_ret F rfl rfl dL_served_300 rfl rfl
                          · replace hf := ite_pos hf h109
                            refine V_iload (pc := 256) F dL_served_256 6 rfl ?_
                            refine V_iload (pc := 258) F dL_served_258 3 rfl ?_
                            refine V_icmp_gt (pc := 260) (tgt := 279) F dL_served_260 (by decide) (fun h112 => ?_) (fun h112 => ?_)
                            · replace hf := ite_pos hf h112
                              refine V_iconst (v := 0) (pc := 279) F dL_served_279 (by decide) ?_
                              refine V_goto (pc := 280) (tgt := 300) F dL_served_280 (by decide) ?_
                              obtain rfl := some_of hf
                              exact V_ret F rfl rfl dL_served_300 rfl rfl
                            · replace hf := ite_neg hf h112
                              refine V_iload (pc := 263) F dL_served_263 4 rfl ?_
                              refine V_if_lt (pc := 265) (tgt := 279) F dL_served_265 (by decide) (fun h113 => ?_) (fun h113 => ?_)
                              · replace hf := ite_pos hf h113
                                refine V_iconst (v := 0) (pc := 279) F dL_served_279 (by decide) ?_
                                refine V_goto (pc := 280) (tgt := 300) F dL_served_280 (by decide) ?_
                                obtain rfl := some_of hf
                                exact V_ret F rfl rfl dL_served_300 rfl rfl
                              · replace hf := ite_neg hf h113
                                refine V_iload (pc := 268) F dL_served_268 6 rfl ?_
                                refine V_iload (pc := 270) F dL_served_270 4 rfl ?_
                                refine V_icmp_lt (pc := 272) (tgt := 279) F dL_served_272 (by decide) (fun h114 => ?_) (fun h114 => ?_)
                                · replace hf := ite_pos hf h114
                                  refine V_iconst (v := 0) (pc := 279) F dL_served_279 (by decide) ?_
                                  refine V_goto (pc := 280) (tgt := 300) F dL_served_280 (by decide) ?_
                                  obtain rfl := some_of hf
                                  exact V_ret F rfl rfl dL_served_300 rfl rfl
                                · replace hf := ite_neg hf h114
                                  refine V_iconst (v := 1) (pc := 275) F dL_served_275 (by decide) ?_
                                  refine V_goto (pc := 276) (tgt := 300) F dL_served_276 (by decide) ?_
                                  obtain rfl := some_of hf
                                  exact V_ret F rfl rfl dL_served_300 rfl rfl
                      refine V_icmp_ne (pc := 236) (tgt := 243) F dL_served_236 (by decide) (fun h105 => ?_) (fun h105 => ?_)
                      · refine V_iconst (v := 0) (pc := 243) F dL_served_243 (by decide) ?_
                        exact V.eq rfl rfl (by rw [if_neg h105]) J115
                      · refine V_iconst (v := 1) (pc := 239) F dL_served_239 (by decide) ?_
                        refine V_goto (pc := 240) (tgt := 244) F dL_served_240 (by decide) ?_
                        exact V.eq rfl rfl (by rw [if_pos h105]) J115
                    · replace hf := ite_neg hf h100
                      refine V_iconst (v := 0) (pc := 127) F dL_served_127 (by decide) ?_
                      obtain rfl := some_of hf
                      exact V_ret F rfl rfl dL_served_128 rfl rfl
              · replace hf := ite_pos hf h89
                refine V_iload (pc := 85) F dL_served_85 2 rfl ?_
                refine V_if_ne (pc := 87) (tgt := 95) F dL_served_87 (by decide) (fun h116 => ?_) (fun h116 => ?_)
                · replace hf := ite_neg hf h116
                  refine V_iconst (v := 0) (pc := 95) F dL_served_95 (by decide) ?_
                  obtain rfl := some_of hf
                  exact V_ret F rfl rfl dL_served_96 rfl rfl
                · replace hf := ite_pos hf h116
                  refine V_iload (pc := 90) F dL_served_90 1 rfl ?_
                  refine V_if_eq (pc := 92) (tgt := 97) F dL_served_92 (by decide) (fun h117 => ?_) (fun h117 => ?_)
                  · replace hf := ite_pos hf h117
                    refine V_aload_n (pc := 97) F dL_served_97 rfl 3 rfl ?_
                    refine V_iload_n (pc := 98) F dL_served_98 rfl 6 rfl ?_
                    obtain ⟨r118, g119, hf⟩ := bind_of hf
                    refine V_V (w2 := wX7 cy a r118.2) (rest := []) (st2 := [.int r118.1]) (pc := 99) F 7 (M_X7_start l D cy N a r87.2 x3 r118 (rt_of g119)) (cwV 1 F.ts gL_served_X7_start rfl rfl rfl hd_X7_start ⟨Nat.le_of_ble_eq_true rfl, Nat.le_of_ble_eq_true rfl⟩) rfl dL_served_99 Fit.whole fstX7 rfl rfl (Nat.le_of_ble_eq_true rfl) (Nat.zero_le _) (Nat.zero_le _) rfl rfl rfl ?_
                    refine V_aload_n (pc := 102) F dL_served_102 rfl 3 rfl ?_
                    refine V_iload_n (pc := 103) F dL_served_103 rfl 6 rfl ?_
                    refine V_iconst (v := 0) (pc := 104) F dL_served_104 (by decide) ?_
                    obtain ⟨r120, g121, hf⟩ := bind_of hf
                    refine V_V (w2 := wX7 cy a r120.2) (rest := [.int r118.1]) (st2 := [.int r120.1, .int r118.1]) (pc := 105) F 7 (M_X7_phase l D cy N a r118.2 x3 0 r120 (rt_of g121)) (cwV 2 F.ts gL_served_X7_phase rfl rfl rfl hd_X7_phase ⟨Nat.le_of_ble_eq_true rfl, Nat.le_of_ble_eq_true rfl⟩) rfl dL_served_105 Fit.whole fstX7 rfl rfl (Nat.le_of_ble_eq_true rfl) (Nat.zero_le _) (Nat.zero_le _) rfl rfl rfl ?_
                    refine V_icmp_ne (pc := 108) (tgt := 127) F dL_served_108 (by decide) (fun h122 => ?_) (fun h122 => ?_)
                    · replace hf := ite_neg hf h122
                      refine V_iconst (v := 0) (pc := 127) F dL_served_127 (by decide) ?_
                      obtain rfl := some_of hf
                      exact V_ret F rfl rfl dL_served_128 rfl rfl
                    · replace hf := ite_pos hf h122
                      refine V_aload_n (pc := 111) F dL_served_111 rfl 3 rfl ?_
                      refine V_iconst (v := 5) (pc := 112) F dL_served_112 (by decide) ?_
                      obtain ⟨r123, g124, hf⟩ := bind_of hf
                      refine V_V (w2 := wX7 cy a r123.2) (rest := []) (st2 := [.int r123.1]) (pc := 113) F 7 (M_X7_count l D cy N a r120.2 5 r123 (rt_of g124)) (cwV 1 F.ts gL_served_X7_count rfl rfl rfl hd_X7_count ⟨Nat.le_of_ble_eq_true rfl, Nat.le_of_ble_eq_true rfl⟩) rfl dL_served_113 Fit.whole fstX7 rfl rfl (Nat.le_of_ble_eq_true rfl) (Nat.zero_le _) (Nat.zero_le _) rfl rfl rfl ?_
                      refine V_if_ne (pc := 116) (tgt := 127) F dL_served_116 (by decide) (fun h125 => ?_) (fun h125 => ?_)
                      · replace hf := ite_neg hf h125
                        refine V_iconst (v := 0) (pc := 127) F dL_served_127 (by decide) ?_
                        obtain rfl := some_of hf
                        exact V_ret F rfl rfl dL_served_128 rfl rfl
                      · replace hf := ite_pos hf h125
                        refine V_aload_n (pc := 119) F dL_served_119 rfl 3 rfl ?_
                        refine V_iconst (v := 2) (pc := 120) F dL_served_120 (by decide) ?_
                        obtain ⟨r126, g127, hf⟩ := bind_of hf
                        refine V_V (w2 := wX7 cy a r126.2) (rest := []) (st2 := [.int r126.1]) (pc := 121) F 7 (M_X7_count l D cy N a r123.2 2 r126 (rt_of g127)) (cwV 1 F.ts gL_served_X7_count rfl rfl rfl hd_X7_count ⟨Nat.le_of_ble_eq_true rfl, Nat.le_of_ble_eq_true rfl⟩) rfl dL_served_121 Fit.whole fstX7 rfl rfl (Nat.le_of_ble_eq_true rfl) (Nat.zero_le _) (Nat.zero_le _) rfl rfl rfl ?_
                        refine V_if_eq (pc := 124) (tgt := 129) F dL_served_124 (by decide) (fun h128 => ?_) (fun h128 => ?_)
                        · replace hf := ite_pos hf h128
                          refine V_iconst (v := 0) (pc := 129) F dL_served_129 (by decide) ?_
                          refine V_istore (L2 := [(8, .int 0), (7, .int (if r5.1 = 1 then (1 : Int32) else (0 : Int32))), (6, .int r3.1), (5, .int r1.1), (0, .ref (a 0)), (1, .ref sb), (2, .int x2), (3, .int x3), (4, .int x4)]) (pc := 130) F dL_served_130 (by decide) rfl ?_
                          refine V.sub [4, 5, 6, 8, 3, 2, 1, 0] rfl ?_
                          obtain ⟨u129, g130, hf⟩ := bind_of hf
                          refine K132 N x2 x4 r1.1 r3.1 (if r5.1 = 1 then (1 : Int32) else (0 : Int32)) r126.2 0 u129 g130 ?_
                          refine V_aload_n (pc := 225) F dL_served_225 rfl 0 rfl ?_
                          refine V_iconst (v := 4) (pc := 226) F dL_served_226 (by decide) ?_
                          obtain ⟨r131, g132, hf⟩ := bind_of hf
                          refine V_V (w2 := wX7 cy a r131.2) (rest := []) (st2 := [.int r131.1]) (pc := 227) F 7 (M_X7_count l D cy N a u129.1 4 r131 (rt_of g132)) (cwV 1 F.ts gL_served_X7_count rfl rfl rfl hd_X7_count ⟨Nat.le_of_ble_eq_true rfl, Nat.le_of_ble_eq_true rfl⟩) rfl dL_served_227 Fit.whole fstX7 rfl rfl (Nat.le_of_ble_eq_true rfl) (Nat.zero_le _) (Nat.zero_le _) rfl rfl rfl ?_
                          refine V_iload (pc := 230) F dL_served_230 1 rfl ?_
                          refine V_ishr (pc := 232) F dL_served_232 ?_
                          refine V_iconst (v := 1) (pc := 233) F dL_served_233 (by decide) ?_
                          refine V_iand (pc := 234) F dL_served_234 ?_
                          refine V_iconst (v := 1) (pc := 235) F dL_served_235 (by decide) ?_
                          have J143 : V p l e (rmz 6 142) s m args below meth c 11 D A 0 0 (MQ below (ok_Q D (wX7 cy a o.2) (some (.int o.1)) A) args s 0 0 A) (wX7 cy a r131.2) [(0, .ref (a 0)), (4, .int x4), (5, .int r1.1), (6, .int r3.1), (7, .int (if r5.1 = 1 then (1 : Int32) else (0 : Int32))), (8, .int u129.2)] [.int (if ((r131.1 >>> (x4 &&& 31)) &&& 1) = 1 then (1 : Int32) else (0 : Int32))] 244 := by
                            refine V_istore (L2 := [(9, .int (if ((r131.1 >>> (x4 &&& 31)) &&& 1) = 1 then (1 : Int32) else (0 : Int32))), (0, .ref (a 0)), (4, .int x4), (5, .int r1.1), (6, .int r3.1), (7, .int (if r5.1 = 1 then (1 : Int32) else (0 : Int32))), (8, .int u129.2)]) (pc := 244) F dL_served_244 (by decide) rfl ?_
                            refine V_iload (pc := 246) F dL_served_246 0 rfl ?_
                            refine V_if_eq (pc := 248) (tgt := 283) F dL_served_248 (by decide) (fun h134 => ?_) (fun h134 => ?_)
                            · replace hf := ite_pos hf h134
                              refine V_iload (pc := 283) F dL_served_283 5 rfl ?_
                              refine V_if_ne (pc := 285) (tgt := 295) F dL_served_285 (by decide) (fun h135 => ?_) (fun h135 => ?_)
                              · replace hf := ite_neg hf h135
                                refine V_iconst (v := 1) (pc := 295) F dL_served_295 (by decide) ?_
                                refine V_goto (pc := 296) (tgt := 300) F dL_served_296 (by decide) ?_
                                obtain rfl := some_of hf
                                exact V_ret F rfl rfl dL_served_300 rfl rfl
                              · replace hf := ite_pos hf h135
                                refine V_iload (pc := 288) F dL_served_288 3 rfl ?_
                                refine V_bipush (v := 60) (pc := 290) F dL_served_290 (by decide) ?_
                                refine V_icmp_lt (pc := 292) (tgt := 299) F dL_served_292 (by decide) (fun h136 => ?_) (fun h136 => ?_)
                                · replace hf := ite_pos hf h136
                                  refine V_iconst (v := 0) (pc := 299) F dL_served_299 (by decide) ?_
                                  obtain rfl := some_of hf
                                  exact V_ret F rfl rfl dL_served_300 rfl rfl
                                · replace hf := ite_neg hf h136
                                  refine V_iconst (v := 1) (pc := 295) F dL_served_295 (by decide) ?_
                                  refine V_goto (pc := 296) (tgt := 300) F dL_served_296 (by decide) ?_
                                  obtain rfl := some_of hf
                                  exact V_ret F rfl rfl dL_served_300 rfl rfl
                            · replace hf := ite_neg hf h134
                              refine V_iload (pc := 251) F dL_served_251 5 rfl ?_
                              refine V_if_ne (pc := 253) (tgt := 263) F dL_served_253 (by decide) (fun h137 => ?_) (fun h137 => ?_)
                              · replace hf := ite_neg hf h137
                                refine V_iload (pc := 263) F dL_served_263 4 rfl ?_
                                refine V_if_lt (pc := 265) (tgt := 279) F dL_served_265 (by decide) (fun h138 => ?_) (fun h138 => ?_)
                                · replace hf := ite_pos hf h138
                                  refine V_iconst (v := 0) (pc := 279) F dL_served_279 (by decide) ?_
                                  refine V_goto (pc := 280) (tgt := 300) F dL_served_280 (by decide) ?_
                                  obtain rfl := some_of hf
                                  exact V_ret F rfl rfl dL_served_300 rfl rfl
                                · replace hf := ite_neg hf h138
                                  refine V_iload (pc := 268) F dL_served_268 6 rfl ?_
                                  refine V_iload (pc := 270) F dL_served_270 4 rfl ?_
                                  refine V_icmp_lt (pc := 272) (tgt := 279) F dL_served_272 (by decide) (fun h139 => ?_) (fun h139 => ?_)
                                  · replace hf := ite_pos hf h139
                                    refine V_iconst (v := 0) (pc := 279) F dL_served_279 (by decide) ?_
                                    refine V_goto (pc := 280) (tgt := 300) F dL_served_280 (by decide) ?_
                                    obtain rfl := some_of hf
                                    exact V_ret F rfl rfl dL_served_300 rfl rfl
                                  · replace hf := ite_neg hf h139
                                    refine V_iconst (v := 1) (pc := 275) F dL_served_275 (by decide) ?_
                                    refine V_goto (pc := 276) (tgt := 300) F dL_served_276 (by decide) ?_
                                    obtain rfl := some_of hf
                                    exact V_ret F rfl rfl dL_served_300 rfl rfl
                              · replace hf := ite_pos hf h137
                                refine V_iload (pc := 256) F dL_served_256 6 rfl ?_
                                refine V_iload (pc := 258) F dL_served_258 3 rfl ?_
                                refine V_icmp_gt (pc := 260) (tgt := 279) F dL_served_260 (by decide) (fun h140 => ?_) (fun h140 => ?_)
                                · replace hf := ite_pos hf h140
                                  refine V_iconst (v := 0) (pc := 279) F dL_served_279 (by decide) ?_
                                  refine V_goto (pc := 280) (tgt := 300) F dL_served_280 (by decide) ?_
                                  obtain rfl := some_of hf
                                  exact V_ret F rfl rfl dL_served_300 rfl rfl
                                · replace hf := ite_neg hf h140
                                  refine V_iload (pc := 263) F dL_served_263 4 rfl ?_
                                  refine V_if_lt (pc := 265) (tgt := 279) F dL_served_265 (by decide) (fun h141 => ?_) (fun h141 => ?_)
                                  · replace hf := ite_pos hf h141
                                    refine V_iconst (v := 0) (pc := 279) F dL_served_279 (by decide) ?_
                                    refine V_goto (pc := 280) (tgt := 300) F dL_served_280 (by decide) ?_
                                    obtain rfl := some_of hf
                                    exact V_ret F rfl rfl dL_served_300 rfl rfl
                                  · replace hf := ite_neg hf h141
                                    refine V_iload (pc := 268) F dL_served_268 6 rfl ?_
                                    refine V_iload (pc := 270) F dL_served_270 4 rfl ?_
                                    refine V_icmp_lt (pc := 272) (tgt := 279) F dL_served_272 (by decide) (fun h142 => ?_) (fun h142 => ?_)
                                    · replace hf := ite_pos hf h142
                                      refine V_iconst (v := 0) (pc := 279) F dL_served_279 (by decide) ?_
                                      refine V_goto (pc := 280) (tgt := 300) F dL_served_280 (by decide) ?_
                                      obtain rfl := some_of hf
                                      exact V_ret F rfl rfl dL_served_300 rfl rfl
                                    · replace hf := ite_neg hf h142
                                      refine V_iconst (v := 1) (pc := 275) F dL_served_275 (by decide) ?_
                                      refine V_goto (pc := 276) (tgt := 300) F dL_served_276 (by decide) ?_
                                      obtain rfl := some_of hf
                                      exact V_ret F rfl rfl dL_served_300 rfl rfl
                          refine V_icmp_ne (pc := 236) (tgt := 243) F dL_served_236 (by decide) (fun h133 => ?_) (fun h133 => ?_)
                          · refine V_iconst (v := 0) (pc := 243) F dL_served_243 (by decide) ?_
                            exact V.eq rfl rfl (by rw [if_neg h133]) J143
                          · refine V_iconst (v := 1) (pc := 239) F dL_served_239 (by decide) ?_
                            refine V_goto (pc := 240) (tgt := 244) F dL_served_240 (by decide) ?_
                            exact V.eq rfl rfl (by rw [if_pos h133]) J143
                        · replace hf := ite_neg hf h128
                          refine V_iconst (v := 0) (pc := 127) F dL_served_127 (by decide) ?_
                          obtain rfl := some_of hf
                          exact V_ret F rfl rfl dL_served_128 rfl rfl
                  · replace hf := ite_neg hf h117
                    refine V_iconst (v := 0) (pc := 95) F dL_served_95 (by decide) ?_
                    obtain rfl := some_of hf
                    exact V_ret F rfl rfl dL_served_96 rfl rfl
    refine V_if_ge (pc := 40) (tgt := 47) F dL_served_40 (by decide) (fun h8 => ?_) (fun h8 => ?_)
    · refine V_iconst (v := 0) (pc := 47) F dL_served_47 (by decide) ?_
      exact V.eq rfl rfl (by rw [if_pos h8]) J144
    · refine V_iconst (v := 1) (pc := 43) F dL_served_43 (by decide) ?_
      refine V_goto (pc := 44) (tgt := 48) F dL_served_44 (by decide) ?_
      exact V.eq rfl rfl (by rw [if_neg h8]) J144
  refine V_icmp_ne (pc := 28) (tgt := 35) F dL_served_28 (by decide) (fun h7 => ?_) (fun h7 => ?_)
  · refine V_iconst (v := 0) (pc := 35) F dL_served_35 (by decide) ?_
    exact V.eq rfl rfl (by rw [if_neg h7]) J145
  · refine V_iconst (v := 1) (pc := 31) F dL_served_31 (by decide) ?_
    refine V_goto (pc := 32) (tgt := 36) F dL_served_32 (by decide) ?_
    exact V.eq rfl rfl (by rw [if_pos h7]) J145
