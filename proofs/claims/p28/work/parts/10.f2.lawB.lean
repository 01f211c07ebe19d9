def fL_law_L147 (N : Nat) (sn : Nat) (sx : Nat → Int32) (v : SX7) (v1 : SQ5) (v3 : SQ8) (z2 : Int32) : Nat → SQ18 → Int32 → Option (SQ18)
  | 0, _, _ => none
  | n + 1, v2, z6 =>
    if 6 ≤ z6 then
      some v2
    else
      chk z6 18 (
        nmd (upd v2 z6.toNatClampNeg ((-1) : Int32)) fun f3 =>
        fL_law_L147 N sn sx v v1 v3 z2 n f3 (z6 + 1)
      )
def fL_law_L212 (N : Nat) (sn : Nat) (sx : Nat → Int32) (v1 : SQ5) (v3 : SQ8) (z2 : Int32) (z6 : Int32) (z7 : Int32) : Nat → SX7 → SQ18 → Int32 → Option (SX7 × SQ18)
  | 0, _, _, _ => none
  | n + 1, v, v2, z8 =>
    if 2 ≤ z8 then
      some (v, v2)
    else
      (fL_low N (z7 >>> (((3 : Int32) * z8) &&& 31)) 7).bind fun r17 =>
        if 6 ≤ r17 then
          fL_law_L212 N sn sx v1 v3 z2 z6 z7 n v v2 (z8 + 1)
        else
          chk r17 18 (
            if 0 ≤ (v2 r17.toNatClampNeg) then
              chk r17 18 (
                chk r17 18 (
                  nmd (upd v2 r17.toNatClampNeg (v2 r17.toNatClampNeg)) fun f24 =>
                  (rt (fX7_come N v r17)).bind fun r26 =>
                    chk r17 18 (
                      if r26.1 = (f24 r17.toNatClampNeg) then
                        fL_law_L212 N sn sx v1 v3 z2 z6 z7 n r26.2 f24 (z8 + 1)
                      else
                        none
                    )
                )
              )
            else
              chk r17 18 (
                nmd (upd v2 r17.toNatClampNeg (0 : Int32)) fun f31 =>
                (rt (fX7_come N v r17)).bind fun r33 =>
                  chk r17 18 (
                    if r33.1 = (f31 r17.toNatClampNeg) then
                      fL_law_L212 N sn sx v1 v3 z2 z6 z7 n r33.2 f31 (z8 + 1)
                    else
                      none
                  )
              )
          )
def fL_law_L316 (N : Nat) (sn : Nat) (sx : Nat → Int32) (z2 : Int32) (z6 : Int32) (z7 : Int32) (z8 : Int32) : Nat → SX7 → SQ5 → SQ18 → SQ8 → Int32 → Option (SX7 × SQ5 × SQ18 × SQ8)
  | 0, _, _, _, _, _ => none
  | n + 1, v, v1, v2, v3, z9 =>
    if z8 ≤ z9 then
      some (v, v1, v2, v3)
    else
      (fL_tick N v v1 v2 v3 z2).bind fun r45 =>
        fL_law_L316 N sn sx z2 z6 z7 z8 n r45.1 r45.2.1 r45.2.2.1 r45.2.2.2 (z9 + 1)
def fL_law_L345 (N : Nat) (sn : Nat) (sx : Nat → Int32) (v : SX7) (v1 : SQ5) (v2 : SQ18) (v3 : SQ8) (z2 : Int32) (z6 : Int32) (z7 : Int32) (z8 : Int32) : Nat → Int32 → Int32 → Option (Int32)
  | 0, _, _ => none
  | n + 1, z9, z10 =>
    if 6 ≤ z10 then
      some z9
    else
      chk z10 18 (
        fL_law_L345 N sn sx v v1 v2 v3 z2 z6 z7 z8 n (z9 + (if 0 ≤ (v2 z10.toNatClampNeg) then (1 : Int32) else (0 : Int32))) (z10 + 1)
      )
def fL_law_L191 (N : Nat) (sn : Nat) (sx : Nat → Int32)  : Nat → SX7 → SQ5 → SQ18 → SQ8 → Int32 → Int32 → Option (SX7 × SQ5 × SQ18 × SQ8)
  | 0, _, _, _, _, _, _ => none
  | n + 1, v, v1, v2, v3, z2, z6 =>
    if 30 ≤ z6 then
      some (v, v1, v2, v3)
    else
      (fL_cell N sn sx ((50 : Int32) + z6)).bind fun r14 =>
        (fL_law_L212 N sn sx v1 v3 z2 z6 r14 N v v2 0).bind fun u37 =>
          (fL_low N (r14 >>> (9 &&& 31)) 4).bind fun r39 =>
            (fL_low N (r14 >>> (6 &&& 31)) (if r39 = 0 then (20 : Int32) else (4 : Int32))).bind fun r42 =>
              (fL_law_L316 N sn sx z2 z6 r14 ((1 : Int32) + r42) N u37.1 v1 u37.2 v3 0).bind fun u47 =>
                (fL_law_L345 N sn sx u47.1 u47.2.1 u47.2.2.1 u47.2.2.2 z2 z6 r14 ((1 : Int32) + r42) N 0 0).bind fun u53 =>
                  (rt (fX7_run N u47.1 ((1 : Int32) + r42))).bind fun r55 =>
                    if r55.1 = u53 then
                      (fL_tells N r55.2 u47.2.1 u47.2.2.1 u47.2.2.2).bind fun r58 =>
                        if r58.1 = 0 then
                          none
                        else
                          (fL_low N (r14 >>> (12 &&& 31)) 9).bind fun r61 =>
                            if r61 = 0 then
                              (rt (fX7_count N r58.2 0)).bind fun r72 =>
                                (fL_low N (r14 >>> (16 &&& 31)) r72.1).bind fun r74 =>
                                  (fL_low N (r14 >>> (19 &&& 31)) 64).bind fun r76 =>
                                    (rt (fX7_phase N r72.2 r74 0)).bind fun r78 =>
                                      (fL_low N (r14 >>> (25 &&& 31)) 5).bind fun r80 =>
                                        (rt (fX7_change N r78.2 r74 r76 ((1 : Int32) + r80))).bind fun r82 =>
                                          if r82.1 = r78.1 then
                                            (rt (fX7_phase N r82.2 r74 0)).bind fun r85 =>
                                              if r85.1 = r76 then
                                                (fL_tells N r85.2 u47.2.1 u47.2.2.1 u47.2.2.2).bind fun r88 =>
                                                  if r88.1 = 0 then
                                                    none
                                                  else
                                                    (fL_low N (r14 >>> (15 &&& 31)) 9).bind fun r91 =>
                                                      if r91 = 0 then
                                                        (fL_low N (r14 >>> (20 &&& 31)) 6).bind fun r94 =>
                                                          (rt (fX7_set N r88.2 r94)).bind fun r96 =>
                                                            if 0 ≤ r96.1 then
                                                              fL_law_L191 N sn sx n r96.2 u47.2.1 u47.2.2.1 u47.2.2.2 r94 (z6 + 1)
                                                            else
                                                              none
                                                      else
                                                        fL_law_L191 N sn sx n r88.2 u47.2.1 u47.2.2.1 u47.2.2.2 z2 (z6 + 1)
                                              else
                                                none
                                          else
                                            none
                            else
                              (fL_low N (r14 >>> (15 &&& 31)) 9).bind fun r64 =>
                                if r64 = 0 then
                                  (fL_low N (r14 >>> (20 &&& 31)) 6).bind fun r67 =>
                                    (rt (fX7_set N r58.2 r67)).bind fun r69 =>
                                      if 0 ≤ r69.1 then
                                        fL_law_L191 N sn sx n r69.2 u47.2.1 u47.2.2.1 u47.2.2.2 r67 (z6 + 1)
                                      else
                                        none
                                else
                                  fL_law_L191 N sn sx n r58.2 u47.2.1 u47.2.2.1 u47.2.2.2 z2 (z6 + 1)
                    else
                      none
def fL_law_L555 (N : Nat) (sn : Nat) (sx : Nat → Int32) (v1 : SQ5) (v2 : SQ18) (v3 : SQ8) : Nat → SX7 → Int32 → Option (SX7)
  | 0, _, _ => none
  | n + 1, v, z6 =>
    if 6 ≤ z6 then
      some v
    else
      (fL_cell N sn sx 80).bind fun r107 =>
        (rt (fX7_count N v 0)).bind fun r109 =>
          (fL_low N (r107 >>> (((4 : Int32) * z6) &&& 31)) r109.1).bind fun r111 =>
            (fL_served N sn sx r109.2 ((81 : Int32) + ((13 : Int32) * z6)) r111 z6).bind fun r113 =>
              if r113.1 = 0 then
                none
              else
                fL_law_L555 N sn sx v1 v2 v3 n r113.2 (z6 + 1)
def fL_lawB (N : Nat) (sn : Nat) (sx : Nat → Int32) (v : SX7) (v1 : SQ5) (v2 : SQ18) (v3 : SQ8) (z2 : Int32) : Option Unit :=
  (fL_law_L147 N sn sx v v1 v3 z2 N v2 0).bind fun u5 =>
    (fL_tells N v v1 u5 v3).bind fun r7 =>
      if r7.1 = 0 then
        none
      else
        (fL_comers N r7.2 0).bind fun r10 =>
          if r10.1 = 0 then
            none
          else
            (fL_law_L191 N sn sx N r10.2 v1 u5 v3 z2 0).bind fun u100 =>
              chk 0 5 (
                (fL_comers N u100.1 (u100.2.1 (0 : Int32).toNatClampNeg)).bind fun r103 =>
                  if r103.1 = 0 then
                    none
                  else
                    (fL_law_L555 N sn sx u100.2.1 u100.2.2.1 u100.2.2.2 N r103.2 0).bind fun u116 =>
                      some ()
              )
set_option maxHeartbeats 8000000 in
set_option maxRecDepth 100000 in
theorem S_law_B {p : Program} {l : Launch} {e : Env} {s : State} {m : MethodId} {below : List Frame} {meth : Method} {c : Code} {nme : String} {D : va_G} {cy : Nat → ClassId} {sb sn : Nat} {sx : Nat → Int32} (F : Fx p s m #[.ref sb] meth c cL_law 13 RL nme wsL_law ret D cy (aL s)) (G : FxS s (aL s) sb sn sx) (a : Nat → Nat) (a1 : Nat → Nat) (a2 : Nat → Nat) (a3 : Nat → Nat) (N : Nat) (v : SX7) (v1 : SQ5) (v2 : SQ18) (v3 : SQ8) (z2 : Int32) (o : Unit) (hf : fL_lawB N sn sx v v1 v2 v3 z2 = some o) : V p l e room_1 s m #[.ref sb] below meth c 13 D (aL s) 175 1319 (lw_Z below #[.ref sb] s) (wQ18 cy a2 v2 ++ (wQ8 cy a3 v3 ++ (wQ5 cy a1 v1 ++ (wX7 cy a v)))) [(5, .ref (a3 0)), (4, .ref (a2 0)), (3, .ref (a1 0)), (2, .int z2), (1, .ref (a 0)), (0, .ref sb)] [] 144 := by
  have K147 : ∀ (n : Nat) (v : SX7) (v1 : SQ5) (v3 : SQ8) (z2 : Int32) (v2 : SQ18) (z6 : Int32) (u : SQ18), fL_law_L147 N sn sx v v1 v3 z2 n v2 z6 = some u → V p l e room_1 s m #[.ref sb] below meth c 13 D (aL s) 175 1319 (lw_Z below #[.ref sb] s) (wQ18 cy a2 u ++ (wQ8 cy a3 v3 ++ (wQ5 cy a1 v1 ++ (wX7 cy a v)))) [(0, .ref sb), (1, .ref (a 0)), (2, .int z2), (3, .ref (a1 0)), (4, .ref (a2 0)), (5, .ref (a3 0))] [] 166 → V p l e room_1 s m #[.ref sb] below meth c 13 D (aL s) 175 1319 (lw_Z below #[.ref sb] s) (wQ18 cy a2 v2 ++ (wQ8 cy a3 v3 ++ (wQ5 cy a1 v1 ++ (wX7 cy a v)))) [(0, .ref sb), (1, .ref (a 0)), (2, .int z2), (3, .ref (a1 0)), (4, .ref (a2 0)), (5, .ref (a3 0)), (6, .int z6)] [] 147 := by
    intro n
    induction n with
    | zero =>
      intro v v1 v3 z2 v2 z6 u hf hk
      exact nomatch (show (none : Option (SQ18)) = some u from hf)
    | succ n ih =>
      intro v v1 v3 z2 v2 z6 u hf hk
      rw [fL_law_L147] at hf
      refine V_iload (pc := 147) F dL_law_147 6 rfl ?_
      refine V_bipush (v := 6) (pc := 149) F dL_law_149 (by decide) ?_
      refine V_icmp_ge (pc := 151) (tgt := 166) F dL_law_151 (by decide) (fun h1 => ?_) (fun h1 => ?_)
      · replace hf := ite_pos hf h1
        obtain rfl := some_of hf
        exact V.sub [0, 1, 2, 3, 4, 5] rfl hk
      · replace hf := ite_neg hf h1
        refine V_aload (pc := 154) F dL_law_154 4 rfl ?_
        refine V_iload (pc := 156) F dL_law_156 6 rfl ?_
        refine V_iconst (v := (-1)) (pc := 158) F dL_law_158 (by decide) ?_
        obtain ⟨c2, hf⟩ := chk_some hf
        obtain ⟨f3, e4, hf⟩ := nmd_of hf
        refine V_iast (w2 := wQ18 cy a2 f3 ++ (wQ8 cy a3 v3 ++ (wQ5 cy a1 v1 ++ (wX7 cy a v)))) (pc := 159) F 0 rfl c2 e4 dL_law_159 rfl ?_
        refine V_iinc (v := (z6 + 1)) (L2 := [(6, .int (z6 + 1)), (0, .ref sb), (1, .ref (a 0)), (2, .int z2), (3, .ref (a1 0)), (4, .ref (a2 0)), (5, .ref (a3 0))]) (pc := 160) F dL_law_160 6 rfl rfl (by decide) rfl ?_
        refine V_goto (pc := 163) (tgt := 147) F dL_law_163 (by decide) ?_
        refine V.sub [1, 2, 3, 4, 5, 6, 0] rfl ?_
        exact ih v v1 v3 z2 f3 (z6 + 1) _ hf hk
  have K212 : ∀ (n : Nat) (v1 : SQ5) (v3 : SQ8) (z2 : Int32) (z6 : Int32) (z7 : Int32) (v : SX7) (v2 : SQ18) (z8 : Int32) (u : SX7 × SQ18), fL_law_L212 N sn sx v1 v3 z2 z6 z7 n v v2 z8 = some u → V p l e room_1 s m #[.ref sb] below meth c 13 D (aL s) 175 1319 (lw_Z below #[.ref sb] s) (wQ18 cy a2 u.2 ++ (wQ8 cy a3 v3 ++ (wQ5 cy a1 v1 ++ (wX7 cy a u.1)))) [(0, .ref sb), (1, .ref (a 0)), (2, .int z2), (3, .ref (a1 0)), (4, .ref (a2 0)), (5, .ref (a3 0)), (6, .int z6), (7, .int z7)] [] 283 → V p l e room_1 s m #[.ref sb] below meth c 13 D (aL s) 175 1319 (lw_Z below #[.ref sb] s) (wQ18 cy a2 v2 ++ (wQ8 cy a3 v3 ++ (wQ5 cy a1 v1 ++ (wX7 cy a v)))) [(0, .ref sb), (1, .ref (a 0)), (2, .int z2), (3, .ref (a1 0)), (4, .ref (a2 0)), (5, .ref (a3 0)), (6, .int z6), (7, .int z7), (8, .int z8)] [] 212 := by
    intro n
    induction n with
    | zero =>
      intro v1 v3 z2 z6 z7 v v2 z8 u hf hk
      exact nomatch (show (none : Option (SX7 × SQ18)) = some u from hf)
    | succ n ih =>
      intro v1 v3 z2 z6 z7 v v2 z8 u hf hk
      rw [fL_law_L212] at hf
      refine V_iload (pc := 212) F dL_law_212 8 rfl ?_
      refine V_iconst (v := 2) (pc := 214) F dL_law_214 (by decide) ?_
      refine V_icmp_ge (pc := 215) (tgt := 283) F dL_law_215 (by decide) (fun h16 => ?_) (fun h16 => ?_)
      · replace hf := ite_pos hf h16
        obtain rfl := some_of hf
        exact V.sub [0, 1, 2, 3, 4, 5, 6, 7] rfl hk
      · replace hf := ite_neg hf h16
        refine V_iload (pc := 218) F dL_law_218 7 rfl ?_
        refine V_iconst (v := 3) (pc := 220) F dL_law_220 (by decide) ?_
        refine V_iload (pc := 221) F dL_law_221 8 rfl ?_
        refine V_imul (pc := 223) F dL_law_223 ?_
        refine V_ishr (pc := 224) F dL_law_224 ?_
        refine V_bipush (v := 7) (pc := 225) F dL_law_225 (by decide) ?_
        obtain ⟨r17, g18, hf⟩ := bind_of hf
        refine V_SM (w2 := wQ18 cy a2 v2 ++ (wQ8 cy a3 v3 ++ (wQ5 cy a1 v1 ++ (wX7 cy a v)))) (rest := []) (st2 := [.int r17]) (pc := 227) F (M_L_low l D cy N (z7 >>> (((3 : Int32) * z8) &&& 31)) 7 r17 g18) (va_cwS 2 F.ts gL_law_L_low rfl rfl rfl hd_L_low ⟨Nat.le_of_ble_eq_true rfl, Nat.le_of_ble_eq_true rfl⟩) rfl dL_law_227 Fit.nil rfl (Nat.le_of_ble_eq_true rfl) (Nat.le_of_ble_eq_true rfl) (Nat.le_of_ble_eq_true rfl) rfl rfl rfl ?_
        refine V_istore (L2 := [(9, .int r17), (0, .ref sb), (1, .ref (a 0)), (2, .int z2), (3, .ref (a1 0)), (4, .ref (a2 0)), (5, .ref (a3 0)), (6, .int z6), (7, .int z7), (8, .int z8)]) (pc := 230) F dL_law_230 (by decide) rfl ?_
        refine V_iload (pc := 232) F dL_law_232 0 rfl ?_
        refine V_bipush (v := 6) (pc := 234) F dL_law_234 (by decide) ?_
        refine V_icmp_ge (pc := 236) (tgt := 277) F dL_law_236 (by decide) (fun h19 => ?_) (fun h19 => ?_)
        · replace hf := ite_pos hf h19
          refine V_iinc (v := (z8 + 1)) (L2 := [(8, .int (z8 + 1)), (9, .int r17), (0, .ref sb), (1, .ref (a 0)), (2, .int z2), (3, .ref (a1 0)), (4, .ref (a2 0)), (5, .ref (a3 0)), (6, .int z6), (7, .int z7)]) (pc := 277) F dL_law_277 9 rfl rfl (by decide) rfl ?_
          refine V_goto (pc := 280) (tgt := 212) F dL_law_280 (by decide) ?_
          refine V.sub [2, 3, 4, 5, 6, 7, 8, 9, 0] rfl ?_
          exact ih v1 v3 z2 z6 z7 v v2 (z8 + 1) _ hf hk
        · replace hf := ite_neg hf h19
          refine V_aload (pc := 239) F dL_law_239 5 rfl ?_
          refine V_iload (pc := 241) F dL_law_241 0 rfl ?_
          refine V_aload (pc := 243) F dL_law_243 5 rfl ?_
          refine V_iload (pc := 245) F dL_law_245 0 rfl ?_
          obtain ⟨c20, hf⟩ := chk_some hf
          refine V_iald (pc := 247) F 0 rfl c20 dL_law_247 ?_
          refine V_if_ge (pc := 248) (tgt := 255) F dL_law_248 (by decide) (fun h21 => ?_) (fun h21 => ?_)
          · replace hf := ite_pos hf h21
            refine V_aload (pc := 255) F dL_law_255 5 rfl ?_
            refine V_iload (pc := 257) F dL_law_257 0 rfl ?_
            obtain ⟨c22, hf⟩ := chk_some hf
            refine V_iald (pc := 259) F 0 rfl c22 dL_law_259 ?_
            obtain ⟨c23, hf⟩ := chk_some hf
            obtain ⟨f24, e25, hf⟩ := nmd_of hf
            refine V_iast (w2 := wQ18 cy a2 f24 ++ (wQ8 cy a3 v3 ++ (wQ5 cy a1 v1 ++ (wX7 cy a v)))) (pc := 260) F 0 rfl c23 e25 dL_law_260 rfl ?_
            refine V_aload_n (pc := 261) F dL_law_261 rfl 2 rfl ?_
            refine V_iload (pc := 262) F dL_law_262 0 rfl ?_
            obtain ⟨r26, g27, hf⟩ := bind_of hf
            refine V_V (w2 := wQ18 cy a2 f24 ++ (wQ8 cy a3 v3 ++ (wQ5 cy a1 v1 ++ (wX7 cy a r26.2)))) (rest := []) (st2 := [.int r26.1]) (pc := 264) F 7 (M_X7_come l D cy N a v r17 r26 (rt_of g27)) (cwV 1 F.ts gL_law_X7_come rfl rfl rfl hd_X7_come ⟨Nat.le_of_ble_eq_true rfl, Nat.le_of_ble_eq_true rfl⟩) rfl dL_law_264 (Fit.right (Fit.right (Fit.right Fit.whole))) fstX7 rfl rfl (Nat.le_of_ble_eq_true rfl) (Nat.le_of_ble_eq_true rfl) (Nat.le_of_ble_eq_true rfl) rfl rfl rfl ?_
            refine V_aload (pc := 267) F dL_law_267 5 rfl ?_
            refine V_iload (pc := 269) F dL_law_269 0 rfl ?_
            obtain ⟨c28, hf⟩ := chk_some hf
            refine V_iald (pc := 271) F 0 rfl c28 dL_law_271 ?_
            refine V_icmp_eq (pc := 272) (tgt := 277) F dL_law_272 (by decide) (fun h29 => ?_) (fun h29 => ?_)
            · replace hf := ite_pos hf h29
              refine V_iinc (v := (z8 + 1)) (L2 := [(8, .int (z8 + 1)), (9, .int r17), (0, .ref sb), (1, .ref (a 0)), (2, .int z2), (3, .ref (a1 0)), (4, .ref (a2 0)), (5, .ref (a3 0)), (6, .int z6), (7, .int z7)]) (pc := 277) F dL_law_277 9 rfl rfl (by decide) rfl ?_
              refine V_goto (pc := 280) (tgt := 212) F dL_law_280 (by decide) ?_
              refine V.sub [2, 3, 4, 5, 6, 7, 8, 9, 0] rfl ?_
              exact ih v1 v3 z2 z6 z7 r26.2 f24 (z8 + 1) _ hf hk
            · replace hf := ite_neg hf h29
              refine V_iconst (v := 0) (pc := 275) F dL_law_275 (by decide) ?_
              exact nomatch hf
          · replace hf := ite_neg hf h21
            refine V_iconst (v := 0) (pc := 251) F dL_law_251 (by decide) ?_
            refine V_goto (pc := 252) (tgt := 260) F dL_law_252 (by decide) ?_
            obtain ⟨c30, hf⟩ := chk_some hf
            obtain ⟨f31, e32, hf⟩ := nmd_of hf
            refine V_iast (w2 := wQ18 cy a2 f31 ++ (wQ8 cy a3 v3 ++ (wQ5 cy a1 v1 ++ (wX7 cy a v)))) (pc := 260) F 0 rfl c30 e32 dL_law_260 rfl ?_
            refine V_aload_n (pc := 261) F dL_law_261 rfl 2 rfl ?_
            refine V_iload (pc := 262) F dL_law_262 0 rfl ?_
            obtain ⟨r33, g34, hf⟩ := bind_of hf
            refine V_V (w2 := wQ18 cy a2 f31 ++ (wQ8 cy a3 v3 ++ (wQ5 cy a1 v1 ++ (wX7 cy a r33.2)))) (rest := []) (st2 := [.int r33.1]) (pc := 264) F 7 (M_X7_come l D cy N a v r17 r33 (rt_of g34)) (cwV 1 F.ts gL_law_X7_come rfl rfl rfl hd_X7_come ⟨Nat.le_of_ble_eq_true rfl, Nat.le_of_ble_eq_true rfl⟩) rfl dL_law_264 (Fit.right (Fit.right (Fit.right Fit.whole))) fstX7 rfl rfl (Nat.le_of_ble_eq_true rfl) (Nat.le_of_ble_eq_true rfl) (Nat.le_of_ble_eq_true rfl) rfl rfl rfl ?_
            refine V_aload (pc := 267) F dL_law_267 5 rfl ?_
            refine V_iload (pc := 269) F dL_law_269 0 rfl ?_
            obtain ⟨c35, hf⟩ := chk_some hf
            refine V_iald (pc := 271) F 0 rfl c35 dL_law_271 ?_
            refine V_icmp_eq (pc := 272) (tgt := 277) F dL_law_272 (by decide) (fun h36 => ?_) (fun h36 => ?_)
            · replace hf := ite_pos hf h36
              refine V_iinc (v := (z8 + 1)) (L2 := [(8, .int (z8 + 1)), (9, .int r17), (0, .ref sb), (1, .ref (a 0)), (2, .int z2), (3, .ref (a1 0)), (4, .ref (a2 0)), (5, .ref (a3 0)), (6, .int z6), (7, .int z7)]) (pc := 277) F dL_law_277 9 rfl rfl (by decide) rfl ?_
              refine V_goto (pc := 280) (tgt := 212) F dL_law_280 (by decide) ?_
              refine V.sub [2, 3, 4, 5, 6, 7, 8, 9, 0] rfl ?_
              exact ih v1 v3 z2 z6 z7 r33.2 f31 (z8 + 1) _ hf hk
            · replace hf := ite_neg hf h36
              refine V_iconst (v := 0) (pc := 275) F dL_law_275 (by decide) ?_
              exact nomatch hf
  have K316 : ∀ (n : Nat) (z2 : Int32) (z6 : Int32) (z7 : Int32) (z8 : Int32) (v : SX7) (v1 : SQ5) (v2 : SQ18) (v3 : SQ8) (z9 : Int32) (u : SX7 × SQ5 × SQ18 × SQ8), fL_law_L316 N sn sx z2 z6 z7 z8 n v v1 v2 v3 z9 = some u → V p l e room_1 s m #[.ref sb] below meth c 13 D (aL s) 175 1319 (lw_Z below #[.ref sb] s) (wQ18 cy a2 u.2.2.1 ++ (wQ8 cy a3 u.2.2.2 ++ (wQ5 cy a1 u.2.1 ++ (wX7 cy a u.1)))) [(0, .ref sb), (1, .ref (a 0)), (2, .int z2), (3, .ref (a1 0)), (4, .ref (a2 0)), (5, .ref (a3 0)), (6, .int z6), (7, .int z7), (8, .int z8)] [] 339 → V p l e room_1 s m #[.ref sb] below meth c 13 D (aL s) 175 1319 (lw_Z below #[.ref sb] s) (wQ18 cy a2 v2 ++ (wQ8 cy a3 v3 ++ (wQ5 cy a1 v1 ++ (wX7 cy a v)))) [(0, .ref sb), (1, .ref (a 0)), (2, .int z2), (3, .ref (a1 0)), (4, .ref (a2 0)), (5, .ref (a3 0)), (6, .int z6), (7, .int z7), (8, .int z8), (9, .int z9)] [] 316 := by
    intro n
    induction n with
    | zero =>
      intro z2 z6 z7 z8 v v1 v2 v3 z9 u hf hk
      exact nomatch (show (none : Option (SX7 × SQ5 × SQ18 × SQ8)) = some u from hf)
    | succ n ih =>
      intro z2 z6 z7 z8 v v1 v2 v3 z9 u hf hk
      rw [fL_law_L316] at hf
      refine V_iload (pc := 316) F dL_law_316 9 rfl ?_
      refine V_iload (pc := 318) F dL_law_318 8 rfl ?_
      refine V_icmp_ge (pc := 320) (tgt := 339) F dL_law_320 (by decide) (fun h44 => ?_) (fun h44 => ?_)
      · replace hf := ite_pos hf h44
        obtain rfl := some_of hf
        exact V.sub [0, 1, 2, 3, 4, 5, 6, 7, 8] rfl hk
      · replace hf := ite_neg hf h44
        refine V_aload_n (pc := 323) F dL_law_323 rfl 1 rfl ?_
        refine V_iload_n (pc := 324) F dL_law_324 rfl 2 rfl ?_
        refine V_aload_n (pc := 325) F dL_law_325 rfl 3 rfl ?_
        refine V_aload (pc := 326) F dL_law_326 4 rfl ?_
        refine V_aload (pc := 328) F dL_law_328 5 rfl ?_
        obtain ⟨r45, g46, hf⟩ := bind_of hf
        refine V_SM (w2 := wQ18 cy a2 r45.2.2.1 ++ (wQ8 cy a3 r45.2.2.2 ++ (wQ5 cy a1 r45.2.1 ++ (wX7 cy a r45.1)))) (rest := []) (st2 := []) (pc := 330) F (M_L_tick l D cy N a a1 a2 a3 v v1 v2 v3 z2 r45 g46) (va_cwS 5 F.ts gL_law_L_tick rfl rfl rfl hd_L_tick ⟨Nat.le_of_ble_eq_true rfl, Nat.le_of_ble_eq_true rfl⟩) rfl dL_law_330 Fit.whole (fst_app fstQ18 (fst_app fstQ8 (fst_app fstQ5 fstX7))) (Nat.le_of_ble_eq_true rfl) (Nat.le_of_ble_eq_true rfl) (Nat.le_of_ble_eq_true rfl) rfl rfl rfl ?_
        refine V_iinc (v := (z9 + 1)) (L2 := [(9, .int (z9 + 1)), (0, .ref sb), (1, .ref (a 0)), (2, .int z2), (3, .ref (a1 0)), (4, .ref (a2 0)), (5, .ref (a3 0)), (6, .int z6), (7, .int z7), (8, .int z8)]) (pc := 333) F dL_law_333 9 rfl rfl (by decide) rfl ?_
        refine V_goto (pc := 336) (tgt := 316) F dL_law_336 (by decide) ?_
        refine V.sub [1, 2, 3, 4, 5, 6, 7, 8, 9, 0] rfl ?_
        exact ih z2 z6 z7 z8 r45.1 r45.2.1 r45.2.2.1 r45.2.2.2 (z9 + 1) _ hf hk
  have K345 : ∀ (n : Nat) (v : SX7) (v1 : SQ5) (v2 : SQ18) (v3 : SQ8) (z2 : Int32) (z6 : Int32) (z7 : Int32) (z8 : Int32) (z9 : Int32) (z10 : Int32) (u : Int32), fL_law_L345 N sn sx v v1 v2 v3 z2 z6 z7 z8 n z9 z10 = some u → V p l e room_1 s m #[.ref sb] below meth c 13 D (aL s) 175 1319 (lw_Z below #[.ref sb] s) (wQ18 cy a2 v2 ++ (wQ8 cy a3 v3 ++ (wQ5 cy a1 v1 ++ (wX7 cy a v)))) [(0, .ref sb), (1, .ref (a 0)), (2, .int z2), (3, .ref (a1 0)), (4, .ref (a2 0)), (5, .ref (a3 0)), (6, .int z6), (7, .int z7), (8, .int z8), (9, .int u)] [] 376 → V p l e room_1 s m #[.ref sb] below meth c 13 D (aL s) 175 1319 (lw_Z below #[.ref sb] s) (wQ18 cy a2 v2 ++ (wQ8 cy a3 v3 ++ (wQ5 cy a1 v1 ++ (wX7 cy a v)))) [(0, .ref sb), (1, .ref (a 0)), (2, .int z2), (3, .ref (a1 0)), (4, .ref (a2 0)), (5, .ref (a3 0)), (6, .int z6), (7, .int z7), (8, .int z8), (9, .int z9), (10, .int z10)] [] 345 := by
    intro n
    induction n with
    | zero =>
      intro v v1 v2 v3 z2 z6 z7 z8 z9 z10 u hf hk
      exact nomatch (show (none : Option (Int32)) = some u from hf)
    | succ n ih =>
      intro v v1 v2 v3 z2 z6 z7 z8 z9 z10 u hf hk
      rw [fL_law_L345] at hf
      refine V_iload (pc := 345) F dL_law_345 10 rfl ?_
      refine V_bipush (v := 6) (pc := 347) F dL_law_347 (by decide) ?_
      refine V_icmp_ge (pc := 349) (tgt := 376) F dL_law_349 (by decide) (fun h49 => ?_) (fun h49 => ?_)
      · replace hf := ite_pos hf h49
        obtain rfl := some_of hf
        exact V.sub [0, 1, 2, 3, 4, 5, 6, 7, 8, 9] rfl hk
      · replace hf := ite_neg hf h49
        refine V_iload (pc := 352) F dL_law_352 9 rfl ?_
        refine V_aload (pc := 354) F dL_law_354 4 rfl ?_
        refine V_iload (pc := 356) F dL_law_356 10 rfl ?_
        obtain ⟨c50, hf⟩ := chk_some hf
        refine V_iald (pc := 358) F 0 rfl c50 dL_law_358 ?_
        have J52 : V p l e room_1 s m #[.ref sb] below meth c 13 D (aL s) 175 1319 (lw_Z below #[.ref sb] s) (wQ18 cy a2 v2 ++ (wQ8 cy a3 v3 ++ (wQ5 cy a1 v1 ++ (wX7 cy a v)))) [(0, .ref sb), (1, .ref (a 0)), (2, .int z2), (3, .ref (a1 0)), (4, .ref (a2 0)), (5, .ref (a3 0)), (6, .int z6), (7, .int z7), (8, .int z8), (9, .int z9), (10, .int z10)] [.int (if 0 ≤ (v2 z10.toNatClampNeg) then (1 : Int32) else (0 : Int32)), .int z9] 367 := by
          refine V_iadd (pc := 367) F dL_law_367 ?_
          refine V_istore (L2 := [(9, .int (z9 + (if 0 ≤ (v2 z10.toNatClampNeg) then (1 : Int32) else (0 : Int32)))), (0, .ref sb), (1, .ref (a 0)), (2, .int z2), (3, .ref (a1 0)), (4, .ref (a2 0)), (5, .ref (a3 0)), (6, .int z6), (7, .int z7), (8, .int z8), (10, .int z10)]) (pc := 368) F dL_law_368 (by decide) rfl ?_
          refine V_iinc (v := (z10 + 1)) (L2 := [(10, .int (z10 + 1)), (9, .int (z9 + (if 0 ≤ (v2 z10.toNatClampNeg) then (1 : Int32) else (0 : Int32)))), (0, .ref sb), (1, .ref (a 0)), (2, .int z2), (3, .ref (a1 0)), (4, .ref (a2 0)), (5, .ref (a3 0)), (6, .int z6), (7, .int z7), (8, .int z8)]) (pc := 370) F dL_law_370 10 rfl rfl (by decide) rfl ?_
          refine V_goto (pc := 373) (tgt := 345) F dL_law_373 (by decide) ?_
          refine V.sub [2, 3, 4, 5, 6, 7, 8, 9, 10, 1, 0] rfl ?_
          exact ih v v1 v2 v3 z2 z6 z7 z8 (z9 + (if 0 ≤ (v2 z10.toNatClampNeg) then (1 : Int32) else (0 : Int32))) (z10 + 1) _ hf hk
        refine V_if_ge (pc := 359) (tgt := 366) F dL_law_359 (by decide) (fun h51 => ?_) (fun h51 => ?_)
        · refine V_iconst (v := 1) (pc := 366) F dL_law_366 (by decide) ?_
          exact V.eq rfl rfl (by rw [if_pos h51]) J52
        · refine V_iconst (v := 0) (pc := 362) F dL_law_362 (by decide) ?_
          refine V_goto (pc := 363) (tgt := 367) F dL_law_363 (by decide) ?_
          exact V.eq rfl rfl (by rw [if_neg h51]) J52
  have K191 : ∀ (n : Nat) (v : SX7) (v1 : SQ5) (v2 : SQ18) (v3 : SQ8) (z2 : Int32) (z6 : Int32) (u : SX7 × SQ5 × SQ18 × SQ8), fL_law_L191 N sn sx n v v1 v2 v3 z2 z6 = some u → V p l e room_1 s m #[.ref sb] below meth c 13 D (aL s) 175 1319 (lw_Z below #[.ref sb] s) (wQ18 cy a2 u.2.2.1 ++ (wQ8 cy a3 u.2.2.2 ++ (wQ5 cy a1 u.2.1 ++ (wX7 cy a u.1)))) [(0, .ref sb), (1, .ref (a 0)), (3, .ref (a1 0))] [] 540 → V p l e room_1 s m #[.ref sb] below meth c 13 D (aL s) 175 1319 (lw_Z below #[.ref sb] s) (wQ18 cy a2 v2 ++ (wQ8 cy a3 v3 ++ (wQ5 cy a1 v1 ++ (wX7 cy a v)))) [(0, .ref sb), (1, .ref (a 0)), (2, .int z2), (3, .ref (a1 0)), (4, .ref (a2 0)), (5, .ref (a3 0)), (6, .int z6)] [] 191 := by
    intro n
    induction n with
    | zero =>
      intro v v1 v2 v3 z2 z6 u hf hk
      exact nomatch (show (none : Option (SX7 × SQ5 × SQ18 × SQ8)) = some u from hf)
    | succ n ih =>
      intro v v1 v2 v3 z2 z6 u hf hk
      rw [fL_law_L191] at hf
      refine V_iload (pc := 191) F dL_law_191 6 rfl ?_
      refine V_bipush (v := 30) (pc := 193) F dL_law_193 (by decide) ?_
      refine V_icmp_ge (pc := 195) (tgt := 540) F dL_law_195 (by decide) (fun h13 => ?_) (fun h13 => ?_)
      · replace hf := ite_pos hf h13
        obtain rfl := some_of hf
        exact V.sub [0, 1, 3] rfl hk
      · replace hf := ite_neg hf h13
        refine V_aload_n (pc := 198) F dL_law_198 rfl 0 rfl ?_
        refine V_bipush (v := 50) (pc := 199) F dL_law_199 (by decide) ?_
        refine V_iload (pc := 201) F dL_law_201 6 rfl ?_
        refine V_iadd (pc := 203) F dL_law_203 ?_
        obtain ⟨r14, g15, hf⟩ := bind_of hf
        refine V_SS (w2 := wQ18 cy a2 v2 ++ (wQ8 cy a3 v3 ++ (wQ5 cy a1 v1 ++ (wX7 cy a v)))) (rest := []) (st2 := [.int r14]) (pc := 204) F G (M_L_cell l D cy N sb sn sx ((50 : Int32) + z6) r14 g15) (va_cwS 2 F.ts gL_law_L_cell rfl rfl rfl hd_L_cell ⟨Nat.le_of_ble_eq_true rfl, Nat.le_of_ble_eq_true rfl⟩) rfl dL_law_204 Fit.nil rfl (Nat.le_of_ble_eq_true rfl) (Nat.le_of_ble_eq_true rfl) (Nat.le_of_ble_eq_true rfl) rfl rfl rfl ?_
        refine V_istore (L2 := [(7, .int r14), (0, .ref sb), (1, .ref (a 0)), (2, .int z2), (3, .ref (a1 0)), (4, .ref (a2 0)), (5, .ref (a3 0)), (6, .int z6)]) (pc := 207) F dL_law_207 (by decide) rfl ?_
        refine V_iconst (v := 0) (pc := 209) F dL_law_209 (by decide) ?_
        refine V_istore (L2 := [(8, .int 0), (7, .int r14), (0, .ref sb), (1, .ref (a 0)), (2, .int z2), (3, .ref (a1 0)), (4, .ref (a2 0)), (5, .ref (a3 0)), (6, .int z6)]) (pc := 210) F dL_law_210 (by decide) rfl ?_
        refine V.sub [2, 3, 4, 5, 6, 7, 8, 1, 0] rfl ?_
        obtain ⟨u37, g38, hf⟩ := bind_of hf
        refine K212 N v1 v3 z2 z6 r14 v v2 0 u37 g38 ?_
        refine V_iconst (v := 1) (pc := 283) F dL_law_283 (by decide) ?_
        refine V_iload (pc := 284) F dL_law_284 7 rfl ?_
        refine V_bipush (v := 6) (pc := 286) F dL_law_286 (by decide) ?_
        refine V_ishr (pc := 288) F dL_law_288 ?_
        refine V_iload (pc := 289) F dL_law_289 7 rfl ?_
        refine V_bipush (v := 9) (pc := 291) F dL_law_291 (by decide) ?_
        refine V_ishr (pc := 293) F dL_law_293 ?_
        refine V_iconst (v := 4) (pc := 294) F dL_law_294 (by decide) ?_
        obtain ⟨r39, g40, hf⟩ := bind_of hf
        refine V_SM (w2 := wQ18 cy a2 u37.2 ++ (wQ8 cy a3 v3 ++ (wQ5 cy a1 v1 ++ (wX7 cy a u37.1)))) (rest := [.int (r14 >>> (6 &&& 31)), .int 1]) (st2 := [.int r39, .int (r14 >>> (6 &&& 31)), .int 1]) (pc := 295) F (M_L_low l D cy N (r14 >>> (9 &&& 31)) 4 r39 g40) (va_cwS 2 F.ts gL_law_L_low rfl rfl rfl hd_L_low ⟨Nat.le_of_ble_eq_true rfl, Nat.le_of_ble_eq_true rfl⟩) rfl dL_law_295 Fit.nil rfl (Nat.le_of_ble_eq_true rfl) (Nat.le_of_ble_eq_true rfl) (Nat.le_of_ble_eq_true rfl) rfl rfl rfl ?_
        have J99 : V p l e room_1 s m #[.ref sb] below meth c 13 D (aL s) 175 1319 (lw_Z below #[.ref sb] s) (wQ18 cy a2 u37.2 ++ (wQ8 cy a3 v3 ++ (wQ5 cy a1 v1 ++ (wX7 cy a u37.1)))) [(0, .ref sb), (1, .ref (a 0)), (2, .int z2), (3, .ref (a1 0)), (4, .ref (a2 0)), (5, .ref (a3 0)), (6, .int z6), (7, .int r14)] [.int (if r39 = 0 then (20 : Int32) else (4 : Int32)), .int (r14 >>> (6 &&& 31)), .int 1] 307 := by
          obtain ⟨r42, g43, hf⟩ := bind_of hf
          refine V_SM (w2 := wQ18 cy a2 u37.2 ++ (wQ8 cy a3 v3 ++ (wQ5 cy a1 v1 ++ (wX7 cy a u37.1)))) (rest := [.int 1]) (st2 := [.int r42, .int 1]) (pc := 307) F (M_L_low l D cy N (r14 >>> (6 &&& 31)) (if r39 = 0 then (20 : Int32) else (4 : Int32)) r42 g43) (va_cwS 2 F.ts gL_law_L_low rfl rfl rfl hd_L_low ⟨Nat.le_of_ble_eq_true rfl, Nat.le_of_ble_eq_true rfl⟩) rfl dL_law_307 Fit.nil rfl (Nat.le_of_ble_eq_true rfl) (Nat.le_of_ble_eq_true rfl) (Nat.le_of_ble_eq_true rfl) rfl rfl rfl ?_
          refine V_iadd (pc := 310) F dL_law_310 ?_
          refine V_istore (L2 := [(8, .int ((1 : Int32) + r42)), (0, .ref sb), (1, .ref (a 0)), (2, .int z2), (3, .ref (a1 0)), (4, .ref (a2 0)), (5, .ref (a3 0)), (6, .int z6), (7, .int r14)]) (pc := 311) F dL_law_311 (by decide) rfl ?_
          refine V_iconst (v := 0) (pc := 313) F dL_law_313 (by decide) ?_
          refine V_istore (L2 := [(9, .int 0), (8, .int ((1 : Int32) + r42)), (0, .ref sb), (1, .ref (a 0)), (2, .int z2), (3, .ref (a1 0)), (4, .ref (a2 0)), (5, .ref (a3 0)), (6, .int z6), (7, .int r14)]) (pc := 314) F dL_law_314 (by decide) rfl ?_
          refine V.sub [2, 3, 4, 5, 6, 7, 8, 9, 1, 0] rfl ?_
          obtain ⟨u47, g48, hf⟩ := bind_of hf
          refine K316 N z2 z6 r14 ((1 : Int32) + r42) u37.1 v1 u37.2 v3 0 u47 g48 ?_
          refine V_iconst (v := 0) (pc := 339) F dL_law_339 (by decide) ?_
          refine V_istore (L2 := [(9, .int 0), (0, .ref sb), (1, .ref (a 0)), (2, .int z2), (3, .ref (a1 0)), (4, .ref (a2 0)), (5, .ref (a3 0)), (6, .int z6), (7, .int r14), (8, .int ((1 : Int32) + r42))]) (pc := 340) F dL_law_340 (by decide) rfl ?_
          refine V_iconst (v := 0) (pc := 342) F dL_law_342 (by decide) ?_
          refine V_istore (L2 := [(10, .int 0), (9, .int 0), (0, .ref sb), (1, .ref (a 0)), (2, .int z2), (3, .ref (a1 0)), (4, .ref (a2 0)), (5, .ref (a3 0)), (6, .int z6), (7, .int r14), (8, .int ((1 : Int32) + r42))]) (pc := 343) F dL_law_343 (by decide) rfl ?_
          refine V.sub [2, 3, 4, 5, 6, 7, 8, 9, 10, 1, 0] rfl ?_
          obtain ⟨u53, g54, hf⟩ := bind_of hf
          refine K345 N u47.1 u47.2.1 u47.2.2.1 u47.2.2.2 z2 z6 r14 ((1 : Int32) + r42) 0 0 u53 g54 ?_
          refine V_aload_n (pc := 376) F dL_law_376 rfl 1 rfl ?_
          refine V_iload (pc := 377) F dL_law_377 8 rfl ?_
          obtain ⟨r55, g56, hf⟩ := bind_of hf
          refine V_V (w2 := wQ18 cy a2 u47.2.2.1 ++ (wQ8 cy a3 u47.2.2.2 ++ (wQ5 cy a1 u47.2.1 ++ (wX7 cy a r55.2)))) (rest := []) (st2 := [.int r55.1]) (pc := 379) F 7 (M_X7_run l D cy N a u47.1 ((1 : Int32) + r42) r55 (rt_of g56)) (cwV 1 F.ts gL_law_X7_run rfl rfl rfl hd_X7_run ⟨Nat.le_of_ble_eq_true rfl, Nat.le_of_ble_eq_true rfl⟩) rfl dL_law_379 (Fit.right (Fit.right (Fit.right Fit.whole))) fstX7 rfl rfl (Nat.le_of_ble_eq_true rfl) (Nat.le_of_ble_eq_true rfl) (Nat.le_of_ble_eq_true rfl) rfl rfl rfl ?_
          refine V_iload (pc := 382) F dL_law_382 9 rfl ?_
          refine V_icmp_ne (pc := 384) (tgt := 399) F dL_law_384 (by decide) (fun h57 => ?_) (fun h57 => ?_)
          · replace hf := ite_neg hf h57
            refine V_iconst (v := 0) (pc := 399) F dL_law_399 (by decide) ?_
            exact nomatch hf
          · replace hf := ite_pos hf h57
            refine V_aload_n (pc := 387) F dL_law_387 rfl 1 rfl ?_
            refine V_aload_n (pc := 388) F dL_law_388 rfl 3 rfl ?_
            refine V_aload (pc := 389) F dL_law_389 4 rfl ?_
            refine V_aload (pc := 391) F dL_law_391 5 rfl ?_
            obtain ⟨r58, g59, hf⟩ := bind_of hf
            refine V_SM (w2 := wQ18 cy a2 u47.2.2.1 ++ (wQ8 cy a3 u47.2.2.2 ++ (wQ5 cy a1 u47.2.1 ++ (wX7 cy a r58.2)))) (rest := []) (st2 := [.int r58.1]) (pc := 393) F (M_L_tells l D cy N a a1 a2 a3 r55.2 u47.2.1 u47.2.2.1 u47.2.2.2 r58 g59) (va_cwS 4 F.ts gL_law_L_tells rfl rfl rfl hd_L_tells ⟨Nat.le_of_ble_eq_true rfl, Nat.le_of_ble_eq_true rfl⟩) rfl dL_law_393 Fit.whole (fst_app rfl (fst_app rfl (fst_app rfl fstX7))) (Nat.le_of_ble_eq_true rfl) (Nat.le_of_ble_eq_true rfl) (Nat.le_of_ble_eq_true rfl) rfl rfl rfl ?_
            refine V_if_ne (pc := 396) (tgt := 401) F dL_law_396 (by decide) (fun h60 => ?_) (fun h60 => ?_)
            · replace hf := ite_neg hf h60
              refine V_iload (pc := 401) F dL_law_401 7 rfl ?_
              refine V_bipush (v := 12) (pc := 403) F dL_law_403 (by decide) ?_
              refine V_ishr (pc := 405) F dL_law_405 ?_
              refine V_bipush (v := 9) (pc := 406) F dL_law_406 (by decide) ?_
              obtain ⟨r61, g62, hf⟩ := bind_of hf
              refine V_SM (w2 := wQ18 cy a2 u47.2.2.1 ++ (wQ8 cy a3 u47.2.2.2 ++ (wQ5 cy a1 u47.2.1 ++ (wX7 cy a r58.2)))) (rest := []) (st2 := [.int r61]) (pc := 408) F (M_L_low l D cy N (r14 >>> (12 &&& 31)) 9 r61 g62) (va_cwS 2 F.ts gL_law_L_low rfl rfl rfl hd_L_low ⟨Nat.le_of_ble_eq_true rfl, Nat.le_of_ble_eq_true rfl⟩) rfl dL_law_408 Fit.nil rfl (Nat.le_of_ble_eq_true rfl) (Nat.le_of_ble_eq_true rfl) (Nat.le_of_ble_eq_true rfl) rfl rfl rfl ?_
              refine V_if_ne (pc := 411) (tgt := 500) F dL_law_411 (by decide) (fun h63 => ?_) (fun h63 => ?_)
              · replace hf := ite_neg hf h63
                refine V_iload (pc := 500) F dL_law_500 7 rfl ?_
                refine V_bipush (v := 15) (pc := 502) F dL_law_502 (by decide) ?_
                refine V_ishr (pc := 504) F dL_law_504 ?_
                refine V_bipush (v := 9) (pc := 505) F dL_law_505 (by decide) ?_
                obtain ⟨r64, g65, hf⟩ := bind_of hf
                refine V_SM (w2 := wQ18 cy a2 u47.2.2.1 ++ (wQ8 cy a3 u47.2.2.2 ++ (wQ5 cy a1 u47.2.1 ++ (wX7 cy a r58.2)))) (rest := []) (st2 := [.int r64]) (pc := 507) F (M_L_low l D cy N (r14 >>> (15 &&& 31)) 9 r64 g65) (va_cwS 2 F.ts gL_law_L_low rfl rfl rfl hd_L_low ⟨Nat.le_of_ble_eq_true rfl, Nat.le_of_ble_eq_true rfl⟩) rfl dL_law_507 Fit.nil rfl (Nat.le_of_ble_eq_true rfl) (Nat.le_of_ble_eq_true rfl) (Nat.le_of_ble_eq_true rfl) rfl rfl rfl ?_
                refine V_if_ne (pc := 510) (tgt := 534) F dL_law_510 (by decide) (fun h66 => ?_) (fun h66 => ?_)
                · replace hf := ite_neg hf h66
                  refine V_iinc (v := (z6 + 1)) (L2 := [(6, .int (z6 + 1)), (0, .ref sb), (1, .ref (a 0)), (2, .int z2), (3, .ref (a1 0)), (4, .ref (a2 0)), (5, .ref (a3 0)), (7, .int r14), (8, .int ((1 : Int32) + r42)), (9, .int u53)]) (pc := 534) F dL_law_534 6 rfl rfl (by decide) rfl ?_
                  refine V_goto (pc := 537) (tgt := 191) F dL_law_537 (by decide) ?_
                  refine V.sub [1, 2, 3, 4, 5, 6, 0] rfl ?_
                  exact ih r58.2 u47.2.1 u47.2.2.1 u47.2.2.2 z2 (z6 + 1) _ hf hk
                · replace hf := ite_pos hf h66
                  refine V_iload (pc := 513) F dL_law_513 7 rfl ?_
                  refine V_bipush (v := 20) (pc := 515) F dL_law_515 (by decide) ?_
                  refine V_ishr (pc := 517) F dL_law_517 ?_
                  refine V_bipush (v := 6) (pc := 518) F dL_law_518 (by decide) ?_
                  obtain ⟨r67, g68, hf⟩ := bind_of hf
                  refine V_SM (w2 := wQ18 cy a2 u47.2.2.1 ++ (wQ8 cy a3 u47.2.2.2 ++ (wQ5 cy a1 u47.2.1 ++ (wX7 cy a r58.2)))) (rest := []) (st2 := [.int r67]) (pc := 520) F (M_L_low l D cy N (r14 >>> (20 &&& 31)) 6 r67 g68) (va_cwS 2 F.ts gL_law_L_low rfl rfl rfl hd_L_low ⟨Nat.le_of_ble_eq_true rfl, Nat.le_of_ble_eq_true rfl⟩) rfl dL_law_520 Fit.nil rfl (Nat.le_of_ble_eq_true rfl) (Nat.le_of_ble_eq_true rfl) (Nat.le_of_ble_eq_true rfl) rfl rfl rfl ?_
                  refine V_istore_n (L2 := [(2, .int r67), (0, .ref sb), (1, .ref (a 0)), (3, .ref (a1 0)), (4, .ref (a2 0)), (5, .ref (a3 0)), (6, .int z6), (7, .int r14), (8, .int ((1 : Int32) + r42)), (9, .int u53)]) (pc := 523) F dL_law_523 rfl (by decide) rfl ?_
                  refine V_aload_n (pc := 524) F dL_law_524 rfl 2 rfl ?_
                  refine V_iload_n (pc := 525) F dL_law_525 rfl 0 rfl ?_
                  obtain ⟨r69, g70, hf⟩ := bind_of hf
                  refine V_V (w2 := wQ18 cy a2 u47.2.2.1 ++ (wQ8 cy a3 u47.2.2.2 ++ (wQ5 cy a1 u47.2.1 ++ (wX7 cy a r69.2)))) (rest := []) (st2 := [.int r69.1]) (pc := 526) F 7 (M_X7_set l D cy N a r58.2 r67 r69 (rt_of g70)) (cwV 1 F.ts gL_law_X7_set rfl rfl rfl hd_X7_set ⟨Nat.le_of_ble_eq_true rfl, Nat.le_of_ble_eq_true rfl⟩) rfl dL_law_526 (Fit.right (Fit.right (Fit.right Fit.whole))) fstX7 rfl rfl (Nat.le_of_ble_eq_true rfl) (Nat.le_of_ble_eq_true rfl) (Nat.le_of_ble_eq_true rfl) rfl rfl rfl ?_
                  refine V_if_ge (pc := 529) (tgt := 534) F dL_law_529 (by decide) (fun h71 => ?_) (fun h71 => ?_)
                  · replace hf := ite_pos hf h71
                    refine V_iinc (v := (z6 + 1)) (L2 := [(6, .int (z6 + 1)), (2, .int r67), (0, .ref sb), (1, .ref (a 0)), (3, .ref (a1 0)), (4, .ref (a2 0)), (5, .ref (a3 0)), (7, .int r14), (8, .int ((1 : Int32) + r42)), (9, .int u53)]) (pc := 534) F dL_law_534 6 rfl rfl (by decide) rfl ?_
                    refine V_goto (pc := 537) (tgt := 191) F dL_law_537 (by decide) ?_
                    refine V.sub [2, 3, 1, 4, 5, 6, 0] rfl ?_
                    exact ih r69.2 u47.2.1 u47.2.2.1 u47.2.2.2 r67 (z6 + 1) _ hf hk
                  · replace hf := ite_neg hf h71
                    refine V_iconst (v := 0) (pc := 532) F dL_law_532 (by decide) ?_
                    exact nomatch hf
              · replace hf := ite_pos hf h63
                refine V_iload (pc := 414) F dL_law_414 7 rfl ?_
                refine V_bipush (v := 16) (pc := 416) F dL_law_416 (by decide) ?_
                refine V_ishr (pc := 418) F dL_law_418 ?_
                refine V_aload_n (pc := 419) F dL_law_419 rfl 1 rfl ?_
                refine V_iconst (v := 0) (pc := 420) F dL_law_420 (by decide) ?_
                obtain ⟨r72, g73, hf⟩ := bind_of hf
                refine V_V (w2 := wQ18 cy a2 u47.2.2.1 ++ (wQ8 cy a3 u47.2.2.2 ++ (wQ5 cy a1 u47.2.1 ++ (wX7 cy a r72.2)))) (rest := [.int (r14 >>> (16 &&& 31))]) (st2 := [.int r72.1, .int (r14 >>> (16 &&& 31))]) (pc := 421) F 7 (M_X7_count l D cy N a r58.2 0 r72 (rt_of g73)) (cwV 1 F.ts gL_law_X7_count rfl rfl rfl hd_X7_count ⟨Nat.le_of_ble_eq_true rfl, Nat.le_of_ble_eq_true rfl⟩) rfl dL_law_421 (Fit.right (Fit.right (Fit.right Fit.whole))) fstX7 rfl rfl (Nat.le_of_ble_eq_true rfl) (Nat.le_of_ble_eq_true rfl) (Nat.le_of_ble_eq_true rfl) rfl rfl rfl ?_
                obtain ⟨r74, g75, hf⟩ := bind_of hf
                refine V_SM (w2 := wQ18 cy a2 u47.2.2.1 ++ (wQ8 cy a3 u47.2.2.2 ++ (wQ5 cy a1 u47.2.1 ++ (wX7 cy a r72.2)))) (rest := []) (st2 := [.int r74]) (pc := 424) F (M_L_low l D cy N (r14 >>> (16 &&& 31)) r72.1 r74 g75) (va_cwS 2 F.ts gL_law_L_low rfl rfl rfl hd_L_low ⟨Nat.le_of_ble_eq_true rfl, Nat.le_of_ble_eq_true rfl⟩) rfl dL_law_424 Fit.nil rfl (Nat.le_of_ble_eq_true rfl) (Nat.le_of_ble_eq_true rfl) (Nat.le_of_ble_eq_true rfl) rfl rfl rfl ?_
                refine V_istore (L2 := [(10, .int r74), (0, .ref sb), (1, .ref (a 0)), (2, .int z2), (3, .ref (a1 0)), (4, .ref (a2 0)), (5, .ref (a3 0)), (6, .int z6), (7, .int r14), (8, .int ((1 : Int32) + r42)), (9, .int u53)]) (pc := 427) F dL_law_427 (by decide) rfl ?_
                refine V_iload (pc := 429) F dL_law_429 8 rfl ?_
                refine V_bipush (v := 19) (pc := 431) F dL_law_431 (by decide) ?_
                refine V_ishr (pc := 433) F dL_law_433 ?_
                refine V_bipush (v := 64) (pc := 434) F dL_law_434 (by decide) ?_
                obtain ⟨r76, g77, hf⟩ := bind_of hf
                refine V_SM (w2 := wQ18 cy a2 u47.2.2.1 ++ (wQ8 cy a3 u47.2.2.2 ++ (wQ5 cy a1 u47.2.1 ++ (wX7 cy a r72.2)))) (rest := []) (st2 := [.int r76]) (pc := 436) F (M_L_low l D cy N (r14 >>> (19 &&& 31)) 64 r76 g77) (va_cwS 2 F.ts gL_law_L_low rfl rfl rfl hd_L_low ⟨Nat.le_of_ble_eq_true rfl, Nat.le_of_ble_eq_true rfl⟩) rfl dL_law_436 Fit.nil rfl (Nat.le_of_ble_eq_true rfl) (Nat.le_of_ble_eq_true rfl) (Nat.le_of_ble_eq_true rfl) rfl rfl rfl ?_
                refine V_istore (L2 := [(11, .int r76), (10, .int r74), (0, .ref sb), (1, .ref (a 0)), (2, .int z2), (3, .ref (a1 0)), (4, .ref (a2 0)), (5, .ref (a3 0)), (6, .int z6), (7, .int r14), (8, .int ((1 : Int32) + r42)), (9, .int u53)]) (pc := 439) F dL_law_439 (by decide) rfl ?_
                refine V_aload_n (pc := 441) F dL_law_441 rfl 3 rfl ?_
                refine V_iload (pc := 442) F dL_law_442 1 rfl ?_
                refine V_iconst (v := 0) (pc := 444) F dL_law_444 (by decide) ?_
                obtain ⟨r78, g79, hf⟩ := bind_of hf
                refine V_V (w2 := wQ18 cy a2 u47.2.2.1 ++ (wQ8 cy a3 u47.2.2.2 ++ (wQ5 cy a1 u47.2.1 ++ (wX7 cy a r78.2)))) (rest := []) (st2 := [.int r78.1]) (pc := 445) F 7 (M_X7_phase l D cy N a r72.2 r74 0 r78 (rt_of g79)) (cwV 2 F.ts gL_law_X7_phase rfl rfl rfl hd_X7_phase ⟨Nat.le_of_ble_eq_true rfl, Nat.le_of_ble_eq_true rfl⟩) rfl dL_law_445 (Fit.right (Fit.right (Fit.right Fit.whole))) fstX7 rfl rfl (Nat.le_of_ble_eq_true rfl) (Nat.le_of_ble_eq_true rfl) (Nat.le_of_ble_eq_true rfl) rfl rfl rfl ?_
                refine V_istore (L2 := [(12, .int r78.1), (11, .int r76), (10, .int r74), (0, .ref sb), (1, .ref (a 0)), (2, .int z2), (3, .ref (a1 0)), (4, .ref (a2 0)), (5, .ref (a3 0)), (6, .int z6), (7, .int r14), (8, .int ((1 : Int32) + r42)), (9, .int u53)]) (pc := 448) F dL_law_448 (by decide) rfl ?_
                refine V_aload_n (pc := 450) F dL_law_450 rfl 4 rfl ?_
                refine V_iload (pc := 451) F dL_law_451 2 rfl ?_
                refine V_iload (pc := 453) F dL_law_453 1 rfl ?_
                refine V_iconst (v := 1) (pc := 455) F dL_law_455 (by decide) ?_
                refine V_iload (pc := 456) F dL_law_456 10 rfl ?_
                refine V_bipush (v := 25) (pc := 458) F dL_law_458 (by decide) ?_
                refine V_ishr (pc := 460) F dL_law_460 ?_
                refine V_iconst (v := 5) (pc := 461) F dL_law_461 (by decide) ?_
                obtain ⟨r80, g81, hf⟩ := bind_of hf
                refine V_SM (w2 := wQ18 cy a2 u47.2.2.1 ++ (wQ8 cy a3 u47.2.2.2 ++ (wQ5 cy a1 u47.2.1 ++ (wX7 cy a r78.2)))) (rest := [.int 1, .int r76, .int r74, .ref (a 0)]) (st2 := [.int r80, .int 1, .int r76, .int r74, .ref (a 0)]) (pc := 462) F (M_L_low l D cy N (r14 >>> (25 &&& 31)) 5 r80 g81) (va_cwS 2 F.ts gL_law_L_low rfl rfl rfl hd_L_low ⟨Nat.le_of_ble_eq_true rfl, Nat.le_of_ble_eq_true rfl⟩) rfl dL_law_462 Fit.nil rfl (Nat.le_of_ble_eq_true rfl) (Nat.le_of_ble_eq_true rfl) (Nat.le_of_ble_eq_true rfl) rfl rfl rfl ?_
                refine V_iadd (pc := 465) F dL_law_465 ?_
                obtain ⟨r82, g83, hf⟩ := bind_of hf
                refine V_V (w2 := wQ18 cy a2 u47.2.2.1 ++ (wQ8 cy a3 u47.2.2.2 ++ (wQ5 cy a1 u47.2.1 ++ (wX7 cy a r82.2)))) (rest := []) (st2 := [.int r82.1]) (pc := 466) F 7 (M_X7_change l D cy N a r78.2 r74 r76 ((1 : Int32) + r80) r82 (rt_of g83)) (cwV 3 F.ts gL_law_X7_change rfl rfl rfl hd_X7_change ⟨Nat.le_of_ble_eq_true rfl, Nat.le_of_ble_eq_true rfl⟩) rfl dL_law_466 (Fit.right (Fit.right (Fit.right Fit.whole))) fstX7 rfl rfl (Nat.le_of_ble_eq_true rfl) (Nat.le_of_ble_eq_true rfl) (Nat.le_of_ble_eq_true rfl) rfl rfl rfl ?_
                refine V_iload (pc := 469) F dL_law_469 0 rfl ?_
                refine V_icmp_ne (pc := 471) (tgt := 498) F dL_law_471 (by decide) (fun h84 => ?_) (fun h84 => ?_)
                · replace hf := ite_neg hf h84
                  refine V_iconst (v := 0) (pc := 498) F dL_law_498 (by decide) ?_
                  exact nomatch hf
                · replace hf := ite_pos hf h84
                  refine V_aload_n (pc := 474) F dL_law_474 rfl 4 rfl ?_
                  refine V_iload (pc := 475) F dL_law_475 2 rfl ?_
                  refine V_iconst (v := 0) (pc := 477) F dL_law_477 (by decide) ?_
                  obtain ⟨r85, g86, hf⟩ := bind_of hf
                  refine V_V (w2 := wQ18 cy a2 u47.2.2.1 ++ (wQ8 cy a3 u47.2.2.2 ++ (wQ5 cy a1 u47.2.1 ++ (wX7 cy a r85.2)))) (rest := []) (st2 := [.int r85.1]) (pc := 478) F 7 (M_X7_phase l D cy N a r82.2 r74 0 r85 (rt_of g86)) (cwV 2 F.ts gL_law_X7_phase rfl rfl rfl hd_X7_phase ⟨Nat.le_of_ble_eq_true rfl, Nat.le_of_ble_eq_true rfl⟩) rfl dL_law_478 (Fit.right (Fit.right (Fit.right Fit.whole))) fstX7 rfl rfl (Nat.le_of_ble_eq_true rfl) (Nat.le_of_ble_eq_true rfl) (Nat.le_of_ble_eq_true rfl) rfl rfl rfl ?_
                  refine V_iload (pc := 481) F dL_law_481 1 rfl ?_
                  refine V_icmp_ne (pc := 483) (tgt := 498) F dL_law_483 (by decide) (fun h87 => ?_) (fun h87 => ?_)
                  · replace hf := ite_neg hf h87
                    refine V_iconst (v := 0) (pc := 498) F dL_law_498 (by decide) ?_
                    exact nomatch hf
                  · replace hf := ite_pos hf h87
                    refine V_aload_n (pc := 486) F dL_law_486 rfl 4 rfl ?_
                    refine V_aload_n (pc := 487) F dL_law_487 rfl 6 rfl ?_
                    refine V_aload (pc := 488) F dL_law_488 7 rfl ?_
                    refine V_aload (pc := 490) F dL_law_490 8 rfl ?_
                    obtain ⟨r88, g89, hf⟩ := bind_of hf
                    refine V_SM (w2 := wQ18 cy a2 u47.2.2.1 ++ (wQ8 cy a3 u47.2.2.2 ++ (wQ5 cy a1 u47.2.1 ++ (wX7 cy a r88.2)))) (rest := []) (st2 := [.int r88.1]) (pc := 492) F (M_L_tells l D cy N a a1 a2 a3 r85.2 u47.2.1 u47.2.2.1 u47.2.2.2 r88 g89) (va_cwS 4 F.ts gL_law_L_tells rfl rfl rfl hd_L_tells ⟨Nat.le_of_ble_eq_true rfl, Nat.le_of_ble_eq_true rfl⟩) rfl dL_law_492 Fit.whole (fst_app rfl (fst_app rfl (fst_app rfl fstX7))) (Nat.le_of_ble_eq_true rfl) (Nat.le_of_ble_eq_true rfl) (Nat.le_of_ble_eq_true rfl) rfl rfl rfl ?_
                    refine V_if_ne (pc := 495) (tgt := 500) F dL_law_495 (by decide) (fun h90 => ?_) (fun h90 => ?_)
                    · replace hf := ite_neg hf h90
                      refine V_iload (pc := 500) F dL_law_500 10 rfl ?_
                      refine V_bipush (v := 15) (pc := 502) F dL_law_502 (by decide) ?_
                      refine V_ishr (pc := 504) F dL_law_504 ?_
                      refine V_bipush (v := 9) (pc := 505) F dL_law_505 (by decide) ?_
                      obtain ⟨r91, g92, hf⟩ := bind_of hf
                      refine V_SM (w2 := wQ18 cy a2 u47.2.2.1 ++ (wQ8 cy a3 u47.2.2.2 ++ (wQ5 cy a1 u47.2.1 ++ (wX7 cy a r88.2)))) (rest := []) (st2 := [.int r91]) (pc := 507) F (M_L_low l D cy N (r14 >>> (15 &&& 31)) 9 r91 g92) (va_cwS 2 F.ts gL_law_L_low rfl rfl rfl hd_L_low ⟨Nat.le_of_ble_eq_true rfl, Nat.le_of_ble_eq_true rfl⟩) rfl dL_law_507 Fit.nil rfl (Nat.le_of_ble_eq_true rfl) (Nat.le_of_ble_eq_true rfl) (Nat.le_of_ble_eq_true rfl) rfl rfl rfl ?_
                      refine V_if_ne (pc := 510) (tgt := 534) F dL_law_510 (by decide) (fun h93 => ?_) (fun h93 => ?_)
                      · replace hf := ite_neg hf h93
                        refine V_iinc (v := (z6 + 1)) (L2 := [(6, .int (z6 + 1)), (12, .int r78.1), (11, .int r76), (10, .int r74), (0, .ref sb), (1, .ref (a 0)), (2, .int z2), (3, .ref (a1 0)), (4, .ref (a2 0)), (5, .ref (a3 0)), (7, .int r14), (8, .int ((1 : Int32) + r42)), (9, .int u53)]) (pc := 534) F dL_law_534 9 rfl rfl (by decide) rfl ?_
                        refine V_goto (pc := 537) (tgt := 191) F dL_law_537 (by decide) ?_
                        refine V.sub [4, 5, 6, 7, 8, 9, 0] rfl ?_
                        exact ih r88.2 u47.2.1 u47.2.2.1 u47.2.2.2 z2 (z6 + 1) _ hf hk
                      · replace hf := ite_pos hf h93
                        refine V_iload (pc := 513) F dL_law_513 10 rfl ?_
                        refine V_bipush (v := 20) (pc := 515) F dL_law_515 (by decide) ?_
                        refine V_ishr (pc := 517) F dL_law_517 ?_
                        refine V_bipush (v := 6) (pc := 518) F dL_law_518 (by decide) ?_
                        obtain ⟨r94, g95, hf⟩ := bind_of hf
                        refine V_SM (w2 := wQ18 cy a2 u47.2.2.1 ++ (wQ8 cy a3 u47.2.2.2 ++ (wQ5 cy a1 u47.2.1 ++ (wX7 cy a r88.2)))) (rest := []) (st2 := [.int r94]) (pc := 520) F (M_L_low l D cy N (r14 >>> (20 &&& 31)) 6 r94 g95) (va_cwS 2 F.ts gL_law_L_low rfl rfl rfl hd_L_low ⟨Nat.le_of_ble_eq_true rfl, Nat.le_of_ble_eq_true rfl⟩) rfl dL_law_520 Fit.nil rfl (Nat.le_of_ble_eq_true rfl) (Nat.le_of_ble_eq_true rfl) (Nat.le_of_ble_eq_true rfl) rfl rfl rfl ?_
                        refine V_istore_n (L2 := [(2, .int r94), (12, .int r78.1), (11, .int r76), (10, .int r74), (0, .ref sb), (1, .ref (a 0)), (3, .ref (a1 0)), (4, .ref (a2 0)), (5, .ref (a3 0)), (6, .int z6), (7, .int r14), (8, .int ((1 : Int32) + r42)), (9, .int u53)]) (pc := 523) F dL_law_523 rfl (by decide) rfl ?_
                        refine V_aload_n (pc := 524) F dL_law_524 rfl 5 rfl ?_
                        refine V_iload_n (pc := 525) F dL_law_525 rfl 0 rfl ?_
                        obtain ⟨r96, g97, hf⟩ := bind_of hf
                        refine V_V (w2 := wQ18 cy a2 u47.2.2.1 ++ (wQ8 cy a3 u47.2.2.2 ++ (wQ5 cy a1 u47.2.1 ++ (wX7 cy a r96.2)))) (rest := []) (st2 := [.int r96.1]) (pc := 526) F 7 (M_X7_set l D cy N a r88.2 r94 r96 (rt_of g97)) (cwV 1 F.ts gL_law_X7_set rfl rfl rfl hd_X7_set ⟨Nat.le_of_ble_eq_true rfl, Nat.le_of_ble_eq_true rfl⟩) rfl dL_law_526 (Fit.right (Fit.right (Fit.right Fit.whole))) fstX7 rfl rfl (Nat.le_of_ble_eq_true rfl) (Nat.le_of_ble_eq_true rfl) (Nat.le_of_ble_eq_true rfl) rfl rfl rfl ?_
                        refine V_if_ge (pc := 529) (tgt := 534) F dL_law_529 (by decide) (fun h98 => ?_) (fun h98 => ?_)
                        · replace hf := ite_pos hf h98
                          refine V_iinc (v := (z6 + 1)) (L2 := [(6, .int (z6 + 1)), (2, .int r94), (12, .int r78.1), (11, .int r76), (10, .int r74), (0, .ref sb), (1, .ref (a 0)), (3, .ref (a1 0)), (4, .ref (a2 0)), (5, .ref (a3 0)), (7, .int r14), (8, .int ((1 : Int32) + r42)), (9, .int u53)]) (pc := 534) F dL_law_534 9 rfl rfl (by decide) rfl ?_
                          refine V_goto (pc := 537) (tgt := 191) F dL_law_537 (by decide) ?_
                          refine V.sub [5, 6, 1, 7, 8, 9, 0] rfl ?_
                          exact ih r96.2 u47.2.1 u47.2.2.1 u47.2.2.2 r94 (z6 + 1) _ hf hk
                        · replace hf := ite_neg hf h98
                          refine V_iconst (v := 0) (pc := 532) F dL_law_532 (by decide) ?_
                          exact nomatch hf
                    · replace hf := ite_pos hf h90
                      refine V_iconst (v := 0) (pc := 498) F dL_law_498 (by decide) ?_
                      exact nomatch hf
            · replace hf := ite_pos hf h60
              refine V_iconst (v := 0) (pc := 399) F dL_law_399 (by decide) ?_
              exact nomatch hf
        refine V_if_ne (pc := 298) (tgt := 306) F dL_law_298 (by decide) (fun h41 => ?_) (fun h41 => ?_)
        · refine V_iconst (v := 4) (pc := 306) F dL_law_306 (by decide) ?_
          exact V.eq rfl rfl (by rw [if_neg h41]) J99
        · refine V_bipush (v := 20) (pc := 301) F dL_law_301 (by decide) ?_
          refine V_goto (pc := 303) (tgt := 307) F dL_law_303 (by decide) ?_
          exact V.eq rfl rfl (by rw [if_pos h41]) J99
  have K555 : ∀ (n : Nat) (v1 : SQ5) (v2 : SQ18) (v3 : SQ8) (v : SX7) (z6 : Int32) (u : SX7), fL_law_L555 N sn sx v1 v2 v3 n v z6 = some u → V p l e room_1 s m #[.ref sb] below meth c 13 D (aL s) 175 1319 (lw_Z below #[.ref sb] s) (wQ18 cy a2 v2 ++ (wQ8 cy a3 v3 ++ (wQ5 cy a1 v1 ++ (wX7 cy a u)))) [] [] 607 → V p l e room_1 s m #[.ref sb] below meth c 13 D (aL s) 175 1319 (lw_Z below #[.ref sb] s) (wQ18 cy a2 v2 ++ (wQ8 cy a3 v3 ++ (wQ5 cy a1 v1 ++ (wX7 cy a v)))) [(0, .ref sb), (1, .ref (a 0)), (6, .int z6)] [] 555 := by
    intro n
    induction n with
    | zero =>
      intro v1 v2 v3 v z6 u hf hk
      exact nomatch (show (none : Option (SX7)) = some u from hf)
    | succ n ih =>
      intro v1 v2 v3 v z6 u hf hk
      rw [fL_law_L555] at hf
      refine V_iload (pc := 555) F dL_law_555 2 rfl ?_
      refine V_bipush (v := 6) (pc := 557) F dL_law_557 (by decide) ?_
      refine V_icmp_ge (pc := 559) (tgt := 607) F dL_law_559 (by decide) (fun h106 => ?_) (fun h106 => ?_)
      · replace hf := ite_pos hf h106
        obtain rfl := some_of hf
        exact V.sub [] rfl hk
      · replace hf := ite_neg hf h106
        refine V_aload_n (pc := 562) F dL_law_562 rfl 1 rfl ?_
        refine V_aload_n (pc := 563) F dL_law_563 rfl 0 rfl ?_
        refine V_bipush (v := 81) (pc := 564) F dL_law_564 (by decide) ?_
        refine V_bipush (v := 13) (pc := 566) F dL_law_566 (by decide) ?_
        refine V_iload (pc := 568) F dL_law_568 2 rfl ?_
        refine V_imul (pc := 570) F dL_law_570 ?_
        refine V_iadd (pc := 571) F dL_law_571 ?_
        refine V_aload_n (pc := 572) F dL_law_572 rfl 0 rfl ?_
        refine V_bipush (v := 80) (pc := 573) F dL_law_573 (by decide) ?_
        obtain ⟨r107, g108, hf⟩ := bind_of hf
        refine V_SS (w2 := wQ18 cy a2 v2 ++ (wQ8 cy a3 v3 ++ (wQ5 cy a1 v1 ++ (wX7 cy a v)))) (rest := [.int ((81 : Int32) + ((13 : Int32) * z6)), .ref sb, .ref (a 0)]) (st2 := [.int r107, .int ((81 : Int32) + ((13 : Int32) * z6)), .ref sb, .ref (a 0)]) (pc := 575) F G (M_L_cell l D cy N sb sn sx 80 r107 g108) (va_cwS 2 F.ts gL_law_L_cell rfl rfl rfl hd_L_cell ⟨Nat.le_of_ble_eq_true rfl, Nat.le_of_ble_eq_true rfl⟩) rfl dL_law_575 Fit.nil rfl (Nat.le_of_ble_eq_true rfl) (Nat.le_of_ble_eq_true rfl) (Nat.le_of_ble_eq_true rfl) rfl rfl rfl ?_
        refine V_iconst (v := 4) (pc := 578) F dL_law_578 (by decide) ?_
        refine V_iload (pc := 579) F dL_law_579 2 rfl ?_
        refine V_imul (pc := 581) F dL_law_581 ?_
        refine V_ishr (pc := 582) F dL_law_582 ?_
        refine V_aload_n (pc := 583) F dL_law_583 rfl 1 rfl ?_
        refine V_iconst (v := 0) (pc := 584) F dL_law_584 (by decide) ?_
        obtain ⟨r109, g110, hf⟩ := bind_of hf
        refine V_V (w2 := wQ18 cy a2 v2 ++ (wQ8 cy a3 v3 ++ (wQ5 cy a1 v1 ++ (wX7 cy a r109.2)))) (rest := [.int (r107 >>> (((4 : Int32) * z6) &&& 31)), .int ((81 : Int32) + ((13 : Int32) * z6)), .ref sb, .ref (a 0)]) (st2 := [.int r109.1, .int (r107 >>> (((4 : Int32) * z6) &&& 31)), .int ((81 : Int32) + ((13 : Int32) * z6)), .ref sb, .ref (a 0)]) (pc := 585) F 7 (M_X7_count l D cy N a v 0 r109 (rt_of g110)) (cwV 1 F.ts gL_law_X7_count rfl rfl rfl hd_X7_count ⟨Nat.le_of_ble_eq_true rfl, Nat.le_of_ble_eq_true rfl⟩) rfl dL_law_585 (Fit.right (Fit.right (Fit.right Fit.whole))) fstX7 rfl rfl (Nat.le_of_ble_eq_true rfl) (Nat.le_of_ble_eq_true rfl) (Nat.le_of_ble_eq_true rfl) rfl rfl rfl ?_
        obtain ⟨r111, g112, hf⟩ := bind_of hf
        refine V_SM (w2 := wQ18 cy a2 v2 ++ (wQ8 cy a3 v3 ++ (wQ5 cy a1 v1 ++ (wX7 cy a r109.2)))) (rest := [.int ((81 : Int32) + ((13 : Int32) * z6)), .ref sb, .ref (a 0)]) (st2 := [.int r111, .int ((81 : Int32) + ((13 : Int32) * z6)), .ref sb, .ref (a 0)]) (pc := 588) F (M_L_low l D cy N (r107 >>> (((4 : Int32) * z6) &&& 31)) r109.1 r111 g112) (va_cwS 2 F.ts gL_law_L_low rfl rfl rfl hd_L_low ⟨Nat.le_of_ble_eq_true rfl, Nat.le_of_ble_eq_true rfl⟩) rfl dL_law_588 Fit.nil rfl (Nat.le_of_ble_eq_true rfl) (Nat.le_of_ble_eq_true rfl) (Nat.le_of_ble_eq_true rfl) rfl rfl rfl ?_
        refine V_iload (pc := 591) F dL_law_591 2 rfl ?_
        obtain ⟨r113, g114, hf⟩ := bind_of hf
        refine V_SS (w2 := wQ18 cy a2 v2 ++ (wQ8 cy a3 v3 ++ (wQ5 cy a1 v1 ++ (wX7 cy a r113.2)))) (rest := []) (st2 := [.int r113.1]) (pc := 593) F G (M_L_served l D cy N sb sn sx a r109.2 ((81 : Int32) + ((13 : Int32) * z6)) r111 z6 r113 g114) (va_cwS 5 F.ts gL_law_L_served rfl rfl rfl hd_L_served ⟨Nat.le_of_ble_eq_true rfl, Nat.le_of_ble_eq_true rfl⟩) rfl dL_law_593 (Fit.right (Fit.right (Fit.right Fit.whole))) fstX7 (Nat.le_of_ble_eq_true rfl) (Nat.le_of_ble_eq_true rfl) (Nat.le_of_ble_eq_true rfl) rfl rfl rfl ?_
        refine V_if_ne (pc := 596) (tgt := 601) F dL_law_596 (by decide) (fun h115 => ?_) (fun h115 => ?_)
        · replace hf := ite_neg hf h115
          refine V_iinc (v := (z6 + 1)) (L2 := [(6, .int (z6 + 1)), (0, .ref sb), (1, .ref (a 0))]) (pc := 601) F dL_law_601 2 rfl rfl (by decide) rfl ?_
          refine V_goto (pc := 604) (tgt := 555) F dL_law_604 (by decide) ?_
          refine V.sub [1, 2, 0] rfl ?_
          exact ih v1 v2 v3 r113.2 (z6 + 1) _ hf hk
        · replace hf := ite_pos hf h115
          refine V_iconst (v := 0) (pc := 599) F dL_law_599 (by decide) ?_
          exact nomatch hf
  unfold fL_lawB at hf
  refine V_iconst (v := 0) (pc := 144) F dL_law_144 (by decide) ?_
  refine V_istore (L2 := [(6, .int 0), (5, .ref (a3 0)), (4, .ref (a2 0)), (3, .ref (a1 0)), (2, .int z2), (1, .ref (a 0)), (0, .ref sb)]) (pc := 145) F dL_law_145 (by decide) rfl ?_
  refine V.sub [6, 5, 4, 3, 2, 1, 0] rfl ?_
  obtain ⟨u5, g6, hf⟩ := bind_of hf
  refine K147 N v v1 v3 z2 v2 0 u5 g6 ?_
  refine V_aload_n (pc := 166) F dL_law_166 rfl 1 rfl ?_
  refine V_aload_n (pc := 167) F dL_law_167 rfl 3 rfl ?_
  refine V_aload (pc := 168) F dL_law_168 4 rfl ?_
  refine V_aload (pc := 170) F dL_law_170 5 rfl ?_
  obtain ⟨r7, g8, hf⟩ := bind_of hf
  refine V_SM (w2 := wQ18 cy a2 u5 ++ (wQ8 cy a3 v3 ++ (wQ5 cy a1 v1 ++ (wX7 cy a r7.2)))) (rest := []) (st2 := [.int r7.1]) (pc := 172) F (M_L_tells l D cy N a a1 a2 a3 v v1 u5 v3 r7 g8) (va_cwS 4 F.ts gL_law_L_tells rfl rfl rfl hd_L_tells ⟨Nat.le_of_ble_eq_true rfl, Nat.le_of_ble_eq_true rfl⟩) rfl dL_law_172 Fit.whole (fst_app rfl (fst_app rfl (fst_app rfl fstX7))) (Nat.le_of_ble_eq_true rfl) (Nat.le_of_ble_eq_true rfl) (Nat.le_of_ble_eq_true rfl) rfl rfl rfl ?_
  refine V_if_eq (pc := 175) (tgt := 186) F dL_law_175 (by decide) (fun h9 => ?_) (fun h9 => ?_)
  · replace hf := ite_pos hf h9
    refine V_iconst (v := 0) (pc := 186) F dL_law_186 (by decide) ?_
    exact nomatch hf
  · replace hf := ite_neg hf h9
    refine V_aload_n (pc := 178) F dL_law_178 rfl 1 rfl ?_
    refine V_iconst (v := 0) (pc := 179) F dL_law_179 (by decide) ?_
    obtain ⟨r10, g11, hf⟩ := bind_of hf
    refine V_SM (w2 := wQ18 cy a2 u5 ++ (wQ8 cy a3 v3 ++ (wQ5 cy a1 v1 ++ (wX7 cy a r10.2)))) (rest := []) (st2 := [.int r10.1]) (pc := 180) F (M_L_comers l D cy N a r7.2 0 r10 g11) (va_cwS 2 F.ts gL_law_L_comers rfl rfl rfl hd_L_comers ⟨Nat.le_of_ble_eq_true rfl, Nat.le_of_ble_eq_true rfl⟩) rfl dL_law_180 (Fit.right (Fit.right (Fit.right Fit.whole))) fstX7 (Nat.le_of_ble_eq_true rfl) (Nat.le_of_ble_eq_true rfl) (Nat.le_of_ble_eq_true rfl) rfl rfl rfl ?_
    refine V_if_ne (pc := 183) (tgt := 188) F dL_law_183 (by decide) (fun h12 => ?_) (fun h12 => ?_)
    · replace hf := ite_neg hf h12
      refine V_iconst (v := 0) (pc := 188) F dL_law_188 (by decide) ?_
      refine V_istore (L2 := [(6, .int 0), (0, .ref sb), (1, .ref (a 0)), (2, .int z2), (3, .ref (a1 0)), (4, .ref (a2 0)), (5, .ref (a3 0))]) (pc := 189) F dL_law_189 (by decide) rfl ?_
      refine V.sub [1, 2, 3, 4, 5, 6, 0] rfl ?_
      obtain ⟨u100, g101, hf⟩ := bind_of hf
      refine K191 N r10.2 v1 u5 v3 z2 0 u100 g101 ?_
      refine V_aload_n (pc := 540) F dL_law_540 rfl 1 rfl ?_
      refine V_aload_n (pc := 541) F dL_law_541 rfl 2 rfl ?_
      refine V_iconst (v := 0) (pc := 542) F dL_law_542 (by decide) ?_
      obtain ⟨c102, hf⟩ := chk_some hf
      refine V_iald (pc := 543) F 2 rfl c102 dL_law_543 ?_
      obtain ⟨r103, g104, hf⟩ := bind_of hf
      refine V_SM (w2 := wQ18 cy a2 u100.2.2.1 ++ (wQ8 cy a3 u100.2.2.2 ++ (wQ5 cy a1 u100.2.1 ++ (wX7 cy a r103.2)))) (rest := []) (st2 := [.int r103.1]) (pc := 544) F (M_L_comers l D cy N a u100.1 (u100.2.1 (0 : Int32).toNatClampNeg) r103 g104) (va_cwS 2 F.ts gL_law_L_comers rfl rfl rfl hd_L_comers ⟨Nat.le_of_ble_eq_true rfl, Nat.le_of_ble_eq_true rfl⟩) rfl dL_law_544 (Fit.right (Fit.right (Fit.right Fit.whole))) fstX7 (Nat.le_of_ble_eq_true rfl) (Nat.le_of_ble_eq_true rfl) (Nat.le_of_ble_eq_true rfl) rfl rfl rfl ?_
      refine V_if_ne (pc := 547) (tgt := 552) F dL_law_547 (by decide) (fun h105 => ?_) (fun h105 => ?_)
      · replace hf := ite_neg hf h105
        refine V_iconst (v := 0) (pc := 552) F dL_law_552 (by decide) ?_
        refine V_istore (L2 := [(6, .int 0), (0, .ref sb), (1, .ref (a 0)), (3, .ref (a1 0))]) (pc := 553) F dL_law_553 (by decide) rfl ?_
        refine V.sub [1, 2, 0] rfl ?_
        obtain ⟨u116, g117, hf⟩ := bind_of hf
        refine K555 N u100.2.1 u100.2.2.1 u100.2.2.2 r103.2 0 u116 g117 ?_
        refine V_iconst (v := 1) (pc := 607) F dL_law_607 (by decide) ?_
        exact V_true F (Nat.le_of_ble_eq_true rfl) (Nat.le_of_ble_eq_true rfl) dL_law_608
      · replace hf := ite_pos hf h105
        refine V_iconst (v := 0) (pc := 550) F dL_law_550 (by decide) ?_
        exact nomatch hf
    · replace hf := ite_pos hf h12
      refine V_iconst (v := 0) (pc := 186) F dL_law_186 (by decide) ?_
      exact nomatch hf
