theorem hd_X8_helps : yX8_helps.cls = RX8 ∧ yX8_helps.cls ≠ "java/lang/invoke/MethodHandle" ∧ yX8_helps.cls ≠ "java/lang/invoke/VarHandle" ∧ (parseMethodDescriptor yX8_helps.desc).map (fun d => d.parameters.length) = some 3 := by decide +kernel
def fX8_helps_L14 (N : Nat) (z1 : Int32) (z2 : Int32) (z3 : Int32) (z4 : Int32) : Nat → SX8 → Int32 → Option (SX8)
  | 0, _, _ => none
  | n + 1, v, z5 =>
    if 10 ≤ z5 then
      some v
    else
      chk (z4 + z5) 143 (
        chk z5 10 (
          nmd (upd v.2.2.2.2.2.2.2.2.2.2.2.1 z5.toNatClampNeg (v.2.1 (z4 + z5).toNatClampNeg)) fun f4 =>
          fX8_helps_L14 N z1 z2 z3 z4 n (v.1, v.2.1, v.2.2.1, v.2.2.2.1, v.2.2.2.2.1, v.2.2.2.2.2.1, v.2.2.2.2.2.2.1, v.2.2.2.2.2.2.2.1, v.2.2.2.2.2.2.2.2.1, v.2.2.2.2.2.2.2.2.2.1, v.2.2.2.2.2.2.2.2.2.2.1, f4, v.2.2.2.2.2.2.2.2.2.2.2.2) (z5 + 1)
        )
      )
def fX8_helps_L48 (N : Nat) (z1 : Int32) (z2 : Int32) (z3 : Int32) (z4 : Int32) : Nat → SX8 → Int32 → Option (SX8)
  | 0, _, _ => none
  | n + 1, v, z5 =>
    if z5 < 2 then
      some v
    else
      chk (z5 - 2) 10 (
        chk (z4 + z5) 143 (
          nmd (upd v.2.1 (z4 + z5).toNatClampNeg (v.2.2.2.2.2.2.2.2.2.2.2.1 (z5 - 2).toNatClampNeg)) fun f11 =>
          fX8_helps_L48 N z1 z2 z3 z4 n (v.1, f11, v.2.2) (z5 + (-1))
        )
      )
def fX8_helps_L153 (N : Nat) (z4 : Int32) (z5 : Int32) : Nat → SX8 → Int32 → Option (SX8)
  | 0, _, _ => none
  | n + 1, v, z6 =>
    if 10 ≤ z6 then
      some v
    else
      chk z6 10 (
        chk (z4 + z6) 143 (
          nmd (upd v.2.1 (z4 + z6).toNatClampNeg (v.2.2.2.2.2.2.2.2.2.2.2.1 z6.toNatClampNeg)) fun f35 =>
          fX8_helps_L153 N z4 z5 n (v.1, f35, v.2.2) (z6 + 1)
        )
      )
def fX8_helps (N : Nat) (v : SX8) (x1 : Int32) (x2 : Int32) (x3 : Int32) : Option (Int32 × SX8) :=
  (fX8_helps_L14 N x1 x2 x3 (((31 : Int32) + ((14 : Int32) * x2)) + 4) N v 0).bind fun u6 =>
    (fX8_helps_L48 N x1 x2 x3 (((31 : Int32) + ((14 : Int32) * x2)) + 4) N u6 9).bind fun u13 =>
      chk (((31 : Int32) + ((14 : Int32) * x2)) + 4) 143 (
        nmd (upd u13.2.1 (((31 : Int32) + ((14 : Int32) * x2)) + 4).toNatClampNeg x3) fun f16 =>
        chk ((((31 : Int32) + ((14 : Int32) * x2)) + 4) + 1) 143 (
          nmd (upd f16 ((((31 : Int32) + ((14 : Int32) * x2)) + 4) + 1).toNatClampNeg ((1 : Int32) <<< (x1 &&& 31))) fun f19 =>
          chk (((31 : Int32) + ((14 : Int32) * x2)) + 3) 143 (
            chk (((31 : Int32) + ((14 : Int32) * x2)) + 3) 143 (
              nmd (upd f19 (((31 : Int32) + ((14 : Int32) * x2)) + 3).toNatClampNeg ((f19 (((31 : Int32) + ((14 : Int32) * x2)) + 3).toNatClampNeg) + 1)) fun f23 =>
              (fX8_canStarveAnywhere N (u13.1, f23, u13.2.2) x1).bind fun r25 =>
                if r25 = 0 then
                  chk (((31 : Int32) + ((14 : Int32) * x2)) + 3) 143 (
                    chk (((31 : Int32) + ((14 : Int32) * x2)) + 3) 143 (
                      nmd (upd f23 (((31 : Int32) + ((14 : Int32) * x2)) + 3).toNatClampNeg ((f23 (((31 : Int32) + ((14 : Int32) * x2)) + 3).toNatClampNeg) - 1)) fun f41 =>
                      (fX8_helps_L153 N (((31 : Int32) + ((14 : Int32) * x2)) + 4) 1 N (u13.1, f41, u13.2.2) 0).bind fun u43 =>
                        some (1, u43)
                    )
                  )
                else
                  chk (((31 : Int32) + ((14 : Int32) * x2)) + 3) 143 (
                    chk (((31 : Int32) + ((14 : Int32) * x2)) + 3) 143 (
                      nmd (upd f23 (((31 : Int32) + ((14 : Int32) * x2)) + 3).toNatClampNeg ((f23 (((31 : Int32) + ((14 : Int32) * x2)) + 3).toNatClampNeg) - 1)) fun f30 =>
                      (fX8_helps_L153 N (((31 : Int32) + ((14 : Int32) * x2)) + 4) 0 N (u13.1, f30, u13.2.2) 0).bind fun u37 =>
                        some (0, u37)
                    )
                  )
            )
          )
        )
      )
set_option maxHeartbeats 8000000 in
set_option maxRecDepth 100000 in
theorem M_X8_helps (l : Launch) (D : va_G) (cy : Nat → ClassId) (N : Nat) (a : Nat → Nat) (v : SX8) (x1 : Int32) (x2 : Int32) (x3 : Int32) (o : Int32 × SX8) (hf : fX8_helps N v x1 x2 x3 = some o) : okM l yX8_helps wsX8_helps (rmz 8 191) D cy [.ref (a 0), .int x1, .int x2, .int x3] (wX8 cy a v) (wX8 cy a o.2) (some (.int o.1)) := by
  refine okM_of (own := RX8) (nme := "helps") (cc := cX8_helps) (maxL := 7) (ret := (some .boolean)) (by decide) rfl rfl rfl (Nat.le_of_ble_eq_true rfl) ?_
  intro p e s m args below meth c A F
  have i_X8 : ∀ w ∈ u_ws RX8 TX8 13, w ∈ wsX8_helps := fun _ h => List.mem_cons_of_mem _ (List.mem_append_right _ h)
  have K14 : ∀ (n : Nat) (z1 : Int32) (z2 : Int32) (z3 : Int32) (z4 : Int32) (v : SX8) (z5 : Int32) (u : SX8), fX8_helps_L14 N z1 z2 z3 z4 n v z5 = some u → V p l e (rmz 8 191) s m args below meth c 7 D A 0 0 (MQ below (ok_Q D (wX8 cy a o.2) (some (.int o.1)) A) args s 0 0 A) (wX8 cy a u) [(0, .ref (a 0)), (1, .int z1), (2, .int z2), (3, .int z3), (4, .int z4)] [] 44 → V p l e (rmz 8 191) s m args below meth c 7 D A 0 0 (MQ below (ok_Q D (wX8 cy a o.2) (some (.int o.1)) A) args s 0 0 A) (wX8 cy a v) [(0, .ref (a 0)), (1, .int z1), (2, .int z2), (3, .int z3), (4, .int z4), (5, .int z5)] [] 14 := by
    intro n
    induction n with
    | zero =>
      intro z1 z2 z3 z4 v z5 u hf hk
      exact nomatch (show (none : Option (SX8)) = some u from hf)
    | succ n ih =>
      intro z1 z2 z3 z4 v z5 u hf hk
      rw [fX8_helps_L14] at hf
      refine V_iload (pc := 14) F dX8_helps_14 5 rfl ?_
      refine V_bipush (v := 10) (pc := 16) F dX8_helps_16 (by decide) ?_
      refine V_icmp_ge (pc := 18) (tgt := 44) F dX8_helps_18 (by decide) (fun h1 => ?_) (fun h1 => ?_)
      · replace hf := ite_pos hf h1
        obtain rfl := some_of hf
        exact V.sub [0, 1, 2, 3, 4] rfl hk
      · replace hf := ite_neg hf h1
        refine V_aload_n (pc := 21) F dX8_helps_21 rfl 0 rfl ?_
        refine V_get (pc := 22) F 0 8 11 i_X8 rfl (by decide) rfl (mm 1 rfl) dX8_helps_22 rfl rfl ?_
        refine V_iload (pc := 25) F dX8_helps_25 5 rfl ?_
        refine V_aload_n (pc := 27) F dX8_helps_27 rfl 0 rfl ?_
        refine V_get (pc := 28) F 0 8 1 i_X8 rfl (by decide) rfl (mm 2 rfl) dX8_helps_28 rfl rfl ?_
        refine V_iload (pc := 31) F dX8_helps_31 4 rfl ?_
        refine V_iload (pc := 33) F dX8_helps_33 5 rfl ?_
        refine V_iadd (pc := 35) F dX8_helps_35 ?_
        obtain ⟨c2, hf⟩ := chk_some hf
        refine V_iald (pc := 36) F 1 rfl c2 dX8_helps_36 ?_
        obtain ⟨c3, hf⟩ := chk_some hf
        obtain ⟨f4, e5, hf⟩ := nmd_of hf
        refine V_iast (w2 := wX8 cy a (v.1, v.2.1, v.2.2.1, v.2.2.2.1, v.2.2.2.2.1, v.2.2.2.2.2.1, v.2.2.2.2.2.2.1, v.2.2.2.2.2.2.2.1, v.2.2.2.2.2.2.2.2.1, v.2.2.2.2.2.2.2.2.2.1, v.2.2.2.2.2.2.2.2.2.2.1, f4, v.2.2.2.2.2.2.2.2.2.2.2.2)) (pc := 37) F 6 rfl c3 e5 dX8_helps_37 rfl ?_
        refine V_iinc (v := (z5 + 1)) (L2 := [(5, .int (z5 + 1)), (0, .ref (a 0)), (1, .int z1), (2, .int z2), (3, .int z3), (4, .int z4)]) (pc := 38) F dX8_helps_38 5 rfl rfl (by decide) rfl ?_
        refine V_goto (pc := 41) (tgt := 14) F dX8_helps_41 (by decide) ?_
        refine V.sub [1, 2, 3, 4, 5, 0] rfl ?_
        exact ih z1 z2 z3 z4 (v.1, v.2.1, v.2.2.1, v.2.2.2.1, v.2.2.2.2.1, v.2.2.2.2.2.1, v.2.2.2.2.2.2.1, v.2.2.2.2.2.2.2.1, v.2.2.2.2.2.2.2.2.1, v.2.2.2.2.2.2.2.2.2.1, v.2.2.2.2.2.2.2.2.2.2.1, f4, v.2.2.2.2.2.2.2.2.2.2.2.2) (z5 + 1) _ hf hk
  have K48 : ∀ (n : Nat) (z1 : Int32) (z2 : Int32) (z3 : Int32) (z4 : Int32) (v : SX8) (z5 : Int32) (u : SX8), fX8_helps_L48 N z1 z2 z3 z4 n v z5 = some u → V p l e (rmz 8 191) s m args below meth c 7 D A 0 0 (MQ below (ok_Q D (wX8 cy a o.2) (some (.int o.1)) A) args s 0 0 A) (wX8 cy a u) [(0, .ref (a 0)), (1, .int z1), (2, .int z2), (3, .int z3), (4, .int z4)] [] 79 → V p l e (rmz 8 191) s m args below meth c 7 D A 0 0 (MQ below (ok_Q D (wX8 cy a o.2) (some (.int o.1)) A) args s 0 0 A) (wX8 cy a v) [(0, .ref (a 0)), (1, .int z1), (2, .int z2), (3, .int z3), (4, .int z4), (5, .int z5)] [] 48 := by
    intro n
    induction n with
    | zero =>
      intro z1 z2 z3 z4 v z5 u hf hk
      exact nomatch (show (none : Option (SX8)) = some u from hf)
    | succ n ih =>
      intro z1 z2 z3 z4 v z5 u hf hk
      rw [fX8_helps_L48] at hf
      refine V_iload (pc := 48) F dX8_helps_48 5 rfl ?_
      refine V_iconst (v := 2) (pc := 50) F dX8_helps_50 (by decide) ?_
      refine V_icmp_lt (pc := 51) (tgt := 79) F dX8_helps_51 (by decide) (fun h8 => ?_) (fun h8 => ?_)
      · replace hf := ite_pos hf h8
        obtain rfl := some_of hf
        exact V.sub [0, 1, 2, 3, 4] rfl hk
      · replace hf := ite_neg hf h8
        refine V_aload_n (pc := 54) F dX8_helps_54 rfl 0 rfl ?_
        refine V_get (pc := 55) F 0 8 1 i_X8 rfl (by decide) rfl (mm 2 rfl) dX8_helps_55 rfl rfl ?_
        refine V_iload (pc := 58) F dX8_helps_58 4 rfl ?_
        refine V_iload (pc := 60) F dX8_helps_60 5 rfl ?_
        refine V_iadd (pc := 62) F dX8_helps_62 ?_
        refine V_aload_n (pc := 63) F dX8_helps_63 rfl 0 rfl ?_
        refine V_get (pc := 64) F 0 8 11 i_X8 rfl (by decide) rfl (mm 1 rfl) dX8_helps_64 rfl rfl ?_
        refine V_iload (pc := 67) F dX8_helps_67 5 rfl ?_
        refine V_iconst (v := 2) (pc := 69) F dX8_helps_69 (by decide) ?_
        refine V_isub (pc := 70) F dX8_helps_70 ?_
        obtain ⟨c9, hf⟩ := chk_some hf
        refine V_iald (pc := 71) F 6 rfl c9 dX8_helps_71 ?_
        obtain ⟨c10, hf⟩ := chk_some hf
        obtain ⟨f11, e12, hf⟩ := nmd_of hf
        refine V_iast (w2 := wX8 cy a (v.1, f11, v.2.2)) (pc := 72) F 1 rfl c10 e12 dX8_helps_72 rfl ?_
        refine V_iinc (v := (z5 + (-1))) (L2 := [(5, .int (z5 + (-1))), (0, .ref (a 0)), (1, .int z1), (2, .int z2), (3, .int z3), (4, .int z4)]) (pc := 73) F dX8_helps_73 5 rfl rfl (by decide) rfl ?_
        refine V_goto (pc := 76) (tgt := 48) F dX8_helps_76 (by decide) ?_
        refine V.sub [1, 2, 3, 4, 5, 0] rfl ?_
        exact ih z1 z2 z3 z4 (v.1, f11, v.2.2) (z5 + (-1)) _ hf hk
  have K153 : ∀ (n : Nat) (z4 : Int32) (z5 : Int32) (v : SX8) (z6 : Int32) (u : SX8), fX8_helps_L153 N z4 z5 n v z6 = some u → V p l e (rmz 8 191) s m args below meth c 7 D A 0 0 (MQ below (ok_Q D (wX8 cy a o.2) (some (.int o.1)) A) args s 0 0 A) (wX8 cy a u) [(5, .int z5)] [] 183 → V p l e (rmz 8 191) s m args below meth c 7 D A 0 0 (MQ below (ok_Q D (wX8 cy a o.2) (some (.int o.1)) A) args s 0 0 A) (wX8 cy a v) [(0, .ref (a 0)), (4, .int z4), (5, .int z5), (6, .int z6)] [] 153 := by
    intro n
    induction n with
    | zero =>
      intro z4 z5 v z6 u hf hk
      exact nomatch (show (none : Option (SX8)) = some u from hf)
    | succ n ih =>
      intro z4 z5 v z6 u hf hk
      rw [fX8_helps_L153] at hf
      refine V_iload (pc := 153) F dX8_helps_153 3 rfl ?_
      refine V_bipush (v := 10) (pc := 155) F dX8_helps_155 (by decide) ?_
      refine V_icmp_ge (pc := 157) (tgt := 183) F dX8_helps_157 (by decide) (fun h32 => ?_) (fun h32 => ?_)
      · replace hf := ite_pos hf h32
        obtain rfl := some_of hf
        exact V.sub [2] rfl hk
      · replace hf := ite_neg hf h32
        refine V_aload_n (pc := 160) F dX8_helps_160 rfl 0 rfl ?_
        refine V_get (pc := 161) F 0 8 1 i_X8 rfl (by decide) rfl (mm 2 rfl) dX8_helps_161 rfl rfl ?_
        refine V_iload (pc := 164) F dX8_helps_164 1 rfl ?_
        refine V_iload (pc := 166) F dX8_helps_166 3 rfl ?_
        refine V_iadd (pc := 168) F dX8_helps_168 ?_
        refine V_aload_n (pc := 169) F dX8_helps_169 rfl 0 rfl ?_
        refine V_get (pc := 170) F 0 8 11 i_X8 rfl (by decide) rfl (mm 1 rfl) dX8_helps_170 rfl rfl ?_
        refine V_iload (pc := 173) F dX8_helps_173 3 rfl ?_
        obtain ⟨c33, hf⟩ := chk_some hf
        refine V_iald (pc := 175) F 6 rfl c33 dX8_helps_175 ?_
        obtain ⟨c34, hf⟩ := chk_some hf
        obtain ⟨f35, e36, hf⟩ := nmd_of hf
        refine V_iast (w2 := wX8 cy a (v.1, f35, v.2.2)) (pc := 176) F 1 rfl c34 e36 dX8_helps_176 rfl ?_
        refine V_iinc (v := (z6 + 1)) (L2 := [(6, .int (z6 + 1)), (0, .ref (a 0)), (4, .int z4), (5, .int z5)]) (pc := 177) F dX8_helps_177 3 rfl rfl (by decide) rfl ?_
        refine V_goto (pc := 180) (tgt := 153) F dX8_helps_180 (by decide) ?_
        refine V.sub [1, 2, 3, 0] rfl ?_
        exact ih z4 z5 (v.1, f35, v.2.2) (z6 + 1) _ hf hk
  unfold fX8_helps at hf
  refine V.eq rfl (show lv_args 0 [.ref (a 0), .int x1, .int x2, .int x3] = [(0, .ref (a 0)), (1, .int x1), (2, .int x2), (3, .int x3)] from rfl) rfl ?_
  refine V_bipush (v := 31) (pc := 0) F dX8_helps_0 (by decide) ?_
  refine V_bipush (v := 14) (pc := 2) F dX8_helps_2 (by decide) ?_
  refine V_iload_n (pc := 4) F dX8_helps_4 rfl 2 rfl ?_
  refine V_imul (pc := 5) F dX8_helps_5 ?_
  refine V_iadd (pc := 6) F dX8_helps_6 ?_
  refine V_iconst (v := 4) (pc := 7) F dX8_helps_7 (by decide) ?_
  refine V_iadd (pc := 8) F dX8_helps_8 ?_
  refine V_istore (L2 := [(4, .int (((31 : Int32) + ((14 : Int32) * x2)) + 4)), (0, .ref (a 0)), (1, .int x1), (2, .int x2), (3, .int x3)]) (pc := 9) F dX8_helps_9 (by decide) rfl ?_
  refine V_iconst (v := 0) (pc := 11) F dX8_helps_11 (by decide) ?_
  refine V_istore (L2 := [(5, .int 0), (4, .int (((31 : Int32) + ((14 : Int32) * x2)) + 4)), (0, .ref (a 0)), (1, .int x1), (2, .int x2), (3, .int x3)]) (pc := 12) F dX8_helps_12 (by decide) rfl ?_
  refine V.sub [2, 3, 4, 5, 1, 0] rfl ?_
  obtain ⟨u6, g7, hf⟩ := bind_of hf
  refine K14 N x1 x2 x3 (((31 : Int32) + ((14 : Int32) * x2)) + 4) v 0 u6 g7 ?_
  refine V_bipush (v := 9) (pc := 44) F dX8_helps_44 (by decide) ?_
  refine V_istore (L2 := [(5, .int 9), (0, .ref (a 0)), (1, .int x1), (2, .int x2), (3, .int x3), (4, .int (((31 : Int32) + ((14 : Int32) * x2)) + 4))]) (pc := 46) F dX8_helps_46 (by decide) rfl ?_
  refine V.sub [1, 2, 3, 4, 5, 0] rfl ?_
  obtain ⟨u13, g14, hf⟩ := bind_of hf
  refine K48 N x1 x2 x3 (((31 : Int32) + ((14 : Int32) * x2)) + 4) u6 9 u13 g14 ?_
  refine V_aload_n (pc := 79) F dX8_helps_79 rfl 0 rfl ?_
  refine V_get (pc := 80) F 0 8 1 i_X8 rfl (by decide) rfl (mm 2 rfl) dX8_helps_80 rfl rfl ?_
  refine V_iload (pc := 83) F dX8_helps_83 4 rfl ?_
  refine V_iload_n (pc := 85) F dX8_helps_85 rfl 3 rfl ?_
  obtain ⟨c15, hf⟩ := chk_some hf
  obtain ⟨f16, e17, hf⟩ := nmd_of hf
  refine V_iast (w2 := wX8 cy a (u13.1, f16, u13.2.2)) (pc := 86) F 1 rfl c15 e17 dX8_helps_86 rfl ?_
  refine V_aload_n (pc := 87) F dX8_helps_87 rfl 0 rfl ?_
  refine V_get (pc := 88) F 0 8 1 i_X8 rfl (by decide) rfl (mm 2 rfl) dX8_helps_88 rfl rfl ?_
  refine V_iload (pc := 91) F dX8_helps_91 4 rfl ?_
  refine V_iconst (v := 1) (pc := 93) F dX8_helps_93 (by decide) ?_
  refine V_iadd (pc := 94) F dX8_helps_94 ?_
  refine V_iconst (v := 1) (pc := 95) F dX8_helps_95 (by decide) ?_
  refine V_iload_n (pc := 96) F dX8_helps_96 rfl 1 rfl ?_
  refine V_ishl (pc := 97) F dX8_helps_97 ?_
  obtain ⟨c18, hf⟩ := chk_some hf
  obtain ⟨f19, e20, hf⟩ := nmd_of hf
  refine V_iast (w2 := wX8 cy a (u13.1, f19, u13.2.2)) (pc := 98) F 1 rfl c18 e20 dX8_helps_98 rfl ?_
  refine V_aload_n (pc := 99) F dX8_helps_99 rfl 0 rfl ?_
  refine V_get (pc := 100) F 0 8 1 i_X8 rfl (by decide) rfl (mm 2 rfl) dX8_helps_100 rfl rfl ?_
  refine V_bipush (v := 31) (pc := 103) F dX8_helps_103 (by decide) ?_
  refine V_bipush (v := 14) (pc := 105) F dX8_helps_105 (by decide) ?_
  refine V_iload_n (pc := 107) F dX8_helps_107 rfl 2 rfl ?_
  refine V_imul (pc := 108) F dX8_helps_108 ?_
  refine V_iadd (pc := 109) F dX8_helps_109 ?_
  refine V_iconst (v := 3) (pc := 110) F dX8_helps_110 (by decide) ?_
  refine V_iadd (pc := 111) F dX8_helps_111 ?_
  refine V_dup2_11 (pc := 112) F dX8_helps_112 rfl rfl ?_
  obtain ⟨c21, hf⟩ := chk_some hf
  refine V_iald (pc := 113) F 1 rfl c21 dX8_helps_113 ?_
  refine V_iconst (v := 1) (pc := 114) F dX8_helps_114 (by decide) ?_
  refine V_iadd (pc := 115) F dX8_helps_115 ?_
  obtain ⟨c22, hf⟩ := chk_some hf
  obtain ⟨f23, e24, hf⟩ := nmd_of hf
  refine V_iast (w2 := wX8 cy a (u13.1, f23, u13.2.2)) (pc := 116) F 1 rfl c22 e24 dX8_helps_116 rfl ?_
  refine V_aload_n (pc := 117) F dX8_helps_117 rfl 0 rfl ?_
  refine V_iload_n (pc := 118) F dX8_helps_118 rfl 1 rfl ?_
  obtain ⟨r25, g26, hf⟩ := bind_of hf
  refine V_V (w2 := wX8 cy a (u13.1, f23, u13.2.2)) (rest := []) (st2 := [.int r25]) (pc := 119) F 8 (M_X8_canStarveAnywhere l D cy N a (u13.1, f23, u13.2.2) x1 r25 g26) (cwV 1 F.ts gX8_helps_X8_canStarveAnywhere rfl rfl rfl hd_X8_canStarveAnywhere ⟨Nat.le_of_ble_eq_true rfl, Nat.le_of_ble_eq_true rfl⟩) rfl dX8_helps_119 Fit.whole rfl rfl rfl (Nat.le_of_ble_eq_true rfl) (Nat.zero_le _) (Nat.zero_le _) rfl rfl rfl ?_
  refine V_if_ne (pc := 122) (tgt := 129) F dX8_helps_122 (by decide) (fun h27 => ?_) (fun h27 => ?_)
  · replace hf := ite_neg hf h27
    refine V_iconst (v := 0) (pc := 129) F dX8_helps_129 (by decide) ?_
    refine V_istore (L2 := [(5, .int 0), (0, .ref (a 0)), (1, .int x1), (2, .int x2), (3, .int x3), (4, .int (((31 : Int32) + ((14 : Int32) * x2)) + 4))]) (pc := 130) F dX8_helps_130 (by decide) rfl ?_
    refine V_aload_n (pc := 132) F dX8_helps_132 rfl 1 rfl ?_
    refine V_get (pc := 133) F 0 8 1 i_X8 rfl (by decide) rfl (mm 2 rfl) dX8_helps_133 rfl rfl ?_
    refine V_bipush (v := 31) (pc := 136) F dX8_helps_136 (by decide) ?_
    refine V_bipush (v := 14) (pc := 138) F dX8_helps_138 (by decide) ?_
    refine V_iload_n (pc := 140) F dX8_helps_140 rfl 3 rfl ?_
    refine V_imul (pc := 141) F dX8_helps_141 ?_
    refine V_iadd (pc := 142) F dX8_helps_142 ?_
    refine V_iconst (v := 3) (pc := 143) F dX8_helps_143 (by decide) ?_
    refine V_iadd (pc := 144) F dX8_helps_144 ?_
    refine V_dup2_11 (pc := 145) F dX8_helps_145 rfl rfl ?_
    obtain ⟨c28, hf⟩ := chk_some hf
    refine V_iald (pc := 146) F 1 rfl c28 dX8_helps_146 ?_
    refine V_iconst (v := 1) (pc := 147) F dX8_helps_147 (by decide) ?_
    refine V_isub (pc := 148) F dX8_helps_148 ?_
    obtain ⟨c29, hf⟩ := chk_some hf
    obtain ⟨f30, e31, hf⟩ := nmd_of hf
    refine V_iast (w2 := wX8 cy a (u13.1, f30, u13.2.2)) (pc := 149) F 1 rfl c29 e31 dX8_helps_149 rfl ?_
    refine V_iconst (v := 0) (pc := 150) F dX8_helps_150 (by decide) ?_
    refine V_istore (L2 := [(6, .int 0), (5, .int 0), (0, .ref (a 0)), (1, .int x1), (2, .int x2), (3, .int x3), (4, .int (((31 : Int32) + ((14 : Int32) * x2)) + 4))]) (pc := 151) F dX8_helps_151 (by decide) rfl ?_
    refine V.sub [2, 6, 1, 0] rfl ?_
    obtain ⟨u37, g38, hf⟩ := bind_of hf
    refine K153 N (((31 : Int32) + ((14 : Int32) * x2)) + 4) 0 (u13.1, f30, u13.2.2) 0 u37 g38 ?_
    refine V_iload (pc := 183) F dX8_helps_183 0 rfl ?_
    obtain rfl := some_of hf
    exact V_ret F rfl rfl dX8_helps_185 rfl rfl
  · replace hf := ite_pos hf h27
    refine V_iconst (v := 1) (pc := 125) F dX8_helps_125 (by decide) ?_
    refine V_goto (pc := 126) (tgt := 130) F dX8_helps_126 (by decide) ?_
    refine V_istore (L2 := [(5, .int 1), (0, .ref (a 0)), (1, .int x1), (2, .int x2), (3, .int x3), (4, .int (((31 : Int32) + ((14 : Int32) * x2)) + 4))]) (pc := 130) F dX8_helps_130 (by decide) rfl ?_
    refine V_aload_n (pc := 132) F dX8_helps_132 rfl 1 rfl ?_
    refine V_get (pc := 133) F 0 8 1 i_X8 rfl (by decide) rfl (mm 2 rfl) dX8_helps_133 rfl rfl ?_
    refine V_bipush (v := 31) (pc := 136) F dX8_helps_136 (by decide) ?_
    refine V_bipush (v := 14) (pc := 138) F dX8_helps_138 (by decide) ?_
    refine V_iload_n (pc := 140) F dX8_helps_140 rfl 3 rfl ?_
    refine V_imul (pc := 141) F dX8_helps_141 ?_
    refine V_iadd (pc := 142) F dX8_helps_142 ?_
    refine V_iconst (v := 3) (pc := 143) F dX8_helps_143 (by decide) ?_
    refine V_iadd (pc := 144) F dX8_helps_144 ?_
    refine V_dup2_11 (pc := 145) F dX8_helps_145 rfl rfl ?_
    obtain ⟨c39, hf⟩ := chk_some hf
    refine V_iald (pc := 146) F 1 rfl c39 dX8_helps_146 ?_
    refine V_iconst (v := 1) (pc := 147) F dX8_helps_147 (by decide) ?_
    refine V_isub (pc := 148) F dX8_helps_148 ?_
    obtain ⟨c40, hf⟩ := chk_some hf
    obtain ⟨f41, e42, hf⟩ := nmd_of hf
    refine V_iast (w2 := wX8 cy a (u13.1, f41, u13.2.2)) (pc := 149) F 1 rfl c40 e42 dX8_helps_149 rfl ?_
    refine V_iconst (v := 0) (pc := 150) F dX8_helps_150 (by decide) ?_
    refine V_istore (L2 := [(6, .int 0), (5, .int 1), (0, .ref (a 0)), (1, .int x1), (2, .int x2), (3, .int x3), (4, .int (((31 : Int32) + ((14 : Int32) * x2)) + 4))]) (pc := 151) F dX8_helps_151 (by decide) rfl ?_
    refine V.sub [2, 6, 1, 0] rfl ?_
    obtain ⟨u43, g44, hf⟩ := bind_of hf
    refine K153 N (((31 : Int32) + ((14 : Int32) * x2)) + 4) 1 (u13.1, f41, u13.2.2) 0 u43 g44 ?_
    refine V_iload (pc := 183) F dX8_helps_183 0 rfl ?_
    obtain rfl := some_of hf
    exact V_ret F rfl rfl dX8_helps_185 rfl rfl
