theorem hd_X8_layShortest : yX8_layShortest.cls = RX8 ∧ yX8_layShortest.cls ≠ "java/lang/invoke/MethodHandle" ∧ yX8_layShortest.cls ≠ "java/lang/invoke/VarHandle" ∧ (parseMethodDescriptor yX8_layShortest.desc).map (fun d => d.parameters.length) = some 1 := by decide +kernel
def fX8_layShortest_L2 (N : Nat) (z1 : Int32) : Nat → SX8 → Int32 → Option (SX8)
  | 0, _, _ => none
  | n + 1, v, z2 =>
    chk 0 143 (
      if (v.2.1 (0 : Int32).toNatClampNeg) ≤ z2 then
        some v
      else
        (fX8_hasGreen N v z2 z1).bind fun r3 =>
          if r3 = 0 then
            chk z2 8 (
              nmd (upd v.2.2.2.2.2.2.2.2.2.2.1 z2.toNatClampNeg (9999 : Int32)) fun f7 =>
              fX8_layShortest_L2 N z1 n (v.1, v.2.1, v.2.2.1, v.2.2.2.1, v.2.2.2.2.1, v.2.2.2.2.2.1, v.2.2.2.2.2.2.1, v.2.2.2.2.2.2.2.1, v.2.2.2.2.2.2.2.2.1, v.2.2.2.2.2.2.2.2.2.1, f7, v.2.2.2.2.2.2.2.2.2.2.2) (z2 + 1)
            )
          else
            chk z2 8 (
              nmd (upd v.2.2.2.2.2.2.2.2.2.2.1 z2.toNatClampNeg (0 : Int32)) fun f10 =>
              fX8_layShortest_L2 N z1 n (v.1, v.2.1, v.2.2.1, v.2.2.2.1, v.2.2.2.2.1, v.2.2.2.2.2.1, v.2.2.2.2.2.2.1, v.2.2.2.2.2.2.2.1, v.2.2.2.2.2.2.2.2.1, v.2.2.2.2.2.2.2.2.2.1, f10, v.2.2.2.2.2.2.2.2.2.2.2) (z2 + 1)
            )
    )
def fX8_layShortest_L63 (N : Nat) (z1 : Int32) (z2 : Int32) (z3 : Int32) : Nat → SX8 → Int32 → Option (SX8)
  | 0, _, _ => none
  | n + 1, v, z4 =>
    (fX8_rules N v z3).bind fun r17 =>
      if r17 ≤ z4 then
        some v
      else
        (fX8_hasGreen N v z3 z1).bind fun r20 =>
          if r20 = 0 then
            (fX8_canFollow N v z3 z4 z1).bind fun r23 =>
              if r23 = 0 then
                chk z3 8 (
                  if (v.2.2.2.2.2.2.2.2.2.2.1 z3.toNatClampNeg) ≤ 9999 then
                    chk z3 8 (
                      chk z3 8 (
                        nmd (upd v.2.2.2.2.2.2.2.2.2.2.1 z3.toNatClampNeg (v.2.2.2.2.2.2.2.2.2.2.1 z3.toNatClampNeg)) fun f30 =>
                        fX8_layShortest_L63 N z1 z2 z3 n (v.1, v.2.1, v.2.2.1, v.2.2.2.1, v.2.2.2.2.1, v.2.2.2.2.2.1, v.2.2.2.2.2.2.1, v.2.2.2.2.2.2.2.1, v.2.2.2.2.2.2.2.2.1, v.2.2.2.2.2.2.2.2.2.1, f30, v.2.2.2.2.2.2.2.2.2.2.2) (z4 + 1)
                      )
                    )
                  else
                    chk z3 8 (
                      nmd (upd v.2.2.2.2.2.2.2.2.2.2.1 z3.toNatClampNeg (9999 : Int32)) fun f33 =>
                      fX8_layShortest_L63 N z1 z2 z3 n (v.1, v.2.1, v.2.2.1, v.2.2.2.1, v.2.2.2.2.1, v.2.2.2.2.2.1, v.2.2.2.2.2.2.1, v.2.2.2.2.2.2.2.1, v.2.2.2.2.2.2.2.2.1, v.2.2.2.2.2.2.2.2.2.1, f33, v.2.2.2.2.2.2.2.2.2.2.2) (z4 + 1)
                    )
                )
              else
                (fX8_wayBy N v z3 z4).bind fun r35 =>
                  chk z3 8 (
                    if (v.2.2.2.2.2.2.2.2.2.2.1 z3.toNatClampNeg) ≤ r35 then
                      chk z3 8 (
                        chk z3 8 (
                          nmd (upd v.2.2.2.2.2.2.2.2.2.2.1 z3.toNatClampNeg (v.2.2.2.2.2.2.2.2.2.2.1 z3.toNatClampNeg)) fun f41 =>
                          fX8_layShortest_L63 N z1 z2 z3 n (v.1, v.2.1, v.2.2.1, v.2.2.2.1, v.2.2.2.2.1, v.2.2.2.2.2.1, v.2.2.2.2.2.2.1, v.2.2.2.2.2.2.2.1, v.2.2.2.2.2.2.2.2.1, v.2.2.2.2.2.2.2.2.2.1, f41, v.2.2.2.2.2.2.2.2.2.2.2) (z4 + 1)
                        )
                      )
                    else
                      chk z3 8 (
                        nmd (upd v.2.2.2.2.2.2.2.2.2.2.1 z3.toNatClampNeg r35) fun f44 =>
                        fX8_layShortest_L63 N z1 z2 z3 n (v.1, v.2.1, v.2.2.1, v.2.2.2.1, v.2.2.2.2.1, v.2.2.2.2.2.1, v.2.2.2.2.2.2.1, v.2.2.2.2.2.2.2.1, v.2.2.2.2.2.2.2.2.1, v.2.2.2.2.2.2.2.2.2.1, f44, v.2.2.2.2.2.2.2.2.2.2.2) (z4 + 1)
                      )
                  )
          else
            some v
def fX8_layShortest_L50 (N : Nat) (z1 : Int32) (z2 : Int32) : Nat → SX8 → Int32 → Option (SX8)
  | 0, _, _ => none
  | n + 1, v, z3 =>
    chk 0 143 (
      if (v.2.1 (0 : Int32).toNatClampNeg) ≤ z3 then
        some v
      else
        (fX8_layShortest_L63 N z1 z2 z3 N v 0).bind fun u46 =>
          fX8_layShortest_L50 N z1 z2 n u46 (z3 + 1)
    )
def fX8_layShortest_L42 (N : Nat) (z1 : Int32) : Nat → SX8 → Int32 → Option (SX8)
  | 0, _, _ => none
  | n + 1, v, z2 =>
    if 8 ≤ z2 then
      some v
    else
      (fX8_layShortest_L50 N z1 z2 N v 0).bind fun u48 =>
        fX8_layShortest_L42 N z1 n u48 (z2 + 1)
def fX8_layShortest (N : Nat) (v : SX8) (x1 : Int32) : Option (SX8) :=
  (fX8_layShortest_L2 N x1 N v 0).bind fun u12 =>
    (fX8_layShortest_L42 N x1 N u12 0).bind fun u50 =>
      some u50
set_option maxHeartbeats 8000000 in
set_option maxRecDepth 100000 in
theorem M_X8_layShortest (l : Launch) (D : va_G) (cy : Nat → ClassId) (N : Nat) (a : Nat → Nat) (v : SX8) (x1 : Int32) (o : SX8) (hf : fX8_layShortest N v x1 = some o) : okM l yX8_layShortest wsX8_layShortest (rmz 4 93) D cy [.ref (a 0), .int x1] (wX8 cy a v) (wX8 cy a o) none := by
  refine okM_of (own := RX8) (nme := "layShortest") (cc := cX8_layShortest) (maxL := 6) (ret := none) (by decide) rfl rfl rfl (Nat.le_of_ble_eq_true rfl) ?_
  intro p e s m args below meth c A F
  have i_X8 : ∀ w ∈ u_ws RX8 TX8 13, w ∈ wsX8_layShortest := fun _ h => List.mem_cons_of_mem _ (List.mem_append_right _ h)
  have K2 : ∀ (n : Nat) (z1 : Int32) (v : SX8) (z2 : Int32) (u : SX8), fX8_layShortest_L2 N z1 n v z2 = some u → V p l e (rmz 4 93) s m args below meth c 6 D A 0 0 (MQ below (ok_Q D (wX8 cy a o) none A) args s 0 0 A) (wX8 cy a u) [(0, .ref (a 0)), (1, .int z1)] [] 40 → V p l e (rmz 4 93) s m args below meth c 6 D A 0 0 (MQ below (ok_Q D (wX8 cy a o) none A) args s 0 0 A) (wX8 cy a v) [(0, .ref (a 0)), (1, .int z1), (2, .int z2)] [] 2 := by
    intro n
    induction n with
    | zero =>
      intro z1 v z2 u hf hk
      exact nomatch (show (none : Option (SX8)) = some u from hf)
    | succ n ih =>
      intro z1 v z2 u hf hk
      rw [fX8_layShortest_L2] at hf
      refine V_iload_n (pc := 2) F dX8_layShortest_2 rfl 2 rfl ?_
      refine V_aload_n (pc := 3) F dX8_layShortest_3 rfl 0 rfl ?_
      refine V_get (pc := 4) F 0 8 1 i_X8 rfl (by decide) rfl (mm 1 rfl) dX8_layShortest_4 rfl rfl ?_
      refine V_iconst (v := 0) (pc := 7) F dX8_layShortest_7 (by decide) ?_
      obtain ⟨c1, hf⟩ := chk_some hf
      refine V_iald (pc := 8) F 1 rfl c1 dX8_layShortest_8 ?_
      refine V_icmp_ge (pc := 9) (tgt := 40) F dX8_layShortest_9 (by decide) (fun h2 => ?_) (fun h2 => ?_)
      · replace hf := ite_pos hf h2
        obtain rfl := some_of hf
        exact V.sub [0, 1] rfl hk
      · replace hf := ite_neg hf h2
        refine V_aload_n (pc := 12) F dX8_layShortest_12 rfl 0 rfl ?_
        refine V_get (pc := 13) F 0 8 10 i_X8 rfl (by decide) rfl (mm 2 rfl) dX8_layShortest_13 rfl rfl ?_
        refine V_iload_n (pc := 16) F dX8_layShortest_16 rfl 2 rfl ?_
        refine V_aload_n (pc := 17) F dX8_layShortest_17 rfl 0 rfl ?_
        refine V_iload_n (pc := 18) F dX8_layShortest_18 rfl 2 rfl ?_
        refine V_iload_n (pc := 19) F dX8_layShortest_19 rfl 1 rfl ?_
        obtain ⟨r3, g4, hf⟩ := bind_of hf
        refine V_V (w2 := wX8 cy a v) (rest := [.int z2, .ref (a 5)]) (st2 := [.int r3, .int z2, .ref (a 5)]) (pc := 20) F 8 (M_X8_hasGreen l D cy N a v z2 z1 r3 g4) (cwV 2 F.ts gX8_layShortest_X8_hasGreen rfl rfl rfl hd_X8_hasGreen ⟨Nat.le_of_ble_eq_true rfl, Nat.le_of_ble_eq_true rfl⟩) rfl dX8_layShortest_20 Fit.whole rfl rfl rfl (Nat.le_of_ble_eq_true rfl) (Nat.zero_le _) (Nat.zero_le _) rfl rfl rfl ?_
        refine V_if_eq (pc := 23) (tgt := 30) F dX8_layShortest_23 (by decide) (fun h5 => ?_) (fun h5 => ?_)
        · replace hf := ite_pos hf h5
          refine V_sipush (v := 9999) (pc := 30) F dX8_layShortest_30 (by decide) ?_
          obtain ⟨c6, hf⟩ := chk_some hf
          obtain ⟨f7, e8, hf⟩ := nmd_of hf
          refine V_iast (w2 := wX8 cy a (v.1, v.2.1, v.2.2.1, v.2.2.2.1, v.2.2.2.2.1, v.2.2.2.2.2.1, v.2.2.2.2.2.2.1, v.2.2.2.2.2.2.2.1, v.2.2.2.2.2.2.2.2.1, v.2.2.2.2.2.2.2.2.2.1, f7, v.2.2.2.2.2.2.2.2.2.2.2)) (pc := 33) F 5 rfl c6 e8 dX8_layShortest_33 rfl ?_
          refine V_iinc (v := (z2 + 1)) (L2 := [(2, .int (z2 + 1)), (0, .ref (a 0)), (1, .int z1)]) (pc := 34) F dX8_layShortest_34 2 rfl rfl (by decide) rfl ?_
          refine V_goto (pc := 37) (tgt := 2) F dX8_layShortest_37 (by decide) ?_
          refine V.sub [1, 2, 0] rfl ?_
          exact ih z1 (v.1, v.2.1, v.2.2.1, v.2.2.2.1, v.2.2.2.2.1, v.2.2.2.2.2.1, v.2.2.2.2.2.2.1, v.2.2.2.2.2.2.2.1, v.2.2.2.2.2.2.2.2.1, v.2.2.2.2.2.2.2.2.2.1, f7, v.2.2.2.2.2.2.2.2.2.2.2) (z2 + 1) _ hf hk
        · replace hf := ite_neg hf h5
          refine V_iconst (v := 0) (pc := 26) F dX8_layShortest_26 (by decide) ?_
          refine V_goto (pc := 27) (tgt := 33) F dX8_layShortest_27 (by decide) ?_
          obtain ⟨c9, hf⟩ := chk_some hf
          obtain ⟨f10, e11, hf⟩ := nmd_of hf
          refine V_iast (w2 := wX8 cy a (v.1, v.2.1, v.2.2.1, v.2.2.2.1, v.2.2.2.2.1, v.2.2.2.2.2.1, v.2.2.2.2.2.2.1, v.2.2.2.2.2.2.2.1, v.2.2.2.2.2.2.2.2.1, v.2.2.2.2.2.2.2.2.2.1, f10, v.2.2.2.2.2.2.2.2.2.2.2)) (pc := 33) F 5 rfl c9 e11 dX8_layShortest_33 rfl ?_
          refine V_iinc (v := (z2 + 1)) (L2 := [(2, .int (z2 + 1)), (0, .ref (a 0)), (1, .int z1)]) (pc := 34) F dX8_layShortest_34 2 rfl rfl (by decide) rfl ?_
          refine V_goto (pc := 37) (tgt := 2) F dX8_layShortest_37 (by decide) ?_
          refine V.sub [1, 2, 0] rfl ?_
          exact ih z1 (v.1, v.2.1, v.2.2.1, v.2.2.2.1, v.2.2.2.2.1, v.2.2.2.2.2.1, v.2.2.2.2.2.2.1, v.2.2.2.2.2.2.2.1, v.2.2.2.2.2.2.2.2.1, v.2.2.2.2.2.2.2.2.2.1, f10, v.2.2.2.2.2.2.2.2.2.2.2) (z2 + 1) _ hf hk
  have K63 : ∀ (n : Nat) (z1 : Int32) (z2 : Int32) (z3 : Int32) (v : SX8) (z4 : Int32) (u : SX8), fX8_layShortest_L63 N z1 z2 z3 n v z4 = some u → V p l e (rmz 4 93) s m args below meth c 6 D A 0 0 (MQ below (ok_Q D (wX8 cy a o) none A) args s 0 0 A) (wX8 cy a u) [(0, .ref (a 0)), (1, .int z1), (2, .int z2), (3, .int z3)] [] 142 → V p l e (rmz 4 93) s m args below meth c 6 D A 0 0 (MQ below (ok_Q D (wX8 cy a o) none A) args s 0 0 A) (wX8 cy a v) [(0, .ref (a 0)), (1, .int z1), (2, .int z2), (3, .int z3), (4, .int z4)] [] 63 := by
    intro n
    induction n with
    | zero =>
      intro z1 z2 z3 v z4 u hf hk
      exact nomatch (show (none : Option (SX8)) = some u from hf)
    | succ n ih =>
      intro z1 z2 z3 v z4 u hf hk
      rw [fX8_layShortest_L63] at hf
      refine V_iload (pc := 63) F dX8_layShortest_63 4 rfl ?_
      refine V_aload_n (pc := 65) F dX8_layShortest_65 rfl 0 rfl ?_
      refine V_iload_n (pc := 66) F dX8_layShortest_66 rfl 3 rfl ?_
      obtain ⟨r17, g18, hf⟩ := bind_of hf
      refine V_V (w2 := wX8 cy a v) (rest := [.int z4]) (st2 := [.int r17, .int z4]) (pc := 67) F 8 (M_X8_rules l D cy N a v z3 r17 g18) (cwV 1 F.ts gX8_layShortest_X8_rules rfl rfl rfl hd_X8_rules ⟨Nat.le_of_ble_eq_true rfl, Nat.le_of_ble_eq_true rfl⟩) rfl dX8_layShortest_67 Fit.whole rfl rfl rfl (Nat.le_of_ble_eq_true rfl) (Nat.zero_le _) (Nat.zero_le _) rfl rfl rfl ?_
      refine V_icmp_ge (pc := 70) (tgt := 142) F dX8_layShortest_70 (by decide) (fun h19 => ?_) (fun h19 => ?_)
      · replace hf := ite_pos hf h19
        obtain rfl := some_of hf
        exact V.sub [0, 1, 2, 3] rfl hk
      · replace hf := ite_neg hf h19
        refine V_aload_n (pc := 73) F dX8_layShortest_73 rfl 0 rfl ?_
        refine V_iload_n (pc := 74) F dX8_layShortest_74 rfl 3 rfl ?_
        refine V_iload_n (pc := 75) F dX8_layShortest_75 rfl 1 rfl ?_
        obtain ⟨r20, g21, hf⟩ := bind_of hf
        refine V_V (w2 := wX8 cy a v) (rest := []) (st2 := [.int r20]) (pc := 76) F 8 (M_X8_hasGreen l D cy N a v z3 z1 r20 g21) (cwV 2 F.ts gX8_layShortest_X8_hasGreen rfl rfl rfl hd_X8_hasGreen ⟨Nat.le_of_ble_eq_true rfl, Nat.le_of_ble_eq_true rfl⟩) rfl dX8_layShortest_76 Fit.whole rfl rfl rfl (Nat.le_of_ble_eq_true rfl) (Nat.zero_le _) (Nat.zero_le _) rfl rfl rfl ?_
        refine V_if_ne (pc := 79) (tgt := 142) F dX8_layShortest_79 (by decide) (fun h22 => ?_) (fun h22 => ?_)
        · replace hf := ite_neg hf h22
          obtain rfl := some_of hf
          exact V.sub [0, 1, 2, 3] rfl hk
        · replace hf := ite_pos hf h22
          refine V_aload_n (pc := 82) F dX8_layShortest_82 rfl 0 rfl ?_
          refine V_iload_n (pc := 83) F dX8_layShortest_83 rfl 3 rfl ?_
          refine V_iload (pc := 84) F dX8_layShortest_84 4 rfl ?_
          refine V_iload_n (pc := 86) F dX8_layShortest_86 rfl 1 rfl ?_
          obtain ⟨r23, g24, hf⟩ := bind_of hf
          refine V_V (w2 := wX8 cy a v) (rest := []) (st2 := [.int r23]) (pc := 87) F 8 (M_X8_canFollow l D cy N a v z3 z4 z1 r23 g24) (cwV 3 F.ts gX8_layShortest_X8_canFollow rfl rfl rfl hd_X8_canFollow ⟨Nat.le_of_ble_eq_true rfl, Nat.le_of_ble_eq_true rfl⟩) rfl dX8_layShortest_87 Fit.whole rfl rfl rfl (Nat.le_of_ble_eq_true rfl) (Nat.zero_le _) (Nat.zero_le _) rfl rfl rfl ?_
          refine V_if_eq (pc := 90) (tgt := 103) F dX8_layShortest_90 (by decide) (fun h25 => ?_) (fun h25 => ?_)
          · replace hf := ite_pos hf h25
            refine V_sipush (v := 9999) (pc := 103) F dX8_layShortest_103 (by decide) ?_
            refine V_istore (L2 := [(5, .int 9999), (0, .ref (a 0)), (1, .int z1), (2, .int z2), (3, .int z3), (4, .int z4)]) (pc := 106) F dX8_layShortest_106 (by decide) rfl ?_
            refine V_aload_n (pc := 108) F dX8_layShortest_108 rfl 1 rfl ?_
            refine V_get (pc := 109) F 0 8 10 i_X8 rfl (by decide) rfl (mm 2 rfl) dX8_layShortest_109 rfl rfl ?_
            refine V_iload_n (pc := 112) F dX8_layShortest_112 rfl 4 rfl ?_
            refine V_iload (pc := 113) F dX8_layShortest_113 0 rfl ?_
            refine V_aload_n (pc := 115) F dX8_layShortest_115 rfl 1 rfl ?_
            refine V_get (pc := 116) F 0 8 10 i_X8 rfl (by decide) rfl (mm 2 rfl) dX8_layShortest_116 rfl rfl ?_
            refine V_iload_n (pc := 119) F dX8_layShortest_119 rfl 4 rfl ?_
            obtain ⟨c26, hf⟩ := chk_some hf
            refine V_iald (pc := 120) F 5 rfl c26 dX8_layShortest_120 ?_
            refine V_icmp_ge (pc := 121) (tgt := 129) F dX8_layShortest_121 (by decide) (fun h27 => ?_) (fun h27 => ?_)
            · replace hf := ite_pos hf h27
              refine V_aload_n (pc := 129) F dX8_layShortest_129 rfl 1 rfl ?_
              refine V_get (pc := 130) F 0 8 10 i_X8 rfl (by decide) rfl (mm 2 rfl) dX8_layShortest_130 rfl rfl ?_
              refine V_iload_n (pc := 133) F dX8_layShortest_133 rfl 4 rfl ?_
              obtain ⟨c28, hf⟩ := chk_some hf
              refine V_iald (pc := 134) F 5 rfl c28 dX8_layShortest_134 ?_
              obtain ⟨c29, hf⟩ := chk_some hf
              obtain ⟨f30, e31, hf⟩ := nmd_of hf
              refine V_iast (w2 := wX8 cy a (v.1, v.2.1, v.2.2.1, v.2.2.2.1, v.2.2.2.2.1, v.2.2.2.2.2.1, v.2.2.2.2.2.2.1, v.2.2.2.2.2.2.2.1, v.2.2.2.2.2.2.2.2.1, v.2.2.2.2.2.2.2.2.2.1, f30, v.2.2.2.2.2.2.2.2.2.2.2)) (pc := 135) F 5 rfl c29 e31 dX8_layShortest_135 rfl ?_
              refine V_iinc (v := (z4 + 1)) (L2 := [(4, .int (z4 + 1)), (5, .int 9999), (0, .ref (a 0)), (1, .int z1), (2, .int z2), (3, .int z3)]) (pc := 136) F dX8_layShortest_136 5 rfl rfl (by decide) rfl ?_
              refine V_goto (pc := 139) (tgt := 63) F dX8_layShortest_139 (by decide) ?_
              refine V.sub [2, 3, 4, 5, 0] rfl ?_
              exact ih z1 z2 z3 (v.1, v.2.1, v.2.2.1, v.2.2.2.1, v.2.2.2.2.1, v.2.2.2.2.2.1, v.2.2.2.2.2.2.1, v.2.2.2.2.2.2.2.1, v.2.2.2.2.2.2.2.2.1, v.2.2.2.2.2.2.2.2.2.1, f30, v.2.2.2.2.2.2.2.2.2.2.2) (z4 + 1) _ hf hk
            · replace hf := ite_neg hf h27
              refine V_iload (pc := 124) F dX8_layShortest_124 0 rfl ?_
              refine V_goto (pc := 126) (tgt := 135) F dX8_layShortest_126 (by decide) ?_
              obtain ⟨c32, hf⟩ := chk_some hf
              obtain ⟨f33, e34, hf⟩ := nmd_of hf
              refine V_iast (w2 := wX8 cy a (v.1, v.2.1, v.2.2.1, v.2.2.2.1, v.2.2.2.2.1, v.2.2.2.2.2.1, v.2.2.2.2.2.2.1, v.2.2.2.2.2.2.2.1, v.2.2.2.2.2.2.2.2.1, v.2.2.2.2.2.2.2.2.2.1, f33, v.2.2.2.2.2.2.2.2.2.2.2)) (pc := 135) F 5 rfl c32 e34 dX8_layShortest_135 rfl ?_
              refine V_iinc (v := (z4 + 1)) (L2 := [(4, .int (z4 + 1)), (5, .int 9999), (0, .ref (a 0)), (1, .int z1), (2, .int z2), (3, .int z3)]) (pc := 136) F dX8_layShortest_136 5 rfl rfl (by decide) rfl ?_
              refine V_goto (pc := 139) (tgt := 63) F dX8_layShortest_139 (by decide) ?_
              refine V.sub [2, 3, 4, 5, 0] rfl ?_
              exact ih z1 z2 z3 (v.1, v.2.1, v.2.2.1, v.2.2.2.1, v.2.2.2.2.1, v.2.2.2.2.2.1, v.2.2.2.2.2.2.1, v.2.2.2.2.2.2.2.1, v.2.2.2.2.2.2.2.2.1, v.2.2.2.2.2.2.2.2.2.1, f33, v.2.2.2.2.2.2.2.2.2.2.2) (z4 + 1) _ hf hk
          · replace hf := ite_neg hf h25
            refine V_aload_n (pc := 93) F dX8_layShortest_93 rfl 0 rfl ?_
            refine V_iload_n (pc := 94) F dX8_layShortest_94 rfl 3 rfl ?_
            refine V_iload (pc := 95) F dX8_layShortest_95 4 rfl ?_
            obtain ⟨r35, g36, hf⟩ := bind_of hf
            refine V_V (w2 := wX8 cy a v) (rest := []) (st2 := [.int r35]) (pc := 97) F 8 (M_X8_wayBy l D cy N a v z3 z4 r35 g36) (cwV 2 F.ts gX8_layShortest_X8_wayBy rfl rfl rfl hd_X8_wayBy ⟨Nat.le_of_ble_eq_true rfl, Nat.le_of_ble_eq_true rfl⟩) rfl dX8_layShortest_97 Fit.whole rfl rfl rfl (Nat.le_of_ble_eq_true rfl) (Nat.zero_le _) (Nat.zero_le _) rfl rfl rfl ?_
            refine V_goto (pc := 100) (tgt := 106) F dX8_layShortest_100 (by decide) ?_
            refine V_istore (L2 := [(5, .int r35), (0, .ref (a 0)), (1, .int z1), (2, .int z2), (3, .int z3), (4, .int z4)]) (pc := 106) F dX8_layShortest_106 (by decide) rfl ?_
            refine V_aload_n (pc := 108) F dX8_layShortest_108 rfl 1 rfl ?_
            refine V_get (pc := 109) F 0 8 10 i_X8 rfl (by decide) rfl (mm 2 rfl) dX8_layShortest_109 rfl rfl ?_
            refine V_iload_n (pc := 112) F dX8_layShortest_112 rfl 4 rfl ?_
            refine V_iload (pc := 113) F dX8_layShortest_113 0 rfl ?_
            refine V_aload_n (pc := 115) F dX8_layShortest_115 rfl 1 rfl ?_
            refine V_get (pc := 116) F 0 8 10 i_X8 rfl (by decide) rfl (mm 2 rfl) dX8_layShortest_116 rfl rfl ?_
            refine V_iload_n (pc := 119) F dX8_layShortest_119 rfl 4 rfl ?_
            obtain ⟨c37, hf⟩ := chk_some hf
            refine V_iald (pc := 120) F 5 rfl c37 dX8_layShortest_120 ?_
            refine V_icmp_ge (pc := 121) (tgt := 129) F dX8_layShortest_121 (by decide) (fun h38 => ?_) (fun h38 => ?_)
            · replace hf := ite_pos hf h38
              refine V_aload_n (pc := 129) F dX8_layShortest_129 rfl 1 rfl ?_
              refine V_get (pc := 130) F 0 8 10 i_X8 rfl (by decide) rfl (mm 2 rfl) dX8_layShortest_130 rfl rfl ?_
              refine V_iload_n (pc := 133) F dX8_layShortest_133 rfl 4 rfl ?_
              obtain ⟨c39, hf⟩ := chk_some hf
              refine V_iald (pc := 134) F 5 rfl c39 dX8_layShortest_134 ?_
              obtain ⟨c40, hf⟩ := chk_some hf
              obtain ⟨f41, e42, hf⟩ := nmd_of hf
              refine V_iast (w2 := wX8 cy a (v.1, v.2.1, v.2.2.1, v.2.2.2.1, v.2.2.2.2.1, v.2.2.2.2.2.1, v.2.2.2.2.2.2.1, v.2.2.2.2.2.2.2.1, v.2.2.2.2.2.2.2.2.1, v.2.2.2.2.2.2.2.2.2.1, f41, v.2.2.2.2.2.2.2.2.2.2.2)) (pc := 135) F 5 rfl c40 e42 dX8_layShortest_135 rfl ?_
              refine V_iinc (v := (z4 + 1)) (L2 := [(4, .int (z4 + 1)), (5, .int r35), (0, .ref (a 0)), (1, .int z1), (2, .int z2), (3, .int z3)]) (pc := 136) F dX8_layShortest_136 5 rfl rfl (by decide) rfl ?_
              refine V_goto (pc := 139) (tgt := 63) F dX8_layShortest_139 (by decide) ?_
              refine V.sub [2, 3, 4, 5, 0] rfl ?_
              exact ih z1 z2 z3 (v.1, v.2.1, v.2.2.1, v.2.2.2.1, v.2.2.2.2.1, v.2.2.2.2.2.1, v.2.2.2.2.2.2.1, v.2.2.2.2.2.2.2.1, v.2.2.2.2.2.2.2.2.1, v.2.2.2.2.2.2.2.2.2.1, f41, v.2.2.2.2.2.2.2.2.2.2.2) (z4 + 1) _ hf hk
            · replace hf := ite_neg hf h38
              refine V_iload (pc := 124) F dX8_layShortest_124 0 rfl ?_
              refine V_goto (pc := 126) (tgt := 135) F dX8_layShortest_126 (by decide) ?_
              obtain ⟨c43, hf⟩ := chk_some hf
              obtain ⟨f44, e45, hf⟩ := nmd_of hf
              refine V_iast (w2 := wX8 cy a (v.1, v.2.1, v.2.2.1, v.2.2.2.1, v.2.2.2.2.1, v.2.2.2.2.2.1, v.2.2.2.2.2.2.1, v.2.2.2.2.2.2.2.1, v.2.2.2.2.2.2.2.2.1, v.2.2.2.2.2.2.2.2.2.1, f44, v.2.2.2.2.2.2.2.2.2.2.2)) (pc := 135) F 5 rfl c43 e45 dX8_layShortest_135 rfl ?_
              refine V_iinc (v := (z4 + 1)) (L2 := [(4, .int (z4 + 1)), (5, .int r35), (0, .ref (a 0)), (1, .int z1), (2, .int z2), (3, .int z3)]) (pc := 136) F dX8_layShortest_136 5 rfl rfl (by decide) rfl ?_
              refine V_goto (pc := 139) (tgt := 63) F dX8_layShortest_139 (by decide) ?_
              refine V.sub [2, 3, 4, 5, 0] rfl ?_
              exact ih z1 z2 z3 (v.1, v.2.1, v.2.2.1, v.2.2.2.1, v.2.2.2.2.1, v.2.2.2.2.2.1, v.2.2.2.2.2.2.1, v.2.2.2.2.2.2.2.1, v.2.2.2.2.2.2.2.2.1, v.2.2.2.2.2.2.2.2.2.1, f44, v.2.2.2.2.2.2.2.2.2.2.2) (z4 + 1) _ hf hk
  have K50 : ∀ (n : Nat) (z1 : Int32) (z2 : Int32) (v : SX8) (z3 : Int32) (u : SX8), fX8_layShortest_L50 N z1 z2 n v z3 = some u → V p l e (rmz 4 93) s m args below meth c 6 D A 0 0 (MQ below (ok_Q D (wX8 cy a o) none A) args s 0 0 A) (wX8 cy a u) [(0, .ref (a 0)), (1, .int z1), (2, .int z2)] [] 148 → V p l e (rmz 4 93) s m args below meth c 6 D A 0 0 (MQ below (ok_Q D (wX8 cy a o) none A) args s 0 0 A) (wX8 cy a v) [(0, .ref (a 0)), (1, .int z1), (2, .int z2), (3, .int z3)] [] 50 := by
    intro n
    induction n with
    | zero =>
      intro z1 z2 v z3 u hf hk
      exact nomatch (show (none : Option (SX8)) = some u from hf)
    | succ n ih =>
      intro z1 z2 v z3 u hf hk
      rw [fX8_layShortest_L50] at hf
      refine V_iload_n (pc := 50) F dX8_layShortest_50 rfl 3 rfl ?_
      refine V_aload_n (pc := 51) F dX8_layShortest_51 rfl 0 rfl ?_
      refine V_get (pc := 52) F 0 8 1 i_X8 rfl (by decide) rfl (mm 1 rfl) dX8_layShortest_52 rfl rfl ?_
      refine V_iconst (v := 0) (pc := 55) F dX8_layShortest_55 (by decide) ?_
      obtain ⟨c15, hf⟩ := chk_some hf
      refine V_iald (pc := 56) F 1 rfl c15 dX8_layShortest_56 ?_
      refine V_icmp_ge (pc := 57) (tgt := 148) F dX8_layShortest_57 (by decide) (fun h16 => ?_) (fun h16 => ?_)
      · replace hf := ite_pos hf h16
        obtain rfl := some_of hf
        exact V.sub [0, 1, 2] rfl hk
      · replace hf := ite_neg hf h16
        refine V_iconst (v := 0) (pc := 60) F dX8_layShortest_60 (by decide) ?_
        refine V_istore (L2 := [(4, .int 0), (0, .ref (a 0)), (1, .int z1), (2, .int z2), (3, .int z3)]) (pc := 61) F dX8_layShortest_61 (by decide) rfl ?_
        refine V.sub [1, 2, 3, 4, 0] rfl ?_
        obtain ⟨u46, g47, hf⟩ := bind_of hf
        refine K63 N z1 z2 z3 v 0 u46 g47 ?_
        refine V_iinc (v := (z3 + 1)) (L2 := [(3, .int (z3 + 1)), (0, .ref (a 0)), (1, .int z1), (2, .int z2)]) (pc := 142) F dX8_layShortest_142 3 rfl rfl (by decide) rfl ?_
        refine V_goto (pc := 145) (tgt := 50) F dX8_layShortest_145 (by decide) ?_
        refine V.sub [1, 2, 3, 0] rfl ?_
        exact ih z1 z2 u46 (z3 + 1) _ hf hk
  have K42 : ∀ (n : Nat) (z1 : Int32) (v : SX8) (z2 : Int32) (u : SX8), fX8_layShortest_L42 N z1 n v z2 = some u → V p l e (rmz 4 93) s m args below meth c 6 D A 0 0 (MQ below (ok_Q D (wX8 cy a o) none A) args s 0 0 A) (wX8 cy a u) [] [] 154 → V p l e (rmz 4 93) s m args below meth c 6 D A 0 0 (MQ below (ok_Q D (wX8 cy a o) none A) args s 0 0 A) (wX8 cy a v) [(0, .ref (a 0)), (1, .int z1), (2, .int z2)] [] 42 := by
    intro n
    induction n with
    | zero =>
      intro z1 v z2 u hf hk
      exact nomatch (show (none : Option (SX8)) = some u from hf)
    | succ n ih =>
      intro z1 v z2 u hf hk
      rw [fX8_layShortest_L42] at hf
      refine V_iload_n (pc := 42) F dX8_layShortest_42 rfl 2 rfl ?_
      refine V_bipush (v := 8) (pc := 43) F dX8_layShortest_43 (by decide) ?_
      refine V_icmp_ge (pc := 45) (tgt := 154) F dX8_layShortest_45 (by decide) (fun h14 => ?_) (fun h14 => ?_)
      · replace hf := ite_pos hf h14
        obtain rfl := some_of hf
        exact V.sub [] rfl hk
      · replace hf := ite_neg hf h14
        refine V_iconst (v := 0) (pc := 48) F dX8_layShortest_48 (by decide) ?_
        refine V_istore_n (L2 := [(3, .int 0), (0, .ref (a 0)), (1, .int z1), (2, .int z2)]) (pc := 49) F dX8_layShortest_49 rfl (by decide) rfl ?_
        refine V.sub [1, 2, 3, 0] rfl ?_
        obtain ⟨u48, g49, hf⟩ := bind_of hf
        refine K50 N z1 z2 v 0 u48 g49 ?_
        refine V_iinc (v := (z2 + 1)) (L2 := [(2, .int (z2 + 1)), (0, .ref (a 0)), (1, .int z1)]) (pc := 148) F dX8_layShortest_148 2 rfl rfl (by decide) rfl ?_
        refine V_goto (pc := 151) (tgt := 42) F dX8_layShortest_151 (by decide) ?_
        refine V.sub [1, 2, 0] rfl ?_
        exact ih z1 u48 (z2 + 1) _ hf hk
  unfold fX8_layShortest at hf
  refine V.eq rfl (show lv_args 0 [.ref (a 0), .int x1] = [(0, .ref (a 0)), (1, .int x1)] from rfl) rfl ?_
  refine V_iconst (v := 0) (pc := 0) F dX8_layShortest_0 (by decide) ?_
  refine V_istore_n (L2 := [(2, .int 0), (0, .ref (a 0)), (1, .int x1)]) (pc := 1) F dX8_layShortest_1 rfl (by decide) rfl ?_
  refine V.sub [1, 2, 0] rfl ?_
  obtain ⟨u12, g13, hf⟩ := bind_of hf
  refine K2 N x1 v 0 u12 g13 ?_
  refine V_iconst (v := 0) (pc := 40) F dX8_layShortest_40 (by decide) ?_
  refine V_istore_n (L2 := [(2, .int 0), (0, .ref (a 0)), (1, .int x1)]) (pc := 41) F dX8_layShortest_41 rfl (by decide) rfl ?_
  refine V.sub [1, 2, 0] rfl ?_
  obtain ⟨u50, g51, hf⟩ := bind_of hf
  refine K42 N x1 u12 0 u50 g51 ?_
  obtain rfl := some_of hf
  exact V_vret F rfl dX8_layShortest_154 rfl
