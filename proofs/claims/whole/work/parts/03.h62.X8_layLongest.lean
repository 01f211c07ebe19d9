theorem hd_X8_layLongest : yX8_layLongest.cls = RX8 ∧ yX8_layLongest.cls ≠ "java/lang/invoke/MethodHandle" ∧ yX8_layLongest.cls ≠ "java/lang/invoke/VarHandle" ∧ (parseMethodDescriptor yX8_layLongest.desc).map (fun d => d.parameters.length) = some 1 := by decide +kernel
def fX8_layLongest_L2 (N : Nat) (z1 : Int32) : Nat → SX8 → Int32 → Option (SX8)
  | 0, _, _ => none
  | n + 1, v, z2 =>
    chk 0 143 (
      if (v.2.1 (0 : Int32).toNatClampNeg) ≤ z2 then
        some v
      else
        chk z2 8 (
          nmd (upd v.2.2.2.2.2.2.2.2.2.2.1 z2.toNatClampNeg (0 : Int32)) fun f4 =>
          fX8_layLongest_L2 N z1 n (v.1, v.2.1, v.2.2.1, v.2.2.2.1, v.2.2.2.2.1, v.2.2.2.2.2.1, v.2.2.2.2.2.2.1, v.2.2.2.2.2.2.2.1, v.2.2.2.2.2.2.2.2.1, v.2.2.2.2.2.2.2.2.2.1, f4, v.2.2.2.2.2.2.2.2.2.2.2) (z2 + 1)
        )
    )
def fX8_layLongest_L73 (N : Nat) (z1 : Int32) (z2 : Int32) (z3 : Int32) (z4 : Int32) : Nat → SX8 → Int32 → Option (SX8)
  | 0, _, _ => none
  | n + 1, v, z5 =>
    (fX8_rules N v z3).bind fun r14 =>
      if r14 ≤ z5 then
        some v
      else
        if z4 = 0 then
          some v
        else
          (fX8_canFollow N v z3 z5 z1).bind fun r18 =>
            if r18 = 0 then
              chk z3 8 (
                if 0 ≤ (v.2.2.2.2.2.2.2.2.2.2.1 z3.toNatClampNeg) then
                  chk z3 8 (
                    chk z3 8 (
                      nmd (upd v.2.2.2.2.2.2.2.2.2.2.1 z3.toNatClampNeg (v.2.2.2.2.2.2.2.2.2.2.1 z3.toNatClampNeg)) fun f25 =>
                      fX8_layLongest_L73 N z1 z2 z3 z4 n (v.1, v.2.1, v.2.2.1, v.2.2.2.1, v.2.2.2.2.1, v.2.2.2.2.2.1, v.2.2.2.2.2.2.1, v.2.2.2.2.2.2.2.1, v.2.2.2.2.2.2.2.2.1, v.2.2.2.2.2.2.2.2.2.1, f25, v.2.2.2.2.2.2.2.2.2.2.2) (z5 + 1)
                    )
                  )
                else
                  chk z3 8 (
                    nmd (upd v.2.2.2.2.2.2.2.2.2.2.1 z3.toNatClampNeg (0 : Int32)) fun f28 =>
                    fX8_layLongest_L73 N z1 z2 z3 z4 n (v.1, v.2.1, v.2.2.1, v.2.2.2.1, v.2.2.2.2.1, v.2.2.2.2.2.1, v.2.2.2.2.2.2.1, v.2.2.2.2.2.2.2.1, v.2.2.2.2.2.2.2.2.1, v.2.2.2.2.2.2.2.2.2.1, f28, v.2.2.2.2.2.2.2.2.2.2.2) (z5 + 1)
                  )
              )
            else
              (fX8_wayBy N v z3 z5).bind fun r30 =>
                chk z3 8 (
                  if r30 ≤ (v.2.2.2.2.2.2.2.2.2.2.1 z3.toNatClampNeg) then
                    chk z3 8 (
                      chk z3 8 (
                        nmd (upd v.2.2.2.2.2.2.2.2.2.2.1 z3.toNatClampNeg (v.2.2.2.2.2.2.2.2.2.2.1 z3.toNatClampNeg)) fun f36 =>
                        fX8_layLongest_L73 N z1 z2 z3 z4 n (v.1, v.2.1, v.2.2.1, v.2.2.2.1, v.2.2.2.2.1, v.2.2.2.2.2.1, v.2.2.2.2.2.2.1, v.2.2.2.2.2.2.2.1, v.2.2.2.2.2.2.2.2.1, v.2.2.2.2.2.2.2.2.2.1, f36, v.2.2.2.2.2.2.2.2.2.2.2) (z5 + 1)
                      )
                    )
                  else
                    chk z3 8 (
                      nmd (upd v.2.2.2.2.2.2.2.2.2.2.1 z3.toNatClampNeg r30) fun f39 =>
                      fX8_layLongest_L73 N z1 z2 z3 z4 n (v.1, v.2.1, v.2.2.1, v.2.2.2.1, v.2.2.2.2.1, v.2.2.2.2.2.1, v.2.2.2.2.2.2.1, v.2.2.2.2.2.2.2.1, v.2.2.2.2.2.2.2.2.1, v.2.2.2.2.2.2.2.2.2.1, f39, v.2.2.2.2.2.2.2.2.2.2.2) (z5 + 1)
                    )
                )
def fX8_layLongest_L35 (N : Nat) (z1 : Int32) (z2 : Int32) : Nat → SX8 → Int32 → Option (SX8)
  | 0, _, _ => none
  | n + 1, v, z3 =>
    chk 0 143 (
      if (v.2.1 (0 : Int32).toNatClampNeg) ≤ z3 then
        some v
      else
        (fX8_hasGreen N v z3 z1).bind fun r11 =>
          if r11 = 0 then
            (fX8_canStarve N v z3 z1).bind fun r43 =>
              if r43 = 0 then
                (fX8_layLongest_L73 N z1 z2 z3 1 N v 0).bind fun u48 =>
                  fX8_layLongest_L35 N z1 z2 n u48 (z3 + 1)
              else
                (fX8_layLongest_L73 N z1 z2 z3 0 N v 0).bind fun u46 =>
                  fX8_layLongest_L35 N z1 z2 n u46 (z3 + 1)
          else
            (fX8_layLongest_L73 N z1 z2 z3 0 N v 0).bind fun u41 =>
              fX8_layLongest_L35 N z1 z2 n u41 (z3 + 1)
    )
def fX8_layLongest_L27 (N : Nat) (z1 : Int32) : Nat → SX8 → Int32 → Option (SX8)
  | 0, _, _ => none
  | n + 1, v, z2 =>
    if 8 ≤ z2 then
      some v
    else
      (fX8_layLongest_L35 N z1 z2 N v 0).bind fun u50 =>
        fX8_layLongest_L27 N z1 n u50 (z2 + 1)
def fX8_layLongest (N : Nat) (v : SX8) (x1 : Int32) : Option (SX8) :=
  (fX8_layLongest_L2 N x1 N v 0).bind fun u6 =>
    (fX8_layLongest_L27 N x1 N u6 0).bind fun u52 =>
      some u52
set_option maxHeartbeats 8000000 in
set_option maxRecDepth 100000 in
theorem M_X8_layLongest (l : Launch) (D : va_G) (cy : Nat → ClassId) (N : Nat) (a : Nat → Nat) (v : SX8) (x1 : Int32) (o : SX8) (hf : fX8_layLongest N v x1 = some o) : okM l yX8_layLongest wsX8_layLongest (rmz 7 167) D cy [.ref (a 0), .int x1] (wX8 cy a v) (wX8 cy a o) none := by
  refine okM_of (own := RX8) (nme := "layLongest") (cc := cX8_layLongest) (maxL := 7) (ret := none) (by decide) rfl rfl rfl (Nat.le_of_ble_eq_true rfl) ?_
  intro p e s m args below meth c A F
  have i_X8 : ∀ w ∈ u_ws RX8 TX8 13, w ∈ wsX8_layLongest := fun _ h => List.mem_cons_of_mem _ (List.mem_append_right _ h)
  have K2 : ∀ (n : Nat) (z1 : Int32) (v : SX8) (z2 : Int32) (u : SX8), fX8_layLongest_L2 N z1 n v z2 = some u → V p l e (rmz 7 167) s m args below meth c 7 D A 0 0 (MQ below (ok_Q D (wX8 cy a o) none A) args s 0 0 A) (wX8 cy a u) [(0, .ref (a 0)), (1, .int z1)] [] 25 → V p l e (rmz 7 167) s m args below meth c 7 D A 0 0 (MQ below (ok_Q D (wX8 cy a o) none A) args s 0 0 A) (wX8 cy a v) [(0, .ref (a 0)), (1, .int z1), (2, .int z2)] [] 2 := by
    intro n
    induction n with
    | zero =>
      intro z1 v z2 u hf hk
      exact nomatch (show (none : Option (SX8)) = some u from hf)
    | succ n ih =>
      intro z1 v z2 u hf hk
      rw [fX8_layLongest_L2] at hf
      refine V_iload_n (pc := 2) F dX8_layLongest_2 rfl 2 rfl ?_
      refine V_aload_n (pc := 3) F dX8_layLongest_3 rfl 0 rfl ?_
      refine V_get (pc := 4) F 0 8 1 i_X8 rfl (by decide) rfl (mm 1 rfl) dX8_layLongest_4 rfl rfl ?_
      refine V_iconst (v := 0) (pc := 7) F dX8_layLongest_7 (by decide) ?_
      obtain ⟨c1, hf⟩ := chk_some hf
      refine V_iald (pc := 8) F 1 rfl c1 dX8_layLongest_8 ?_
      refine V_icmp_ge (pc := 9) (tgt := 25) F dX8_layLongest_9 (by decide) (fun h2 => ?_) (fun h2 => ?_)
      · replace hf := ite_pos hf h2
        obtain rfl := some_of hf
        exact V.sub [0, 1] rfl hk
      · replace hf := ite_neg hf h2
        refine V_aload_n (pc := 12) F dX8_layLongest_12 rfl 0 rfl ?_
        refine V_get (pc := 13) F 0 8 10 i_X8 rfl (by decide) rfl (mm 2 rfl) dX8_layLongest_13 rfl rfl ?_
        refine V_iload_n (pc := 16) F dX8_layLongest_16 rfl 2 rfl ?_
        refine V_iconst (v := 0) (pc := 17) F dX8_layLongest_17 (by decide) ?_
        obtain ⟨c3, hf⟩ := chk_some hf
        obtain ⟨f4, e5, hf⟩ := nmd_of hf
        refine V_iast (w2 := wX8 cy a (v.1, v.2.1, v.2.2.1, v.2.2.2.1, v.2.2.2.2.1, v.2.2.2.2.2.1, v.2.2.2.2.2.2.1, v.2.2.2.2.2.2.2.1, v.2.2.2.2.2.2.2.2.1, v.2.2.2.2.2.2.2.2.2.1, f4, v.2.2.2.2.2.2.2.2.2.2.2)) (pc := 18) F 5 rfl c3 e5 dX8_layLongest_18 rfl ?_
        refine V_iinc (v := (z2 + 1)) (L2 := [(2, .int (z2 + 1)), (0, .ref (a 0)), (1, .int z1)]) (pc := 19) F dX8_layLongest_19 2 rfl rfl (by decide) rfl ?_
        refine V_goto (pc := 22) (tgt := 2) F dX8_layLongest_22 (by decide) ?_
        refine V.sub [1, 2, 0] rfl ?_
        exact ih z1 (v.1, v.2.1, v.2.2.1, v.2.2.2.1, v.2.2.2.2.1, v.2.2.2.2.2.1, v.2.2.2.2.2.2.1, v.2.2.2.2.2.2.2.1, v.2.2.2.2.2.2.2.2.1, v.2.2.2.2.2.2.2.2.2.1, f4, v.2.2.2.2.2.2.2.2.2.2.2) (z2 + 1) _ hf hk
  have K73 : ∀ (n : Nat) (z1 : Int32) (z2 : Int32) (z3 : Int32) (z4 : Int32) (v : SX8) (z5 : Int32) (u : SX8), fX8_layLongest_L73 N z1 z2 z3 z4 n v z5 = some u → V p l e (rmz 7 167) s m args below meth c 7 D A 0 0 (MQ below (ok_Q D (wX8 cy a o) none A) args s 0 0 A) (wX8 cy a u) [(0, .ref (a 0)), (1, .int z1), (2, .int z2), (3, .int z3)] [] 146 → V p l e (rmz 7 167) s m args below meth c 7 D A 0 0 (MQ below (ok_Q D (wX8 cy a o) none A) args s 0 0 A) (wX8 cy a v) [(0, .ref (a 0)), (1, .int z1), (2, .int z2), (3, .int z3), (4, .int z4), (5, .int z5)] [] 73 := by
    intro n
    induction n with
    | zero =>
      intro z1 z2 z3 z4 v z5 u hf hk
      exact nomatch (show (none : Option (SX8)) = some u from hf)
    | succ n ih =>
      intro z1 z2 z3 z4 v z5 u hf hk
      rw [fX8_layLongest_L73] at hf
      refine V_iload (pc := 73) F dX8_layLongest_73 5 rfl ?_
      refine V_aload_n (pc := 75) F dX8_layLongest_75 rfl 0 rfl ?_
      refine V_iload_n (pc := 76) F dX8_layLongest_76 rfl 3 rfl ?_
      obtain ⟨r14, g15, hf⟩ := bind_of hf
      refine V_V (w2 := wX8 cy a v) (rest := [.int z5]) (st2 := [.int r14, .int z5]) (pc := 77) F 8 (M_X8_rules l D cy N a v z3 r14 g15) (cwV 1 F.ts gX8_layLongest_X8_rules rfl rfl rfl hd_X8_rules ⟨Nat.le_of_ble_eq_true rfl, Nat.le_of_ble_eq_true rfl⟩) rfl dX8_layLongest_77 Fit.whole rfl rfl rfl (Nat.le_of_ble_eq_true rfl) (Nat.zero_le _) (Nat.zero_le _) rfl rfl rfl ?_
      refine V_icmp_ge (pc := 80) (tgt := 146) F dX8_layLongest_80 (by decide) (fun h16 => ?_) (fun h16 => ?_)
      · replace hf := ite_pos hf h16
        obtain rfl := some_of hf
        exact V.sub [0, 1, 2, 3] rfl hk
      · replace hf := ite_neg hf h16
        refine V_iload (pc := 83) F dX8_layLongest_83 4 rfl ?_
        refine V_if_eq (pc := 85) (tgt := 146) F dX8_layLongest_85 (by decide) (fun h17 => ?_) (fun h17 => ?_)
        · replace hf := ite_pos hf h17
          obtain rfl := some_of hf
          exact V.sub [0, 1, 2, 3] rfl hk
        · replace hf := ite_neg hf h17
          refine V_aload_n (pc := 88) F dX8_layLongest_88 rfl 0 rfl ?_
          refine V_iload_n (pc := 89) F dX8_layLongest_89 rfl 3 rfl ?_
          refine V_iload (pc := 90) F dX8_layLongest_90 5 rfl ?_
          refine V_iload_n (pc := 92) F dX8_layLongest_92 rfl 1 rfl ?_
          obtain ⟨r18, g19, hf⟩ := bind_of hf
          refine V_V (w2 := wX8 cy a v) (rest := []) (st2 := [.int r18]) (pc := 93) F 8 (M_X8_canFollow l D cy N a v z3 z5 z1 r18 g19) (cwV 3 F.ts gX8_layLongest_X8_canFollow rfl rfl rfl hd_X8_canFollow ⟨Nat.le_of_ble_eq_true rfl, Nat.le_of_ble_eq_true rfl⟩) rfl dX8_layLongest_93 Fit.whole rfl rfl rfl (Nat.le_of_ble_eq_true rfl) (Nat.zero_le _) (Nat.zero_le _) rfl rfl rfl ?_
          refine V_if_eq (pc := 96) (tgt := 109) F dX8_layLongest_96 (by decide) (fun h20 => ?_) (fun h20 => ?_)
          · replace hf := ite_pos hf h20
            refine V_iconst (v := 0) (pc := 109) F dX8_layLongest_109 (by decide) ?_
            refine V_istore (L2 := [(6, .int 0), (0, .ref (a 0)), (1, .int z1), (2, .int z2), (3, .int z3), (4, .int z4), (5, .int z5)]) (pc := 110) F dX8_layLongest_110 (by decide) rfl ?_
            refine V_aload_n (pc := 112) F dX8_layLongest_112 rfl 1 rfl ?_
            refine V_get (pc := 113) F 0 8 10 i_X8 rfl (by decide) rfl (mm 2 rfl) dX8_layLongest_113 rfl rfl ?_
            refine V_iload_n (pc := 116) F dX8_layLongest_116 rfl 4 rfl ?_
            refine V_iload (pc := 117) F dX8_layLongest_117 0 rfl ?_
            refine V_aload_n (pc := 119) F dX8_layLongest_119 rfl 1 rfl ?_
            refine V_get (pc := 120) F 0 8 10 i_X8 rfl (by decide) rfl (mm 2 rfl) dX8_layLongest_120 rfl rfl ?_
            refine V_iload_n (pc := 123) F dX8_layLongest_123 rfl 4 rfl ?_
            obtain ⟨c21, hf⟩ := chk_some hf
            refine V_iald (pc := 124) F 5 rfl c21 dX8_layLongest_124 ?_
            refine V_icmp_le (pc := 125) (tgt := 133) F dX8_layLongest_125 (by decide) (fun h22 => ?_) (fun h22 => ?_)
            · replace hf := ite_pos hf h22
              refine V_aload_n (pc := 133) F dX8_layLongest_133 rfl 1 rfl ?_
              refine V_get (pc := 134) F 0 8 10 i_X8 rfl (by decide) rfl (mm 2 rfl) dX8_layLongest_134 rfl rfl ?_
              refine V_iload_n (pc := 137) F dX8_layLongest_137 rfl 4 rfl ?_
              obtain ⟨c23, hf⟩ := chk_some hf
              refine V_iald (pc := 138) F 5 rfl c23 dX8_layLongest_138 ?_
              obtain ⟨c24, hf⟩ := chk_some hf
              obtain ⟨f25, e26, hf⟩ := nmd_of hf
              refine V_iast (w2 := wX8 cy a (v.1, v.2.1, v.2.2.1, v.2.2.2.1, v.2.2.2.2.1, v.2.2.2.2.2.1, v.2.2.2.2.2.2.1, v.2.2.2.2.2.2.2.1, v.2.2.2.2.2.2.2.2.1, v.2.2.2.2.2.2.2.2.2.1, f25, v.2.2.2.2.2.2.2.2.2.2.2)) (pc := 139) F 5 rfl c24 e26 dX8_layLongest_139 rfl ?_
              refine V_iinc (v := (z5 + 1)) (L2 := [(5, .int (z5 + 1)), (6, .int 0), (0, .ref (a 0)), (1, .int z1), (2, .int z2), (3, .int z3), (4, .int z4)]) (pc := 140) F dX8_layLongest_140 6 rfl rfl (by decide) rfl ?_
              refine V_goto (pc := 143) (tgt := 73) F dX8_layLongest_143 (by decide) ?_
              refine V.sub [2, 3, 4, 5, 6, 0] rfl ?_
              exact ih z1 z2 z3 z4 (v.1, v.2.1, v.2.2.1, v.2.2.2.1, v.2.2.2.2.1, v.2.2.2.2.2.1, v.2.2.2.2.2.2.1, v.2.2.2.2.2.2.2.1, v.2.2.2.2.2.2.2.2.1, v.2.2.2.2.2.2.2.2.2.1, f25, v.2.2.2.2.2.2.2.2.2.2.2) (z5 + 1) _ hf hk
            · replace hf := ite_neg hf h22
              refine V_iload (pc := 128) F dX8_layLongest_128 0 rfl ?_
              refine V_goto (pc := 130) (tgt := 139) F dX8_layLongest_130 (by decide) ?_
              obtain ⟨c27, hf⟩ := chk_some hf
              obtain ⟨f28, e29, hf⟩ := nmd_of hf
              refine V_iast (w2 := wX8 cy a (v.1, v.2.1, v.2.2.1, v.2.2.2.1, v.2.2.2.2.1, v.2.2.2.2.2.1, v.2.2.2.2.2.2.1, v.2.2.2.2.2.2.2.1, v.2.2.2.2.2.2.2.2.1, v.2.2.2.2.2.2.2.2.2.1, f28, v.2.2.2.2.2.2.2.2.2.2.2)) (pc := 139) F 5 rfl c27 e29 dX8_layLongest_139 rfl ?_
              refine V_iinc (v := (z5 + 1)) (L2 := [(5, .int (z5 + 1)), (6, .int 0), (0, .ref (a 0)), (1, .int z1), (2, .int z2), (3, .int z3), (4, .int z4)]) (pc := 140) F dX8_layLongest_140 6 rfl rfl (by decide) rfl ?_
              refine V_goto (pc := 143) (tgt := 73) F dX8_layLongest_143 (by decide) ?_
              refine V.sub [2, 3, 4, 5, 6, 0] rfl ?_
              exact ih z1 z2 z3 z4 (v.1, v.2.1, v.2.2.1, v.2.2.2.1, v.2.2.2.2.1, v.2.2.2.2.2.1, v.2.2.2.2.2.2.1, v.2.2.2.2.2.2.2.1, v.2.2.2.2.2.2.2.2.1, v.2.2.2.2.2.2.2.2.2.1, f28, v.2.2.2.2.2.2.2.2.2.2.2) (z5 + 1) _ hf hk
          · replace hf := ite_neg hf h20
            refine V_aload_n (pc := 99) F dX8_layLongest_99 rfl 0 rfl ?_
            refine V_iload_n (pc := 100) F dX8_layLongest_100 rfl 3 rfl ?_
            refine V_iload (pc := 101) F dX8_layLongest_101 5 rfl ?_
            obtain ⟨r30, g31, hf⟩ := bind_of hf
            refine V_V (w2 := wX8 cy a v) (rest := []) (st2 := [.int r30]) (pc := 103) F 8 (M_X8_wayBy l D cy N a v z3 z5 r30 g31) (cwV 2 F.ts gX8_layLongest_X8_wayBy rfl rfl rfl hd_X8_wayBy ⟨Nat.le_of_ble_eq_true rfl, Nat.le_of_ble_eq_true rfl⟩) rfl dX8_layLongest_103 Fit.whole rfl rfl rfl (Nat.le_of_ble_eq_true rfl) (Nat.zero_le _) (Nat.zero_le _) rfl rfl rfl ?_
            refine V_goto (pc := 106) (tgt := 110) F dX8_layLongest_106 (by decide) ?_
            refine V_istore (L2 := [(6, .int r30), (0, .ref (a 0)), (1, .int z1), (2, .int z2), (3, .int z3), (4, .int z4), (5, .int z5)]) (pc := 110) F dX8_layLongest_110 (by decide) rfl ?_
            refine V_aload_n (pc := 112) F dX8_layLongest_112 rfl 1 rfl ?_
            refine V_get (pc := 113) F 0 8 10 i_X8 rfl (by decide) rfl (mm 2 rfl) dX8_layLongest_113 rfl rfl ?_
            refine V_iload_n (pc := 116) F dX8_layLongest_116 rfl 4 rfl ?_
            refine V_iload (pc := 117) F dX8_layLongest_117 0 rfl ?_
            refine V_aload_n (pc := 119) F dX8_layLongest_119 rfl 1 rfl ?_
            refine V_get (pc := 120) F 0 8 10 i_X8 rfl (by decide) rfl (mm 2 rfl) dX8_layLongest_120 rfl rfl ?_
            refine V_iload_n (pc := 123) F dX8_layLongest_123 rfl 4 rfl ?_
            obtain ⟨c32, hf⟩ := chk_some hf
            refine V_iald (pc := 124) F 5 rfl c32 dX8_layLongest_124 ?_
            refine V_icmp_le (pc := 125) (tgt := 133) F dX8_layLongest_125 (by decide) (fun h33 => ?_) (fun h33 => ?_)
            · replace hf := ite_pos hf h33
              refine V_aload_n (pc := 133) F dX8_layLongest_133 rfl 1 rfl ?_
              refine V_get (pc := 134) F 0 8 10 i_X8 rfl (by decide) rfl (mm 2 rfl) dX8_layLongest_134 rfl rfl ?_
              refine V_iload_n (pc := 137) F dX8_layLongest_137 rfl 4 rfl ?_
              obtain ⟨c34, hf⟩ := chk_some hf
              refine V_iald (pc := 138) F 5 rfl c34 dX8_layLongest_138 ?_
              obtain ⟨c35, hf⟩ := chk_some hf
              obtain ⟨f36, e37, hf⟩ := nmd_of hf
              refine V_iast (w2 := wX8 cy a (v.1, v.2.1, v.2.2.1, v.2.2.2.1, v.2.2.2.2.1, v.2.2.2.2.2.1, v.2.2.2.2.2.2.1, v.2.2.2.2.2.2.2.1, v.2.2.2.2.2.2.2.2.1, v.2.2.2.2.2.2.2.2.2.1, f36, v.2.2.2.2.2.2.2.2.2.2.2)) (pc := 139) F 5 rfl c35 e37 dX8_layLongest_139 rfl ?_
              refine V_iinc (v := (z5 + 1)) (L2 := [(5, .int (z5 + 1)), (6, .int r30), (0, .ref (a 0)), (1, .int z1), (2, .int z2), (3, .int z3), (4, .int z4)]) (pc := 140) F dX8_layLongest_140 6 rfl rfl (by decide) rfl ?_
              refine V_goto (pc := 143) (tgt := 73) F dX8_layLongest_143 (by decide) ?_
              refine V.sub [2, 3, 4, 5, 6, 0] rfl ?_
              exact ih z1 z2 z3 z4 (v.1, v.2.1, v.2.2.1, v.2.2.2.1, v.2.2.2.2.1, v.2.2.2.2.2.1, v.2.2.2.2.2.2.1, v.2.2.2.2.2.2.2.1, v.2.2.2.2.2.2.2.2.1, v.2.2.2.2.2.2.2.2.2.1, f36, v.2.2.2.2.2.2.2.2.2.2.2) (z5 + 1) _ hf hk
            · replace hf := ite_neg hf h33
              refine V_iload (pc := 128) F dX8_layLongest_128 0 rfl ?_
              refine V_goto (pc := 130) (tgt := 139) F dX8_layLongest_130 (by decide) ?_
              obtain ⟨c38, hf⟩ := chk_some hf
              obtain ⟨f39, e40, hf⟩ := nmd_of hf
              refine V_iast (w2 := wX8 cy a (v.1, v.2.1, v.2.2.1, v.2.2.2.1, v.2.2.2.2.1, v.2.2.2.2.2.1, v.2.2.2.2.2.2.1, v.2.2.2.2.2.2.2.1, v.2.2.2.2.2.2.2.2.1, v.2.2.2.2.2.2.2.2.2.1, f39, v.2.2.2.2.2.2.2.2.2.2.2)) (pc := 139) F 5 rfl c38 e40 dX8_layLongest_139 rfl ?_
              refine V_iinc (v := (z5 + 1)) (L2 := [(5, .int (z5 + 1)), (6, .int r30), (0, .ref (a 0)), (1, .int z1), (2, .int z2), (3, .int z3), (4, .int z4)]) (pc := 140) F dX8_layLongest_140 6 rfl rfl (by decide) rfl ?_
              refine V_goto (pc := 143) (tgt := 73) F dX8_layLongest_143 (by decide) ?_
              refine V.sub [2, 3, 4, 5, 6, 0] rfl ?_
              exact ih z1 z2 z3 z4 (v.1, v.2.1, v.2.2.1, v.2.2.2.1, v.2.2.2.2.1, v.2.2.2.2.2.1, v.2.2.2.2.2.2.1, v.2.2.2.2.2.2.2.1, v.2.2.2.2.2.2.2.2.1, v.2.2.2.2.2.2.2.2.2.1, f39, v.2.2.2.2.2.2.2.2.2.2.2) (z5 + 1) _ hf hk
  have K35 : ∀ (n : Nat) (z1 : Int32) (z2 : Int32) (v : SX8) (z3 : Int32) (u : SX8), fX8_layLongest_L35 N z1 z2 n v z3 = some u → V p l e (rmz 7 167) s m args below meth c 7 D A 0 0 (MQ below (ok_Q D (wX8 cy a o) none A) args s 0 0 A) (wX8 cy a u) [(0, .ref (a 0)), (1, .int z1), (2, .int z2)] [] 152 → V p l e (rmz 7 167) s m args below meth c 7 D A 0 0 (MQ below (ok_Q D (wX8 cy a o) none A) args s 0 0 A) (wX8 cy a v) [(0, .ref (a 0)), (1, .int z1), (2, .int z2), (3, .int z3)] [] 35 := by
    intro n
    induction n with
    | zero =>
      intro z1 z2 v z3 u hf hk
      exact nomatch (show (none : Option (SX8)) = some u from hf)
    | succ n ih =>
      intro z1 z2 v z3 u hf hk
      rw [fX8_layLongest_L35] at hf
      refine V_iload_n (pc := 35) F dX8_layLongest_35 rfl 3 rfl ?_
      refine V_aload_n (pc := 36) F dX8_layLongest_36 rfl 0 rfl ?_
      refine V_get (pc := 37) F 0 8 1 i_X8 rfl (by decide) rfl (mm 1 rfl) dX8_layLongest_37 rfl rfl ?_
      refine V_iconst (v := 0) (pc := 40) F dX8_layLongest_40 (by decide) ?_
      obtain ⟨c9, hf⟩ := chk_some hf
      refine V_iald (pc := 41) F 1 rfl c9 dX8_layLongest_41 ?_
      refine V_icmp_ge (pc := 42) (tgt := 152) F dX8_layLongest_42 (by decide) (fun h10 => ?_) (fun h10 => ?_)
      · replace hf := ite_pos hf h10
        obtain rfl := some_of hf
        exact V.sub [0, 1, 2] rfl hk
      · replace hf := ite_neg hf h10
        refine V_aload_n (pc := 45) F dX8_layLongest_45 rfl 0 rfl ?_
        refine V_iload_n (pc := 46) F dX8_layLongest_46 rfl 3 rfl ?_
        refine V_iload_n (pc := 47) F dX8_layLongest_47 rfl 1 rfl ?_
        obtain ⟨r11, g12, hf⟩ := bind_of hf
        refine V_V (w2 := wX8 cy a v) (rest := []) (st2 := [.int r11]) (pc := 48) F 8 (M_X8_hasGreen l D cy N a v z3 z1 r11 g12) (cwV 2 F.ts gX8_layLongest_X8_hasGreen rfl rfl rfl hd_X8_hasGreen ⟨Nat.le_of_ble_eq_true rfl, Nat.le_of_ble_eq_true rfl⟩) rfl dX8_layLongest_48 Fit.whole rfl rfl rfl (Nat.le_of_ble_eq_true rfl) (Nat.zero_le _) (Nat.zero_le _) rfl rfl rfl ?_
        refine V_if_ne (pc := 51) (tgt := 67) F dX8_layLongest_51 (by decide) (fun h13 => ?_) (fun h13 => ?_)
        · replace hf := ite_neg hf h13
          refine V_iconst (v := 0) (pc := 67) F dX8_layLongest_67 (by decide) ?_
          refine V_istore (L2 := [(4, .int 0), (0, .ref (a 0)), (1, .int z1), (2, .int z2), (3, .int z3)]) (pc := 68) F dX8_layLongest_68 (by decide) rfl ?_
          refine V_iconst (v := 0) (pc := 70) F dX8_layLongest_70 (by decide) ?_
          refine V_istore (L2 := [(5, .int 0), (4, .int 0), (0, .ref (a 0)), (1, .int z1), (2, .int z2), (3, .int z3)]) (pc := 71) F dX8_layLongest_71 (by decide) rfl ?_
          refine V.sub [2, 3, 4, 5, 1, 0] rfl ?_
          obtain ⟨u41, g42, hf⟩ := bind_of hf
          refine K73 N z1 z2 z3 0 v 0 u41 g42 ?_
          refine V_iinc (v := (z3 + 1)) (L2 := [(3, .int (z3 + 1)), (0, .ref (a 0)), (1, .int z1), (2, .int z2)]) (pc := 146) F dX8_layLongest_146 3 rfl rfl (by decide) rfl ?_
          refine V_goto (pc := 149) (tgt := 35) F dX8_layLongest_149 (by decide) ?_
          refine V.sub [1, 2, 3, 0] rfl ?_
          exact ih z1 z2 u41 (z3 + 1) _ hf hk
        · replace hf := ite_pos hf h13
          refine V_aload_n (pc := 54) F dX8_layLongest_54 rfl 0 rfl ?_
          refine V_iload_n (pc := 55) F dX8_layLongest_55 rfl 3 rfl ?_
          refine V_iload_n (pc := 56) F dX8_layLongest_56 rfl 1 rfl ?_
          obtain ⟨r43, g44, hf⟩ := bind_of hf
          refine V_V (w2 := wX8 cy a v) (rest := []) (st2 := [.int r43]) (pc := 57) F 8 (M_X8_canStarve l D cy N a v z3 z1 r43 g44) (cwV 2 F.ts gX8_layLongest_X8_canStarve rfl rfl rfl hd_X8_canStarve ⟨Nat.le_of_ble_eq_true rfl, Nat.le_of_ble_eq_true rfl⟩) rfl dX8_layLongest_57 Fit.whole rfl rfl rfl (Nat.le_of_ble_eq_true rfl) (Nat.zero_le _) (Nat.zero_le _) rfl rfl rfl ?_
          refine V_if_ne (pc := 60) (tgt := 67) F dX8_layLongest_60 (by decide) (fun h45 => ?_) (fun h45 => ?_)
          · replace hf := ite_neg hf h45
            refine V_iconst (v := 0) (pc := 67) F dX8_layLongest_67 (by decide) ?_
            refine V_istore (L2 := [(4, .int 0), (0, .ref (a 0)), (1, .int z1), (2, .int z2), (3, .int z3)]) (pc := 68) F dX8_layLongest_68 (by decide) rfl ?_
            refine V_iconst (v := 0) (pc := 70) F dX8_layLongest_70 (by decide) ?_
            refine V_istore (L2 := [(5, .int 0), (4, .int 0), (0, .ref (a 0)), (1, .int z1), (2, .int z2), (3, .int z3)]) (pc := 71) F dX8_layLongest_71 (by decide) rfl ?_
            refine V.sub [2, 3, 4, 5, 1, 0] rfl ?_
            obtain ⟨u46, g47, hf⟩ := bind_of hf
            refine K73 N z1 z2 z3 0 v 0 u46 g47 ?_
            refine V_iinc (v := (z3 + 1)) (L2 := [(3, .int (z3 + 1)), (0, .ref (a 0)), (1, .int z1), (2, .int z2)]) (pc := 146) F dX8_layLongest_146 3 rfl rfl (by decide) rfl ?_
            refine V_goto (pc := 149) (tgt := 35) F dX8_layLongest_149 (by decide) ?_
            refine V.sub [1, 2, 3, 0] rfl ?_
            exact ih z1 z2 u46 (z3 + 1) _ hf hk
          · replace hf := ite_pos hf h45
            refine V_iconst (v := 1) (pc := 63) F dX8_layLongest_63 (by decide) ?_
            refine V_goto (pc := 64) (tgt := 68) F dX8_layLongest_64 (by decide) ?_
            refine V_istore (L2 := [(4, .int 1), (0, .ref (a 0)), (1, .int z1), (2, .int z2), (3, .int z3)]) (pc := 68) F dX8_layLongest_68 (by decide) rfl ?_
            refine V_iconst (v := 0) (pc := 70) F dX8_layLongest_70 (by decide) ?_
            refine V_istore (L2 := [(5, .int 0), (4, .int 1), (0, .ref (a 0)), (1, .int z1), (2, .int z2), (3, .int z3)]) (pc := 71) F dX8_layLongest_71 (by decide) rfl ?_
            refine V.sub [2, 3, 4, 5, 1, 0] rfl ?_
            obtain ⟨u48, g49, hf⟩ := bind_of hf
            refine K73 N z1 z2 z3 1 v 0 u48 g49 ?_
            refine V_iinc (v := (z3 + 1)) (L2 := [(3, .int (z3 + 1)), (0, .ref (a 0)), (1, .int z1), (2, .int z2)]) (pc := 146) F dX8_layLongest_146 3 rfl rfl (by decide) rfl ?_
            refine V_goto (pc := 149) (tgt := 35) F dX8_layLongest_149 (by decide) ?_
            refine V.sub [1, 2, 3, 0] rfl ?_
            exact ih z1 z2 u48 (z3 + 1) _ hf hk
  have K27 : ∀ (n : Nat) (z1 : Int32) (v : SX8) (z2 : Int32) (u : SX8), fX8_layLongest_L27 N z1 n v z2 = some u → V p l e (rmz 7 167) s m args below meth c 7 D A 0 0 (MQ below (ok_Q D (wX8 cy a o) none A) args s 0 0 A) (wX8 cy a u) [] [] 158 → V p l e (rmz 7 167) s m args below meth c 7 D A 0 0 (MQ below (ok_Q D (wX8 cy a o) none A) args s 0 0 A) (wX8 cy a v) [(0, .ref (a 0)), (1, .int z1), (2, .int z2)] [] 27 := by
    intro n
    induction n with
    | zero =>
      intro z1 v z2 u hf hk
      exact nomatch (show (none : Option (SX8)) = some u from hf)
    | succ n ih =>
      intro z1 v z2 u hf hk
      rw [fX8_layLongest_L27] at hf
      refine V_iload_n (pc := 27) F dX8_layLongest_27 rfl 2 rfl ?_
      refine V_bipush (v := 8) (pc := 28) F dX8_layLongest_28 (by decide) ?_
      refine V_icmp_ge (pc := 30) (tgt := 158) F dX8_layLongest_30 (by decide) (fun h8 => ?_) (fun h8 => ?_)
      · replace hf := ite_pos hf h8
        obtain rfl := some_of hf
        exact V.sub [] rfl hk
      · replace hf := ite_neg hf h8
        refine V_iconst (v := 0) (pc := 33) F dX8_layLongest_33 (by decide) ?_
        refine V_istore_n (L2 := [(3, .int 0), (0, .ref (a 0)), (1, .int z1), (2, .int z2)]) (pc := 34) F dX8_layLongest_34 rfl (by decide) rfl ?_
        refine V.sub [1, 2, 3, 0] rfl ?_
        obtain ⟨u50, g51, hf⟩ := bind_of hf
        refine K35 N z1 z2 v 0 u50 g51 ?_
        refine V_iinc (v := (z2 + 1)) (L2 := [(2, .int (z2 + 1)), (0, .ref (a 0)), (1, .int z1)]) (pc := 152) F dX8_layLongest_152 2 rfl rfl (by decide) rfl ?_
        refine V_goto (pc := 155) (tgt := 27) F dX8_layLongest_155 (by decide) ?_
        refine V.sub [1, 2, 0] rfl ?_
        exact ih z1 u50 (z2 + 1) _ hf hk
  unfold fX8_layLongest at hf
  refine V.eq rfl (show lv_args 0 [.ref (a 0), .int x1] = [(0, .ref (a 0)), (1, .int x1)] from rfl) rfl ?_
  refine V_iconst (v := 0) (pc := 0) F dX8_layLongest_0 (by decide) ?_
  refine V_istore_n (L2 := [(2, .int 0), (0, .ref (a 0)), (1, .int x1)]) (pc := 1) F dX8_layLongest_1 rfl (by decide) rfl ?_
  refine V.sub [1, 2, 0] rfl ?_
  obtain ⟨u6, g7, hf⟩ := bind_of hf
  refine K2 N x1 v 0 u6 g7 ?_
  refine V_iconst (v := 0) (pc := 25) F dX8_layLongest_25 (by decide) ?_
  refine V_istore_n (L2 := [(2, .int 0), (0, .ref (a 0)), (1, .int x1)]) (pc := 26) F dX8_layLongest_26 rfl (by decide) rfl ?_
  refine V.sub [1, 2, 0] rfl ?_
  obtain ⟨u52, g53, hf⟩ := bind_of hf
  refine K27 N x1 u6 0 u52 g53 ?_
  obtain rfl := some_of hf
  exact V_vret F rfl dX8_layLongest_158 rfl
