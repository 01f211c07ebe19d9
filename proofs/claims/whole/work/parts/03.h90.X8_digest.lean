theorem hd_X8_digest : yX8_digest.cls = RX8 ∧ yX8_digest.cls ≠ "java/lang/invoke/MethodHandle" ∧ yX8_digest.cls ≠ "java/lang/invoke/VarHandle" ∧ (parseMethodDescriptor yX8_digest.desc).map (fun d => d.parameters.length) = some 0 := by decide +kernel
def fX8_digest_L14 (N : Nat)  : Nat → SX8 → Int32 → Option (SX8)
  | 0, _, _ => none
  | n + 1, v, z1 =>
    if 11 < z1 then
      some v
    else
      (fX8_counted N v z1).bind fun r2 =>
        (fX8_mix N v ((r2).toInt64)).bind fun r4 =>
          fX8_digest_L14 N n r4 (z1 + 1)
def fX8_digest_L57 (N : Nat) (z1 : Int32) : Nat → SX8 → Int32 → Option (SX8)
  | 0, _, _ => none
  | n + 1, v, z2 =>
    if 5 < z2 then
      some v
    else
      (fX8_toldDirection N v z1 z2).bind fun r13 =>
        (fX8_mix N v ((r13).toInt64)).bind fun r15 =>
          fX8_digest_L57 N z1 n r15 (z2 + 1)
def fX8_digest_L49 (N : Nat)  : Nat → SX8 → Int32 → Option (SX8)
  | 0, _, _ => none
  | n + 1, v, z1 =>
    if 6 ≤ z1 then
      some v
    else
      (fX8_digest_L57 N z1 N v 0).bind fun u17 =>
        (fX8_roundsOf N u17 z1).bind fun r19 =>
          (fX8_mix N u17 ((r19).toInt64)).bind fun r21 =>
            fX8_digest_L49 N n r21 (z1 + 1)
def fX8_digest_L97 (N : Nat)  : Nat → SX8 → Int32 → Option (SX8)
  | 0, _, _ => none
  | n + 1, v, z1 =>
    chk 0 143 (
      if (v.2.1 (0 : Int32).toNatClampNeg) ≤ z1 then
        some v
      else
        (fX8_mixPhase N v z1).bind fun r27 =>
          fX8_digest_L97 N n r27 (z1 + 1)
    )
def fX8_digest_L149 (N : Nat)  : Nat → SX8 → Int32 → Option (SX8)
  | 0, _, _ => none
  | n + 1, v, z1 =>
    if v.2.2.2.2.2.1 ≤ z1 then
      some v
    else
      chk z1 60 (
        (fX8_mix N v (((v.2.2.2.2.1 z1.toNatClampNeg)).toInt64)).bind fun r45 =>
          fX8_digest_L149 N n r45 (z1 + 1)
      )
def fX8_digest (N : Nat) (v : SX8) : Option (Int64 × SX8) :=
  (fX8_digest_L14 N N (0, v.2.1, v.2.2.1, v.2.2.2.1, v.2.2.2.2.1, v.2.2.2.2.2.1, v.2.2.2.2.2.2.1, v.2.2.2.2.2.2.2.1, v.2.2.2.2.2.2.2.2.1, v.2.2.2.2.2.2.2.2.2.1, v.2.2.2.2.2.2.2.2.2.2.1, v.2.2.2.2.2.2.2.2.2.2.2.1, (2803)) 0).bind fun u6 =>
    chk 1 143 (
      (fX8_mix N u6 (((u6.2.1 (1 : Int32).toNatClampNeg)).toInt64)).bind fun r9 =>
        (fX8_digest_L49 N N r9 0).bind fun u23 =>
          (fX8_digest_L97 N N u23 0).bind fun u29 =>
            (fX8_slowestOne N u29).bind fun r31 =>
              (fX8_mix N r31.2 ((r31.1).toInt64)).bind fun r33 =>
                (fX8_share N r33).bind fun r35 =>
                  (fX8_bitsOf N r35).bind fun r37 =>
                    (fX8_mix N r33 r37).bind fun r39 =>
                      (fX8_mix N r39 ((r39.2.2.2.2.2.1).toInt64)).bind fun r41 =>
                        (fX8_digest_L149 N N r41 0).bind fun u47 =>
                          some (u47.2.2.2.2.2.2.2.2.2.2.2.2, u47)
    )
set_option maxHeartbeats 8000000 in
set_option maxRecDepth 100000 in
theorem M_X8_digest (l : Launch) (D : va_G) (cy : Nat → ClassId) (N : Nat) (a : Nat → Nat) (v : SX8) (o : Int64 × SX8) (hf : fX8_digest N v = some o) : okM l yX8_digest wsX8_digest (rmz 11 263) D cy [.ref (a 0)] (wX8 cy a v) (wX8 cy a o.2) (some (.long o.1)) := by
  refine okM_of (own := RX8) (nme := "digest") (cc := cX8_digest) (maxL := 3) (ret := (some .long)) (by decide) rfl rfl rfl (Nat.le_of_ble_eq_true rfl) ?_
  intro p e s m args below meth c A F
  have i_X8 : ∀ w ∈ u_ws RX8 TX8 13, w ∈ wsX8_digest := fun _ h => List.mem_cons_of_mem _ (List.mem_append_right _ h)
  have K14 : ∀ (n : Nat) (v : SX8) (z1 : Int32) (u : SX8), fX8_digest_L14 N n v z1 = some u → V p l e (rmz 11 263) s m args below meth c 3 D A 0 0 (MQ below (ok_Q D (wX8 cy a o.2) (some (.long o.1)) A) args s 0 0 A) (wX8 cy a u) [(0, .ref (a 0))] [] 36 → V p l e (rmz 11 263) s m args below meth c 3 D A 0 0 (MQ below (ok_Q D (wX8 cy a o.2) (some (.long o.1)) A) args s 0 0 A) (wX8 cy a v) [(0, .ref (a 0)), (1, .int z1)] [] 14 := by
    intro n
    induction n with
    | zero =>
      intro v z1 u hf hk
      exact nomatch (show (none : Option (SX8)) = some u from hf)
    | succ n ih =>
      intro v z1 u hf hk
      rw [fX8_digest_L14] at hf
      refine V_iload_n (pc := 14) F dX8_digest_14 rfl 1 rfl ?_
      refine V_bipush (v := 11) (pc := 15) F dX8_digest_15 (by decide) ?_
      refine V_icmp_gt (pc := 17) (tgt := 36) F dX8_digest_17 (by decide) (fun h1 => ?_) (fun h1 => ?_)
      · replace hf := ite_pos hf h1
        obtain rfl := some_of hf
        exact V.sub [0] rfl hk
      · replace hf := ite_neg hf h1
        refine V_aload_n (pc := 20) F dX8_digest_20 rfl 0 rfl ?_
        refine V_aload_n (pc := 21) F dX8_digest_21 rfl 0 rfl ?_
        refine V_iload_n (pc := 22) F dX8_digest_22 rfl 1 rfl ?_
        obtain ⟨r2, g3, hf⟩ := bind_of hf
        refine V_V (w2 := wX8 cy a v) (rest := [.ref (a 0)]) (st2 := [.int r2, .ref (a 0)]) (pc := 23) F 8 (M_X8_counted l D cy N a v z1 r2 g3) (cwV 1 F.ts gX8_digest_X8_counted rfl rfl rfl hd_X8_counted ⟨Nat.le_of_ble_eq_true rfl, Nat.le_of_ble_eq_true rfl⟩) rfl dX8_digest_23 Fit.whole rfl rfl rfl (Nat.le_of_ble_eq_true rfl) (Nat.zero_le _) (Nat.zero_le _) rfl rfl rfl ?_
        refine V_i2l (pc := 26) F dX8_digest_26 ?_
        obtain ⟨r4, g5, hf⟩ := bind_of hf
        refine V_V (w2 := wX8 cy a r4) (rest := []) (st2 := []) (pc := 27) F 8 (M_X8_mix l D cy N a v ((r2).toInt64) r4 g5) (cwV 1 F.ts gX8_digest_X8_mix rfl rfl rfl hd_X8_mix ⟨Nat.le_of_ble_eq_true rfl, Nat.le_of_ble_eq_true rfl⟩) rfl dX8_digest_27 Fit.whole fstX8 rfl rfl (Nat.le_of_ble_eq_true rfl) (Nat.zero_le _) (Nat.zero_le _) rfl rfl rfl ?_
        refine V_iinc (v := (z1 + 1)) (L2 := [(1, .int (z1 + 1)), (0, .ref (a 0))]) (pc := 30) F dX8_digest_30 1 rfl rfl (by decide) rfl ?_
        refine V_goto (pc := 33) (tgt := 14) F dX8_digest_33 (by decide) ?_
        refine V.sub [1, 0] rfl ?_
        exact ih r4 (z1 + 1) _ hf hk
  have K57 : ∀ (n : Nat) (z1 : Int32) (v : SX8) (z2 : Int32) (u : SX8), fX8_digest_L57 N z1 n v z2 = some u → V p l e (rmz 11 263) s m args below meth c 3 D A 0 0 (MQ below (ok_Q D (wX8 cy a o.2) (some (.long o.1)) A) args s 0 0 A) (wX8 cy a u) [(0, .ref (a 0)), (1, .int z1)] [] 79 → V p l e (rmz 11 263) s m args below meth c 3 D A 0 0 (MQ below (ok_Q D (wX8 cy a o.2) (some (.long o.1)) A) args s 0 0 A) (wX8 cy a v) [(0, .ref (a 0)), (1, .int z1), (2, .int z2)] [] 57 := by
    intro n
    induction n with
    | zero =>
      intro z1 v z2 u hf hk
      exact nomatch (show (none : Option (SX8)) = some u from hf)
    | succ n ih =>
      intro z1 v z2 u hf hk
      rw [fX8_digest_L57] at hf
      refine V_iload_n (pc := 57) F dX8_digest_57 rfl 2 rfl ?_
      refine V_iconst (v := 5) (pc := 58) F dX8_digest_58 (by decide) ?_
      refine V_icmp_gt (pc := 59) (tgt := 79) F dX8_digest_59 (by decide) (fun h12 => ?_) (fun h12 => ?_)
      · replace hf := ite_pos hf h12
        obtain rfl := some_of hf
        exact V.sub [0, 1] rfl hk
      · replace hf := ite_neg hf h12
        refine V_aload_n (pc := 62) F dX8_digest_62 rfl 0 rfl ?_
        refine V_aload_n (pc := 63) F dX8_digest_63 rfl 0 rfl ?_
        refine V_iload_n (pc := 64) F dX8_digest_64 rfl 1 rfl ?_
        refine V_iload_n (pc := 65) F dX8_digest_65 rfl 2 rfl ?_
        obtain ⟨r13, g14, hf⟩ := bind_of hf
        refine V_V (w2 := wX8 cy a v) (rest := [.ref (a 0)]) (st2 := [.int r13, .ref (a 0)]) (pc := 66) F 8 (M_X8_toldDirection l D cy N a v z1 z2 r13 g14) (cwV 2 F.ts gX8_digest_X8_toldDirection rfl rfl rfl hd_X8_toldDirection ⟨Nat.le_of_ble_eq_true rfl, Nat.le_of_ble_eq_true rfl⟩) rfl dX8_digest_66 Fit.whole rfl rfl rfl (Nat.le_of_ble_eq_true rfl) (Nat.zero_le _) (Nat.zero_le _) rfl rfl rfl ?_
        refine V_i2l (pc := 69) F dX8_digest_69 ?_
        obtain ⟨r15, g16, hf⟩ := bind_of hf
        refine V_V (w2 := wX8 cy a r15) (rest := []) (st2 := []) (pc := 70) F 8 (M_X8_mix l D cy N a v ((r13).toInt64) r15 g16) (cwV 1 F.ts gX8_digest_X8_mix rfl rfl rfl hd_X8_mix ⟨Nat.le_of_ble_eq_true rfl, Nat.le_of_ble_eq_true rfl⟩) rfl dX8_digest_70 Fit.whole fstX8 rfl rfl (Nat.le_of_ble_eq_true rfl) (Nat.zero_le _) (Nat.zero_le _) rfl rfl rfl ?_
        refine V_iinc (v := (z2 + 1)) (L2 := [(2, .int (z2 + 1)), (0, .ref (a 0)), (1, .int z1)]) (pc := 73) F dX8_digest_73 2 rfl rfl (by decide) rfl ?_
        refine V_goto (pc := 76) (tgt := 57) F dX8_digest_76 (by decide) ?_
        refine V.sub [1, 2, 0] rfl ?_
        exact ih z1 r15 (z2 + 1) _ hf hk
  have K49 : ∀ (n : Nat) (v : SX8) (z1 : Int32) (u : SX8), fX8_digest_L49 N n v z1 = some u → V p l e (rmz 11 263) s m args below meth c 3 D A 0 0 (MQ below (ok_Q D (wX8 cy a o.2) (some (.long o.1)) A) args s 0 0 A) (wX8 cy a u) [(0, .ref (a 0))] [] 95 → V p l e (rmz 11 263) s m args below meth c 3 D A 0 0 (MQ below (ok_Q D (wX8 cy a o.2) (some (.long o.1)) A) args s 0 0 A) (wX8 cy a v) [(0, .ref (a 0)), (1, .int z1)] [] 49 := by
    intro n
    induction n with
    | zero =>
      intro v z1 u hf hk
      exact nomatch (show (none : Option (SX8)) = some u from hf)
    | succ n ih =>
      intro v z1 u hf hk
      rw [fX8_digest_L49] at hf
      refine V_iload_n (pc := 49) F dX8_digest_49 rfl 1 rfl ?_
      refine V_bipush (v := 6) (pc := 50) F dX8_digest_50 (by decide) ?_
      refine V_icmp_ge (pc := 52) (tgt := 95) F dX8_digest_52 (by decide) (fun h11 => ?_) (fun h11 => ?_)
      · replace hf := ite_pos hf h11
        obtain rfl := some_of hf
        exact V.sub [0] rfl hk
      · replace hf := ite_neg hf h11
        refine V_iconst (v := 0) (pc := 55) F dX8_digest_55 (by decide) ?_
        refine V_istore_n (L2 := [(2, .int 0), (0, .ref (a 0)), (1, .int z1)]) (pc := 56) F dX8_digest_56 rfl (by decide) rfl ?_
        refine V.sub [1, 2, 0] rfl ?_
        obtain ⟨u17, g18, hf⟩ := bind_of hf
        refine K57 N z1 v 0 u17 g18 ?_
        refine V_aload_n (pc := 79) F dX8_digest_79 rfl 0 rfl ?_
        refine V_aload_n (pc := 80) F dX8_digest_80 rfl 0 rfl ?_
        refine V_iload_n (pc := 81) F dX8_digest_81 rfl 1 rfl ?_
        obtain ⟨r19, g20, hf⟩ := bind_of hf
        refine V_V (w2 := wX8 cy a u17) (rest := [.ref (a 0)]) (st2 := [.int r19, .ref (a 0)]) (pc := 82) F 8 (M_X8_roundsOf l D cy N a u17 z1 r19 g20) (cwV 1 F.ts gX8_digest_X8_roundsOf rfl rfl rfl hd_X8_roundsOf ⟨Nat.le_of_ble_eq_true rfl, Nat.le_of_ble_eq_true rfl⟩) rfl dX8_digest_82 Fit.whole rfl rfl rfl (Nat.le_of_ble_eq_true rfl) (Nat.zero_le _) (Nat.zero_le _) rfl rfl rfl ?_
        refine V_i2l (pc := 85) F dX8_digest_85 ?_
        obtain ⟨r21, g22, hf⟩ := bind_of hf
        refine V_V (w2 := wX8 cy a r21) (rest := []) (st2 := []) (pc := 86) F 8 (M_X8_mix l D cy N a u17 ((r19).toInt64) r21 g22) (cwV 1 F.ts gX8_digest_X8_mix rfl rfl rfl hd_X8_mix ⟨Nat.le_of_ble_eq_true rfl, Nat.le_of_ble_eq_true rfl⟩) rfl dX8_digest_86 Fit.whole fstX8 rfl rfl (Nat.le_of_ble_eq_true rfl) (Nat.zero_le _) (Nat.zero_le _) rfl rfl rfl ?_
        refine V_iinc (v := (z1 + 1)) (L2 := [(1, .int (z1 + 1)), (0, .ref (a 0))]) (pc := 89) F dX8_digest_89 1 rfl rfl (by decide) rfl ?_
        refine V_goto (pc := 92) (tgt := 49) F dX8_digest_92 (by decide) ?_
        refine V.sub [1, 0] rfl ?_
        exact ih r21 (z1 + 1) _ hf hk
  have K97 : ∀ (n : Nat) (v : SX8) (z1 : Int32) (u : SX8), fX8_digest_L97 N n v z1 = some u → V p l e (rmz 11 263) s m args below meth c 3 D A 0 0 (MQ below (ok_Q D (wX8 cy a o.2) (some (.long o.1)) A) args s 0 0 A) (wX8 cy a u) [(0, .ref (a 0))] [] 118 → V p l e (rmz 11 263) s m args below meth c 3 D A 0 0 (MQ below (ok_Q D (wX8 cy a o.2) (some (.long o.1)) A) args s 0 0 A) (wX8 cy a v) [(0, .ref (a 0)), (1, .int z1)] [] 97 := by
    intro n
    induction n with
    | zero =>
      intro v z1 u hf hk
      exact nomatch (show (none : Option (SX8)) = some u from hf)
    | succ n ih =>
      intro v z1 u hf hk
      rw [fX8_digest_L97] at hf
      refine V_iload_n (pc := 97) F dX8_digest_97 rfl 1 rfl ?_
      refine V_aload_n (pc := 98) F dX8_digest_98 rfl 0 rfl ?_
      refine V_get (pc := 99) F 0 8 1 i_X8 rfl (by decide) rfl (mm 4 rfl) dX8_digest_99 rfl rfl ?_
      refine V_iconst (v := 0) (pc := 102) F dX8_digest_102 (by decide) ?_
      obtain ⟨c25, hf⟩ := chk_some hf
      refine V_iald (pc := 103) F 1 rfl c25 dX8_digest_103 ?_
      refine V_icmp_ge (pc := 104) (tgt := 118) F dX8_digest_104 (by decide) (fun h26 => ?_) (fun h26 => ?_)
      · replace hf := ite_pos hf h26
        obtain rfl := some_of hf
        exact V.sub [0] rfl hk
      · replace hf := ite_neg hf h26
        refine V_aload_n (pc := 107) F dX8_digest_107 rfl 0 rfl ?_
        refine V_iload_n (pc := 108) F dX8_digest_108 rfl 1 rfl ?_
        obtain ⟨r27, g28, hf⟩ := bind_of hf
        refine V_V (w2 := wX8 cy a r27) (rest := []) (st2 := []) (pc := 109) F 8 (M_X8_mixPhase l D cy N a v z1 r27 g28) (cwV 1 F.ts gX8_digest_X8_mixPhase rfl rfl rfl hd_X8_mixPhase ⟨Nat.le_of_ble_eq_true rfl, Nat.le_of_ble_eq_true rfl⟩) rfl dX8_digest_109 Fit.whole fstX8 rfl rfl (Nat.le_of_ble_eq_true rfl) (Nat.zero_le _) (Nat.zero_le _) rfl rfl rfl ?_
        refine V_iinc (v := (z1 + 1)) (L2 := [(1, .int (z1 + 1)), (0, .ref (a 0))]) (pc := 112) F dX8_digest_112 1 rfl rfl (by decide) rfl ?_
        refine V_goto (pc := 115) (tgt := 97) F dX8_digest_115 (by decide) ?_
        refine V.sub [1, 0] rfl ?_
        exact ih r27 (z1 + 1) _ hf hk
  have K149 : ∀ (n : Nat) (v : SX8) (z1 : Int32) (u : SX8), fX8_digest_L149 N n v z1 = some u → V p l e (rmz 11 263) s m args below meth c 3 D A 0 0 (MQ below (ok_Q D (wX8 cy a o.2) (some (.long o.1)) A) args s 0 0 A) (wX8 cy a u) [(0, .ref (a 0))] [] 174 → V p l e (rmz 11 263) s m args below meth c 3 D A 0 0 (MQ below (ok_Q D (wX8 cy a o.2) (some (.long o.1)) A) args s 0 0 A) (wX8 cy a v) [(0, .ref (a 0)), (1, .int z1)] [] 149 := by
    intro n
    induction n with
    | zero =>
      intro v z1 u hf hk
      exact nomatch (show (none : Option (SX8)) = some u from hf)
    | succ n ih =>
      intro v z1 u hf hk
      rw [fX8_digest_L149] at hf
      refine V_iload_n (pc := 149) F dX8_digest_149 rfl 1 rfl ?_
      refine V_aload_n (pc := 150) F dX8_digest_150 rfl 0 rfl ?_
      refine V_get (pc := 151) F 0 8 5 i_X8 rfl (by decide) rfl (mm 5 rfl) dX8_digest_151 rfl rfl ?_
      refine V_icmp_ge (pc := 154) (tgt := 174) F dX8_digest_154 (by decide) (fun h43 => ?_) (fun h43 => ?_)
      · replace hf := ite_pos hf h43
        obtain rfl := some_of hf
        exact V.sub [0] rfl hk
      · replace hf := ite_neg hf h43
        refine V_aload_n (pc := 157) F dX8_digest_157 rfl 0 rfl ?_
        refine V_aload_n (pc := 158) F dX8_digest_158 rfl 0 rfl ?_
        refine V_get (pc := 159) F 0 8 4 i_X8 rfl (by decide) rfl (mm 6 rfl) dX8_digest_159 rfl rfl ?_
        refine V_iload_n (pc := 162) F dX8_digest_162 rfl 1 rfl ?_
        obtain ⟨c44, hf⟩ := chk_some hf
        refine V_iald (pc := 163) F 3 rfl c44 dX8_digest_163 ?_
        refine V_i2l (pc := 164) F dX8_digest_164 ?_
        obtain ⟨r45, g46, hf⟩ := bind_of hf
        refine V_V (w2 := wX8 cy a r45) (rest := []) (st2 := []) (pc := 165) F 8 (M_X8_mix l D cy N a v (((v.2.2.2.2.1 z1.toNatClampNeg)).toInt64) r45 g46) (cwV 1 F.ts gX8_digest_X8_mix rfl rfl rfl hd_X8_mix ⟨Nat.le_of_ble_eq_true rfl, Nat.le_of_ble_eq_true rfl⟩) rfl dX8_digest_165 Fit.whole fstX8 rfl rfl (Nat.le_of_ble_eq_true rfl) (Nat.zero_le _) (Nat.zero_le _) rfl rfl rfl ?_
        refine V_iinc (v := (z1 + 1)) (L2 := [(1, .int (z1 + 1)), (0, .ref (a 0))]) (pc := 168) F dX8_digest_168 1 rfl rfl (by decide) rfl ?_
        refine V_goto (pc := 171) (tgt := 149) F dX8_digest_171 (by decide) ?_
        refine V.sub [1, 0] rfl ?_
        exact ih r45 (z1 + 1) _ hf hk
  unfold fX8_digest at hf
  refine V.eq rfl (show lv_args 0 [.ref (a 0)] = [(0, .ref (a 0))] from rfl) rfl ?_
  refine V_aload_n (pc := 0) F dX8_digest_0 rfl 0 rfl ?_
  refine V_iconst (v := 0) (pc := 1) F dX8_digest_1 (by decide) ?_
  refine V_put (w2 := wX8 cy a (0, v.2)) (pc := 2) F 0 8 0 i_X8 tyX8 tyX8_ok nmX8 rfl (by decide) rfl (mm 1 rfl) rfl dX8_digest_2 rfl rfl rfl (Nat.le_of_ble_eq_true rfl) rfl ?_
  refine V_aload_n (pc := 5) F dX8_digest_5 rfl 0 rfl ?_
  refine V_ldc2 (v := (2803)) (pc := 6) F dX8_digest_6 (mm 2 rfl) ?_
  refine V_put (w2 := wX8 cy a (0, v.2.1, v.2.2.1, v.2.2.2.1, v.2.2.2.2.1, v.2.2.2.2.2.1, v.2.2.2.2.2.2.1, v.2.2.2.2.2.2.2.1, v.2.2.2.2.2.2.2.2.1, v.2.2.2.2.2.2.2.2.2.1, v.2.2.2.2.2.2.2.2.2.2.1, v.2.2.2.2.2.2.2.2.2.2.2.1, (2803))) (pc := 9) F 0 8 12 i_X8 tyX8 tyX8_ok nmX8 rfl (by decide) rfl (mm 3 rfl) rfl dX8_digest_9 rfl rfl rfl (Nat.le_of_ble_eq_true rfl) rfl ?_
  refine V_iconst (v := 0) (pc := 12) F dX8_digest_12 (by decide) ?_
  refine V_istore_n (L2 := [(1, .int 0), (0, .ref (a 0))]) (pc := 13) F dX8_digest_13 rfl (by decide) rfl ?_
  refine V.sub [1, 0] rfl ?_
  obtain ⟨u6, g7, hf⟩ := bind_of hf
  refine K14 N (0, v.2.1, v.2.2.1, v.2.2.2.1, v.2.2.2.2.1, v.2.2.2.2.2.1, v.2.2.2.2.2.2.1, v.2.2.2.2.2.2.2.1, v.2.2.2.2.2.2.2.2.1, v.2.2.2.2.2.2.2.2.2.1, v.2.2.2.2.2.2.2.2.2.2.1, v.2.2.2.2.2.2.2.2.2.2.2.1, (2803)) 0 u6 g7 ?_
  refine V_aload_n (pc := 36) F dX8_digest_36 rfl 0 rfl ?_
  refine V_aload_n (pc := 37) F dX8_digest_37 rfl 0 rfl ?_
  refine V_get (pc := 38) F 0 8 1 i_X8 rfl (by decide) rfl (mm 4 rfl) dX8_digest_38 rfl rfl ?_
  refine V_iconst (v := 1) (pc := 41) F dX8_digest_41 (by decide) ?_
  obtain ⟨c8, hf⟩ := chk_some hf
  refine V_iald (pc := 42) F 1 rfl c8 dX8_digest_42 ?_
  refine V_i2l (pc := 43) F dX8_digest_43 ?_
  obtain ⟨r9, g10, hf⟩ := bind_of hf
  refine V_V (w2 := wX8 cy a r9) (rest := []) (st2 := []) (pc := 44) F 8 (M_X8_mix l D cy N a u6 (((u6.2.1 (1 : Int32).toNatClampNeg)).toInt64) r9 g10) (cwV 1 F.ts gX8_digest_X8_mix rfl rfl rfl hd_X8_mix ⟨Nat.le_of_ble_eq_true rfl, Nat.le_of_ble_eq_true rfl⟩) rfl dX8_digest_44 Fit.whole fstX8 rfl rfl (Nat.le_of_ble_eq_true rfl) (Nat.zero_le _) (Nat.zero_le _) rfl rfl rfl ?_
  refine V_iconst (v := 0) (pc := 47) F dX8_digest_47 (by decide) ?_
  refine V_istore_n (L2 := [(1, .int 0), (0, .ref (a 0))]) (pc := 48) F dX8_digest_48 rfl (by decide) rfl ?_
  refine V.sub [1, 0] rfl ?_
  obtain ⟨u23, g24, hf⟩ := bind_of hf
  refine K49 N r9 0 u23 g24 ?_
  refine V_iconst (v := 0) (pc := 95) F dX8_digest_95 (by decide) ?_
  refine V_istore_n (L2 := [(1, .int 0), (0, .ref (a 0))]) (pc := 96) F dX8_digest_96 rfl (by decide) rfl ?_
  refine V.sub [1, 0] rfl ?_
  obtain ⟨u29, g30, hf⟩ := bind_of hf
  refine K97 N u23 0 u29 g30 ?_
  refine V_aload_n (pc := 118) F dX8_digest_118 rfl 0 rfl ?_
  refine V_aload_n (pc := 119) F dX8_digest_119 rfl 0 rfl ?_
  obtain ⟨r31, g32, hf⟩ := bind_of hf
  refine V_V (w2 := wX8 cy a r31.2) (rest := [.ref (a 0)]) (st2 := [.int r31.1, .ref (a 0)]) (pc := 120) F 8 (M_X8_slowestOne l D cy N a u29 r31 g32) (cwV 0 F.ts gX8_digest_X8_slowestOne rfl rfl rfl hd_X8_slowestOne ⟨Nat.le_of_ble_eq_true rfl, Nat.le_of_ble_eq_true rfl⟩) rfl dX8_digest_120 Fit.whole fstX8 rfl rfl (Nat.le_of_ble_eq_true rfl) (Nat.zero_le _) (Nat.zero_le _) rfl rfl rfl ?_
  refine V_i2l (pc := 123) F dX8_digest_123 ?_
  obtain ⟨r33, g34, hf⟩ := bind_of hf
  refine V_V (w2 := wX8 cy a r33) (rest := []) (st2 := []) (pc := 124) F 8 (M_X8_mix l D cy N a r31.2 ((r31.1).toInt64) r33 g34) (cwV 1 F.ts gX8_digest_X8_mix rfl rfl rfl hd_X8_mix ⟨Nat.le_of_ble_eq_true rfl, Nat.le_of_ble_eq_true rfl⟩) rfl dX8_digest_124 Fit.whole fstX8 rfl rfl (Nat.le_of_ble_eq_true rfl) (Nat.zero_le _) (Nat.zero_le _) rfl rfl rfl ?_
  refine V_aload_n (pc := 127) F dX8_digest_127 rfl 0 rfl ?_
  refine V_aload_n (pc := 128) F dX8_digest_128 rfl 0 rfl ?_
  obtain ⟨r35, g36, hf⟩ := bind_of hf
  refine V_V (w2 := wX8 cy a r33) (rest := [.ref (a 0)]) (st2 := [.double r35, .ref (a 0)]) (pc := 129) F 8 (M_X8_share l D cy N a r33 r35 g36) (cwV 0 F.ts gX8_digest_X8_share rfl rfl rfl hd_X8_share ⟨Nat.le_of_ble_eq_true rfl, Nat.le_of_ble_eq_true rfl⟩) rfl dX8_digest_129 Fit.whole rfl rfl rfl (Nat.le_of_ble_eq_true rfl) (Nat.zero_le _) (Nat.zero_le _) rfl rfl rfl ?_
  obtain ⟨r37, g38, hf⟩ := bind_of hf
  refine V_Sc (rest := [.ref (a 0)]) (st2 := [.long r37, .ref (a 0)]) (pc := 132) F (M_X8_bitsOf l D cy N r35 r37 g38) (va_cwS 1 F.ts gX8_digest_X8_bitsOf rfl rfl rfl hd_X8_bitsOf ⟨Nat.le_of_ble_eq_true rfl, Nat.le_of_ble_eq_true rfl⟩) rfl dX8_digest_132 (Nat.le_of_ble_eq_true rfl) (Nat.zero_le _) (Nat.zero_le _) rfl rfl ?_
  obtain ⟨r39, g40, hf⟩ := bind_of hf
  refine V_V (w2 := wX8 cy a r39) (rest := []) (st2 := []) (pc := 135) F 8 (M_X8_mix l D cy N a r33 r37 r39 g40) (cwV 1 F.ts gX8_digest_X8_mix rfl rfl rfl hd_X8_mix ⟨Nat.le_of_ble_eq_true rfl, Nat.le_of_ble_eq_true rfl⟩) rfl dX8_digest_135 Fit.whole fstX8 rfl rfl (Nat.le_of_ble_eq_true rfl) (Nat.zero_le _) (Nat.zero_le _) rfl rfl rfl ?_
  refine V_aload_n (pc := 138) F dX8_digest_138 rfl 0 rfl ?_
  refine V_aload_n (pc := 139) F dX8_digest_139 rfl 0 rfl ?_
  refine V_get (pc := 140) F 0 8 5 i_X8 rfl (by decide) rfl (mm 5 rfl) dX8_digest_140 rfl rfl ?_
  refine V_i2l (pc := 143) F dX8_digest_143 ?_
  obtain ⟨r41, g42, hf⟩ := bind_of hf
  refine V_V (w2 := wX8 cy a r41) (rest := []) (st2 := []) (pc := 144) F 8 (M_X8_mix l D cy N a r39 ((r39.2.2.2.2.2.1).toInt64) r41 g42) (cwV 1 F.ts gX8_digest_X8_mix rfl rfl rfl hd_X8_mix ⟨Nat.le_of_ble_eq_true rfl, Nat.le_of_ble_eq_true rfl⟩) rfl dX8_digest_144 Fit.whole fstX8 rfl rfl (Nat.le_of_ble_eq_true rfl) (Nat.zero_le _) (Nat.zero_le _) rfl rfl rfl ?_
  refine V_iconst (v := 0) (pc := 147) F dX8_digest_147 (by decide) ?_
  refine V_istore_n (L2 := [(1, .int 0), (0, .ref (a 0))]) (pc := 148) F dX8_digest_148 rfl (by decide) rfl ?_
  refine V.sub [1, 0] rfl ?_
  obtain ⟨u47, g48, hf⟩ := bind_of hf
  refine K149 N r41 0 u47 g48 ?_
  refine V_aload_n (pc := 174) F dX8_digest_174 rfl 0 rfl ?_
  refine V_get (pc := 175) F 0 8 12 i_X8 rfl (by decide) rfl (mm 3 rfl) dX8_digest_175 rfl rfl ?_
  obtain rfl := some_of hf
  exact V_lret F rfl dX8_digest_178 rfl rfl
