theorem hd_X8_counted : yX8_counted.cls = RX8 ∧ yX8_counted.cls ≠ "java/lang/invoke/MethodHandle" ∧ yX8_counted.cls ≠ "java/lang/invoke/VarHandle" ∧ (parseMethodDescriptor yX8_counted.desc).map (fun d => d.parameters.length) = some 1 := by decide +kernel
def fX8_counted (N : Nat) (v : SX8) (x1 : Int32) : Option (Int32) :=
  if x1 = 0 then
    chk 0 143 (
      some (v.2.1 (0 : Int32).toNatClampNeg)
    )
  else
  if x1 = 1 then
    chk 2 143 (
      some (v.2.1 (2 : Int32).toNatClampNeg)
    )
  else
  if x1 = 2 then
    chk 2 143 (
      if (v.2.1 (2 : Int32).toNatClampNeg) = (-1) then
        some (-1)
      else
        (fX8_isClearing N v).bind fun r8 =>
          if r8 = 0 then
            chk 3 143 (
              some (v.2.1 (3 : Int32).toNatClampNeg)
            )
          else
            some (-1)
    )
  else
  if x1 = 3 then
    chk 4 143 (
      some (v.2.1 (4 : Int32).toNatClampNeg)
    )
  else
  if x1 = 4 then
    (fX8_greensNow N v).bind fun r15 =>
      some r15
  else
  if x1 = 5 then
    (fX8_waiting N v).bind fun r18 =>
      some r18
  else
  if x1 = 6 then
    (fX8_clashing N v 255).bind fun r21 =>
      some r21
  else
  if x1 = 7 then
    (fX8_comers N v).bind fun r24 =>
      (fX8_bits N r24).bind fun r26 =>
        some r26
  else
  if x1 = 8 then
    (fX8_comers N v).bind fun r29 =>
      (fX8_clashing N v r29).bind fun r31 =>
        some r31
  else
  if x1 = 9 then
    chk 6 143 (
      some (v.2.1 (6 : Int32).toNatClampNeg)
    )
  else
  if x1 = 10 then
    (fX8_starving N v).bind fun r36 =>
      some r36
  else
  some v.2.2.2.1
set_option maxHeartbeats 8000000 in
set_option maxRecDepth 100000 in
theorem M_X8_counted (l : Launch) (D : va_G) (cy : Nat → ClassId) (N : Nat) (a : Nat → Nat) (v : SX8) (x1 : Int32) (o : Int32) (hf : fX8_counted N v x1 = some o) : okM l yX8_counted wsX8_counted (rmz 9 213) D cy [.ref (a 0), .int x1] (wX8 cy a v) (wX8 cy a v) (some (.int o)) := by
  refine okM_of (own := RX8) (nme := "counted") (cc := cX8_counted) (maxL := 2) (ret := (some .int)) (by decide) rfl rfl rfl (Nat.le_of_ble_eq_true rfl) ?_
  intro p e s m args below meth c A F
  have i_X8 : ∀ w ∈ u_ws RX8 TX8 13, w ∈ wsX8_counted := fun _ h => List.mem_cons_of_mem _ (List.mem_append_right _ h)
  unfold fX8_counted at hf
  refine V.eq rfl (show lv_args 0 [.ref (a 0), .int x1] = [(0, .ref (a 0)), (1, .int x1)] from rfl) rfl ?_
  refine V_iload_n (pc := 0) F dX8_counted_0 rfl 1 rfl ?_
  by_cases h1 : x1 = 0
  · replace hf := ite_pos hf h1
    refine V_tableIn (pc := 1) (tgt := 60) F dX8_counted_1 (by rw [h1]; decide) (by rw [h1]; decide) (by rw [h1]; rfl) (by decide) ?_
    refine V_aload_n (pc := 60) F dX8_counted_60 rfl 0 rfl ?_
    refine V_get (pc := 61) F 0 8 1 i_X8 rfl (by decide) rfl (mm 1 rfl) dX8_counted_61 rfl rfl ?_
    refine V_iconst (v := 0) (pc := 64) F dX8_counted_64 (by decide) ?_
    obtain ⟨c2, hf⟩ := chk_some hf
    refine V_iald (pc := 65) F 1 rfl c2 dX8_counted_65 ?_
    obtain rfl := some_of hf
    exact V_ret F rfl rfl dX8_counted_66 rfl rfl
  replace hf := ite_neg hf h1
  by_cases h3 : x1 = 1
  · replace hf := ite_pos hf h3
    refine V_tableIn (pc := 1) (tgt := 67) F dX8_counted_1 (by rw [h3]; decide) (by rw [h3]; decide) (by rw [h3]; rfl) (by decide) ?_
    refine V_aload_n (pc := 67) F dX8_counted_67 rfl 0 rfl ?_
    refine V_get (pc := 68) F 0 8 1 i_X8 rfl (by decide) rfl (mm 1 rfl) dX8_counted_68 rfl rfl ?_
    refine V_iconst (v := 2) (pc := 71) F dX8_counted_71 (by decide) ?_
    obtain ⟨c4, hf⟩ := chk_some hf
    refine V_iald (pc := 72) F 1 rfl c4 dX8_counted_72 ?_
    obtain rfl := some_of hf
    exact V_ret F rfl rfl dX8_counted_73 rfl rfl
  replace hf := ite_neg hf h3
  by_cases h5 : x1 = 2
  · replace hf := ite_pos hf h5
    refine V_tableIn (pc := 1) (tgt := 74) F dX8_counted_1 (by rw [h5]; decide) (by rw [h5]; decide) (by rw [h5]; rfl) (by decide) ?_
    refine V_aload_n (pc := 74) F dX8_counted_74 rfl 0 rfl ?_
    refine V_get (pc := 75) F 0 8 1 i_X8 rfl (by decide) rfl (mm 1 rfl) dX8_counted_75 rfl rfl ?_
    refine V_iconst (v := 2) (pc := 78) F dX8_counted_78 (by decide) ?_
    obtain ⟨c6, hf⟩ := chk_some hf
    refine V_iald (pc := 79) F 1 rfl c6 dX8_counted_79 ?_
    refine V_iconst (v := (-1)) (pc := 80) F dX8_counted_80 (by decide) ?_
    refine V_icmp_eq (pc := 81) (tgt := 91) F dX8_counted_81 (by decide) (fun h7 => ?_) (fun h7 => ?_)
    · replace hf := ite_pos hf h7
      refine V_iconst (v := (-1)) (pc := 91) F dX8_counted_91 (by decide) ?_
      refine V_goto (pc := 92) (tgt := 101) F dX8_counted_92 (by decide) ?_
      obtain rfl := some_of hf
      exact V_ret F rfl rfl dX8_counted_101 rfl rfl
    · replace hf := ite_neg hf h7
      refine V_aload_n (pc := 84) F dX8_counted_84 rfl 0 rfl ?_
      obtain ⟨r8, g9, hf⟩ := bind_of hf
      refine V_V (w2 := wX8 cy a v) (rest := []) (st2 := [.int r8]) (pc := 85) F 8 (M_X8_isClearing l D cy N a v r8 g9) (cwV 0 F.ts gX8_counted_X8_isClearing rfl rfl rfl hd_X8_isClearing ⟨Nat.le_of_ble_eq_true rfl, Nat.le_of_ble_eq_true rfl⟩) rfl dX8_counted_85 Fit.whole rfl rfl rfl (Nat.le_of_ble_eq_true rfl) (Nat.zero_le _) (Nat.zero_le _) rfl rfl rfl ?_
      refine V_if_eq (pc := 88) (tgt := 95) F dX8_counted_88 (by decide) (fun h10 => ?_) (fun h10 => ?_)
      · replace hf := ite_pos hf h10
        refine V_aload_n (pc := 95) F dX8_counted_95 rfl 0 rfl ?_
        refine V_get (pc := 96) F 0 8 1 i_X8 rfl (by decide) rfl (mm 1 rfl) dX8_counted_96 rfl rfl ?_
        refine V_iconst (v := 3) (pc := 99) F dX8_counted_99 (by decide) ?_
        obtain ⟨c11, hf⟩ := chk_some hf
        refine V_iald (pc := 100) F 1 rfl c11 dX8_counted_100 ?_
        obtain rfl := some_of hf
        exact V_ret F rfl rfl dX8_counted_101 rfl rfl
      · replace hf := ite_neg hf h10
        refine V_iconst (v := (-1)) (pc := 91) F dX8_counted_91 (by decide) ?_
        refine V_goto (pc := 92) (tgt := 101) F dX8_counted_92 (by decide) ?_
        obtain rfl := some_of hf
        exact V_ret F rfl rfl dX8_counted_101 rfl rfl
  replace hf := ite_neg hf h5
  by_cases h12 : x1 = 3
  · replace hf := ite_pos hf h12
    refine V_tableIn (pc := 1) (tgt := 102) F dX8_counted_1 (by rw [h12]; decide) (by rw [h12]; decide) (by rw [h12]; rfl) (by decide) ?_
    refine V_aload_n (pc := 102) F dX8_counted_102 rfl 0 rfl ?_
    refine V_get (pc := 103) F 0 8 1 i_X8 rfl (by decide) rfl (mm 1 rfl) dX8_counted_103 rfl rfl ?_
    refine V_iconst (v := 4) (pc := 106) F dX8_counted_106 (by decide) ?_
    obtain ⟨c13, hf⟩ := chk_some hf
    refine V_iald (pc := 107) F 1 rfl c13 dX8_counted_107 ?_
    obtain rfl := some_of hf
    exact V_ret F rfl rfl dX8_counted_108 rfl rfl
  replace hf := ite_neg hf h12
  by_cases h14 : x1 = 4
  · replace hf := ite_pos hf h14
    refine V_tableIn (pc := 1) (tgt := 109) F dX8_counted_1 (by rw [h14]; decide) (by rw [h14]; decide) (by rw [h14]; rfl) (by decide) ?_
    refine V_aload_n (pc := 109) F dX8_counted_109 rfl 0 rfl ?_
    obtain ⟨r15, g16, hf⟩ := bind_of hf
    refine V_V (w2 := wX8 cy a v) (rest := []) (st2 := [.int r15]) (pc := 110) F 8 (M_X8_greensNow l D cy N a v r15 g16) (cwV 0 F.ts gX8_counted_X8_greensNow rfl rfl rfl hd_X8_greensNow ⟨Nat.le_of_ble_eq_true rfl, Nat.le_of_ble_eq_true rfl⟩) rfl dX8_counted_110 Fit.whole rfl rfl rfl (Nat.le_of_ble_eq_true rfl) (Nat.zero_le _) (Nat.zero_le _) rfl rfl rfl ?_
    obtain rfl := some_of hf
    exact V_ret F rfl rfl dX8_counted_113 rfl rfl
  replace hf := ite_neg hf h14
  by_cases h17 : x1 = 5
  · replace hf := ite_pos hf h17
    refine V_tableIn (pc := 1) (tgt := 114) F dX8_counted_1 (by rw [h17]; decide) (by rw [h17]; decide) (by rw [h17]; rfl) (by decide) ?_
    refine V_aload_n (pc := 114) F dX8_counted_114 rfl 0 rfl ?_
    obtain ⟨r18, g19, hf⟩ := bind_of hf
    refine V_V (w2 := wX8 cy a v) (rest := []) (st2 := [.int r18]) (pc := 115) F 8 (M_X8_waiting l D cy N a v r18 g19) (cwV 0 F.ts gX8_counted_X8_waiting rfl rfl rfl hd_X8_waiting ⟨Nat.le_of_ble_eq_true rfl, Nat.le_of_ble_eq_true rfl⟩) rfl dX8_counted_115 Fit.whole rfl rfl rfl (Nat.le_of_ble_eq_true rfl) (Nat.zero_le _) (Nat.zero_le _) rfl rfl rfl ?_
    obtain rfl := some_of hf
    exact V_ret F rfl rfl dX8_counted_118 rfl rfl
  replace hf := ite_neg hf h17
  by_cases h20 : x1 = 6
  · replace hf := ite_pos hf h20
    refine V_tableIn (pc := 1) (tgt := 119) F dX8_counted_1 (by rw [h20]; decide) (by rw [h20]; decide) (by rw [h20]; rfl) (by decide) ?_
    refine V_aload_n (pc := 119) F dX8_counted_119 rfl 0 rfl ?_
    refine V_sipush (v := 255) (pc := 120) F dX8_counted_120 (by decide) ?_
    obtain ⟨r21, g22, hf⟩ := bind_of hf
    refine V_V (w2 := wX8 cy a v) (rest := []) (st2 := [.int r21]) (pc := 123) F 8 (M_X8_clashing l D cy N a v 255 r21 g22) (cwV 1 F.ts gX8_counted_X8_clashing rfl rfl rfl hd_X8_clashing ⟨Nat.le_of_ble_eq_true rfl, Nat.le_of_ble_eq_true rfl⟩) rfl dX8_counted_123 Fit.whole rfl rfl rfl (Nat.le_of_ble_eq_true rfl) (Nat.zero_le _) (Nat.zero_le _) rfl rfl rfl ?_
    obtain rfl := some_of hf
    exact V_ret F rfl rfl dX8_counted_126 rfl rfl
  replace hf := ite_neg hf h20
  by_cases h23 : x1 = 7
  · replace hf := ite_pos hf h23
    refine V_tableIn (pc := 1) (tgt := 127) F dX8_counted_1 (by rw [h23]; decide) (by rw [h23]; decide) (by rw [h23]; rfl) (by decide) ?_
    refine V_aload_n (pc := 127) F dX8_counted_127 rfl 0 rfl ?_
    obtain ⟨r24, g25, hf⟩ := bind_of hf
    refine V_V (w2 := wX8 cy a v) (rest := []) (st2 := [.int r24]) (pc := 128) F 8 (M_X8_comers l D cy N a v r24 g25) (cwV 0 F.ts gX8_counted_X8_comers rfl rfl rfl hd_X8_comers ⟨Nat.le_of_ble_eq_true rfl, Nat.le_of_ble_eq_true rfl⟩) rfl dX8_counted_128 Fit.whole rfl rfl rfl (Nat.le_of_ble_eq_true rfl) (Nat.zero_le _) (Nat.zero_le _) rfl rfl rfl ?_
    obtain ⟨r26, g27, hf⟩ := bind_of hf
    refine V_Sc (rest := []) (st2 := [.int r26]) (pc := 131) F (M_X8_bits l D cy N r24 r26 g27) (va_cwS 1 F.ts gX8_counted_X8_bits rfl rfl rfl hd_X8_bits ⟨Nat.le_of_ble_eq_true rfl, Nat.le_of_ble_eq_true rfl⟩) rfl dX8_counted_131 (Nat.le_of_ble_eq_true rfl) (Nat.zero_le _) (Nat.zero_le _) rfl rfl ?_
    obtain rfl := some_of hf
    exact V_ret F rfl rfl dX8_counted_134 rfl rfl
  replace hf := ite_neg hf h23
  by_cases h28 : x1 = 8
  · replace hf := ite_pos hf h28
    refine V_tableIn (pc := 1) (tgt := 135) F dX8_counted_1 (by rw [h28]; decide) (by rw [h28]; decide) (by rw [h28]; rfl) (by decide) ?_
    refine V_aload_n (pc := 135) F dX8_counted_135 rfl 0 rfl ?_
    refine V_aload_n (pc := 136) F dX8_counted_136 rfl 0 rfl ?_
    obtain ⟨r29, g30, hf⟩ := bind_of hf
    refine V_V (w2 := wX8 cy a v) (rest := [.ref (a 0)]) (st2 := [.int r29, .ref (a 0)]) (pc := 137) F 8 (M_X8_comers l D cy N a v r29 g30) (cwV 0 F.ts gX8_counted_X8_comers rfl rfl rfl hd_X8_comers ⟨Nat.le_of_ble_eq_true rfl, Nat.le_of_ble_eq_true rfl⟩) rfl dX8_counted_137 Fit.whole rfl rfl rfl (Nat.le_of_ble_eq_true rfl) (Nat.zero_le _) (Nat.zero_le _) rfl rfl rfl ?_
    obtain ⟨r31, g32, hf⟩ := bind_of hf
    refine V_V (w2 := wX8 cy a v) (rest := []) (st2 := [.int r31]) (pc := 140) F 8 (M_X8_clashing l D cy N a v r29 r31 g32) (cwV 1 F.ts gX8_counted_X8_clashing rfl rfl rfl hd_X8_clashing ⟨Nat.le_of_ble_eq_true rfl, Nat.le_of_ble_eq_true rfl⟩) rfl dX8_counted_140 Fit.whole rfl rfl rfl (Nat.le_of_ble_eq_true rfl) (Nat.zero_le _) (Nat.zero_le _) rfl rfl rfl ?_
    obtain rfl := some_of hf
    exact V_ret F rfl rfl dX8_counted_143 rfl rfl
  replace hf := ite_neg hf h28
  by_cases h33 : x1 = 9
  · replace hf := ite_pos hf h33
    refine V_tableIn (pc := 1) (tgt := 144) F dX8_counted_1 (by rw [h33]; decide) (by rw [h33]; decide) (by rw [h33]; rfl) (by decide) ?_
    refine V_aload_n (pc := 144) F dX8_counted_144 rfl 0 rfl ?_
    refine V_get (pc := 145) F 0 8 1 i_X8 rfl (by decide) rfl (mm 1 rfl) dX8_counted_145 rfl rfl ?_
    refine V_bipush (v := 6) (pc := 148) F dX8_counted_148 (by decide) ?_
    obtain ⟨c34, hf⟩ := chk_some hf
    refine V_iald (pc := 150) F 1 rfl c34 dX8_counted_150 ?_
    obtain rfl := some_of hf
    exact V_ret F rfl rfl dX8_counted_151 rfl rfl
  replace hf := ite_neg hf h33
  by_cases h35 : x1 = 10
  · replace hf := ite_pos hf h35
    refine V_tableIn (pc := 1) (tgt := 152) F dX8_counted_1 (by rw [h35]; decide) (by rw [h35]; decide) (by rw [h35]; rfl) (by decide) ?_
    refine V_aload_n (pc := 152) F dX8_counted_152 rfl 0 rfl ?_
    obtain ⟨r36, g37, hf⟩ := bind_of hf
    refine V_V (w2 := wX8 cy a v) (rest := []) (st2 := [.int r36]) (pc := 153) F 8 (M_X8_starving l D cy N a v r36 g37) (cwV 0 F.ts gX8_counted_X8_starving rfl rfl rfl hd_X8_starving ⟨Nat.le_of_ble_eq_true rfl, Nat.le_of_ble_eq_true rfl⟩) rfl dX8_counted_153 Fit.whole rfl rfl rfl (Nat.le_of_ble_eq_true rfl) (Nat.zero_le _) (Nat.zero_le _) rfl rfl rfl ?_
    obtain rfl := some_of hf
    exact V_ret F rfl rfl dX8_counted_156 rfl rfl
  replace hf := ite_neg hf h35
  refine V_tableOut (pc := 1) (tgt := 157) F dX8_counted_1 (by have q0 := lv_neT h1 (a := 0) rfl; have q1 := lv_neT h3 (a := 1) rfl; have q2 := lv_neT h5 (a := 2) rfl; have q3 := lv_neT h12 (a := 3) rfl; have q4 := lv_neT h14 (a := 4) rfl; have q5 := lv_neT h17 (a := 5) rfl; have q6 := lv_neT h20 (a := 6) rfl; have q7 := lv_neT h23 (a := 7) rfl; have q8 := lv_neT h28 (a := 8) rfl; have q9 := lv_neT h33 (a := 9) rfl; have q10 := lv_neT h35 (a := 10) rfl; omega) (by decide) ?_
  refine V_aload_n (pc := 157) F dX8_counted_157 rfl 0 rfl ?_
  refine V_get (pc := 158) F 0 8 3 i_X8 rfl (by decide) rfl (mm 2 rfl) dX8_counted_158 rfl rfl ?_
  obtain rfl := some_of hf
  exact V_ret F rfl rfl dX8_counted_161 rfl rfl
