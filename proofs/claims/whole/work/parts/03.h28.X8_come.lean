theorem hd_X8_come : yX8_come.cls = RX8 ∧ yX8_come.cls ≠ "java/lang/invoke/MethodHandle" ∧ yX8_come.cls ≠ "java/lang/invoke/VarHandle" ∧ (parseMethodDescriptor yX8_come.desc).map (fun d => d.parameters.length) = some 1 := by decide +kernel
def fX8_come (N : Nat) (v : SX8) (x1 : Int32) : Option (Int32 × SX8) :=
  (fX8_isDirection N x1).bind fun r1 =>
    if r1 = 0 then
      some (0, (1, v.2))
    else
      (fX8_save N (0, v.2)).bind fun r6 =>
        chk ((13 : Int32) + x1) 143 (
          if (r6.2.1 ((13 : Int32) + x1).toNatClampNeg) = (-1) then
            chk ((13 : Int32) + x1) 143 (
              nmd (upd r6.2.1 ((13 : Int32) + x1).toNatClampNeg (0 : Int32)) fun f16 =>
              chk ((13 : Int32) + x1) 143 (
                some ((f16 ((13 : Int32) + x1).toNatClampNeg), (r6.1, f16, r6.2.2))
              )
            )
          else
            chk ((13 : Int32) + x1) 143 (
              chk ((13 : Int32) + x1) 143 (
                nmd (upd r6.2.1 ((13 : Int32) + x1).toNatClampNeg (r6.2.1 ((13 : Int32) + x1).toNatClampNeg)) fun f12 =>
                chk ((13 : Int32) + x1) 143 (
                  some ((f12 ((13 : Int32) + x1).toNatClampNeg), (r6.1, f12, r6.2.2))
                )
              )
            )
        )
set_option maxHeartbeats 8000000 in
set_option maxRecDepth 100000 in
theorem M_X8_come (l : Launch) (D : va_G) (cy : Nat → ClassId) (N : Nat) (a : Nat → Nat) (v : SX8) (x1 : Int32) (o : Int32 × SX8) (hf : fX8_come N v x1 = some o) : okM l yX8_come wsX8_come (rmz 2 42) D cy [.ref (a 0), .int x1] (wX8 cy a v) (wX8 cy a o.2) (some (.int o.1)) := by
  refine okM_of (own := RX8) (nme := "come") (cc := cX8_come) (maxL := 2) (ret := (some .int)) (by decide) rfl rfl rfl (Nat.le_of_ble_eq_true rfl) ?_
  intro p e s m args below meth c A F
  have i_X8 : ∀ w ∈ u_ws RX8 TX8 13, w ∈ wsX8_come := fun _ h => List.mem_cons_of_mem _ (List.mem_append_right _ h)
  unfold fX8_come at hf
  refine V.eq rfl (show lv_args 0 [.ref (a 0), .int x1] = [(0, .ref (a 0)), (1, .int x1)] from rfl) rfl ?_
  refine V_aload_n (pc := 0) F dX8_come_0 rfl 0 rfl ?_
  refine V_iload_n (pc := 1) F dX8_come_1 rfl 1 rfl ?_
  obtain ⟨r1, g2, hf⟩ := bind_of hf
  refine V_Sc (rest := [.ref (a 0)]) (st2 := [.int r1, .ref (a 0)]) (pc := 2) F (M_X8_isDirection l D cy N x1 r1 g2) (va_cwS 1 F.ts gX8_come_X8_isDirection rfl rfl rfl hd_X8_isDirection ⟨Nat.le_of_ble_eq_true rfl, Nat.le_of_ble_eq_true rfl⟩) rfl dX8_come_2 (Nat.le_of_ble_eq_true rfl) (Nat.zero_le _) (Nat.zero_le _) rfl rfl ?_
  refine V_if_eq (pc := 5) (tgt := 12) F dX8_come_5 (by decide) (fun h3 => ?_) (fun h3 => ?_)
  · replace hf := ite_pos hf h3
    refine V_iconst (v := 1) (pc := 12) F dX8_come_12 (by decide) ?_
    refine V_put (w2 := wX8 cy a (1, v.2)) (pc := 13) F 0 8 0 i_X8 tyX8 tyX8_ok nmX8 rfl (by decide) rfl (mm 1 rfl) rfl dX8_come_13 rfl rfl rfl (Nat.le_of_ble_eq_true rfl) rfl ?_
    refine V_aload_n (pc := 16) F dX8_come_16 rfl 0 rfl ?_
    refine V_get (pc := 17) F 0 8 0 i_X8 rfl (by decide) rfl (mm 1 rfl) dX8_come_17 rfl rfl ?_
    refine V_if_le (pc := 20) (tgt := 25) F dX8_come_20 (by decide) (fun h4 => ?_) (fun h4 => ?_)
    · exact absurd h4 (show ¬ ((1 : Int32) ≤ (0 : Int32)) by decide)
    · refine V_iconst (v := 0) (pc := 23) F dX8_come_23 (by decide) ?_
      obtain rfl := some_of hf
      exact V_ret F rfl rfl dX8_come_24 rfl rfl
  · replace hf := ite_neg hf h3
    refine V_iconst (v := 0) (pc := 8) F dX8_come_8 (by decide) ?_
    refine V_goto (pc := 9) (tgt := 13) F dX8_come_9 (by decide) ?_
    refine V_put (w2 := wX8 cy a (0, v.2)) (pc := 13) F 0 8 0 i_X8 tyX8 tyX8_ok nmX8 rfl (by decide) rfl (mm 1 rfl) rfl dX8_come_13 rfl rfl rfl (Nat.le_of_ble_eq_true rfl) rfl ?_
    refine V_aload_n (pc := 16) F dX8_come_16 rfl 0 rfl ?_
    refine V_get (pc := 17) F 0 8 0 i_X8 rfl (by decide) rfl (mm 1 rfl) dX8_come_17 rfl rfl ?_
    refine V_if_le (pc := 20) (tgt := 25) F dX8_come_20 (by decide) (fun h5 => ?_) (fun h5 => ?_)
    · refine V_aload_n (pc := 25) F dX8_come_25 rfl 0 rfl ?_
      obtain ⟨r6, g7, hf⟩ := bind_of hf
      refine V_V (w2 := wX8 cy a r6) (rest := []) (st2 := []) (pc := 26) F 8 (M_X8_save l D cy N a (0, v.2) r6 g7) (cwV 0 F.ts gX8_come_X8_save rfl rfl rfl hd_X8_save ⟨Nat.le_of_ble_eq_true rfl, Nat.le_of_ble_eq_true rfl⟩) rfl dX8_come_26 Fit.whole fstX8 rfl rfl (Nat.le_of_ble_eq_true rfl) (Nat.zero_le _) (Nat.zero_le _) rfl rfl rfl ?_
      refine V_aload_n (pc := 29) F dX8_come_29 rfl 0 rfl ?_
      refine V_get (pc := 30) F 0 8 1 i_X8 rfl (by decide) rfl (mm 2 rfl) dX8_come_30 rfl rfl ?_
      refine V_bipush (v := 13) (pc := 33) F dX8_come_33 (by decide) ?_
      refine V_iload_n (pc := 35) F dX8_come_35 rfl 1 rfl ?_
      refine V_iadd (pc := 36) F dX8_come_36 ?_
      refine V_aload_n (pc := 37) F dX8_come_37 rfl 0 rfl ?_
      refine V_get (pc := 38) F 0 8 1 i_X8 rfl (by decide) rfl (mm 2 rfl) dX8_come_38 rfl rfl ?_
      refine V_bipush (v := 13) (pc := 41) F dX8_come_41 (by decide) ?_
      refine V_iload_n (pc := 43) F dX8_come_43 rfl 1 rfl ?_
      refine V_iadd (pc := 44) F dX8_come_44 ?_
      obtain ⟨c8, hf⟩ := chk_some hf
      refine V_iald (pc := 45) F 1 rfl c8 dX8_come_45 ?_
      refine V_iconst (v := (-1)) (pc := 46) F dX8_come_46 (by decide) ?_
      refine V_icmp_ne (pc := 47) (tgt := 54) F dX8_come_47 (by decide) (fun h9 => ?_) (fun h9 => ?_)
      · replace hf := ite_neg hf h9
        refine V_aload_n (pc := 54) F dX8_come_54 rfl 0 rfl ?_
        refine V_get (pc := 55) F 0 8 1 i_X8 rfl (by decide) rfl (mm 2 rfl) dX8_come_55 rfl rfl ?_
        refine V_bipush (v := 13) (pc := 58) F dX8_come_58 (by decide) ?_
        refine V_iload_n (pc := 60) F dX8_come_60 rfl 1 rfl ?_
        refine V_iadd (pc := 61) F dX8_come_61 ?_
        obtain ⟨c10, hf⟩ := chk_some hf
        refine V_iald (pc := 62) F 1 rfl c10 dX8_come_62 ?_
        obtain ⟨c11, hf⟩ := chk_some hf
        obtain ⟨f12, e13, hf⟩ := nmd_of hf
        refine V_iast (w2 := wX8 cy a (r6.1, f12, r6.2.2)) (pc := 63) F 1 rfl c11 e13 dX8_come_63 rfl ?_
        refine V_aload_n (pc := 64) F dX8_come_64 rfl 0 rfl ?_
        refine V_get (pc := 65) F 0 8 1 i_X8 rfl (by decide) rfl (mm 2 rfl) dX8_come_65 rfl rfl ?_
        refine V_bipush (v := 13) (pc := 68) F dX8_come_68 (by decide) ?_
        refine V_iload_n (pc := 70) F dX8_come_70 rfl 1 rfl ?_
        refine V_iadd (pc := 71) F dX8_come_71 ?_
        obtain ⟨c14, hf⟩ := chk_some hf
        refine V_iald (pc := 72) F 1 rfl c14 dX8_come_72 ?_
        obtain rfl := some_of hf
        exact V_ret F rfl rfl dX8_come_73 rfl rfl
      · replace hf := ite_pos hf h9
        refine V_iconst (v := 0) (pc := 50) F dX8_come_50 (by decide) ?_
        refine V_goto (pc := 51) (tgt := 63) F dX8_come_51 (by decide) ?_
        obtain ⟨c15, hf⟩ := chk_some hf
        obtain ⟨f16, e17, hf⟩ := nmd_of hf
        refine V_iast (w2 := wX8 cy a (r6.1, f16, r6.2.2)) (pc := 63) F 1 rfl c15 e17 dX8_come_63 rfl ?_
        refine V_aload_n (pc := 64) F dX8_come_64 rfl 0 rfl ?_
        refine V_get (pc := 65) F 0 8 1 i_X8 rfl (by decide) rfl (mm 2 rfl) dX8_come_65 rfl rfl ?_
        refine V_bipush (v := 13) (pc := 68) F dX8_come_68 (by decide) ?_
        refine V_iload_n (pc := 70) F dX8_come_70 rfl 1 rfl ?_
        refine V_iadd (pc := 71) F dX8_come_71 ?_
        obtain ⟨c18, hf⟩ := chk_some hf
        refine V_iald (pc := 72) F 1 rfl c18 dX8_come_72 ?_
        obtain rfl := some_of hf
        exact V_ret F rfl rfl dX8_come_73 rfl rfl
    · exact absurd h5 (show ¬ (¬ ((0 : Int32) ≤ (0 : Int32))) by decide)
