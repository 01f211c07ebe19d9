theorem hd_X8_append : yX8_append.cls = RX8 ∧ yX8_append.cls ≠ "java/lang/invoke/MethodHandle" ∧ yX8_append.cls ≠ "java/lang/invoke/VarHandle" ∧ (parseMethodDescriptor yX8_append.desc).map (fun d => d.parameters.length) = some 1 := by decide +kernel
def fX8_append (N : Nat) (v : SX8) (x1 : Int32) : Option (Int32 × SX8) :=
  (fX8_in N x1 33 126).bind fun r1 =>
    if r1 = 0 then
      some (0, (1, v.2))
    else
      if v.2.2.2.2.2.1 = 60 then
        some (0, (2, v.2))
      else
        chk v.2.2.2.2.2.1 60 (
          nmd (upd v.2.2.2.2.1 v.2.2.2.2.2.1.toNatClampNeg x1) fun f7 =>
          some ((v.2.2.2.2.2.1 + 1), (0, v.2.1, v.2.2.1, v.2.2.2.1, f7, (v.2.2.2.2.2.1 + 1), v.2.2.2.2.2.2))
        )
set_option maxHeartbeats 8000000 in
set_option maxRecDepth 100000 in
theorem M_X8_append (l : Launch) (D : va_G) (cy : Nat → ClassId) (N : Nat) (a : Nat → Nat) (v : SX8) (x1 : Int32) (o : Int32 × SX8) (hf : fX8_append N v x1 = some o) : okM l yX8_append wsX8_append (rmz 1 22) D cy [.ref (a 0), .int x1] (wX8 cy a v) (wX8 cy a o.2) (some (.int o.1)) := by
  refine okM_of (own := RX8) (nme := "append") (cc := cX8_append) (maxL := 2) (ret := (some .int)) (by decide) rfl rfl rfl (Nat.le_of_ble_eq_true rfl) ?_
  intro p e s m args below meth c A F
  have i_X8 : ∀ w ∈ u_ws RX8 TX8 13, w ∈ wsX8_append := fun _ h => List.mem_cons_of_mem _ (List.mem_append_right _ h)
  unfold fX8_append at hf
  refine V.eq rfl (show lv_args 0 [.ref (a 0), .int x1] = [(0, .ref (a 0)), (1, .int x1)] from rfl) rfl ?_
  refine V_aload_n (pc := 0) F dX8_append_0 rfl 0 rfl ?_
  refine V_iload_n (pc := 1) F dX8_append_1 rfl 1 rfl ?_
  refine V_bipush (v := 33) (pc := 2) F dX8_append_2 (by decide) ?_
  refine V_bipush (v := 126) (pc := 4) F dX8_append_4 (by decide) ?_
  obtain ⟨r1, g2, hf⟩ := bind_of hf
  refine V_Sc (rest := [.ref (a 0)]) (st2 := [.int r1, .ref (a 0)]) (pc := 6) F (M_X8_in l D cy N x1 33 126 r1 g2) (va_cwS 3 F.ts gX8_append_X8_in rfl rfl rfl hd_X8_in ⟨Nat.le_of_ble_eq_true rfl, Nat.le_of_ble_eq_true rfl⟩) rfl dX8_append_6 (Nat.le_of_ble_eq_true rfl) (Nat.zero_le _) (Nat.zero_le _) rfl rfl ?_
  refine V_if_ne (pc := 9) (tgt := 16) F dX8_append_9 (by decide) (fun h3 => ?_) (fun h3 => ?_)
  · replace hf := ite_neg hf h3
    refine V_aload_n (pc := 16) F dX8_append_16 rfl 0 rfl ?_
    refine V_get (pc := 17) F 0 8 5 i_X8 rfl (by decide) rfl (mm 1 rfl) dX8_append_17 rfl rfl ?_
    refine V_bipush (v := 60) (pc := 20) F dX8_append_20 (by decide) ?_
    refine V_icmp_ne (pc := 22) (tgt := 29) F dX8_append_22 (by decide) (fun h4 => ?_) (fun h4 => ?_)
    · replace hf := ite_neg hf h4
      refine V_iconst (v := 0) (pc := 29) F dX8_append_29 (by decide) ?_
      refine V_put (w2 := wX8 cy a (0, v.2)) (pc := 30) F 0 8 0 i_X8 tyX8 tyX8_ok nmX8 rfl (by decide) rfl (mm 2 rfl) rfl dX8_append_30 rfl rfl rfl (Nat.le_of_ble_eq_true rfl) rfl ?_
      refine V_aload_n (pc := 33) F dX8_append_33 rfl 0 rfl ?_
      refine V_get (pc := 34) F 0 8 0 i_X8 rfl (by decide) rfl (mm 2 rfl) dX8_append_34 rfl rfl ?_
      refine V_if_le (pc := 37) (tgt := 42) F dX8_append_37 (by decide) (fun h5 => ?_) (fun h5 => ?_)
      · refine V_aload_n (pc := 42) F dX8_append_42 rfl 0 rfl ?_
        refine V_get (pc := 43) F 0 8 4 i_X8 rfl (by decide) rfl (mm 3 rfl) dX8_append_43 rfl rfl ?_
        refine V_aload_n (pc := 46) F dX8_append_46 rfl 0 rfl ?_
        refine V_get (pc := 47) F 0 8 5 i_X8 rfl (by decide) rfl (mm 1 rfl) dX8_append_47 rfl rfl ?_
        refine V_iload_n (pc := 50) F dX8_append_50 rfl 1 rfl ?_
        obtain ⟨c6, hf⟩ := chk_some hf
        obtain ⟨f7, e8, hf⟩ := nmd_of hf
        refine V_iast (w2 := wX8 cy a (0, v.2.1, v.2.2.1, v.2.2.2.1, f7, v.2.2.2.2.2)) (pc := 51) F 3 rfl c6 e8 dX8_append_51 rfl ?_
        refine V_aload_n (pc := 52) F dX8_append_52 rfl 0 rfl ?_
        refine V_dup (pc := 53) F dX8_append_53 rfl ?_
        refine V_get (pc := 54) F 0 8 5 i_X8 rfl (by decide) rfl (mm 1 rfl) dX8_append_54 rfl rfl ?_
        refine V_iconst (v := 1) (pc := 57) F dX8_append_57 (by decide) ?_
        refine V_iadd (pc := 58) F dX8_append_58 ?_
        refine V_put (w2 := wX8 cy a (0, v.2.1, v.2.2.1, v.2.2.2.1, f7, (v.2.2.2.2.2.1 + 1), v.2.2.2.2.2.2)) (pc := 59) F 0 8 5 i_X8 tyX8 tyX8_ok nmX8 rfl (by decide) rfl (mm 1 rfl) rfl dX8_append_59 rfl rfl rfl (Nat.le_of_ble_eq_true rfl) rfl ?_
        refine V_aload_n (pc := 62) F dX8_append_62 rfl 0 rfl ?_
        refine V_get (pc := 63) F 0 8 5 i_X8 rfl (by decide) rfl (mm 1 rfl) dX8_append_63 rfl rfl ?_
        obtain rfl := some_of hf
        exact V_ret F rfl rfl dX8_append_66 rfl rfl
      · exact absurd h5 (show ¬ (¬ ((0 : Int32) ≤ (0 : Int32))) by decide)
    · replace hf := ite_pos hf h4
      refine V_iconst (v := 2) (pc := 25) F dX8_append_25 (by decide) ?_
      refine V_goto (pc := 26) (tgt := 30) F dX8_append_26 (by decide) ?_
      refine V_put (w2 := wX8 cy a (2, v.2)) (pc := 30) F 0 8 0 i_X8 tyX8 tyX8_ok nmX8 rfl (by decide) rfl (mm 2 rfl) rfl dX8_append_30 rfl rfl rfl (Nat.le_of_ble_eq_true rfl) rfl ?_
      refine V_aload_n (pc := 33) F dX8_append_33 rfl 0 rfl ?_
      refine V_get (pc := 34) F 0 8 0 i_X8 rfl (by decide) rfl (mm 2 rfl) dX8_append_34 rfl rfl ?_
      refine V_if_le (pc := 37) (tgt := 42) F dX8_append_37 (by decide) (fun h9 => ?_) (fun h9 => ?_)
      · exact absurd h9 (show ¬ ((2 : Int32) ≤ (0 : Int32)) by decide)
      · refine V_iconst (v := 0) (pc := 40) F dX8_append_40 (by decide) ?_
        obtain rfl := some_of hf
        exact V_ret F rfl rfl dX8_append_41 rfl rfl
  · replace hf := ite_pos hf h3
    refine V_iconst (v := 1) (pc := 12) F dX8_append_12 (by decide) ?_
    refine V_goto (pc := 13) (tgt := 30) F dX8_append_13 (by decide) ?_
    refine V_put (w2 := wX8 cy a (1, v.2)) (pc := 30) F 0 8 0 i_X8 tyX8 tyX8_ok nmX8 rfl (by decide) rfl (mm 2 rfl) rfl dX8_append_30 rfl rfl rfl (Nat.le_of_ble_eq_true rfl) rfl ?_
    refine V_aload_n (pc := 33) F dX8_append_33 rfl 0 rfl ?_
    refine V_get (pc := 34) F 0 8 0 i_X8 rfl (by decide) rfl (mm 2 rfl) dX8_append_34 rfl rfl ?_
    refine V_if_le (pc := 37) (tgt := 42) F dX8_append_37 (by decide) (fun h10 => ?_) (fun h10 => ?_)
    · exact absurd h10 (show ¬ ((1 : Int32) ≤ (0 : Int32)) by decide)
    · refine V_iconst (v := 0) (pc := 40) F dX8_append_40 (by decide) ?_
      obtain rfl := some_of hf
      exact V_ret F rfl rfl dX8_append_41 rfl rfl
