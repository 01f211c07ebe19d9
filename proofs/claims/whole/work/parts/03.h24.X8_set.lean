theorem hd_X8_set : yX8_set.cls = RX8 ∧ yX8_set.cls ≠ "java/lang/invoke/MethodHandle" ∧ yX8_set.cls ≠ "java/lang/invoke/VarHandle" ∧ (parseMethodDescriptor yX8_set.desc).map (fun d => d.parameters.length) = some 1 := by decide +kernel
def fX8_set (N : Nat) (v : SX8) (x1 : Int32) : Option (Int32 × SX8) :=
  (fX8_in N x1 0 5).bind fun r1 =>
    if r1 = 0 then
      some (0, (1, v.2))
    else
      (fX8_save N (0, v.2)).bind fun r6 =>
        chk 1 143 (
          chk 1 143 (
            nmd (upd r6.2.1 (1 : Int32).toNatClampNeg x1) fun f10 =>
            some ((r6.2.1 (1 : Int32).toNatClampNeg), (r6.1, f10, r6.2.2))
          )
        )
set_option maxHeartbeats 8000000 in
set_option maxRecDepth 100000 in
theorem M_X8_set (l : Launch) (D : va_G) (cy : Nat → ClassId) (N : Nat) (a : Nat → Nat) (v : SX8) (x1 : Int32) (o : Int32 × SX8) (hf : fX8_set N v x1 = some o) : okM l yX8_set wsX8_set (rmz 1 22) D cy [.ref (a 0), .int x1] (wX8 cy a v) (wX8 cy a o.2) (some (.int o.1)) := by
  refine okM_of (own := RX8) (nme := "set") (cc := cX8_set) (maxL := 3) (ret := (some .int)) (by decide) rfl rfl rfl (Nat.le_of_ble_eq_true rfl) ?_
  intro p e s m args below meth c A F
  have i_X8 : ∀ w ∈ u_ws RX8 TX8 13, w ∈ wsX8_set := fun _ h => List.mem_cons_of_mem _ (List.mem_append_right _ h)
  unfold fX8_set at hf
  refine V.eq rfl (show lv_args 0 [.ref (a 0), .int x1] = [(0, .ref (a 0)), (1, .int x1)] from rfl) rfl ?_
  refine V_aload_n (pc := 0) F dX8_set_0 rfl 0 rfl ?_
  refine V_iload_n (pc := 1) F dX8_set_1 rfl 1 rfl ?_
  refine V_iconst (v := 0) (pc := 2) F dX8_set_2 (by decide) ?_
  refine V_iconst (v := 5) (pc := 3) F dX8_set_3 (by decide) ?_
  obtain ⟨r1, g2, hf⟩ := bind_of hf
  refine V_Sc (rest := [.ref (a 0)]) (st2 := [.int r1, .ref (a 0)]) (pc := 4) F (M_X8_in l D cy N x1 0 5 r1 g2) (va_cwS 3 F.ts gX8_set_X8_in rfl rfl rfl hd_X8_in ⟨Nat.le_of_ble_eq_true rfl, Nat.le_of_ble_eq_true rfl⟩) rfl dX8_set_4 (Nat.le_of_ble_eq_true rfl) (Nat.zero_le _) (Nat.zero_le _) rfl rfl ?_
  refine V_if_eq (pc := 7) (tgt := 14) F dX8_set_7 (by decide) (fun h3 => ?_) (fun h3 => ?_)
  · replace hf := ite_pos hf h3
    refine V_iconst (v := 1) (pc := 14) F dX8_set_14 (by decide) ?_
    refine V_put (w2 := wX8 cy a (1, v.2)) (pc := 15) F 0 8 0 i_X8 tyX8 tyX8_ok nmX8 rfl (by decide) rfl (mm 1 rfl) rfl dX8_set_15 rfl rfl rfl (Nat.le_of_ble_eq_true rfl) rfl ?_
    refine V_aload_n (pc := 18) F dX8_set_18 rfl 0 rfl ?_
    refine V_get (pc := 19) F 0 8 0 i_X8 rfl (by decide) rfl (mm 1 rfl) dX8_set_19 rfl rfl ?_
    refine V_if_le (pc := 22) (tgt := 27) F dX8_set_22 (by decide) (fun h4 => ?_) (fun h4 => ?_)
    · exact absurd h4 (show ¬ ((1 : Int32) ≤ (0 : Int32)) by decide)
    · refine V_iconst (v := 0) (pc := 25) F dX8_set_25 (by decide) ?_
      obtain rfl := some_of hf
      exact V_ret F rfl rfl dX8_set_26 rfl rfl
  · replace hf := ite_neg hf h3
    refine V_iconst (v := 0) (pc := 10) F dX8_set_10 (by decide) ?_
    refine V_goto (pc := 11) (tgt := 15) F dX8_set_11 (by decide) ?_
    refine V_put (w2 := wX8 cy a (0, v.2)) (pc := 15) F 0 8 0 i_X8 tyX8 tyX8_ok nmX8 rfl (by decide) rfl (mm 1 rfl) rfl dX8_set_15 rfl rfl rfl (Nat.le_of_ble_eq_true rfl) rfl ?_
    refine V_aload_n (pc := 18) F dX8_set_18 rfl 0 rfl ?_
    refine V_get (pc := 19) F 0 8 0 i_X8 rfl (by decide) rfl (mm 1 rfl) dX8_set_19 rfl rfl ?_
    refine V_if_le (pc := 22) (tgt := 27) F dX8_set_22 (by decide) (fun h5 => ?_) (fun h5 => ?_)
    · refine V_aload_n (pc := 27) F dX8_set_27 rfl 0 rfl ?_
      obtain ⟨r6, g7, hf⟩ := bind_of hf
      refine V_V (w2 := wX8 cy a r6) (rest := []) (st2 := []) (pc := 28) F 8 (M_X8_save l D cy N a (0, v.2) r6 g7) (cwV 0 F.ts gX8_set_X8_save rfl rfl rfl hd_X8_save ⟨Nat.le_of_ble_eq_true rfl, Nat.le_of_ble_eq_true rfl⟩) rfl dX8_set_28 Fit.whole fstX8 rfl rfl (Nat.le_of_ble_eq_true rfl) (Nat.zero_le _) (Nat.zero_le _) rfl rfl rfl ?_
      refine V_aload_n (pc := 31) F dX8_set_31 rfl 0 rfl ?_
      refine V_get (pc := 32) F 0 8 1 i_X8 rfl (by decide) rfl (mm 2 rfl) dX8_set_32 rfl rfl ?_
      refine V_iconst (v := 1) (pc := 35) F dX8_set_35 (by decide) ?_
      obtain ⟨c8, hf⟩ := chk_some hf
      refine V_iald (pc := 36) F 1 rfl c8 dX8_set_36 ?_
      refine V_istore_n (L2 := [(2, .int (r6.2.1 (1 : Int32).toNatClampNeg)), (0, .ref (a 0)), (1, .int x1)]) (pc := 37) F dX8_set_37 rfl (by decide) rfl ?_
      refine V_aload_n (pc := 38) F dX8_set_38 rfl 1 rfl ?_
      refine V_get (pc := 39) F 0 8 1 i_X8 rfl (by decide) rfl (mm 2 rfl) dX8_set_39 rfl rfl ?_
      refine V_iconst (v := 1) (pc := 42) F dX8_set_42 (by decide) ?_
      refine V_iload_n (pc := 43) F dX8_set_43 rfl 2 rfl ?_
      obtain ⟨c9, hf⟩ := chk_some hf
      obtain ⟨f10, e11, hf⟩ := nmd_of hf
      refine V_iast (w2 := wX8 cy a (r6.1, f10, r6.2.2)) (pc := 44) F 1 rfl c9 e11 dX8_set_44 rfl ?_
      refine V_iload_n (pc := 45) F dX8_set_45 rfl 0 rfl ?_
      obtain rfl := some_of hf
      exact V_ret F rfl rfl dX8_set_46 rfl rfl
    · exact absurd h5 (show ¬ (¬ ((0 : Int32) ≤ (0 : Int32))) by decide)
