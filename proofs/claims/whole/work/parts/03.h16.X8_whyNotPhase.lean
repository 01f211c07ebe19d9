theorem hd_X8_whyNotPhase : yX8_whyNotPhase.cls = RX8 ∧ yX8_whyNotPhase.cls ≠ "java/lang/invoke/MethodHandle" ∧ yX8_whyNotPhase.cls ≠ "java/lang/invoke/VarHandle" ∧ (parseMethodDescriptor yX8_whyNotPhase.desc).map (fun d => d.parameters.length) = some 2 := by decide +kernel
def fX8_whyNotPhase (N : Nat) (v : SX8) (x1 : Int32) (x2 : Int32) : Option (Int32) :=
  (fX8_in N x1 0 63).bind fun r1 =>
    if r1 = 0 then
      some 1
    else
      (fX8_in N x2 1 9).bind fun r4 =>
        if r4 = 0 then
          some 1
        else
          chk 0 143 (
            if (v.2.1 (0 : Int32).toNatClampNeg) = 8 then
              some 2
            else
              some 0
          )
set_option maxHeartbeats 8000000 in
set_option maxRecDepth 100000 in
theorem M_X8_whyNotPhase (l : Launch) (D : va_G) (cy : Nat → ClassId) (N : Nat) (a : Nat → Nat) (v : SX8) (x1 : Int32) (x2 : Int32) (o : Int32) (hf : fX8_whyNotPhase N v x1 x2 = some o) : okM l yX8_whyNotPhase wsX8_whyNotPhase (rmz 1 22) D cy [.ref (a 0), .int x1, .int x2] (wX8 cy a v) (wX8 cy a v) (some (.int o)) := by
  refine okM_of (own := RX8) (nme := "whyNotPhase") (cc := cX8_whyNotPhase) (maxL := 3) (ret := (some .int)) (by decide) rfl rfl rfl (Nat.le_of_ble_eq_true rfl) ?_
  intro p e s m args below meth c A F
  have i_X8 : ∀ w ∈ u_ws RX8 TX8 13, w ∈ wsX8_whyNotPhase := fun _ h => List.mem_cons_of_mem _ (List.mem_append_right _ h)
  unfold fX8_whyNotPhase at hf
  refine V.eq rfl (show lv_args 0 [.ref (a 0), .int x1, .int x2] = [(0, .ref (a 0)), (1, .int x1), (2, .int x2)] from rfl) rfl ?_
  refine V_iload_n (pc := 0) F dX8_whyNotPhase_0 rfl 1 rfl ?_
  refine V_iconst (v := 0) (pc := 1) F dX8_whyNotPhase_1 (by decide) ?_
  refine V_bipush (v := 63) (pc := 2) F dX8_whyNotPhase_2 (by decide) ?_
  obtain ⟨r1, g2, hf⟩ := bind_of hf
  refine V_Sc (rest := []) (st2 := [.int r1]) (pc := 4) F (M_X8_in l D cy N x1 0 63 r1 g2) (va_cwS 3 F.ts gX8_whyNotPhase_X8_in rfl rfl rfl hd_X8_in ⟨Nat.le_of_ble_eq_true rfl, Nat.le_of_ble_eq_true rfl⟩) rfl dX8_whyNotPhase_4 (Nat.le_of_ble_eq_true rfl) (Nat.zero_le _) (Nat.zero_le _) rfl rfl ?_
  refine V_if_eq (pc := 7) (tgt := 20) F dX8_whyNotPhase_7 (by decide) (fun h3 => ?_) (fun h3 => ?_)
  · replace hf := ite_pos hf h3
    refine V_iconst (v := 1) (pc := 20) F dX8_whyNotPhase_20 (by decide) ?_
    refine V_goto (pc := 21) (tgt := 40) F dX8_whyNotPhase_21 (by decide) ?_
    obtain rfl := some_of hf
    exact V_ret F rfl rfl dX8_whyNotPhase_40 rfl rfl
  · replace hf := ite_neg hf h3
    refine V_iload_n (pc := 10) F dX8_whyNotPhase_10 rfl 2 rfl ?_
    refine V_iconst (v := 1) (pc := 11) F dX8_whyNotPhase_11 (by decide) ?_
    refine V_bipush (v := 9) (pc := 12) F dX8_whyNotPhase_12 (by decide) ?_
    obtain ⟨r4, g5, hf⟩ := bind_of hf
    refine V_Sc (rest := []) (st2 := [.int r4]) (pc := 14) F (M_X8_in l D cy N x2 1 9 r4 g5) (va_cwS 3 F.ts gX8_whyNotPhase_X8_in rfl rfl rfl hd_X8_in ⟨Nat.le_of_ble_eq_true rfl, Nat.le_of_ble_eq_true rfl⟩) rfl dX8_whyNotPhase_14 (Nat.le_of_ble_eq_true rfl) (Nat.zero_le _) (Nat.zero_le _) rfl rfl ?_
    refine V_if_ne (pc := 17) (tgt := 24) F dX8_whyNotPhase_17 (by decide) (fun h6 => ?_) (fun h6 => ?_)
    · replace hf := ite_neg hf h6
      refine V_aload_n (pc := 24) F dX8_whyNotPhase_24 rfl 0 rfl ?_
      refine V_get (pc := 25) F 0 8 1 i_X8 rfl (by decide) rfl (mm 1 rfl) dX8_whyNotPhase_25 rfl rfl ?_
      refine V_iconst (v := 0) (pc := 28) F dX8_whyNotPhase_28 (by decide) ?_
      obtain ⟨c7, hf⟩ := chk_some hf
      refine V_iald (pc := 29) F 1 rfl c7 dX8_whyNotPhase_29 ?_
      refine V_bipush (v := 8) (pc := 30) F dX8_whyNotPhase_30 (by decide) ?_
      refine V_icmp_ne (pc := 32) (tgt := 39) F dX8_whyNotPhase_32 (by decide) (fun h8 => ?_) (fun h8 => ?_)
      · replace hf := ite_neg hf h8
        refine V_iconst (v := 0) (pc := 39) F dX8_whyNotPhase_39 (by decide) ?_
        obtain rfl := some_of hf
        exact V_ret F rfl rfl dX8_whyNotPhase_40 rfl rfl
      · replace hf := ite_pos hf h8
        refine V_iconst (v := 2) (pc := 35) F dX8_whyNotPhase_35 (by decide) ?_
        refine V_goto (pc := 36) (tgt := 40) F dX8_whyNotPhase_36 (by decide) ?_
        obtain rfl := some_of hf
        exact V_ret F rfl rfl dX8_whyNotPhase_40 rfl rfl
    · replace hf := ite_pos hf h6
      refine V_iconst (v := 1) (pc := 20) F dX8_whyNotPhase_20 (by decide) ?_
      refine V_goto (pc := 21) (tgt := 40) F dX8_whyNotPhase_21 (by decide) ?_
      obtain rfl := some_of hf
      exact V_ret F rfl rfl dX8_whyNotPhase_40 rfl rfl
