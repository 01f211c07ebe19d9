theorem hd_X8_addPhase : yX8_addPhase.cls = RX8 ∧ yX8_addPhase.cls ≠ "java/lang/invoke/MethodHandle" ∧ yX8_addPhase.cls ≠ "java/lang/invoke/VarHandle" ∧ (parseMethodDescriptor yX8_addPhase.desc).map (fun d => d.parameters.length) = some 2 := by decide +kernel
def fX8_addPhase (N : Nat) (v : SX8) (x1 : Int32) (x2 : Int32) : Option (Int32 × SX8) :=
  (fX8_whyNotPhase N v x1 x2).bind fun r1 =>
    if r1 ≤ 0 then
      (fX8_save N (r1, v.2)).bind fun r4 =>
        (fX8_phaseAdded N r4 x1 x2).bind fun r6 =>
          some (r6.1, r6.2)
    else
      some (0, (r1, v.2))
set_option maxHeartbeats 8000000 in
set_option maxRecDepth 100000 in
theorem M_X8_addPhase (l : Launch) (D : va_G) (cy : Nat → ClassId) (N : Nat) (a : Nat → Nat) (v : SX8) (x1 : Int32) (x2 : Int32) (o : Int32 × SX8) (hf : fX8_addPhase N v x1 x2 = some o) : okM l yX8_addPhase wsX8_addPhase (rmz 2 44) D cy [.ref (a 0), .int x1, .int x2] (wX8 cy a v) (wX8 cy a o.2) (some (.int o.1)) := by
  refine okM_of (own := RX8) (nme := "addPhase") (cc := cX8_addPhase) (maxL := 3) (ret := (some .int)) (by decide) rfl rfl rfl (Nat.le_of_ble_eq_true rfl) ?_
  intro p e s m args below meth c A F
  have i_X8 : ∀ w ∈ u_ws RX8 TX8 13, w ∈ wsX8_addPhase := fun _ h => List.mem_cons_of_mem _ (List.mem_append_right _ h)
  unfold fX8_addPhase at hf
  refine V.eq rfl (show lv_args 0 [.ref (a 0), .int x1, .int x2] = [(0, .ref (a 0)), (1, .int x1), (2, .int x2)] from rfl) rfl ?_
  refine V_aload_n (pc := 0) F dX8_addPhase_0 rfl 0 rfl ?_
  refine V_aload_n (pc := 1) F dX8_addPhase_1 rfl 0 rfl ?_
  refine V_iload_n (pc := 2) F dX8_addPhase_2 rfl 1 rfl ?_
  refine V_iload_n (pc := 3) F dX8_addPhase_3 rfl 2 rfl ?_
  obtain ⟨r1, g2, hf⟩ := bind_of hf
  refine V_V (w2 := wX8 cy a v) (rest := [.ref (a 0)]) (st2 := [.int r1, .ref (a 0)]) (pc := 4) F 8 (M_X8_whyNotPhase l D cy N a v x1 x2 r1 g2) (cwV 2 F.ts gX8_addPhase_X8_whyNotPhase rfl rfl rfl hd_X8_whyNotPhase ⟨Nat.le_of_ble_eq_true rfl, Nat.le_of_ble_eq_true rfl⟩) rfl dX8_addPhase_4 Fit.whole rfl rfl rfl (Nat.le_of_ble_eq_true rfl) (Nat.zero_le _) (Nat.zero_le _) rfl rfl rfl ?_
  refine V_put (w2 := wX8 cy a (r1, v.2)) (pc := 7) F 0 8 0 i_X8 tyX8 tyX8_ok nmX8 rfl (by decide) rfl (mm 1 rfl) rfl dX8_addPhase_7 rfl rfl rfl (Nat.le_of_ble_eq_true rfl) rfl ?_
  refine V_aload_n (pc := 10) F dX8_addPhase_10 rfl 0 rfl ?_
  refine V_get (pc := 11) F 0 8 0 i_X8 rfl (by decide) rfl (mm 1 rfl) dX8_addPhase_11 rfl rfl ?_
  refine V_if_le (pc := 14) (tgt := 19) F dX8_addPhase_14 (by decide) (fun h3 => ?_) (fun h3 => ?_)
  · replace hf := ite_pos hf h3
    refine V_aload_n (pc := 19) F dX8_addPhase_19 rfl 0 rfl ?_
    obtain ⟨r4, g5, hf⟩ := bind_of hf
    refine V_V (w2 := wX8 cy a r4) (rest := []) (st2 := []) (pc := 20) F 8 (M_X8_save l D cy N a (r1, v.2) r4 g5) (cwV 0 F.ts gX8_addPhase_X8_save rfl rfl rfl hd_X8_save ⟨Nat.le_of_ble_eq_true rfl, Nat.le_of_ble_eq_true rfl⟩) rfl dX8_addPhase_20 Fit.whole fstX8 rfl rfl (Nat.le_of_ble_eq_true rfl) (Nat.zero_le _) (Nat.zero_le _) rfl rfl rfl ?_
    refine V_aload_n (pc := 23) F dX8_addPhase_23 rfl 0 rfl ?_
    refine V_iload_n (pc := 24) F dX8_addPhase_24 rfl 1 rfl ?_
    refine V_iload_n (pc := 25) F dX8_addPhase_25 rfl 2 rfl ?_
    obtain ⟨r6, g7, hf⟩ := bind_of hf
    refine V_V (w2 := wX8 cy a r6.2) (rest := []) (st2 := [.int r6.1]) (pc := 26) F 8 (M_X8_phaseAdded l D cy N a r4 x1 x2 r6 g7) (cwV 2 F.ts gX8_addPhase_X8_phaseAdded rfl rfl rfl hd_X8_phaseAdded ⟨Nat.le_of_ble_eq_true rfl, Nat.le_of_ble_eq_true rfl⟩) rfl dX8_addPhase_26 Fit.whole fstX8 rfl rfl (Nat.le_of_ble_eq_true rfl) (Nat.zero_le _) (Nat.zero_le _) rfl rfl rfl ?_
    obtain rfl := some_of hf
    exact V_ret F rfl rfl dX8_addPhase_29 rfl rfl
  · replace hf := ite_neg hf h3
    refine V_iconst (v := 0) (pc := 17) F dX8_addPhase_17 (by decide) ?_
    obtain rfl := some_of hf
    exact V_ret F rfl rfl dX8_addPhase_18 rfl rfl
