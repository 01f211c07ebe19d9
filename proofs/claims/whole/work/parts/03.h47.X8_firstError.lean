theorem hd_X8_firstError : yX8_firstError.cls = RX8 ∧ yX8_firstError.cls ≠ "java/lang/invoke/MethodHandle" ∧ yX8_firstError.cls ≠ "java/lang/invoke/VarHandle" ∧ (parseMethodDescriptor yX8_firstError.desc).map (fun d => d.parameters.length) = some 0 := by decide +kernel
def fX8_firstError (N : Nat) (v : SX8) : Option (Int32 × SX8) :=
  (fX8_readBuffer N (0, v.2)).bind fun r1 =>
    if r1.1 = (-1) then
      some (r1.2.2.2.2.2.2.1, r1.2)
    else
      some (r1.1, r1.2)
set_option maxHeartbeats 8000000 in
set_option maxRecDepth 100000 in
theorem M_X8_firstError (l : Launch) (D : va_G) (cy : Nat → ClassId) (N : Nat) (a : Nat → Nat) (v : SX8) (o : Int32 × SX8) (hf : fX8_firstError N v = some o) : okM l yX8_firstError wsX8_firstError (rmz 5 109) D cy [.ref (a 0)] (wX8 cy a v) (wX8 cy a o.2) (some (.int o.1)) := by
  refine okM_of (own := RX8) (nme := "firstError") (cc := cX8_firstError) (maxL := 2) (ret := (some .int)) (by decide) rfl rfl rfl (Nat.le_of_ble_eq_true rfl) ?_
  intro p e s m args below meth c A F
  have i_X8 : ∀ w ∈ u_ws RX8 TX8 13, w ∈ wsX8_firstError := fun _ h => List.mem_cons_of_mem _ (List.mem_append_right _ h)
  unfold fX8_firstError at hf
  refine V.eq rfl (show lv_args 0 [.ref (a 0)] = [(0, .ref (a 0))] from rfl) rfl ?_
  refine V_aload_n (pc := 0) F dX8_firstError_0 rfl 0 rfl ?_
  refine V_iconst (v := 0) (pc := 1) F dX8_firstError_1 (by decide) ?_
  refine V_put (w2 := wX8 cy a (0, v.2)) (pc := 2) F 0 8 0 i_X8 tyX8 tyX8_ok nmX8 rfl (by decide) rfl (mm 1 rfl) rfl dX8_firstError_2 rfl rfl rfl (Nat.le_of_ble_eq_true rfl) rfl ?_
  refine V_aload_n (pc := 5) F dX8_firstError_5 rfl 0 rfl ?_
  obtain ⟨r1, g2, hf⟩ := bind_of hf
  refine V_V (w2 := wX8 cy a r1.2) (rest := []) (st2 := [.int r1.1]) (pc := 6) F 8 (M_X8_readBuffer l D cy N a (0, v.2) r1 g2) (cwV 0 F.ts gX8_firstError_X8_readBuffer rfl rfl rfl hd_X8_readBuffer ⟨Nat.le_of_ble_eq_true rfl, Nat.le_of_ble_eq_true rfl⟩) rfl dX8_firstError_6 Fit.whole fstX8 rfl rfl (Nat.le_of_ble_eq_true rfl) (Nat.zero_le _) (Nat.zero_le _) rfl rfl rfl ?_
  refine V_istore_n (L2 := [(1, .int r1.1), (0, .ref (a 0))]) (pc := 9) F dX8_firstError_9 rfl (by decide) rfl ?_
  refine V_iload_n (pc := 10) F dX8_firstError_10 rfl 0 rfl ?_
  refine V_iconst (v := (-1)) (pc := 11) F dX8_firstError_11 (by decide) ?_
  refine V_icmp_ne (pc := 12) (tgt := 22) F dX8_firstError_12 (by decide) (fun h3 => ?_) (fun h3 => ?_)
  · replace hf := ite_neg hf h3
    refine V_iload_n (pc := 22) F dX8_firstError_22 rfl 0 rfl ?_
    obtain rfl := some_of hf
    exact V_ret F rfl rfl dX8_firstError_23 rfl rfl
  · replace hf := ite_pos hf h3
    refine V_aload_n (pc := 15) F dX8_firstError_15 rfl 1 rfl ?_
    refine V_get (pc := 16) F 0 8 5 i_X8 rfl (by decide) rfl (mm 2 rfl) dX8_firstError_16 rfl rfl ?_
    refine V_goto (pc := 19) (tgt := 23) F dX8_firstError_19 (by decide) ?_
    obtain rfl := some_of hf
    exact V_ret F rfl rfl dX8_firstError_23 rfl rfl
