theorem hd_X8_safeShare : yX8_safeShare.cls = RX8 ∧ yX8_safeShare.cls ≠ "java/lang/invoke/MethodHandle" ∧ yX8_safeShare.cls ≠ "java/lang/invoke/VarHandle" ∧ (parseMethodDescriptor yX8_safeShare.desc).map (fun d => d.parameters.length) = some 0 := by decide +kernel
def fX8_safeShare (N : Nat) (v : SX8) : Option (UInt64 × SX8) :=
  (fX8_share N (0, v.2)).bind fun r1 =>
    some (r1, (0, v.2))
set_option maxHeartbeats 8000000 in
set_option maxRecDepth 100000 in
theorem M_X8_safeShare (l : Launch) (D : va_G) (cy : Nat → ClassId) (N : Nat) (a : Nat → Nat) (v : SX8) (o : UInt64 × SX8) (hf : fX8_safeShare N v = some o) : okM l yX8_safeShare wsX8_safeShare (rmz 6 131) D cy [.ref (a 0)] (wX8 cy a v) (wX8 cy a o.2) (some (.double o.1)) := by
  refine okM_of (own := RX8) (nme := "safeShare") (cc := cX8_safeShare) (maxL := 1) (ret := (some .double)) (by decide) rfl rfl rfl (Nat.le_of_ble_eq_true rfl) ?_
  intro p e s m args below meth c A F
  have i_X8 : ∀ w ∈ u_ws RX8 TX8 13, w ∈ wsX8_safeShare := fun _ h => List.mem_cons_of_mem _ (List.mem_append_right _ h)
  unfold fX8_safeShare at hf
  refine V.eq rfl (show lv_args 0 [.ref (a 0)] = [(0, .ref (a 0))] from rfl) rfl ?_
  refine V_aload_n (pc := 0) F dX8_safeShare_0 rfl 0 rfl ?_
  refine V_iconst (v := 0) (pc := 1) F dX8_safeShare_1 (by decide) ?_
  refine V_put (w2 := wX8 cy a (0, v.2)) (pc := 2) F 0 8 0 i_X8 tyX8 tyX8_ok nmX8 rfl (by decide) rfl (mm 1 rfl) rfl dX8_safeShare_2 rfl rfl rfl (Nat.le_of_ble_eq_true rfl) rfl ?_
  refine V_aload_n (pc := 5) F dX8_safeShare_5 rfl 0 rfl ?_
  obtain ⟨r1, g2, hf⟩ := bind_of hf
  refine V_V (w2 := wX8 cy a (0, v.2)) (rest := []) (st2 := [.double r1]) (pc := 6) F 8 (M_X8_share l D cy N a (0, v.2) r1 g2) (cwV 0 F.ts gX8_safeShare_X8_share rfl rfl rfl hd_X8_share ⟨Nat.le_of_ble_eq_true rfl, Nat.le_of_ble_eq_true rfl⟩) rfl dX8_safeShare_6 Fit.whole rfl rfl rfl (Nat.le_of_ble_eq_true rfl) (Nat.zero_le _) (Nat.zero_le _) rfl rfl rfl ?_
  obtain rfl := some_of hf
  exact V_dret F rfl dX8_safeShare_9 rfl rfl
