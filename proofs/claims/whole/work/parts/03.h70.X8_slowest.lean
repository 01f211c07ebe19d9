theorem hd_X8_slowest : yX8_slowest.cls = RX8 ∧ yX8_slowest.cls ≠ "java/lang/invoke/MethodHandle" ∧ yX8_slowest.cls ≠ "java/lang/invoke/VarHandle" ∧ (parseMethodDescriptor yX8_slowest.desc).map (fun d => d.parameters.length) = some 0 := by decide +kernel
def fX8_slowest (N : Nat) (v : SX8) : Option (Int32 × SX8) :=
  (fX8_slowestOne N (0, v.2)).bind fun r1 =>
    some (r1.1, r1.2)
set_option maxHeartbeats 8000000 in
set_option maxRecDepth 100000 in
theorem M_X8_slowest (l : Launch) (D : va_G) (cy : Nat → ClassId) (N : Nat) (a : Nat → Nat) (v : SX8) (o : Int32 × SX8) (hf : fX8_slowest N v = some o) : okM l yX8_slowest wsX8_slowest (rmz 10 242) D cy [.ref (a 0)] (wX8 cy a v) (wX8 cy a o.2) (some (.int o.1)) := by
  refine okM_of (own := RX8) (nme := "slowest") (cc := cX8_slowest) (maxL := 1) (ret := (some .int)) (by decide) rfl rfl rfl (Nat.le_of_ble_eq_true rfl) ?_
  intro p e s m args below meth c A F
  have i_X8 : ∀ w ∈ u_ws RX8 TX8 13, w ∈ wsX8_slowest := fun _ h => List.mem_cons_of_mem _ (List.mem_append_right _ h)
  unfold fX8_slowest at hf
  refine V.eq rfl (show lv_args 0 [.ref (a 0)] = [(0, .ref (a 0))] from rfl) rfl ?_
  refine V_aload_n (pc := 0) F dX8_slowest_0 rfl 0 rfl ?_
  refine V_iconst (v := 0) (pc := 1) F dX8_slowest_1 (by decide) ?_
  refine V_put (w2 := wX8 cy a (0, v.2)) (pc := 2) F 0 8 0 i_X8 tyX8 tyX8_ok nmX8 rfl (by decide) rfl (mm 1 rfl) rfl dX8_slowest_2 rfl rfl rfl (Nat.le_of_ble_eq_true rfl) rfl ?_
  refine V_aload_n (pc := 5) F dX8_slowest_5 rfl 0 rfl ?_
  obtain ⟨r1, g2, hf⟩ := bind_of hf
  refine V_V (w2 := wX8 cy a r1.2) (rest := []) (st2 := [.int r1.1]) (pc := 6) F 8 (M_X8_slowestOne l D cy N a (0, v.2) r1 g2) (cwV 0 F.ts gX8_slowest_X8_slowestOne rfl rfl rfl hd_X8_slowestOne ⟨Nat.le_of_ble_eq_true rfl, Nat.le_of_ble_eq_true rfl⟩) rfl dX8_slowest_6 Fit.whole fstX8 rfl rfl (Nat.le_of_ble_eq_true rfl) (Nat.zero_le _) (Nat.zero_le _) rfl rfl rfl ?_
  obtain rfl := some_of hf
  exact V_ret F rfl rfl dX8_slowest_9 rfl rfl
