theorem hd_X8_thrown : yX8_thrown.cls = RX8 ∧ yX8_thrown.cls ≠ "java/lang/invoke/MethodHandle" ∧ yX8_thrown.cls ≠ "java/lang/invoke/VarHandle" ∧ (parseMethodDescriptor yX8_thrown.desc).map (fun d => d.parameters.length) = some 0 := by decide +kernel
def fX8_thrown (N : Nat) (v : SX8) : Option (Int32) :=
  some v.1
set_option maxHeartbeats 8000000 in
set_option maxRecDepth 100000 in
theorem M_X8_thrown (l : Launch) (D : va_G) (cy : Nat → ClassId) (N : Nat) (a : Nat → Nat) (v : SX8) (o : Int32) (hf : fX8_thrown N v = some o) : okM l yX8_thrown wsX8_thrown (rmz 0 0) D cy [.ref (a 0)] (wX8 cy a v) (wX8 cy a v) (some (.int o)) := by
  refine okM_of (own := RX8) (nme := "thrown") (cc := cX8_thrown) (maxL := 1) (ret := (some .int)) (by decide) rfl rfl rfl (Nat.le_of_ble_eq_true rfl) ?_
  intro p e s m args below meth c A F
  have i_X8 : ∀ w ∈ u_ws RX8 TX8 13, w ∈ wsX8_thrown := fun _ h => List.mem_cons_of_mem _ (List.mem_append_right _ h)
  unfold fX8_thrown at hf
  refine V.eq rfl (show lv_args 0 [.ref (a 0)] = [(0, .ref (a 0))] from rfl) rfl ?_
  refine V_aload_n (pc := 0) F dX8_thrown_0 rfl 0 rfl ?_
  refine V_get (pc := 1) F 0 8 0 i_X8 rfl (by decide) rfl (mm 1 rfl) dX8_thrown_1 rfl rfl ?_
  obtain rfl := some_of hf
  exact V_ret F rfl rfl dX8_thrown_4 rfl rfl
