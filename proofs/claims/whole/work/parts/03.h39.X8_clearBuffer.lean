theorem hd_X8_clearBuffer : yX8_clearBuffer.cls = RX8 ∧ yX8_clearBuffer.cls ≠ "java/lang/invoke/MethodHandle" ∧ yX8_clearBuffer.cls ≠ "java/lang/invoke/VarHandle" ∧ (parseMethodDescriptor yX8_clearBuffer.desc).map (fun d => d.parameters.length) = some 0 := by decide +kernel
def fX8_clearBuffer (N : Nat) (v : SX8) : Option (Int32 × SX8) :=
  some (v.2.2.2.2.2.1, (0, v.2.1, v.2.2.1, v.2.2.2.1, v.2.2.2.2.1, 0, v.2.2.2.2.2.2))
set_option maxHeartbeats 8000000 in
set_option maxRecDepth 100000 in
theorem M_X8_clearBuffer (l : Launch) (D : va_G) (cy : Nat → ClassId) (N : Nat) (a : Nat → Nat) (v : SX8) (o : Int32 × SX8) (hf : fX8_clearBuffer N v = some o) : okM l yX8_clearBuffer wsX8_clearBuffer (rmz 0 0) D cy [.ref (a 0)] (wX8 cy a v) (wX8 cy a o.2) (some (.int o.1)) := by
  refine okM_of (own := RX8) (nme := "clearBuffer") (cc := cX8_clearBuffer) (maxL := 2) (ret := (some .int)) (by decide) rfl rfl rfl (Nat.le_of_ble_eq_true rfl) ?_
  intro p e s m args below meth c A F
  have i_X8 : ∀ w ∈ u_ws RX8 TX8 13, w ∈ wsX8_clearBuffer := fun _ h => List.mem_cons_of_mem _ (List.mem_append_right _ h)
  unfold fX8_clearBuffer at hf
  refine V.eq rfl (show lv_args 0 [.ref (a 0)] = [(0, .ref (a 0))] from rfl) rfl ?_
  refine V_aload_n (pc := 0) F dX8_clearBuffer_0 rfl 0 rfl ?_
  refine V_iconst (v := 0) (pc := 1) F dX8_clearBuffer_1 (by decide) ?_
  refine V_put (w2 := wX8 cy a (0, v.2)) (pc := 2) F 0 8 0 i_X8 tyX8 tyX8_ok nmX8 rfl (by decide) rfl (mm 1 rfl) rfl dX8_clearBuffer_2 rfl rfl rfl (Nat.le_of_ble_eq_true rfl) rfl ?_
  refine V_aload_n (pc := 5) F dX8_clearBuffer_5 rfl 0 rfl ?_
  refine V_get (pc := 6) F 0 8 5 i_X8 rfl (by decide) rfl (mm 2 rfl) dX8_clearBuffer_6 rfl rfl ?_
  refine V_istore_n (L2 := [(1, .int v.2.2.2.2.2.1), (0, .ref (a 0))]) (pc := 9) F dX8_clearBuffer_9 rfl (by decide) rfl ?_
  refine V_aload_n (pc := 10) F dX8_clearBuffer_10 rfl 1 rfl ?_
  refine V_iconst (v := 0) (pc := 11) F dX8_clearBuffer_11 (by decide) ?_
  refine V_put (w2 := wX8 cy a (0, v.2.1, v.2.2.1, v.2.2.2.1, v.2.2.2.2.1, 0, v.2.2.2.2.2.2)) (pc := 12) F 0 8 5 i_X8 tyX8 tyX8_ok nmX8 rfl (by decide) rfl (mm 2 rfl) rfl dX8_clearBuffer_12 rfl rfl rfl (Nat.le_of_ble_eq_true rfl) rfl ?_
  refine V_iload_n (pc := 15) F dX8_clearBuffer_15 rfl 0 rfl ?_
  obtain rfl := some_of hf
  exact V_ret F rfl rfl dX8_clearBuffer_16 rfl rfl
