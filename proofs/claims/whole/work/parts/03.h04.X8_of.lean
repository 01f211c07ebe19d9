theorem hd_X8_of : yX8_of.cls = RX8 ∧ yX8_of.cls ≠ "java/lang/invoke/MethodHandle" ∧ yX8_of.cls ≠ "java/lang/invoke/VarHandle" ∧ (parseMethodDescriptor yX8_of.desc).map (fun d => d.parameters.length) = some 2 := by decide +kernel
def fX8_of (N : Nat) (v : SX8) (x1 : Int32) (x2 : Int32) : Option (Int32) :=
  chk (((31 : Int32) + ((14 : Int32) * x1)) + x2) 143 (
    some (v.2.1 (((31 : Int32) + ((14 : Int32) * x1)) + x2).toNatClampNeg)
  )
set_option maxHeartbeats 8000000 in
set_option maxRecDepth 100000 in
theorem M_X8_of (l : Launch) (D : va_G) (cy : Nat → ClassId) (N : Nat) (a : Nat → Nat) (v : SX8) (x1 : Int32) (x2 : Int32) (o : Int32) (hf : fX8_of N v x1 x2 = some o) : okM l yX8_of wsX8_of (rmz 0 0) D cy [.ref (a 0), .int x1, .int x2] (wX8 cy a v) (wX8 cy a v) (some (.int o)) := by
  refine okM_of (own := RX8) (nme := "of") (cc := cX8_of) (maxL := 3) (ret := (some .int)) (by decide) rfl rfl rfl (Nat.le_of_ble_eq_true rfl) ?_
  intro p e s m args below meth c A F
  have i_X8 : ∀ w ∈ u_ws RX8 TX8 13, w ∈ wsX8_of := fun _ h => List.mem_cons_of_mem _ (List.mem_append_right _ h)
  unfold fX8_of at hf
  refine V.eq rfl (show lv_args 0 [.ref (a 0), .int x1, .int x2] = [(0, .ref (a 0)), (1, .int x1), (2, .int x2)] from rfl) rfl ?_
  refine V_aload_n (pc := 0) F dX8_of_0 rfl 0 rfl ?_
  refine V_get (pc := 1) F 0 8 1 i_X8 rfl (by decide) rfl (mm 1 rfl) dX8_of_1 rfl rfl ?_
  refine V_bipush (v := 31) (pc := 4) F dX8_of_4 (by decide) ?_
  refine V_bipush (v := 14) (pc := 6) F dX8_of_6 (by decide) ?_
  refine V_iload_n (pc := 8) F dX8_of_8 rfl 1 rfl ?_
  refine V_imul (pc := 9) F dX8_of_9 ?_
  refine V_iadd (pc := 10) F dX8_of_10 ?_
  refine V_iload_n (pc := 11) F dX8_of_11 rfl 2 rfl ?_
  refine V_iadd (pc := 12) F dX8_of_12 ?_
  obtain ⟨c1, hf⟩ := chk_some hf
  refine V_iald (pc := 13) F 1 rfl c1 dX8_of_13 ?_
  obtain rfl := some_of hf
  exact V_ret F rfl rfl dX8_of_14 rfl rfl
