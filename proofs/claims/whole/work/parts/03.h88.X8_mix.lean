theorem hd_X8_mix : yX8_mix.cls = RX8 ∧ yX8_mix.cls ≠ "java/lang/invoke/MethodHandle" ∧ yX8_mix.cls ≠ "java/lang/invoke/VarHandle" ∧ (parseMethodDescriptor yX8_mix.desc).map (fun d => d.parameters.length) = some 1 := by decide +kernel
def fX8_mix (N : Nat) (v : SX8) (x1 : Int64) : Option (SX8) :=
  some (v.1, v.2.1, v.2.2.1, v.2.2.2.1, v.2.2.2.2.1, v.2.2.2.2.2.1, v.2.2.2.2.2.2.1, v.2.2.2.2.2.2.2.1, v.2.2.2.2.2.2.2.2.1, v.2.2.2.2.2.2.2.2.2.1, v.2.2.2.2.2.2.2.2.2.2.1, v.2.2.2.2.2.2.2.2.2.2.2.1, (((31 : Int64) * v.2.2.2.2.2.2.2.2.2.2.2.2) + x1))
set_option maxHeartbeats 8000000 in
set_option maxRecDepth 100000 in
theorem M_X8_mix (l : Launch) (D : va_G) (cy : Nat → ClassId) (N : Nat) (a : Nat → Nat) (v : SX8) (x1 : Int64) (o : SX8) (hf : fX8_mix N v x1 = some o) : okM l yX8_mix wsX8_mix (rmz 0 0) D cy [.ref (a 0), .long x1] (wX8 cy a v) (wX8 cy a o) none := by
  refine okM_of (own := RX8) (nme := "mix") (cc := cX8_mix) (maxL := 3) (ret := none) (by decide) rfl rfl rfl (Nat.le_of_ble_eq_true rfl) ?_
  intro p e s m args below meth c A F
  have i_X8 : ∀ w ∈ u_ws RX8 TX8 13, w ∈ wsX8_mix := fun _ h => List.mem_cons_of_mem _ (List.mem_append_right _ h)
  unfold fX8_mix at hf
  refine V.eq rfl (show lv_args 0 [.ref (a 0), .long x1] = [(0, .ref (a 0)), (1, .long x1)] from rfl) rfl ?_
  refine V_aload_n (pc := 0) F dX8_mix_0 rfl 0 rfl ?_
  refine V_ldc2 (v := (31)) (pc := 1) F dX8_mix_1 (mm 1 rfl) ?_
  refine V_aload_n (pc := 4) F dX8_mix_4 rfl 0 rfl ?_
  refine V_get (pc := 5) F 0 8 12 i_X8 rfl (by decide) rfl (mm 2 rfl) dX8_mix_5 rfl rfl ?_
  refine V_lmul (pc := 8) F dX8_mix_8 ?_
  refine V_lload_n (pc := 9) F dX8_mix_9 rfl 1 rfl ?_
  refine V_ladd (pc := 10) F dX8_mix_10 ?_
  refine V_put (w2 := wX8 cy a (v.1, v.2.1, v.2.2.1, v.2.2.2.1, v.2.2.2.2.1, v.2.2.2.2.2.1, v.2.2.2.2.2.2.1, v.2.2.2.2.2.2.2.1, v.2.2.2.2.2.2.2.2.1, v.2.2.2.2.2.2.2.2.2.1, v.2.2.2.2.2.2.2.2.2.2.1, v.2.2.2.2.2.2.2.2.2.2.2.1, (((31 : Int64) * v.2.2.2.2.2.2.2.2.2.2.2.2) + x1))) (pc := 11) F 0 8 12 i_X8 tyX8 tyX8_ok nmX8 rfl (by decide) rfl (mm 2 rfl) rfl dX8_mix_11 rfl rfl rfl (Nat.le_of_ble_eq_true rfl) rfl ?_
  obtain rfl := some_of hf
  exact V_vret F rfl dX8_mix_14 rfl
