theorem hd_X8_letter : yX8_letter.cls = RX8 ∧ yX8_letter.cls ≠ "java/lang/invoke/MethodHandle" ∧ yX8_letter.cls ≠ "java/lang/invoke/VarHandle" ∧ (parseMethodDescriptor yX8_letter.desc).map (fun d => d.parameters.length) = some 0 := by decide +kernel
def fX8_letter (N : Nat) (v : SX8) : Option (Int32) :=
  if v.2.2.2.2.2.1 ≤ v.2.2.2.2.2.2.2.2.1 then
    some (-1)
  else
    chk v.2.2.2.2.2.2.2.2.1 60 (
      some (v.2.2.2.2.1 v.2.2.2.2.2.2.2.2.1.toNatClampNeg)
    )
set_option maxHeartbeats 8000000 in
set_option maxRecDepth 100000 in
theorem M_X8_letter (l : Launch) (D : va_G) (cy : Nat → ClassId) (N : Nat) (a : Nat → Nat) (v : SX8) (o : Int32) (hf : fX8_letter N v = some o) : okM l yX8_letter wsX8_letter (rmz 0 0) D cy [.ref (a 0)] (wX8 cy a v) (wX8 cy a v) (some (.int o)) := by
  refine okM_of (own := RX8) (nme := "letter") (cc := cX8_letter) (maxL := 1) (ret := (some .int)) (by decide) rfl rfl rfl (Nat.le_of_ble_eq_true rfl) ?_
  intro p e s m args below meth c A F
  have i_X8 : ∀ w ∈ u_ws RX8 TX8 13, w ∈ wsX8_letter := fun _ h => List.mem_cons_of_mem _ (List.mem_append_right _ h)
  unfold fX8_letter at hf
  refine V.eq rfl (show lv_args 0 [.ref (a 0)] = [(0, .ref (a 0))] from rfl) rfl ?_
  refine V_aload_n (pc := 0) F dX8_letter_0 rfl 0 rfl ?_
  refine V_get (pc := 1) F 0 8 8 i_X8 rfl (by decide) rfl (mm 1 rfl) dX8_letter_1 rfl rfl ?_
  refine V_aload_n (pc := 4) F dX8_letter_4 rfl 0 rfl ?_
  refine V_get (pc := 5) F 0 8 5 i_X8 rfl (by decide) rfl (mm 2 rfl) dX8_letter_5 rfl rfl ?_
  refine V_icmp_ge (pc := 8) (tgt := 23) F dX8_letter_8 (by decide) (fun h1 => ?_) (fun h1 => ?_)
  · replace hf := ite_pos hf h1
    refine V_iconst (v := (-1)) (pc := 23) F dX8_letter_23 (by decide) ?_
    obtain rfl := some_of hf
    exact V_ret F rfl rfl dX8_letter_24 rfl rfl
  · replace hf := ite_neg hf h1
    refine V_aload_n (pc := 11) F dX8_letter_11 rfl 0 rfl ?_
    refine V_get (pc := 12) F 0 8 4 i_X8 rfl (by decide) rfl (mm 3 rfl) dX8_letter_12 rfl rfl ?_
    refine V_aload_n (pc := 15) F dX8_letter_15 rfl 0 rfl ?_
    refine V_get (pc := 16) F 0 8 8 i_X8 rfl (by decide) rfl (mm 1 rfl) dX8_letter_16 rfl rfl ?_
    obtain ⟨c2, hf⟩ := chk_some hf
    refine V_iald (pc := 19) F 3 rfl c2 dX8_letter_19 ?_
    refine V_goto (pc := 20) (tgt := 24) F dX8_letter_20 (by decide) ?_
    obtain rfl := some_of hf
    exact V_ret F rfl rfl dX8_letter_24 rfl rfl
