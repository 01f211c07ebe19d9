theorem hd_X8_isClearing : yX8_isClearing.cls = RX8 ∧ yX8_isClearing.cls ≠ "java/lang/invoke/MethodHandle" ∧ yX8_isClearing.cls ≠ "java/lang/invoke/VarHandle" ∧ (parseMethodDescriptor yX8_isClearing.desc).map (fun d => d.parameters.length) = some 0 := by decide +kernel
def fX8_isClearing (N : Nat) (v : SX8) : Option (Int32) :=
  chk 4 143 (
    if (v.2.1 (4 : Int32).toNatClampNeg) ≤ 0 then
      some 0
    else
      some 1
  )
set_option maxHeartbeats 8000000 in
set_option maxRecDepth 100000 in
theorem M_X8_isClearing (l : Launch) (D : va_G) (cy : Nat → ClassId) (N : Nat) (a : Nat → Nat) (v : SX8) (o : Int32) (hf : fX8_isClearing N v = some o) : okM l yX8_isClearing wsX8_isClearing (rmz 0 0) D cy [.ref (a 0)] (wX8 cy a v) (wX8 cy a v) (some (.int o)) := by
  refine okM_of (own := RX8) (nme := "isClearing") (cc := cX8_isClearing) (maxL := 1) (ret := (some .boolean)) (by decide) rfl rfl rfl (Nat.le_of_ble_eq_true rfl) ?_
  intro p e s m args below meth c A F
  have i_X8 : ∀ w ∈ u_ws RX8 TX8 13, w ∈ wsX8_isClearing := fun _ h => List.mem_cons_of_mem _ (List.mem_append_right _ h)
  unfold fX8_isClearing at hf
  refine V.eq rfl (show lv_args 0 [.ref (a 0)] = [(0, .ref (a 0))] from rfl) rfl ?_
  refine V_aload_n (pc := 0) F dX8_isClearing_0 rfl 0 rfl ?_
  refine V_get (pc := 1) F 0 8 1 i_X8 rfl (by decide) rfl (mm 1 rfl) dX8_isClearing_1 rfl rfl ?_
  refine V_iconst (v := 4) (pc := 4) F dX8_isClearing_4 (by decide) ?_
  obtain ⟨c1, hf⟩ := chk_some hf
  refine V_iald (pc := 5) F 1 rfl c1 dX8_isClearing_5 ?_
  refine V_if_le (pc := 6) (tgt := 13) F dX8_isClearing_6 (by decide) (fun h2 => ?_) (fun h2 => ?_)
  · replace hf := ite_pos hf h2
    refine V_iconst (v := 0) (pc := 13) F dX8_isClearing_13 (by decide) ?_
    obtain rfl := some_of hf
    exact V_ret F rfl rfl dX8_isClearing_14 rfl rfl
  · replace hf := ite_neg hf h2
    refine V_iconst (v := 1) (pc := 9) F dX8_isClearing_9 (by decide) ?_
    refine V_goto (pc := 10) (tgt := 14) F dX8_isClearing_10 (by decide) ?_
    obtain rfl := some_of hf
    exact V_ret F rfl rfl dX8_isClearing_14 rfl rfl
