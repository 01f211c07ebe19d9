theorem hd_X8_isPhase : yX8_isPhase.cls = RX8 ∧ yX8_isPhase.cls ≠ "java/lang/invoke/MethodHandle" ∧ yX8_isPhase.cls ≠ "java/lang/invoke/VarHandle" ∧ (parseMethodDescriptor yX8_isPhase.desc).map (fun d => d.parameters.length) = some 1 := by decide +kernel
def fX8_isPhase (N : Nat) (v : SX8) (x1 : Int32) : Option (Int32) :=
  if x1 < 0 then
    some 0
  else
    chk 0 143 (
      if (v.2.1 (0 : Int32).toNatClampNeg) ≤ x1 then
        some 0
      else
        some 1
    )
set_option maxHeartbeats 8000000 in
set_option maxRecDepth 100000 in
theorem M_X8_isPhase (l : Launch) (D : va_G) (cy : Nat → ClassId) (N : Nat) (a : Nat → Nat) (v : SX8) (x1 : Int32) (o : Int32) (hf : fX8_isPhase N v x1 = some o) : okM l yX8_isPhase wsX8_isPhase (rmz 0 0) D cy [.ref (a 0), .int x1] (wX8 cy a v) (wX8 cy a v) (some (.int o)) := by
  refine okM_of (own := RX8) (nme := "isPhase") (cc := cX8_isPhase) (maxL := 2) (ret := (some .boolean)) (by decide) rfl rfl rfl (Nat.le_of_ble_eq_true rfl) ?_
  intro p e s m args below meth c A F
  have i_X8 : ∀ w ∈ u_ws RX8 TX8 13, w ∈ wsX8_isPhase := fun _ h => List.mem_cons_of_mem _ (List.mem_append_right _ h)
  unfold fX8_isPhase at hf
  refine V.eq rfl (show lv_args 0 [.ref (a 0), .int x1] = [(0, .ref (a 0)), (1, .int x1)] from rfl) rfl ?_
  refine V_iload_n (pc := 0) F dX8_isPhase_0 rfl 1 rfl ?_
  refine V_if_lt (pc := 1) (tgt := 18) F dX8_isPhase_1 (by decide) (fun h1 => ?_) (fun h1 => ?_)
  · replace hf := ite_pos hf h1
    refine V_iconst (v := 0) (pc := 18) F dX8_isPhase_18 (by decide) ?_
    obtain rfl := some_of hf
    exact V_ret F rfl rfl dX8_isPhase_19 rfl rfl
  · replace hf := ite_neg hf h1
    refine V_iload_n (pc := 4) F dX8_isPhase_4 rfl 1 rfl ?_
    refine V_aload_n (pc := 5) F dX8_isPhase_5 rfl 0 rfl ?_
    refine V_get (pc := 6) F 0 8 1 i_X8 rfl (by decide) rfl (mm 1 rfl) dX8_isPhase_6 rfl rfl ?_
    refine V_iconst (v := 0) (pc := 9) F dX8_isPhase_9 (by decide) ?_
    obtain ⟨c2, hf⟩ := chk_some hf
    refine V_iald (pc := 10) F 1 rfl c2 dX8_isPhase_10 ?_
    refine V_icmp_ge (pc := 11) (tgt := 18) F dX8_isPhase_11 (by decide) (fun h3 => ?_) (fun h3 => ?_)
    · replace hf := ite_pos hf h3
      refine V_iconst (v := 0) (pc := 18) F dX8_isPhase_18 (by decide) ?_
      obtain rfl := some_of hf
      exact V_ret F rfl rfl dX8_isPhase_19 rfl rfl
    · replace hf := ite_neg hf h3
      refine V_iconst (v := 1) (pc := 14) F dX8_isPhase_14 (by decide) ?_
      refine V_goto (pc := 15) (tgt := 19) F dX8_isPhase_15 (by decide) ?_
      obtain rfl := some_of hf
      exact V_ret F rfl rfl dX8_isPhase_19 rfl rfl
