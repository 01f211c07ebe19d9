theorem hd_X8_doClash : yX8_doClash.cls = RX8 ∧ yX8_doClash.cls ≠ "java/lang/invoke/MethodHandle" ∧ yX8_doClash.cls ≠ "java/lang/invoke/VarHandle" ∧ (parseMethodDescriptor yX8_doClash.desc).map (fun d => d.parameters.length) = some 2 := by decide +kernel
def fX8_doClash (N : Nat) (v : SX8) (x1 : Int32) (x2 : Int32) : Option (Int32) :=
  chk ((7 : Int32) + x1) 143 (
    if (((v.2.1 ((7 : Int32) + x1).toNatClampNeg) >>> (x2 &&& 31)) &&& 1) = 1 then
      some 1
    else
      some 0
  )
set_option maxHeartbeats 8000000 in
set_option maxRecDepth 100000 in
theorem M_X8_doClash (l : Launch) (D : va_G) (cy : Nat → ClassId) (N : Nat) (a : Nat → Nat) (v : SX8) (x1 : Int32) (x2 : Int32) (o : Int32) (hf : fX8_doClash N v x1 x2 = some o) : okM l yX8_doClash wsX8_doClash (rmz 0 0) D cy [.ref (a 0), .int x1, .int x2] (wX8 cy a v) (wX8 cy a v) (some (.int o)) := by
  refine okM_of (own := RX8) (nme := "doClash") (cc := cX8_doClash) (maxL := 3) (ret := (some .boolean)) (by decide) rfl rfl rfl (Nat.le_of_ble_eq_true rfl) ?_
  intro p e s m args below meth c A F
  have i_X8 : ∀ w ∈ u_ws RX8 TX8 13, w ∈ wsX8_doClash := fun _ h => List.mem_cons_of_mem _ (List.mem_append_right _ h)
  unfold fX8_doClash at hf
  refine V.eq rfl (show lv_args 0 [.ref (a 0), .int x1, .int x2] = [(0, .ref (a 0)), (1, .int x1), (2, .int x2)] from rfl) rfl ?_
  refine V_aload_n (pc := 0) F dX8_doClash_0 rfl 0 rfl ?_
  refine V_get (pc := 1) F 0 8 1 i_X8 rfl (by decide) rfl (mm 1 rfl) dX8_doClash_1 rfl rfl ?_
  refine V_bipush (v := 7) (pc := 4) F dX8_doClash_4 (by decide) ?_
  refine V_iload_n (pc := 6) F dX8_doClash_6 rfl 1 rfl ?_
  refine V_iadd (pc := 7) F dX8_doClash_7 ?_
  obtain ⟨c1, hf⟩ := chk_some hf
  refine V_iald (pc := 8) F 1 rfl c1 dX8_doClash_8 ?_
  refine V_iload_n (pc := 9) F dX8_doClash_9 rfl 2 rfl ?_
  refine V_ishr (pc := 10) F dX8_doClash_10 ?_
  refine V_iconst (v := 1) (pc := 11) F dX8_doClash_11 (by decide) ?_
  refine V_iand (pc := 12) F dX8_doClash_12 ?_
  refine V_iconst (v := 1) (pc := 13) F dX8_doClash_13 (by decide) ?_
  refine V_icmp_ne (pc := 14) (tgt := 21) F dX8_doClash_14 (by decide) (fun h2 => ?_) (fun h2 => ?_)
  · replace hf := ite_neg hf h2
    refine V_iconst (v := 0) (pc := 21) F dX8_doClash_21 (by decide) ?_
    obtain rfl := some_of hf
    exact V_ret F rfl rfl dX8_doClash_22 rfl rfl
  · replace hf := ite_pos hf h2
    refine V_iconst (v := 1) (pc := 17) F dX8_doClash_17 (by decide) ?_
    refine V_goto (pc := 18) (tgt := 22) F dX8_doClash_18 (by decide) ?_
    obtain rfl := some_of hf
    exact V_ret F rfl rfl dX8_doClash_22 rfl rfl
