theorem hd_X8_setClash : yX8_setClash.cls = RX8 ∧ yX8_setClash.cls ≠ "java/lang/invoke/MethodHandle" ∧ yX8_setClash.cls ≠ "java/lang/invoke/VarHandle" ∧ (parseMethodDescriptor yX8_setClash.desc).map (fun d => d.parameters.length) = some 3 := by decide +kernel
def fX8_setClash (N : Nat) (v : SX8) (x1 : Int32) (x2 : Int32) (x3 : Int32) : Option (SX8) :=
  chk ((7 : Int32) + x1) 143 (
    chk ((7 : Int32) + x1) 143 (
      nmd (upd v.2.1 ((7 : Int32) + x1).toNatClampNeg (((v.2.1 ((7 : Int32) + x1).toNatClampNeg) &&& (((1 : Int32) <<< (x2 &&& 31)) ^^^ (-1))) ||| (x3 <<< (x2 &&& 31)))) fun f3 =>
      chk ((7 : Int32) + x2) 143 (
        chk ((7 : Int32) + x2) 143 (
          nmd (upd f3 ((7 : Int32) + x2).toNatClampNeg (((f3 ((7 : Int32) + x2).toNatClampNeg) &&& (((1 : Int32) <<< (x1 &&& 31)) ^^^ (-1))) ||| (x3 <<< (x1 &&& 31)))) fun f7 =>
          some (v.1, f7, v.2.2)
        )
      )
    )
  )
set_option maxHeartbeats 8000000 in
set_option maxRecDepth 100000 in
theorem M_X8_setClash (l : Launch) (D : va_G) (cy : Nat → ClassId) (N : Nat) (a : Nat → Nat) (v : SX8) (x1 : Int32) (x2 : Int32) (x3 : Int32) (o : SX8) (hf : fX8_setClash N v x1 x2 x3 = some o) : okM l yX8_setClash wsX8_setClash (rmz 0 0) D cy [.ref (a 0), .int x1, .int x2, .int x3] (wX8 cy a v) (wX8 cy a o) none := by
  refine okM_of (own := RX8) (nme := "setClash") (cc := cX8_setClash) (maxL := 4) (ret := none) (by decide) rfl rfl rfl (Nat.le_of_ble_eq_true rfl) ?_
  intro p e s m args below meth c A F
  have i_X8 : ∀ w ∈ u_ws RX8 TX8 13, w ∈ wsX8_setClash := fun _ h => List.mem_cons_of_mem _ (List.mem_append_right _ h)
  unfold fX8_setClash at hf
  refine V.eq rfl (show lv_args 0 [.ref (a 0), .int x1, .int x2, .int x3] = [(0, .ref (a 0)), (1, .int x1), (2, .int x2), (3, .int x3)] from rfl) rfl ?_
  refine V_aload_n (pc := 0) F dX8_setClash_0 rfl 0 rfl ?_
  refine V_get (pc := 1) F 0 8 1 i_X8 rfl (by decide) rfl (mm 1 rfl) dX8_setClash_1 rfl rfl ?_
  refine V_bipush (v := 7) (pc := 4) F dX8_setClash_4 (by decide) ?_
  refine V_iload_n (pc := 6) F dX8_setClash_6 rfl 1 rfl ?_
  refine V_iadd (pc := 7) F dX8_setClash_7 ?_
  refine V_aload_n (pc := 8) F dX8_setClash_8 rfl 0 rfl ?_
  refine V_get (pc := 9) F 0 8 1 i_X8 rfl (by decide) rfl (mm 1 rfl) dX8_setClash_9 rfl rfl ?_
  refine V_bipush (v := 7) (pc := 12) F dX8_setClash_12 (by decide) ?_
  refine V_iload_n (pc := 14) F dX8_setClash_14 rfl 1 rfl ?_
  refine V_iadd (pc := 15) F dX8_setClash_15 ?_
  obtain ⟨c1, hf⟩ := chk_some hf
  refine V_iald (pc := 16) F 1 rfl c1 dX8_setClash_16 ?_
  refine V_iconst (v := 1) (pc := 17) F dX8_setClash_17 (by decide) ?_
  refine V_iload_n (pc := 18) F dX8_setClash_18 rfl 2 rfl ?_
  refine V_ishl (pc := 19) F dX8_setClash_19 ?_
  refine V_iconst (v := (-1)) (pc := 20) F dX8_setClash_20 (by decide) ?_
  refine V_ixor (pc := 21) F dX8_setClash_21 ?_
  refine V_iand (pc := 22) F dX8_setClash_22 ?_
  refine V_iload_n (pc := 23) F dX8_setClash_23 rfl 3 rfl ?_
  refine V_iload_n (pc := 24) F dX8_setClash_24 rfl 2 rfl ?_
  refine V_ishl (pc := 25) F dX8_setClash_25 ?_
  refine V_ior (pc := 26) F dX8_setClash_26 ?_
  obtain ⟨c2, hf⟩ := chk_some hf
  obtain ⟨f3, e4, hf⟩ := nmd_of hf
  refine V_iast (w2 := wX8 cy a (v.1, f3, v.2.2)) (pc := 27) F 1 rfl c2 e4 dX8_setClash_27 rfl ?_
  refine V_aload_n (pc := 28) F dX8_setClash_28 rfl 0 rfl ?_
  refine V_get (pc := 29) F 0 8 1 i_X8 rfl (by decide) rfl (mm 1 rfl) dX8_setClash_29 rfl rfl ?_
  refine V_bipush (v := 7) (pc := 32) F dX8_setClash_32 (by decide) ?_
  refine V_iload_n (pc := 34) F dX8_setClash_34 rfl 2 rfl ?_
  refine V_iadd (pc := 35) F dX8_setClash_35 ?_
  refine V_aload_n (pc := 36) F dX8_setClash_36 rfl 0 rfl ?_
  refine V_get (pc := 37) F 0 8 1 i_X8 rfl (by decide) rfl (mm 1 rfl) dX8_setClash_37 rfl rfl ?_
  refine V_bipush (v := 7) (pc := 40) F dX8_setClash_40 (by decide) ?_
  refine V_iload_n (pc := 42) F dX8_setClash_42 rfl 2 rfl ?_
  refine V_iadd (pc := 43) F dX8_setClash_43 ?_
  obtain ⟨c5, hf⟩ := chk_some hf
  refine V_iald (pc := 44) F 1 rfl c5 dX8_setClash_44 ?_
  refine V_iconst (v := 1) (pc := 45) F dX8_setClash_45 (by decide) ?_
  refine V_iload_n (pc := 46) F dX8_setClash_46 rfl 1 rfl ?_
  refine V_ishl (pc := 47) F dX8_setClash_47 ?_
  refine V_iconst (v := (-1)) (pc := 48) F dX8_setClash_48 (by decide) ?_
  refine V_ixor (pc := 49) F dX8_setClash_49 ?_
  refine V_iand (pc := 50) F dX8_setClash_50 ?_
  refine V_iload_n (pc := 51) F dX8_setClash_51 rfl 3 rfl ?_
  refine V_iload_n (pc := 52) F dX8_setClash_52 rfl 1 rfl ?_
  refine V_ishl (pc := 53) F dX8_setClash_53 ?_
  refine V_ior (pc := 54) F dX8_setClash_54 ?_
  obtain ⟨c6, hf⟩ := chk_some hf
  obtain ⟨f7, e8, hf⟩ := nmd_of hf
  refine V_iast (w2 := wX8 cy a (v.1, f7, v.2.2)) (pc := 55) F 1 rfl c6 e8 dX8_setClash_55 rfl ?_
  obtain rfl := some_of hf
  exact V_vret F rfl dX8_setClash_56 rfl
