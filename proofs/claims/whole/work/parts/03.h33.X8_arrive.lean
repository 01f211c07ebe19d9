theorem hd_X8_arrive : yX8_arrive.cls = RX8 ∧ yX8_arrive.cls ≠ "java/lang/invoke/MethodHandle" ∧ yX8_arrive.cls ≠ "java/lang/invoke/VarHandle" ∧ (parseMethodDescriptor yX8_arrive.desc).map (fun d => d.parameters.length) = some 1 := by decide +kernel
def fX8_arrive (N : Nat) (v : SX8) (x1 : Int32) : Option (SX8) :=
  chk 2 143 (
    nmd (upd v.2.1 (2 : Int32).toNatClampNeg x1) fun f2 =>
    chk 3 143 (
      nmd (upd f2 (3 : Int32).toNatClampNeg (0 : Int32)) fun f5 =>
      chk 4 143 (
        nmd (upd f5 (4 : Int32).toNatClampNeg (0 : Int32)) fun f8 =>
        chk 5 143 (
          nmd (upd f8 (5 : Int32).toNatClampNeg ((-1) : Int32)) fun f11 =>
          chk (((31 : Int32) + ((14 : Int32) * x1)) + 2) 143 (
            chk (((31 : Int32) + ((14 : Int32) * x1)) + 2) 143 (
              nmd (upd f11 (((31 : Int32) + ((14 : Int32) * x1)) + 2).toNatClampNeg ((f11 (((31 : Int32) + ((14 : Int32) * x1)) + 2).toNatClampNeg) + 1)) fun f15 =>
              some (v.1, f15, v.2.2)
            )
          )
        )
      )
    )
  )
set_option maxHeartbeats 8000000 in
set_option maxRecDepth 100000 in
theorem M_X8_arrive (l : Launch) (D : va_G) (cy : Nat → ClassId) (N : Nat) (a : Nat → Nat) (v : SX8) (x1 : Int32) (o : SX8) (hf : fX8_arrive N v x1 = some o) : okM l yX8_arrive wsX8_arrive (rmz 0 0) D cy [.ref (a 0), .int x1] (wX8 cy a v) (wX8 cy a o) none := by
  refine okM_of (own := RX8) (nme := "arrive") (cc := cX8_arrive) (maxL := 2) (ret := none) (by decide) rfl rfl rfl (Nat.le_of_ble_eq_true rfl) ?_
  intro p e s m args below meth c A F
  have i_X8 : ∀ w ∈ u_ws RX8 TX8 13, w ∈ wsX8_arrive := fun _ h => List.mem_cons_of_mem _ (List.mem_append_right _ h)
  unfold fX8_arrive at hf
  refine V.eq rfl (show lv_args 0 [.ref (a 0), .int x1] = [(0, .ref (a 0)), (1, .int x1)] from rfl) rfl ?_
  refine V_aload_n (pc := 0) F dX8_arrive_0 rfl 0 rfl ?_
  refine V_get (pc := 1) F 0 8 1 i_X8 rfl (by decide) rfl (mm 1 rfl) dX8_arrive_1 rfl rfl ?_
  refine V_iconst (v := 2) (pc := 4) F dX8_arrive_4 (by decide) ?_
  refine V_iload_n (pc := 5) F dX8_arrive_5 rfl 1 rfl ?_
  obtain ⟨c1, hf⟩ := chk_some hf
  obtain ⟨f2, e3, hf⟩ := nmd_of hf
  refine V_iast (w2 := wX8 cy a (v.1, f2, v.2.2)) (pc := 6) F 1 rfl c1 e3 dX8_arrive_6 rfl ?_
  refine V_aload_n (pc := 7) F dX8_arrive_7 rfl 0 rfl ?_
  refine V_get (pc := 8) F 0 8 1 i_X8 rfl (by decide) rfl (mm 1 rfl) dX8_arrive_8 rfl rfl ?_
  refine V_iconst (v := 3) (pc := 11) F dX8_arrive_11 (by decide) ?_
  refine V_iconst (v := 0) (pc := 12) F dX8_arrive_12 (by decide) ?_
  obtain ⟨c4, hf⟩ := chk_some hf
  obtain ⟨f5, e6, hf⟩ := nmd_of hf
  refine V_iast (w2 := wX8 cy a (v.1, f5, v.2.2)) (pc := 13) F 1 rfl c4 e6 dX8_arrive_13 rfl ?_
  refine V_aload_n (pc := 14) F dX8_arrive_14 rfl 0 rfl ?_
  refine V_get (pc := 15) F 0 8 1 i_X8 rfl (by decide) rfl (mm 1 rfl) dX8_arrive_15 rfl rfl ?_
  refine V_iconst (v := 4) (pc := 18) F dX8_arrive_18 (by decide) ?_
  refine V_iconst (v := 0) (pc := 19) F dX8_arrive_19 (by decide) ?_
  obtain ⟨c7, hf⟩ := chk_some hf
  obtain ⟨f8, e9, hf⟩ := nmd_of hf
  refine V_iast (w2 := wX8 cy a (v.1, f8, v.2.2)) (pc := 20) F 1 rfl c7 e9 dX8_arrive_20 rfl ?_
  refine V_aload_n (pc := 21) F dX8_arrive_21 rfl 0 rfl ?_
  refine V_get (pc := 22) F 0 8 1 i_X8 rfl (by decide) rfl (mm 1 rfl) dX8_arrive_22 rfl rfl ?_
  refine V_iconst (v := 5) (pc := 25) F dX8_arrive_25 (by decide) ?_
  refine V_iconst (v := (-1)) (pc := 26) F dX8_arrive_26 (by decide) ?_
  obtain ⟨c10, hf⟩ := chk_some hf
  obtain ⟨f11, e12, hf⟩ := nmd_of hf
  refine V_iast (w2 := wX8 cy a (v.1, f11, v.2.2)) (pc := 27) F 1 rfl c10 e12 dX8_arrive_27 rfl ?_
  refine V_aload_n (pc := 28) F dX8_arrive_28 rfl 0 rfl ?_
  refine V_get (pc := 29) F 0 8 1 i_X8 rfl (by decide) rfl (mm 1 rfl) dX8_arrive_29 rfl rfl ?_
  refine V_bipush (v := 31) (pc := 32) F dX8_arrive_32 (by decide) ?_
  refine V_bipush (v := 14) (pc := 34) F dX8_arrive_34 (by decide) ?_
  refine V_iload_n (pc := 36) F dX8_arrive_36 rfl 1 rfl ?_
  refine V_imul (pc := 37) F dX8_arrive_37 ?_
  refine V_iadd (pc := 38) F dX8_arrive_38 ?_
  refine V_iconst (v := 2) (pc := 39) F dX8_arrive_39 (by decide) ?_
  refine V_iadd (pc := 40) F dX8_arrive_40 ?_
  refine V_dup2_11 (pc := 41) F dX8_arrive_41 rfl rfl ?_
  obtain ⟨c13, hf⟩ := chk_some hf
  refine V_iald (pc := 42) F 1 rfl c13 dX8_arrive_42 ?_
  refine V_iconst (v := 1) (pc := 43) F dX8_arrive_43 (by decide) ?_
  refine V_iadd (pc := 44) F dX8_arrive_44 ?_
  obtain ⟨c14, hf⟩ := chk_some hf
  obtain ⟨f15, e16, hf⟩ := nmd_of hf
  refine V_iast (w2 := wX8 cy a (v.1, f15, v.2.2)) (pc := 45) F 1 rfl c14 e16 dX8_arrive_45 rfl ?_
  obtain rfl := some_of hf
  exact V_vret F rfl dX8_arrive_46 rfl
