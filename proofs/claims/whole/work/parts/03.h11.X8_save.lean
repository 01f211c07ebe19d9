theorem hd_X8_save : yX8_save.cls = RX8 ∧ yX8_save.cls ≠ "java/lang/invoke/MethodHandle" ∧ yX8_save.cls ≠ "java/lang/invoke/VarHandle" ∧ (parseMethodDescriptor yX8_save.desc).map (fun d => d.parameters.length) = some 0 := by decide +kernel
def fX8_save_L52 (N : Nat)  : Nat → SX8 → Int32 → Option (SX8)
  | 0, _, _ => none
  | n + 1, v, z1 =>
    if 143 ≤ z1 then
      some v
    else
      chk z1 143 (
        chk ((v.2.2.2.1 * 143) + z1) 858 (
          nmd (upd v.2.2.1 ((v.2.2.2.1 * 143) + z1).toNatClampNeg (v.2.1 z1.toNatClampNeg)) fun f5 =>
          fX8_save_L52 N n (v.1, v.2.1, f5, v.2.2.2) (z1 + 1)
        )
      )
def fX8_save_L11 (N : Nat)  : Nat → SX8 → Int32 → Option (SX8)
  | 0, _, _ => none
  | n + 1, v, z1 =>
    if 715 ≤ z1 then
      some v
    else
      chk (z1 + 143) 858 (
        chk z1 858 (
          nmd (upd v.2.2.1 z1.toNatClampNeg (v.2.2.1 (z1 + 143).toNatClampNeg)) fun f12 =>
          fX8_save_L11 N n (v.1, v.2.1, f12, v.2.2.2) (z1 + 1)
        )
      )
def fX8_save (N : Nat) (v : SX8) : Option (SX8) :=
  if v.2.2.2.1 = 6 then
    (fX8_save_L11 N N v 0).bind fun u14 =>
      (fX8_save_L52 N N (u14.1, u14.2.1, u14.2.2.1, (u14.2.2.2.1 - 1), u14.2.2.2.2) 0).bind fun u16 =>
        some (u16.1, u16.2.1, u16.2.2.1, (u16.2.2.2.1 + 1), u16.2.2.2.2)
  else
    (fX8_save_L52 N N v 0).bind fun u7 =>
      some (u7.1, u7.2.1, u7.2.2.1, (u7.2.2.2.1 + 1), u7.2.2.2.2)
set_option maxHeartbeats 8000000 in
set_option maxRecDepth 100000 in
theorem M_X8_save (l : Launch) (D : va_G) (cy : Nat → ClassId) (N : Nat) (a : Nat → Nat) (v : SX8) (o : SX8) (hf : fX8_save N v = some o) : okM l yX8_save wsX8_save (rmz 0 0) D cy [.ref (a 0)] (wX8 cy a v) (wX8 cy a o) none := by
  refine okM_of (own := RX8) (nme := "save") (cc := cX8_save) (maxL := 2) (ret := none) (by decide) rfl rfl rfl (Nat.le_of_ble_eq_true rfl) ?_
  intro p e s m args below meth c A F
  have i_X8 : ∀ w ∈ u_ws RX8 TX8 13, w ∈ wsX8_save := fun _ h => List.mem_cons_of_mem _ (List.mem_append_right _ h)
  have K52 : ∀ (n : Nat) (v : SX8) (z1 : Int32) (u : SX8), fX8_save_L52 N n v z1 = some u → V p l e (rmz 0 0) s m args below meth c 2 D A 0 0 (MQ below (ok_Q D (wX8 cy a o) none A) args s 0 0 A) (wX8 cy a u) [(0, .ref (a 0))] [] 86 → V p l e (rmz 0 0) s m args below meth c 2 D A 0 0 (MQ below (ok_Q D (wX8 cy a o) none A) args s 0 0 A) (wX8 cy a v) [(0, .ref (a 0)), (1, .int z1)] [] 52 := by
    intro n
    induction n with
    | zero =>
      intro v z1 u hf hk
      exact nomatch (show (none : Option (SX8)) = some u from hf)
    | succ n ih =>
      intro v z1 u hf hk
      rw [fX8_save_L52] at hf
      refine V_iload_n (pc := 52) F dX8_save_52 rfl 1 rfl ?_
      refine V_sipush (v := 143) (pc := 53) F dX8_save_53 (by decide) ?_
      refine V_icmp_ge (pc := 56) (tgt := 86) F dX8_save_56 (by decide) (fun h2 => ?_) (fun h2 => ?_)
      · replace hf := ite_pos hf h2
        obtain rfl := some_of hf
        exact V.sub [0] rfl hk
      · replace hf := ite_neg hf h2
        refine V_aload_n (pc := 59) F dX8_save_59 rfl 0 rfl ?_
        refine V_get (pc := 60) F 0 8 2 i_X8 rfl (by decide) rfl (mm 2 rfl) dX8_save_60 rfl rfl ?_
        refine V_aload_n (pc := 63) F dX8_save_63 rfl 0 rfl ?_
        refine V_get (pc := 64) F 0 8 3 i_X8 rfl (by decide) rfl (mm 1 rfl) dX8_save_64 rfl rfl ?_
        refine V_sipush (v := 143) (pc := 67) F dX8_save_67 (by decide) ?_
        refine V_imul (pc := 70) F dX8_save_70 ?_
        refine V_iload_n (pc := 71) F dX8_save_71 rfl 1 rfl ?_
        refine V_iadd (pc := 72) F dX8_save_72 ?_
        refine V_aload_n (pc := 73) F dX8_save_73 rfl 0 rfl ?_
        refine V_get (pc := 74) F 0 8 1 i_X8 rfl (by decide) rfl (mm 3 rfl) dX8_save_74 rfl rfl ?_
        refine V_iload_n (pc := 77) F dX8_save_77 rfl 1 rfl ?_
        obtain ⟨c3, hf⟩ := chk_some hf
        refine V_iald (pc := 78) F 1 rfl c3 dX8_save_78 ?_
        obtain ⟨c4, hf⟩ := chk_some hf
        obtain ⟨f5, e6, hf⟩ := nmd_of hf
        refine V_iast (w2 := wX8 cy a (v.1, v.2.1, f5, v.2.2.2)) (pc := 79) F 2 rfl c4 e6 dX8_save_79 rfl ?_
        refine V_iinc (v := (z1 + 1)) (L2 := [(1, .int (z1 + 1)), (0, .ref (a 0))]) (pc := 80) F dX8_save_80 1 rfl rfl (by decide) rfl ?_
        refine V_goto (pc := 83) (tgt := 52) F dX8_save_83 (by decide) ?_
        refine V.sub [1, 0] rfl ?_
        exact ih (v.1, v.2.1, f5, v.2.2.2) (z1 + 1) _ hf hk
  have K11 : ∀ (n : Nat) (v : SX8) (z1 : Int32) (u : SX8), fX8_save_L11 N n v z1 = some u → V p l e (rmz 0 0) s m args below meth c 2 D A 0 0 (MQ below (ok_Q D (wX8 cy a o) none A) args s 0 0 A) (wX8 cy a u) [(0, .ref (a 0))] [] 40 → V p l e (rmz 0 0) s m args below meth c 2 D A 0 0 (MQ below (ok_Q D (wX8 cy a o) none A) args s 0 0 A) (wX8 cy a v) [(0, .ref (a 0)), (1, .int z1)] [] 11 := by
    intro n
    induction n with
    | zero =>
      intro v z1 u hf hk
      exact nomatch (show (none : Option (SX8)) = some u from hf)
    | succ n ih =>
      intro v z1 u hf hk
      rw [fX8_save_L11] at hf
      refine V_iload_n (pc := 11) F dX8_save_11 rfl 1 rfl ?_
      refine V_sipush (v := 715) (pc := 12) F dX8_save_12 (by decide) ?_
      refine V_icmp_ge (pc := 15) (tgt := 40) F dX8_save_15 (by decide) (fun h9 => ?_) (fun h9 => ?_)
      · replace hf := ite_pos hf h9
        obtain rfl := some_of hf
        exact V.sub [0] rfl hk
      · replace hf := ite_neg hf h9
        refine V_aload_n (pc := 18) F dX8_save_18 rfl 0 rfl ?_
        refine V_get (pc := 19) F 0 8 2 i_X8 rfl (by decide) rfl (mm 2 rfl) dX8_save_19 rfl rfl ?_
        refine V_iload_n (pc := 22) F dX8_save_22 rfl 1 rfl ?_
        refine V_aload_n (pc := 23) F dX8_save_23 rfl 0 rfl ?_
        refine V_get (pc := 24) F 0 8 2 i_X8 rfl (by decide) rfl (mm 2 rfl) dX8_save_24 rfl rfl ?_
        refine V_iload_n (pc := 27) F dX8_save_27 rfl 1 rfl ?_
        refine V_sipush (v := 143) (pc := 28) F dX8_save_28 (by decide) ?_
        refine V_iadd (pc := 31) F dX8_save_31 ?_
        obtain ⟨c10, hf⟩ := chk_some hf
        refine V_iald (pc := 32) F 2 rfl c10 dX8_save_32 ?_
        obtain ⟨c11, hf⟩ := chk_some hf
        obtain ⟨f12, e13, hf⟩ := nmd_of hf
        refine V_iast (w2 := wX8 cy a (v.1, v.2.1, f12, v.2.2.2)) (pc := 33) F 2 rfl c11 e13 dX8_save_33 rfl ?_
        refine V_iinc (v := (z1 + 1)) (L2 := [(1, .int (z1 + 1)), (0, .ref (a 0))]) (pc := 34) F dX8_save_34 1 rfl rfl (by decide) rfl ?_
        refine V_goto (pc := 37) (tgt := 11) F dX8_save_37 (by decide) ?_
        refine V.sub [1, 0] rfl ?_
        exact ih (v.1, v.2.1, f12, v.2.2.2) (z1 + 1) _ hf hk
  unfold fX8_save at hf
  refine V.eq rfl (show lv_args 0 [.ref (a 0)] = [(0, .ref (a 0))] from rfl) rfl ?_
  refine V_aload_n (pc := 0) F dX8_save_0 rfl 0 rfl ?_
  refine V_get (pc := 1) F 0 8 3 i_X8 rfl (by decide) rfl (mm 1 rfl) dX8_save_1 rfl rfl ?_
  refine V_bipush (v := 6) (pc := 4) F dX8_save_4 (by decide) ?_
  refine V_icmp_ne (pc := 6) (tgt := 50) F dX8_save_6 (by decide) (fun h1 => ?_) (fun h1 => ?_)
  · replace hf := ite_neg hf h1
    refine V_iconst (v := 0) (pc := 50) F dX8_save_50 (by decide) ?_
    refine V_istore_n (L2 := [(1, .int 0), (0, .ref (a 0))]) (pc := 51) F dX8_save_51 rfl (by decide) rfl ?_
    refine V.sub [1, 0] rfl ?_
    obtain ⟨u7, g8, hf⟩ := bind_of hf
    refine K52 N v 0 u7 g8 ?_
    refine V_aload_n (pc := 86) F dX8_save_86 rfl 0 rfl ?_
    refine V_dup (pc := 87) F dX8_save_87 rfl ?_
    refine V_get (pc := 88) F 0 8 3 i_X8 rfl (by decide) rfl (mm 1 rfl) dX8_save_88 rfl rfl ?_
    refine V_iconst (v := 1) (pc := 91) F dX8_save_91 (by decide) ?_
    refine V_iadd (pc := 92) F dX8_save_92 ?_
    refine V_put (w2 := wX8 cy a (u7.1, u7.2.1, u7.2.2.1, (u7.2.2.2.1 + 1), u7.2.2.2.2)) (pc := 93) F 0 8 3 i_X8 tyX8 tyX8_ok nmX8 rfl (by decide) rfl (mm 1 rfl) rfl dX8_save_93 rfl rfl rfl (Nat.le_of_ble_eq_true rfl) rfl ?_
    obtain rfl := some_of hf
    exact V_vret F rfl dX8_save_96 rfl
  · replace hf := ite_pos hf h1
    refine V_iconst (v := 0) (pc := 9) F dX8_save_9 (by decide) ?_
    refine V_istore_n (L2 := [(1, .int 0), (0, .ref (a 0))]) (pc := 10) F dX8_save_10 rfl (by decide) rfl ?_
    refine V.sub [1, 0] rfl ?_
    obtain ⟨u14, g15, hf⟩ := bind_of hf
    refine K11 N v 0 u14 g15 ?_
    refine V_aload_n (pc := 40) F dX8_save_40 rfl 0 rfl ?_
    refine V_dup (pc := 41) F dX8_save_41 rfl ?_
    refine V_get (pc := 42) F 0 8 3 i_X8 rfl (by decide) rfl (mm 1 rfl) dX8_save_42 rfl rfl ?_
    refine V_iconst (v := 1) (pc := 45) F dX8_save_45 (by decide) ?_
    refine V_isub (pc := 46) F dX8_save_46 ?_
    refine V_put (w2 := wX8 cy a (u14.1, u14.2.1, u14.2.2.1, (u14.2.2.2.1 - 1), u14.2.2.2.2)) (pc := 47) F 0 8 3 i_X8 tyX8 tyX8_ok nmX8 rfl (by decide) rfl (mm 1 rfl) rfl dX8_save_47 rfl rfl rfl (Nat.le_of_ble_eq_true rfl) rfl ?_
    refine V_iconst (v := 0) (pc := 50) F dX8_save_50 (by decide) ?_
    refine V_istore_n (L2 := [(1, .int 0), (0, .ref (a 0))]) (pc := 51) F dX8_save_51 rfl (by decide) rfl ?_
    refine V.sub [1, 0] rfl ?_
    obtain ⟨u16, g17, hf⟩ := bind_of hf
    refine K52 N (u14.1, u14.2.1, u14.2.2.1, (u14.2.2.2.1 - 1), u14.2.2.2.2) 0 u16 g17 ?_
    refine V_aload_n (pc := 86) F dX8_save_86 rfl 0 rfl ?_
    refine V_dup (pc := 87) F dX8_save_87 rfl ?_
    refine V_get (pc := 88) F 0 8 3 i_X8 rfl (by decide) rfl (mm 1 rfl) dX8_save_88 rfl rfl ?_
    refine V_iconst (v := 1) (pc := 91) F dX8_save_91 (by decide) ?_
    refine V_iadd (pc := 92) F dX8_save_92 ?_
    refine V_put (w2 := wX8 cy a (u16.1, u16.2.1, u16.2.2.1, (u16.2.2.2.1 + 1), u16.2.2.2.2)) (pc := 93) F 0 8 3 i_X8 tyX8 tyX8_ok nmX8 rfl (by decide) rfl (mm 1 rfl) rfl dX8_save_93 rfl rfl rfl (Nat.le_of_ble_eq_true rfl) rfl ?_
    obtain rfl := some_of hf
    exact V_vret F rfl dX8_save_96 rfl
