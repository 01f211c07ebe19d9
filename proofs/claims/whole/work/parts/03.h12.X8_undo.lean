theorem hd_X8_undo : yX8_undo.cls = RX8 ∧ yX8_undo.cls ≠ "java/lang/invoke/MethodHandle" ∧ yX8_undo.cls ≠ "java/lang/invoke/VarHandle" ∧ (parseMethodDescriptor yX8_undo.desc).map (fun d => d.parameters.length) = some 0 := by decide +kernel
def fX8_undo_L37 (N : Nat)  : Nat → SX8 → Int32 → Option (SX8)
  | 0, _, _ => none
  | n + 1, v, z1 =>
    if 143 ≤ z1 then
      some v
    else
      chk ((v.2.2.2.1 * 143) + z1) 858 (
        chk z1 143 (
          nmd (upd v.2.1 z1.toNatClampNeg (v.2.2.1 ((v.2.2.2.1 * 143) + z1).toNatClampNeg)) fun f6 =>
          fX8_undo_L37 N n (v.1, f6, v.2.2) (z1 + 1)
        )
      )
def fX8_undo (N : Nat) (v : SX8) : Option (Int32 × SX8) :=
  if v.2.2.2.1 = 0 then
    some (0, (1, v.2))
  else
    (fX8_undo_L37 N N (0, v.2.1, v.2.2.1, (v.2.2.2.1 - 1), v.2.2.2.2) 0).bind fun u8 =>
      some (u8.2.2.2.1, u8)
set_option maxHeartbeats 8000000 in
set_option maxRecDepth 100000 in
theorem M_X8_undo (l : Launch) (D : va_G) (cy : Nat → ClassId) (N : Nat) (a : Nat → Nat) (v : SX8) (o : Int32 × SX8) (hf : fX8_undo N v = some o) : okM l yX8_undo wsX8_undo (rmz 0 0) D cy [.ref (a 0)] (wX8 cy a v) (wX8 cy a o.2) (some (.int o.1)) := by
  refine okM_of (own := RX8) (nme := "undo") (cc := cX8_undo) (maxL := 2) (ret := (some .int)) (by decide) rfl rfl rfl (Nat.le_of_ble_eq_true rfl) ?_
  intro p e s m args below meth c A F
  have i_X8 : ∀ w ∈ u_ws RX8 TX8 13, w ∈ wsX8_undo := fun _ h => List.mem_cons_of_mem _ (List.mem_append_right _ h)
  have K37 : ∀ (n : Nat) (v : SX8) (z1 : Int32) (u : SX8), fX8_undo_L37 N n v z1 = some u → V p l e (rmz 0 0) s m args below meth c 2 D A 0 0 (MQ below (ok_Q D (wX8 cy a o.2) (some (.int o.1)) A) args s 0 0 A) (wX8 cy a u) [(0, .ref (a 0))] [] 71 → V p l e (rmz 0 0) s m args below meth c 2 D A 0 0 (MQ below (ok_Q D (wX8 cy a o.2) (some (.int o.1)) A) args s 0 0 A) (wX8 cy a v) [(0, .ref (a 0)), (1, .int z1)] [] 37 := by
    intro n
    induction n with
    | zero =>
      intro v z1 u hf hk
      exact nomatch (show (none : Option (SX8)) = some u from hf)
    | succ n ih =>
      intro v z1 u hf hk
      rw [fX8_undo_L37] at hf
      refine V_iload_n (pc := 37) F dX8_undo_37 rfl 1 rfl ?_
      refine V_sipush (v := 143) (pc := 38) F dX8_undo_38 (by decide) ?_
      refine V_icmp_ge (pc := 41) (tgt := 71) F dX8_undo_41 (by decide) (fun h3 => ?_) (fun h3 => ?_)
      · replace hf := ite_pos hf h3
        obtain rfl := some_of hf
        exact V.sub [0] rfl hk
      · replace hf := ite_neg hf h3
        refine V_aload_n (pc := 44) F dX8_undo_44 rfl 0 rfl ?_
        refine V_get (pc := 45) F 0 8 1 i_X8 rfl (by decide) rfl (mm 3 rfl) dX8_undo_45 rfl rfl ?_
        refine V_iload_n (pc := 48) F dX8_undo_48 rfl 1 rfl ?_
        refine V_aload_n (pc := 49) F dX8_undo_49 rfl 0 rfl ?_
        refine V_get (pc := 50) F 0 8 2 i_X8 rfl (by decide) rfl (mm 4 rfl) dX8_undo_50 rfl rfl ?_
        refine V_aload_n (pc := 53) F dX8_undo_53 rfl 0 rfl ?_
        refine V_get (pc := 54) F 0 8 3 i_X8 rfl (by decide) rfl (mm 1 rfl) dX8_undo_54 rfl rfl ?_
        refine V_sipush (v := 143) (pc := 57) F dX8_undo_57 (by decide) ?_
        refine V_imul (pc := 60) F dX8_undo_60 ?_
        refine V_iload_n (pc := 61) F dX8_undo_61 rfl 1 rfl ?_
        refine V_iadd (pc := 62) F dX8_undo_62 ?_
        obtain ⟨c4, hf⟩ := chk_some hf
        refine V_iald (pc := 63) F 2 rfl c4 dX8_undo_63 ?_
        obtain ⟨c5, hf⟩ := chk_some hf
        obtain ⟨f6, e7, hf⟩ := nmd_of hf
        refine V_iast (w2 := wX8 cy a (v.1, f6, v.2.2)) (pc := 64) F 1 rfl c5 e7 dX8_undo_64 rfl ?_
        refine V_iinc (v := (z1 + 1)) (L2 := [(1, .int (z1 + 1)), (0, .ref (a 0))]) (pc := 65) F dX8_undo_65 1 rfl rfl (by decide) rfl ?_
        refine V_goto (pc := 68) (tgt := 37) F dX8_undo_68 (by decide) ?_
        refine V.sub [1, 0] rfl ?_
        exact ih (v.1, f6, v.2.2) (z1 + 1) _ hf hk
  unfold fX8_undo at hf
  refine V.eq rfl (show lv_args 0 [.ref (a 0)] = [(0, .ref (a 0))] from rfl) rfl ?_
  refine V_aload_n (pc := 0) F dX8_undo_0 rfl 0 rfl ?_
  refine V_aload_n (pc := 1) F dX8_undo_1 rfl 0 rfl ?_
  refine V_get (pc := 2) F 0 8 3 i_X8 rfl (by decide) rfl (mm 1 rfl) dX8_undo_2 rfl rfl ?_
  refine V_if_ne (pc := 5) (tgt := 12) F dX8_undo_5 (by decide) (fun h1 => ?_) (fun h1 => ?_)
  · replace hf := ite_neg hf h1
    refine V_iconst (v := 0) (pc := 12) F dX8_undo_12 (by decide) ?_
    refine V_put (w2 := wX8 cy a (0, v.2)) (pc := 13) F 0 8 0 i_X8 tyX8 tyX8_ok nmX8 rfl (by decide) rfl (mm 2 rfl) rfl dX8_undo_13 rfl rfl rfl (Nat.le_of_ble_eq_true rfl) rfl ?_
    refine V_aload_n (pc := 16) F dX8_undo_16 rfl 0 rfl ?_
    refine V_get (pc := 17) F 0 8 0 i_X8 rfl (by decide) rfl (mm 2 rfl) dX8_undo_17 rfl rfl ?_
    refine V_if_le (pc := 20) (tgt := 25) F dX8_undo_20 (by decide) (fun h2 => ?_) (fun h2 => ?_)
    · refine V_aload_n (pc := 25) F dX8_undo_25 rfl 0 rfl ?_
      refine V_dup (pc := 26) F dX8_undo_26 rfl ?_
      refine V_get (pc := 27) F 0 8 3 i_X8 rfl (by decide) rfl (mm 1 rfl) dX8_undo_27 rfl rfl ?_
      refine V_iconst (v := 1) (pc := 30) F dX8_undo_30 (by decide) ?_
      refine V_isub (pc := 31) F dX8_undo_31 ?_
      refine V_put (w2 := wX8 cy a (0, v.2.1, v.2.2.1, (v.2.2.2.1 - 1), v.2.2.2.2)) (pc := 32) F 0 8 3 i_X8 tyX8 tyX8_ok nmX8 rfl (by decide) rfl (mm 1 rfl) rfl dX8_undo_32 rfl rfl rfl (Nat.le_of_ble_eq_true rfl) rfl ?_
      refine V_iconst (v := 0) (pc := 35) F dX8_undo_35 (by decide) ?_
      refine V_istore_n (L2 := [(1, .int 0), (0, .ref (a 0))]) (pc := 36) F dX8_undo_36 rfl (by decide) rfl ?_
      refine V.sub [1, 0] rfl ?_
      obtain ⟨u8, g9, hf⟩ := bind_of hf
      refine K37 N (0, v.2.1, v.2.2.1, (v.2.2.2.1 - 1), v.2.2.2.2) 0 u8 g9 ?_
      refine V_aload_n (pc := 71) F dX8_undo_71 rfl 0 rfl ?_
      refine V_get (pc := 72) F 0 8 3 i_X8 rfl (by decide) rfl (mm 1 rfl) dX8_undo_72 rfl rfl ?_
      obtain rfl := some_of hf
      exact V_ret F rfl rfl dX8_undo_75 rfl rfl
    · exact absurd h2 (show ¬ (¬ ((0 : Int32) ≤ (0 : Int32))) by decide)
  · replace hf := ite_pos hf h1
    refine V_iconst (v := 1) (pc := 8) F dX8_undo_8 (by decide) ?_
    refine V_goto (pc := 9) (tgt := 13) F dX8_undo_9 (by decide) ?_
    refine V_put (w2 := wX8 cy a (1, v.2)) (pc := 13) F 0 8 0 i_X8 tyX8 tyX8_ok nmX8 rfl (by decide) rfl (mm 2 rfl) rfl dX8_undo_13 rfl rfl rfl (Nat.le_of_ble_eq_true rfl) rfl ?_
    refine V_aload_n (pc := 16) F dX8_undo_16 rfl 0 rfl ?_
    refine V_get (pc := 17) F 0 8 0 i_X8 rfl (by decide) rfl (mm 2 rfl) dX8_undo_17 rfl rfl ?_
    refine V_if_le (pc := 20) (tgt := 25) F dX8_undo_20 (by decide) (fun h10 => ?_) (fun h10 => ?_)
    · exact absurd h10 (show ¬ ((1 : Int32) ≤ (0 : Int32)) by decide)
    · refine V_iconst (v := 0) (pc := 23) F dX8_undo_23 (by decide) ?_
      obtain rfl := some_of hf
      exact V_ret F rfl rfl dX8_undo_24 rfl rfl
