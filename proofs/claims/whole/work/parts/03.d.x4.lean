theorem hd_X4_begin : yX4_begin.cls = RX4 ∧ yX4_begin.cls ≠ "java/lang/invoke/MethodHandle" ∧ yX4_begin.cls ≠ "java/lang/invoke/VarHandle" ∧ (parseMethodDescriptor yX4_begin.desc).map (fun d => d.parameters.length) = some 0 := by decide +kernel
def fX4_begin (N : Nat) (v : SX4) : Option (SX4) :=
  some (0, v.2)
set_option maxHeartbeats 8000000 in
set_option maxRecDepth 100000 in
theorem M_X4_begin (l : Launch) (D : va_G) (cy : Nat → ClassId) (N : Nat) (a : Nat → Nat) (v : SX4) (o : SX4) (hf : fX4_begin N v = some o) : okM l yX4_begin wsX4_begin (rmz 0 0) D cy [.ref (a 0)] (wX4 cy a v) (wX4 cy a o) none := by
  refine okM_of (own := RX4) (nme := "begin") (cc := cX4_begin) (maxL := 1) (ret := none) (by decide) rfl rfl rfl (Nat.le_of_ble_eq_true rfl) ?_
  intro p e s m args below meth c A F
  have i_X4 : ∀ w ∈ u_ws RX4 TX4 6, w ∈ wsX4_begin := fun _ h => List.mem_cons_of_mem _ (List.mem_append_right _ h)
  unfold fX4_begin at hf
  refine V.eq rfl (show lv_args 0 [.ref (a 0)] = [(0, .ref (a 0))] from rfl) rfl ?_
  refine V_aload_n (pc := 0) F dX4_begin_0 rfl 0 rfl ?_
  refine V_iconst (v := 0) (pc := 1) F dX4_begin_1 (by decide) ?_
  refine V_put (w2 := wX4 cy a (0, v.2)) (pc := 2) F 0 4 0 i_X4 tyX4 tyX4_ok nmX4 rfl (by decide) rfl (mm 1 rfl) rfl dX4_begin_2 rfl rfl rfl (Nat.le_of_ble_eq_true rfl) rfl ?_
  obtain rfl := some_of hf
  exact V_vret F rfl dX4_begin_5 rfl
theorem hd_X4_canEnd : yX4_canEnd.cls = RX4 ∧ yX4_canEnd.cls ≠ "java/lang/invoke/MethodHandle" ∧ yX4_canEnd.cls ≠ "java/lang/invoke/VarHandle" ∧ (parseMethodDescriptor yX4_canEnd.desc).map (fun d => d.parameters.length) = some 0 := by decide +kernel
def fX4_canEnd (N : Nat) (v : SX4) : Option (Int32) :=
  if v.1 = 6 then
    some 1
  else
    if v.1 = 8 then
      some 1
    else
      if v.1 = 11 then
        some 1
      else
        some 0
set_option maxHeartbeats 8000000 in
set_option maxRecDepth 100000 in
theorem M_X4_canEnd (l : Launch) (D : va_G) (cy : Nat → ClassId) (N : Nat) (a : Nat → Nat) (v : SX4) (o : Int32) (hf : fX4_canEnd N v = some o) : okM l yX4_canEnd wsX4_canEnd (rmz 0 0) D cy [.ref (a 0)] (wX4 cy a v) (wX4 cy a v) (some (.int o)) := by
  refine okM_of (own := RX4) (nme := "canEnd") (cc := cX4_canEnd) (maxL := 1) (ret := (some .boolean)) (by decide) rfl rfl rfl (Nat.le_of_ble_eq_true rfl) ?_
  intro p e s m args below meth c A F
  have i_X4 : ∀ w ∈ u_ws RX4 TX4 6, w ∈ wsX4_canEnd := fun _ h => List.mem_cons_of_mem _ (List.mem_append_right _ h)
  unfold fX4_canEnd at hf
  refine V.eq rfl (show lv_args 0 [.ref (a 0)] = [(0, .ref (a 0))] from rfl) rfl ?_
  refine V_aload_n (pc := 0) F dX4_canEnd_0 rfl 0 rfl ?_
  refine V_get (pc := 1) F 0 4 0 i_X4 rfl (by decide) rfl (mm 1 rfl) dX4_canEnd_1 rfl rfl ?_
  refine V_bipush (v := 6) (pc := 4) F dX4_canEnd_4 (by decide) ?_
  refine V_icmp_eq (pc := 6) (tgt := 27) F dX4_canEnd_6 (by decide) (fun h1 => ?_) (fun h1 => ?_)
  · replace hf := ite_pos hf h1
    refine V_iconst (v := 1) (pc := 27) F dX4_canEnd_27 (by decide) ?_
    refine V_goto (pc := 28) (tgt := 32) F dX4_canEnd_28 (by decide) ?_
    obtain rfl := some_of hf
    exact V_ret F rfl rfl dX4_canEnd_32 rfl rfl
  · replace hf := ite_neg hf h1
    refine V_aload_n (pc := 9) F dX4_canEnd_9 rfl 0 rfl ?_
    refine V_get (pc := 10) F 0 4 0 i_X4 rfl (by decide) rfl (mm 1 rfl) dX4_canEnd_10 rfl rfl ?_
    refine V_bipush (v := 8) (pc := 13) F dX4_canEnd_13 (by decide) ?_
    refine V_icmp_eq (pc := 15) (tgt := 27) F dX4_canEnd_15 (by decide) (fun h2 => ?_) (fun h2 => ?_)
    · replace hf := ite_pos hf h2
      refine V_iconst (v := 1) (pc := 27) F dX4_canEnd_27 (by decide) ?_
      refine V_goto (pc := 28) (tgt := 32) F dX4_canEnd_28 (by decide) ?_
      obtain rfl := some_of hf
      exact V_ret F rfl rfl dX4_canEnd_32 rfl rfl
    · replace hf := ite_neg hf h2
      refine V_aload_n (pc := 18) F dX4_canEnd_18 rfl 0 rfl ?_
      refine V_get (pc := 19) F 0 4 0 i_X4 rfl (by decide) rfl (mm 1 rfl) dX4_canEnd_19 rfl rfl ?_
      refine V_bipush (v := 11) (pc := 22) F dX4_canEnd_22 (by decide) ?_
      refine V_icmp_ne (pc := 24) (tgt := 31) F dX4_canEnd_24 (by decide) (fun h3 => ?_) (fun h3 => ?_)
      · replace hf := ite_neg hf h3
        refine V_iconst (v := 0) (pc := 31) F dX4_canEnd_31 (by decide) ?_
        obtain rfl := some_of hf
        exact V_ret F rfl rfl dX4_canEnd_32 rfl rfl
      · replace hf := ite_pos hf h3
        refine V_iconst (v := 1) (pc := 27) F dX4_canEnd_27 (by decide) ?_
        refine V_goto (pc := 28) (tgt := 32) F dX4_canEnd_28 (by decide) ?_
        obtain rfl := some_of hf
        exact V_ret F rfl rfl dX4_canEnd_32 rfl rfl
theorem hd_X4_takeKind : yX4_takeKind.cls = RX4 ∧ yX4_takeKind.cls ≠ "java/lang/invoke/MethodHandle" ∧ yX4_takeKind.cls ≠ "java/lang/invoke/VarHandle" ∧ (parseMethodDescriptor yX4_takeKind.desc).map (fun d => d.parameters.length) = some 1 := by decide +kernel
def fX4_takeKind (N : Nat) (v : SX4) (x1 : Int32) : Option (Int32 × SX4) :=
  if x1 = 112 then
    if x1 = 112 then
      some (1, (1, x1, v.2.2.1, v.2.2.2.1, 0, 0))
    else
      if x1 = 114 then
        some (1, (3, x1, v.2.2.1, v.2.2.2.1, 0, 0))
      else
        some (1, (9, x1, v.2.2.1, v.2.2.2.1, 0, 0))
  else
    if x1 = 114 then
      if x1 = 112 then
        some (1, (1, x1, v.2.2.1, v.2.2.2.1, 0, 0))
      else
        if x1 = 114 then
          some (1, (3, x1, v.2.2.1, v.2.2.2.1, 0, 0))
        else
          some (1, (9, x1, v.2.2.1, v.2.2.2.1, 0, 0))
    else
      if x1 = 120 then
        if x1 = 112 then
          some (1, (1, x1, v.2.2.1, v.2.2.2.1, 0, 0))
        else
          if x1 = 114 then
            some (1, (3, x1, v.2.2.1, v.2.2.2.1, 0, 0))
          else
            some (1, (9, x1, v.2.2.1, v.2.2.2.1, 0, 0))
      else
        some (0, v)
set_option maxHeartbeats 8000000 in
set_option maxRecDepth 100000 in
theorem M_X4_takeKind (l : Launch) (D : va_G) (cy : Nat → ClassId) (N : Nat) (a : Nat → Nat) (v : SX4) (x1 : Int32) (o : Int32 × SX4) (hf : fX4_takeKind N v x1 = some o) : okM l yX4_takeKind wsX4_takeKind (rmz 0 0) D cy [.ref (a 0), .int x1] (wX4 cy a v) (wX4 cy a o.2) (some (.int o.1)) := by
  refine okM_of (own := RX4) (nme := "takeKind") (cc := cX4_takeKind) (maxL := 2) (ret := (some .boolean)) (by decide) rfl rfl rfl (Nat.le_of_ble_eq_true rfl) ?_
  intro p e s m args below meth c A F
  have i_X4 : ∀ w ∈ u_ws RX4 TX4 6, w ∈ wsX4_takeKind := fun _ h => List.mem_cons_of_mem _ (List.mem_append_right _ h)
  unfold fX4_takeKind at hf
  refine V.eq rfl (show lv_args 0 [.ref (a 0), .int x1] = [(0, .ref (a 0)), (1, .int x1)] from rfl) rfl ?_
  refine V_iload_n (pc := 0) F dX4_takeKind_0 rfl 1 rfl ?_
  refine V_bipush (v := 112) (pc := 1) F dX4_takeKind_1 (by decide) ?_
  refine V_icmp_eq (pc := 3) (tgt := 20) F dX4_takeKind_3 (by decide) (fun h1 => ?_) (fun h1 => ?_)
  · replace hf := ite_pos hf h1
    refine V_aload_n (pc := 20) F dX4_takeKind_20 rfl 0 rfl ?_
    refine V_iload_n (pc := 21) F dX4_takeKind_21 rfl 1 rfl ?_
    refine V_put (w2 := wX4 cy a (v.1, x1, v.2.2)) (pc := 22) F 0 4 1 i_X4 tyX4 tyX4_ok nmX4 rfl (by decide) rfl (mm 1 rfl) rfl dX4_takeKind_22 rfl rfl rfl (Nat.le_of_ble_eq_true rfl) rfl ?_
    refine V_aload_n (pc := 25) F dX4_takeKind_25 rfl 0 rfl ?_
    refine V_iconst (v := 0) (pc := 26) F dX4_takeKind_26 (by decide) ?_
    refine V_put (w2 := wX4 cy a (v.1, x1, v.2.2.1, v.2.2.2.1, 0, v.2.2.2.2.2)) (pc := 27) F 0 4 4 i_X4 tyX4 tyX4_ok nmX4 rfl (by decide) rfl (mm 2 rfl) rfl dX4_takeKind_27 rfl rfl rfl (Nat.le_of_ble_eq_true rfl) rfl ?_
    refine V_aload_n (pc := 30) F dX4_takeKind_30 rfl 0 rfl ?_
    refine V_iconst (v := 0) (pc := 31) F dX4_takeKind_31 (by decide) ?_
    refine V_put (w2 := wX4 cy a (v.1, x1, v.2.2.1, v.2.2.2.1, 0, 0)) (pc := 32) F 0 4 5 i_X4 tyX4 tyX4_ok nmX4 rfl (by decide) rfl (mm 3 rfl) rfl dX4_takeKind_32 rfl rfl rfl (Nat.le_of_ble_eq_true rfl) rfl ?_
    refine V_aload_n (pc := 35) F dX4_takeKind_35 rfl 0 rfl ?_
    refine V_iload_n (pc := 36) F dX4_takeKind_36 rfl 1 rfl ?_
    refine V_bipush (v := 112) (pc := 37) F dX4_takeKind_37 (by decide) ?_
    refine V_icmp_ne (pc := 39) (tgt := 46) F dX4_takeKind_39 (by decide) (fun h2 => ?_) (fun h2 => ?_)
    · replace hf := ite_neg hf h2
      refine V_iload_n (pc := 46) F dX4_takeKind_46 rfl 1 rfl ?_
      refine V_bipush (v := 114) (pc := 47) F dX4_takeKind_47 (by decide) ?_
      refine V_icmp_ne (pc := 49) (tgt := 56) F dX4_takeKind_49 (by decide) (fun h3 => ?_) (fun h3 => ?_)
      · replace hf := ite_neg hf h3
        refine V_bipush (v := 9) (pc := 56) F dX4_takeKind_56 (by decide) ?_
        refine V_put (w2 := wX4 cy a (9, x1, v.2.2.1, v.2.2.2.1, 0, 0)) (pc := 58) F 0 4 0 i_X4 tyX4 tyX4_ok nmX4 rfl (by decide) rfl (mm 4 rfl) rfl dX4_takeKind_58 rfl rfl rfl (Nat.le_of_ble_eq_true rfl) rfl ?_
        refine V_iconst (v := 1) (pc := 61) F dX4_takeKind_61 (by decide) ?_
        obtain rfl := some_of hf
        exact V_ret F rfl rfl dX4_takeKind_62 rfl rfl
      · replace hf := ite_pos hf h3
        refine V_iconst (v := 3) (pc := 52) F dX4_takeKind_52 (by decide) ?_
        refine V_goto (pc := 53) (tgt := 58) F dX4_takeKind_53 (by decide) ?_
        refine V_put (w2 := wX4 cy a (3, x1, v.2.2.1, v.2.2.2.1, 0, 0)) (pc := 58) F 0 4 0 i_X4 tyX4 tyX4_ok nmX4 rfl (by decide) rfl (mm 4 rfl) rfl dX4_takeKind_58 rfl rfl rfl (Nat.le_of_ble_eq_true rfl) rfl ?_
        refine V_iconst (v := 1) (pc := 61) F dX4_takeKind_61 (by decide) ?_
        obtain rfl := some_of hf
        exact V_ret F rfl rfl dX4_takeKind_62 rfl rfl
    · replace hf := ite_pos hf h2
      refine V_iconst (v := 1) (pc := 42) F dX4_takeKind_42 (by decide) ?_
      refine V_goto (pc := 43) (tgt := 58) F dX4_takeKind_43 (by decide) ?_
      refine V_put (w2 := wX4 cy a (1, x1, v.2.2.1, v.2.2.2.1, 0, 0)) (pc := 58) F 0 4 0 i_X4 tyX4 tyX4_ok nmX4 rfl (by decide) rfl (mm 4 rfl) rfl dX4_takeKind_58 rfl rfl rfl (Nat.le_of_ble_eq_true rfl) rfl ?_
      refine V_iconst (v := 1) (pc := 61) F dX4_takeKind_61 (by decide) ?_
      obtain rfl := some_of hf
      exact V_ret F rfl rfl dX4_takeKind_62 rfl rfl
  · replace hf := ite_neg hf h1
    refine V_iload_n (pc := 6) F dX4_takeKind_6 rfl 1 rfl ?_
    refine V_bipush (v := 114) (pc := 7) F dX4_takeKind_7 (by decide) ?_
    refine V_icmp_eq (pc := 9) (tgt := 20) F dX4_takeKind_9 (by decide) (fun h4 => ?_) (fun h4 => ?_)
    · replace hf := ite_pos hf h4
      refine V_aload_n (pc := 20) F dX4_takeKind_20 rfl 0 rfl ?_
      refine V_iload_n (pc := 21) F dX4_takeKind_21 rfl 1 rfl ?_
      refine V_put (w2 := wX4 cy a (v.1, x1, v.2.2)) (pc := 22) F 0 4 1 i_X4 tyX4 tyX4_ok nmX4 rfl (by decide) rfl (mm 1 rfl) rfl dX4_takeKind_22 rfl rfl rfl (Nat.le_of_ble_eq_true rfl) rfl ?_
      refine V_aload_n (pc := 25) F dX4_takeKind_25 rfl 0 rfl ?_
      refine V_iconst (v := 0) (pc := 26) F dX4_takeKind_26 (by decide) ?_
      refine V_put (w2 := wX4 cy a (v.1, x1, v.2.2.1, v.2.2.2.1, 0, v.2.2.2.2.2)) (pc := 27) F 0 4 4 i_X4 tyX4 tyX4_ok nmX4 rfl (by decide) rfl (mm 2 rfl) rfl dX4_takeKind_27 rfl rfl rfl (Nat.le_of_ble_eq_true rfl) rfl ?_
      refine V_aload_n (pc := 30) F dX4_takeKind_30 rfl 0 rfl ?_
      refine V_iconst (v := 0) (pc := 31) F dX4_takeKind_31 (by decide) ?_
      refine V_put (w2 := wX4 cy a (v.1, x1, v.2.2.1, v.2.2.2.1, 0, 0)) (pc := 32) F 0 4 5 i_X4 tyX4 tyX4_ok nmX4 rfl (by decide) rfl (mm 3 rfl) rfl dX4_takeKind_32 rfl rfl rfl (Nat.le_of_ble_eq_true rfl) rfl ?_
      refine V_aload_n (pc := 35) F dX4_takeKind_35 rfl 0 rfl ?_
      refine V_iload_n (pc := 36) F dX4_takeKind_36 rfl 1 rfl ?_
      refine V_bipush (v := 112) (pc := 37) F dX4_takeKind_37 (by decide) ?_
      refine V_icmp_ne (pc := 39) (tgt := 46) F dX4_takeKind_39 (by decide) (fun h5 => ?_) (fun h5 => ?_)
      · replace hf := ite_neg hf h5
        refine V_iload_n (pc := 46) F dX4_takeKind_46 rfl 1 rfl ?_
        refine V_bipush (v := 114) (pc := 47) F dX4_takeKind_47 (by decide) ?_
        refine V_icmp_ne (pc := 49) (tgt := 56) F dX4_takeKind_49 (by decide) (fun h6 => ?_) (fun h6 => ?_)
        · replace hf := ite_neg hf h6
          refine V_bipush (v := 9) (pc := 56) F dX4_takeKind_56 (by decide) ?_
          refine V_put (w2 := wX4 cy a (9, x1, v.2.2.1, v.2.2.2.1, 0, 0)) (pc := 58) F 0 4 0 i_X4 tyX4 tyX4_ok nmX4 rfl (by decide) rfl (mm 4 rfl) rfl dX4_takeKind_58 rfl rfl rfl (Nat.le_of_ble_eq_true rfl) rfl ?_
          refine V_iconst (v := 1) (pc := 61) F dX4_takeKind_61 (by decide) ?_
          obtain rfl := some_of hf
          exact V_ret F rfl rfl dX4_takeKind_62 rfl rfl
        · replace hf := ite_pos hf h6
          refine V_iconst (v := 3) (pc := 52) F dX4_takeKind_52 (by decide) ?_
          refine V_goto (pc := 53) (tgt := 58) F dX4_takeKind_53 (by decide) ?_
          refine V_put (w2 := wX4 cy a (3, x1, v.2.2.1, v.2.2.2.1, 0, 0)) (pc := 58) F 0 4 0 i_X4 tyX4 tyX4_ok nmX4 rfl (by decide) rfl (mm 4 rfl) rfl dX4_takeKind_58 rfl rfl rfl (Nat.le_of_ble_eq_true rfl) rfl ?_
          refine V_iconst (v := 1) (pc := 61) F dX4_takeKind_61 (by decide) ?_
          obtain rfl := some_of hf
          exact V_ret F rfl rfl dX4_takeKind_62 rfl rfl
      · replace hf := ite_pos hf h5
        refine V_iconst (v := 1) (pc := 42) F dX4_takeKind_42 (by decide) ?_
        refine V_goto (pc := 43) (tgt := 58) F dX4_takeKind_43 (by decide) ?_
        refine V_put (w2 := wX4 cy a (1, x1, v.2.2.1, v.2.2.2.1, 0, 0)) (pc := 58) F 0 4 0 i_X4 tyX4 tyX4_ok nmX4 rfl (by decide) rfl (mm 4 rfl) rfl dX4_takeKind_58 rfl rfl rfl (Nat.le_of_ble_eq_true rfl) rfl ?_
        refine V_iconst (v := 1) (pc := 61) F dX4_takeKind_61 (by decide) ?_
        obtain rfl := some_of hf
        exact V_ret F rfl rfl dX4_takeKind_62 rfl rfl
    · replace hf := ite_neg hf h4
      refine V_iload_n (pc := 12) F dX4_takeKind_12 rfl 1 rfl ?_
      refine V_bipush (v := 120) (pc := 13) F dX4_takeKind_13 (by decide) ?_
      refine V_icmp_eq (pc := 15) (tgt := 20) F dX4_takeKind_15 (by decide) (fun h7 => ?_) (fun h7 => ?_)
      · replace hf := ite_pos hf h7
        refine V_aload_n (pc := 20) F dX4_takeKind_20 rfl 0 rfl ?_
        refine V_iload_n (pc := 21) F dX4_takeKind_21 rfl 1 rfl ?_
        refine V_put (w2 := wX4 cy a (v.1, x1, v.2.2)) (pc := 22) F 0 4 1 i_X4 tyX4 tyX4_ok nmX4 rfl (by decide) rfl (mm 1 rfl) rfl dX4_takeKind_22 rfl rfl rfl (Nat.le_of_ble_eq_true rfl) rfl ?_
        refine V_aload_n (pc := 25) F dX4_takeKind_25 rfl 0 rfl ?_
        refine V_iconst (v := 0) (pc := 26) F dX4_takeKind_26 (by decide) ?_
        refine V_put (w2 := wX4 cy a (v.1, x1, v.2.2.1, v.2.2.2.1, 0, v.2.2.2.2.2)) (pc := 27) F 0 4 4 i_X4 tyX4 tyX4_ok nmX4 rfl (by decide) rfl (mm 2 rfl) rfl dX4_takeKind_27 rfl rfl rfl (Nat.le_of_ble_eq_true rfl) rfl ?_
        refine V_aload_n (pc := 30) F dX4_takeKind_30 rfl 0 rfl ?_
        refine V_iconst (v := 0) (pc := 31) F dX4_takeKind_31 (by decide) ?_
        refine V_put (w2 := wX4 cy a (v.1, x1, v.2.2.1, v.2.2.2.1, 0, 0)) (pc := 32) F 0 4 5 i_X4 tyX4 tyX4_ok nmX4 rfl (by decide) rfl (mm 3 rfl) rfl dX4_takeKind_32 rfl rfl rfl (Nat.le_of_ble_eq_true rfl) rfl ?_
        refine V_aload_n (pc := 35) F dX4_takeKind_35 rfl 0 rfl ?_
        refine V_iload_n (pc := 36) F dX4_takeKind_36 rfl 1 rfl ?_
        refine V_bipush (v := 112) (pc := 37) F dX4_takeKind_37 (by decide) ?_
        refine V_icmp_ne (pc := 39) (tgt := 46) F dX4_takeKind_39 (by decide) (fun h8 => ?_) (fun h8 => ?_)
        · replace hf := ite_neg hf h8
          refine V_iload_n (pc := 46) F dX4_takeKind_46 rfl 1 rfl ?_
          refine V_bipush (v := 114) (pc := 47) F dX4_takeKind_47 (by decide) ?_
          refine V_icmp_ne (pc := 49) (tgt := 56) F dX4_takeKind_49 (by decide) (fun h9 => ?_) (fun h9 => ?_)
          · replace hf := ite_neg hf h9
            refine V_bipush (v := 9) (pc := 56) F dX4_takeKind_56 (by decide) ?_
            refine V_put (w2 := wX4 cy a (9, x1, v.2.2.1, v.2.2.2.1, 0, 0)) (pc := 58) F 0 4 0 i_X4 tyX4 tyX4_ok nmX4 rfl (by decide) rfl (mm 4 rfl) rfl dX4_takeKind_58 rfl rfl rfl (Nat.le_of_ble_eq_true rfl) rfl ?_
            refine V_iconst (v := 1) (pc := 61) F dX4_takeKind_61 (by decide) ?_
            obtain rfl := some_of hf
            exact V_ret F rfl rfl dX4_takeKind_62 rfl rfl
          · replace hf := ite_pos hf h9
            refine V_iconst (v := 3) (pc := 52) F dX4_takeKind_52 (by decide) ?_
            refine V_goto (pc := 53) (tgt := 58) F dX4_takeKind_53 (by decide) ?_
            refine V_put (w2 := wX4 cy a (3, x1, v.2.2.1, v.2.2.2.1, 0, 0)) (pc := 58) F 0 4 0 i_X4 tyX4 tyX4_ok nmX4 rfl (by decide) rfl (mm 4 rfl) rfl dX4_takeKind_58 rfl rfl rfl (Nat.le_of_ble_eq_true rfl) rfl ?_
            refine V_iconst (v := 1) (pc := 61) F dX4_takeKind_61 (by decide) ?_
            obtain rfl := some_of hf
            exact V_ret F rfl rfl dX4_takeKind_62 rfl rfl
        · replace hf := ite_pos hf h8
          refine V_iconst (v := 1) (pc := 42) F dX4_takeKind_42 (by decide) ?_
          refine V_goto (pc := 43) (tgt := 58) F dX4_takeKind_43 (by decide) ?_
          refine V_put (w2 := wX4 cy a (1, x1, v.2.2.1, v.2.2.2.1, 0, 0)) (pc := 58) F 0 4 0 i_X4 tyX4 tyX4_ok nmX4 rfl (by decide) rfl (mm 4 rfl) rfl dX4_takeKind_58 rfl rfl rfl (Nat.le_of_ble_eq_true rfl) rfl ?_
          refine V_iconst (v := 1) (pc := 61) F dX4_takeKind_61 (by decide) ?_
          obtain rfl := some_of hf
          exact V_ret F rfl rfl dX4_takeKind_62 rfl rfl
      · replace hf := ite_neg hf h7
        refine V_iconst (v := 0) (pc := 18) F dX4_takeKind_18 (by decide) ?_
        obtain rfl := some_of hf
        exact V_ret F rfl rfl dX4_takeKind_19 rfl rfl
theorem hd_X4_takeSign : yX4_takeSign.cls = RX4 ∧ yX4_takeSign.cls ≠ "java/lang/invoke/MethodHandle" ∧ yX4_takeSign.cls ≠ "java/lang/invoke/VarHandle" ∧ (parseMethodDescriptor yX4_takeSign.desc).map (fun d => d.parameters.length) = some 3 := by decide +kernel
def fX4_takeSign (N : Nat) (v : SX4) (x1 : Int32) (x2 : Int32) (x3 : Int32) : Option (Int32 × SX4) :=
  if x1 = x2 then
    some (1, (x3, v.2))
  else
    some (0, v)
set_option maxHeartbeats 8000000 in
set_option maxRecDepth 100000 in
theorem M_X4_takeSign (l : Launch) (D : va_G) (cy : Nat → ClassId) (N : Nat) (a : Nat → Nat) (v : SX4) (x1 : Int32) (x2 : Int32) (x3 : Int32) (o : Int32 × SX4) (hf : fX4_takeSign N v x1 x2 x3 = some o) : okM l yX4_takeSign wsX4_takeSign (rmz 0 0) D cy [.ref (a 0), .int x1, .int x2, .int x3] (wX4 cy a v) (wX4 cy a o.2) (some (.int o.1)) := by
  refine okM_of (own := RX4) (nme := "takeSign") (cc := cX4_takeSign) (maxL := 4) (ret := (some .boolean)) (by decide) rfl rfl rfl (Nat.le_of_ble_eq_true rfl) ?_
  intro p e s m args below meth c A F
  have i_X4 : ∀ w ∈ u_ws RX4 TX4 6, w ∈ wsX4_takeSign := fun _ h => List.mem_cons_of_mem _ (List.mem_append_right _ h)
  unfold fX4_takeSign at hf
  refine V.eq rfl (show lv_args 0 [.ref (a 0), .int x1, .int x2, .int x3] = [(0, .ref (a 0)), (1, .int x1), (2, .int x2), (3, .int x3)] from rfl) rfl ?_
  refine V_iload_n (pc := 0) F dX4_takeSign_0 rfl 1 rfl ?_
  refine V_iload_n (pc := 1) F dX4_takeSign_1 rfl 2 rfl ?_
  refine V_icmp_eq (pc := 2) (tgt := 7) F dX4_takeSign_2 (by decide) (fun h1 => ?_) (fun h1 => ?_)
  · replace hf := ite_pos hf h1
    refine V_aload_n (pc := 7) F dX4_takeSign_7 rfl 0 rfl ?_
    refine V_iload_n (pc := 8) F dX4_takeSign_8 rfl 3 rfl ?_
    refine V_put (w2 := wX4 cy a (x3, v.2)) (pc := 9) F 0 4 0 i_X4 tyX4 tyX4_ok nmX4 rfl (by decide) rfl (mm 1 rfl) rfl dX4_takeSign_9 rfl rfl rfl (Nat.le_of_ble_eq_true rfl) rfl ?_
    refine V_iconst (v := 1) (pc := 12) F dX4_takeSign_12 (by decide) ?_
    obtain rfl := some_of hf
    exact V_ret F rfl rfl dX4_takeSign_13 rfl rfl
  · replace hf := ite_neg hf h1
    refine V_iconst (v := 0) (pc := 5) F dX4_takeSign_5 (by decide) ?_
    obtain rfl := some_of hf
    exact V_ret F rfl rfl dX4_takeSign_6 rfl rfl
theorem hd_X4_takeAscending : yX4_takeAscending.cls = RX4 ∧ yX4_takeAscending.cls ≠ "java/lang/invoke/MethodHandle" ∧ yX4_takeAscending.cls ≠ "java/lang/invoke/VarHandle" ∧ (parseMethodDescriptor yX4_takeAscending.desc).map (fun d => d.parameters.length) = some 2 := by decide +kernel
def fX4_takeAscending (N : Nat) (v : SX4) (x1 : Int32) (x2 : Int32) : Option (Int32 × SX4) :=
  if (x1 - 48) < v.2.2.2.2.2 then
    some (0, v)
  else
    if (x1 - 48) < 6 then
      some (1, (x2, v.2.1, v.2.2.1, v.2.2.2.1, (v.2.2.2.2.1 ||| ((1 : Int32) <<< ((x1 - 48) &&& 31))), ((x1 - 48) + 1)))
    else
      some (0, v)
set_option maxHeartbeats 8000000 in
set_option maxRecDepth 100000 in
theorem M_X4_takeAscending (l : Launch) (D : va_G) (cy : Nat → ClassId) (N : Nat) (a : Nat → Nat) (v : SX4) (x1 : Int32) (x2 : Int32) (o : Int32 × SX4) (hf : fX4_takeAscending N v x1 x2 = some o) : okM l yX4_takeAscending wsX4_takeAscending (rmz 0 0) D cy [.ref (a 0), .int x1, .int x2] (wX4 cy a v) (wX4 cy a o.2) (some (.int o.1)) := by
  refine okM_of (own := RX4) (nme := "takeAscending") (cc := cX4_takeAscending) (maxL := 4) (ret := (some .boolean)) (by decide) rfl rfl rfl (Nat.le_of_ble_eq_true rfl) ?_
  intro p e s m args below meth c A F
  have i_X4 : ∀ w ∈ u_ws RX4 TX4 6, w ∈ wsX4_takeAscending := fun _ h => List.mem_cons_of_mem _ (List.mem_append_right _ h)
  unfold fX4_takeAscending at hf
  refine V.eq rfl (show lv_args 0 [.ref (a 0), .int x1, .int x2] = [(0, .ref (a 0)), (1, .int x1), (2, .int x2)] from rfl) rfl ?_
  refine V_iload_n (pc := 0) F dX4_takeAscending_0 rfl 1 rfl ?_
  refine V_bipush (v := 48) (pc := 1) F dX4_takeAscending_1 (by decide) ?_
  refine V_isub (pc := 3) F dX4_takeAscending_3 ?_
  refine V_istore_n (L2 := [(3, .int (x1 - 48)), (0, .ref (a 0)), (1, .int x1), (2, .int x2)]) (pc := 4) F dX4_takeAscending_4 rfl (by decide) rfl ?_
  refine V_iload_n (pc := 5) F dX4_takeAscending_5 rfl 0 rfl ?_
  refine V_aload_n (pc := 6) F dX4_takeAscending_6 rfl 1 rfl ?_
  refine V_get (pc := 7) F 0 4 5 i_X4 rfl (by decide) rfl (mm 1 rfl) dX4_takeAscending_7 rfl rfl ?_
  refine V_icmp_lt (pc := 10) (tgt := 19) F dX4_takeAscending_10 (by decide) (fun h1 => ?_) (fun h1 => ?_)
  · replace hf := ite_pos hf h1
    refine V_iconst (v := 0) (pc := 19) F dX4_takeAscending_19 (by decide) ?_
    obtain rfl := some_of hf
    exact V_ret F rfl rfl dX4_takeAscending_20 rfl rfl
  · replace hf := ite_neg hf h1
    refine V_iload_n (pc := 13) F dX4_takeAscending_13 rfl 0 rfl ?_
    refine V_bipush (v := 6) (pc := 14) F dX4_takeAscending_14 (by decide) ?_
    refine V_icmp_lt (pc := 16) (tgt := 21) F dX4_takeAscending_16 (by decide) (fun h2 => ?_) (fun h2 => ?_)
    · replace hf := ite_pos hf h2
      refine V_aload_n (pc := 21) F dX4_takeAscending_21 rfl 1 rfl ?_
      refine V_dup (pc := 22) F dX4_takeAscending_22 rfl ?_
      refine V_get (pc := 23) F 0 4 4 i_X4 rfl (by decide) rfl (mm 2 rfl) dX4_takeAscending_23 rfl rfl ?_
      refine V_iconst (v := 1) (pc := 26) F dX4_takeAscending_26 (by decide) ?_
      refine V_iload_n (pc := 27) F dX4_takeAscending_27 rfl 0 rfl ?_
      refine V_ishl (pc := 28) F dX4_takeAscending_28 ?_
      refine V_ior (pc := 29) F dX4_takeAscending_29 ?_
      refine V_put (w2 := wX4 cy a (v.1, v.2.1, v.2.2.1, v.2.2.2.1, (v.2.2.2.2.1 ||| ((1 : Int32) <<< ((x1 - 48) &&& 31))), v.2.2.2.2.2)) (pc := 30) F 0 4 4 i_X4 tyX4 tyX4_ok nmX4 rfl (by decide) rfl (mm 2 rfl) rfl dX4_takeAscending_30 rfl rfl rfl (Nat.le_of_ble_eq_true rfl) rfl ?_
      refine V_aload_n (pc := 33) F dX4_takeAscending_33 rfl 1 rfl ?_
      refine V_iload_n (pc := 34) F dX4_takeAscending_34 rfl 0 rfl ?_
      refine V_iconst (v := 1) (pc := 35) F dX4_takeAscending_35 (by decide) ?_
      refine V_iadd (pc := 36) F dX4_takeAscending_36 ?_
      refine V_put (w2 := wX4 cy a (v.1, v.2.1, v.2.2.1, v.2.2.2.1, (v.2.2.2.2.1 ||| ((1 : Int32) <<< ((x1 - 48) &&& 31))), ((x1 - 48) + 1))) (pc := 37) F 0 4 5 i_X4 tyX4 tyX4_ok nmX4 rfl (by decide) rfl (mm 1 rfl) rfl dX4_takeAscending_37 rfl rfl rfl (Nat.le_of_ble_eq_true rfl) rfl ?_
      refine V_aload_n (pc := 40) F dX4_takeAscending_40 rfl 1 rfl ?_
      refine V_iload_n (pc := 41) F dX4_takeAscending_41 rfl 3 rfl ?_
      refine V_put (w2 := wX4 cy a (x2, v.2.1, v.2.2.1, v.2.2.2.1, (v.2.2.2.2.1 ||| ((1 : Int32) <<< ((x1 - 48) &&& 31))), ((x1 - 48) + 1))) (pc := 42) F 0 4 0 i_X4 tyX4 tyX4_ok nmX4 rfl (by decide) rfl (mm 3 rfl) rfl dX4_takeAscending_42 rfl rfl rfl (Nat.le_of_ble_eq_true rfl) rfl ?_
      refine V_iconst (v := 1) (pc := 45) F dX4_takeAscending_45 (by decide) ?_
      obtain rfl := some_of hf
      exact V_ret F rfl rfl dX4_takeAscending_46 rfl rfl
    · replace hf := ite_neg hf h2
      refine V_iconst (v := 0) (pc := 19) F dX4_takeAscending_19 (by decide) ?_
      obtain rfl := some_of hf
      exact V_ret F rfl rfl dX4_takeAscending_20 rfl rfl
theorem hd_X4_takeSecond : yX4_takeSecond.cls = RX4 ∧ yX4_takeSecond.cls ≠ "java/lang/invoke/MethodHandle" ∧ yX4_takeSecond.cls ≠ "java/lang/invoke/VarHandle" ∧ (parseMethodDescriptor yX4_takeSecond.desc).map (fun d => d.parameters.length) = some 4 := by decide +kernel
def fX4_takeSecond (N : Nat) (v : SX4) (x1 : Int32) (x2 : Int32) (x3 : Int32) (x4 : Int32) : Option (Int32 × SX4) :=
  if (x1 - 48) < x2 then
    some (0, v)
  else
    if (x1 - 48) ≤ x3 then
      some (1, (x4, v.2.1, v.2.2.1, (x1 - 48), v.2.2.2.2))
    else
      some (0, v)
set_option maxHeartbeats 8000000 in
set_option maxRecDepth 100000 in
theorem M_X4_takeSecond (l : Launch) (D : va_G) (cy : Nat → ClassId) (N : Nat) (a : Nat → Nat) (v : SX4) (x1 : Int32) (x2 : Int32) (x3 : Int32) (x4 : Int32) (o : Int32 × SX4) (hf : fX4_takeSecond N v x1 x2 x3 x4 = some o) : okM l yX4_takeSecond wsX4_takeSecond (rmz 0 0) D cy [.ref (a 0), .int x1, .int x2, .int x3, .int x4] (wX4 cy a v) (wX4 cy a o.2) (some (.int o.1)) := by
  refine okM_of (own := RX4) (nme := "takeSecond") (cc := cX4_takeSecond) (maxL := 6) (ret := (some .boolean)) (by decide) rfl rfl rfl (Nat.le_of_ble_eq_true rfl) ?_
  intro p e s m args below meth c A F
  have i_X4 : ∀ w ∈ u_ws RX4 TX4 6, w ∈ wsX4_takeSecond := fun _ h => List.mem_cons_of_mem _ (List.mem_append_right _ h)
  unfold fX4_takeSecond at hf
  refine V.eq rfl (show lv_args 0 [.ref (a 0), .int x1, .int x2, .int x3, .int x4] = [(0, .ref (a 0)), (1, .int x1), (2, .int x2), (3, .int x3), (4, .int x4)] from rfl) rfl ?_
  refine V_iload_n (pc := 0) F dX4_takeSecond_0 rfl 1 rfl ?_
  refine V_bipush (v := 48) (pc := 1) F dX4_takeSecond_1 (by decide) ?_
  refine V_isub (pc := 3) F dX4_takeSecond_3 ?_
  refine V_istore (L2 := [(5, .int (x1 - 48)), (0, .ref (a 0)), (1, .int x1), (2, .int x2), (3, .int x3), (4, .int x4)]) (pc := 4) F dX4_takeSecond_4 (by decide) rfl ?_
  refine V_iload (pc := 6) F dX4_takeSecond_6 0 rfl ?_
  refine V_iload_n (pc := 8) F dX4_takeSecond_8 rfl 3 rfl ?_
  refine V_icmp_lt (pc := 9) (tgt := 18) F dX4_takeSecond_9 (by decide) (fun h1 => ?_) (fun h1 => ?_)
  · replace hf := ite_pos hf h1
    refine V_iconst (v := 0) (pc := 18) F dX4_takeSecond_18 (by decide) ?_
    obtain rfl := some_of hf
    exact V_ret F rfl rfl dX4_takeSecond_19 rfl rfl
  · replace hf := ite_neg hf h1
    refine V_iload (pc := 12) F dX4_takeSecond_12 0 rfl ?_
    refine V_iload_n (pc := 14) F dX4_takeSecond_14 rfl 4 rfl ?_
    refine V_icmp_le (pc := 15) (tgt := 20) F dX4_takeSecond_15 (by decide) (fun h2 => ?_) (fun h2 => ?_)
    · replace hf := ite_pos hf h2
      refine V_aload_n (pc := 20) F dX4_takeSecond_20 rfl 1 rfl ?_
      refine V_iload (pc := 21) F dX4_takeSecond_21 0 rfl ?_
      refine V_put (w2 := wX4 cy a (v.1, v.2.1, v.2.2.1, (x1 - 48), v.2.2.2.2)) (pc := 23) F 0 4 3 i_X4 tyX4 tyX4_ok nmX4 rfl (by decide) rfl (mm 1 rfl) rfl dX4_takeSecond_23 rfl rfl rfl (Nat.le_of_ble_eq_true rfl) rfl ?_
      refine V_aload_n (pc := 26) F dX4_takeSecond_26 rfl 1 rfl ?_
      refine V_iload (pc := 27) F dX4_takeSecond_27 5 rfl ?_
      refine V_put (w2 := wX4 cy a (x4, v.2.1, v.2.2.1, (x1 - 48), v.2.2.2.2)) (pc := 29) F 0 4 0 i_X4 tyX4 tyX4_ok nmX4 rfl (by decide) rfl (mm 2 rfl) rfl dX4_takeSecond_29 rfl rfl rfl (Nat.le_of_ble_eq_true rfl) rfl ?_
      refine V_iconst (v := 1) (pc := 32) F dX4_takeSecond_32 (by decide) ?_
      obtain rfl := some_of hf
      exact V_ret F rfl rfl dX4_takeSecond_33 rfl rfl
    · replace hf := ite_neg hf h2
      refine V_iconst (v := 0) (pc := 18) F dX4_takeSecond_18 (by decide) ?_
      obtain rfl := some_of hf
      exact V_ret F rfl rfl dX4_takeSecond_19 rfl rfl
theorem hd_X4_takeFirst : yX4_takeFirst.cls = RX4 ∧ yX4_takeFirst.cls ≠ "java/lang/invoke/MethodHandle" ∧ yX4_takeFirst.cls ≠ "java/lang/invoke/VarHandle" ∧ (parseMethodDescriptor yX4_takeFirst.desc).map (fun d => d.parameters.length) = some 3 := by decide +kernel
def fX4_takeFirst (N : Nat) (v : SX4) (x1 : Int32) (x2 : Int32) (x3 : Int32) : Option (Int32 × SX4) :=
  if (x1 - 48) < 0 then
    some (0, v)
  else
    if (x1 - 48) ≤ x2 then
      some (1, (x3, v.2.1, (x1 - 48), v.2.2.2))
    else
      some (0, v)
set_option maxHeartbeats 8000000 in
set_option maxRecDepth 100000 in
theorem M_X4_takeFirst (l : Launch) (D : va_G) (cy : Nat → ClassId) (N : Nat) (a : Nat → Nat) (v : SX4) (x1 : Int32) (x2 : Int32) (x3 : Int32) (o : Int32 × SX4) (hf : fX4_takeFirst N v x1 x2 x3 = some o) : okM l yX4_takeFirst wsX4_takeFirst (rmz 0 0) D cy [.ref (a 0), .int x1, .int x2, .int x3] (wX4 cy a v) (wX4 cy a o.2) (some (.int o.1)) := by
  refine okM_of (own := RX4) (nme := "takeFirst") (cc := cX4_takeFirst) (maxL := 5) (ret := (some .boolean)) (by decide) rfl rfl rfl (Nat.le_of_ble_eq_true rfl) ?_
  intro p e s m args below meth c A F
  have i_X4 : ∀ w ∈ u_ws RX4 TX4 6, w ∈ wsX4_takeFirst := fun _ h => List.mem_cons_of_mem _ (List.mem_append_right _ h)
  unfold fX4_takeFirst at hf
  refine V.eq rfl (show lv_args 0 [.ref (a 0), .int x1, .int x2, .int x3] = [(0, .ref (a 0)), (1, .int x1), (2, .int x2), (3, .int x3)] from rfl) rfl ?_
  refine V_iload_n (pc := 0) F dX4_takeFirst_0 rfl 1 rfl ?_
  refine V_bipush (v := 48) (pc := 1) F dX4_takeFirst_1 (by decide) ?_
  refine V_isub (pc := 3) F dX4_takeFirst_3 ?_
  refine V_istore (L2 := [(4, .int (x1 - 48)), (0, .ref (a 0)), (1, .int x1), (2, .int x2), (3, .int x3)]) (pc := 4) F dX4_takeFirst_4 (by decide) rfl ?_
  refine V_iload (pc := 6) F dX4_takeFirst_6 0 rfl ?_
  refine V_if_lt (pc := 8) (tgt := 17) F dX4_takeFirst_8 (by decide) (fun h1 => ?_) (fun h1 => ?_)
  · replace hf := ite_pos hf h1
    refine V_iconst (v := 0) (pc := 17) F dX4_takeFirst_17 (by decide) ?_
    obtain rfl := some_of hf
    exact V_ret F rfl rfl dX4_takeFirst_18 rfl rfl
  · replace hf := ite_neg hf h1
    refine V_iload (pc := 11) F dX4_takeFirst_11 0 rfl ?_
    refine V_iload_n (pc := 13) F dX4_takeFirst_13 rfl 3 rfl ?_
    refine V_icmp_le (pc := 14) (tgt := 19) F dX4_takeFirst_14 (by decide) (fun h2 => ?_) (fun h2 => ?_)
    · replace hf := ite_pos hf h2
      refine V_aload_n (pc := 19) F dX4_takeFirst_19 rfl 1 rfl ?_
      refine V_iload (pc := 20) F dX4_takeFirst_20 0 rfl ?_
      refine V_put (w2 := wX4 cy a (v.1, v.2.1, (x1 - 48), v.2.2.2)) (pc := 22) F 0 4 2 i_X4 tyX4 tyX4_ok nmX4 rfl (by decide) rfl (mm 1 rfl) rfl dX4_takeFirst_22 rfl rfl rfl (Nat.le_of_ble_eq_true rfl) rfl ?_
      refine V_aload_n (pc := 25) F dX4_takeFirst_25 rfl 1 rfl ?_
      refine V_iload_n (pc := 26) F dX4_takeFirst_26 rfl 4 rfl ?_
      refine V_put (w2 := wX4 cy a (x3, v.2.1, (x1 - 48), v.2.2.2)) (pc := 27) F 0 4 0 i_X4 tyX4 tyX4_ok nmX4 rfl (by decide) rfl (mm 2 rfl) rfl dX4_takeFirst_27 rfl rfl rfl (Nat.le_of_ble_eq_true rfl) rfl ?_
      refine V_iconst (v := 1) (pc := 30) F dX4_takeFirst_30 (by decide) ?_
      obtain rfl := some_of hf
      exact V_ret F rfl rfl dX4_takeFirst_31 rfl rfl
    · replace hf := ite_neg hf h2
      refine V_iconst (v := 0) (pc := 17) F dX4_takeFirst_17 (by decide) ?_
      obtain rfl := some_of hf
      exact V_ret F rfl rfl dX4_takeFirst_18 rfl rfl
theorem hd_X4_take : yX4_take.cls = RX4 ∧ yX4_take.cls ≠ "java/lang/invoke/MethodHandle" ∧ yX4_take.cls ≠ "java/lang/invoke/VarHandle" ∧ (parseMethodDescriptor yX4_take.desc).map (fun d => d.parameters.length) = some 1 := by decide +kernel
def fX4_take (N : Nat) (v : SX4) (x1 : Int32) : Option (Int32 × SX4) :=
  if x1 = 59 then
    (fX4_canEnd N v).bind fun r49 =>
      if r49 = 0 then
        if v.1 = 0 then
          (fX4_takeKind N v x1).bind fun r53 =>
            must (decide (r53.1 = 0 ∨ r53.1 = 1)) (
              some (r53.1, r53.2)
            )
        else
        if v.1 = 1 then
          (fX4_takeSign N v x1 42 2).bind fun r57 =>
            if r57.1 = 0 then
              (fX4_takeAscending N r57.2 x1 1).bind fun r60 =>
                if r60.1 = 0 then
                  some (0, r60.2)
                else
                  some (1, r60.2)
            else
              some (1, r57.2)
        else
        if v.1 = 2 then
          (fX4_takeSecond N v x1 1 9 11).bind fun r64 =>
            must (decide (r64.1 = 0 ∨ r64.1 = 1)) (
              some (r64.1, r64.2)
            )
        else
        if v.1 = 3 then
          (fX4_takeFirst N v x1 7 4).bind fun r68 =>
            must (decide (r68.1 = 0 ∨ r68.1 = 1)) (
              some (r68.1, r68.2)
            )
        else
        if v.1 = 4 then
          (fX4_takeSign N v x1 62 5).bind fun r72 =>
            must (decide (r72.1 = 0 ∨ r72.1 = 1)) (
              some (r72.1, r72.2)
            )
        else
        if v.1 = 5 then
          (fX4_takeSecond N v x1 0 7 6).bind fun r76 =>
            must (decide (r76.1 = 0 ∨ r76.1 = 1)) (
              some (r76.1, r76.2)
            )
        else
        if v.1 = 6 then
          (fX4_takeSign N v x1 63 7).bind fun r80 =>
            must (decide (r80.1 = 0 ∨ r80.1 = 1)) (
              some (r80.1, r80.2)
            )
        else
        if v.1 = 7 then
          (fX4_takeAscending N v x1 8).bind fun r84 =>
            must (decide (r84.1 = 0 ∨ r84.1 = 1)) (
              some (r84.1, r84.2)
            )
        else
        if v.1 = 8 then
          (fX4_takeAscending N v x1 8).bind fun r88 =>
            must (decide (r88.1 = 0 ∨ r88.1 = 1)) (
              some (r88.1, r88.2)
            )
        else
        if v.1 = 9 then
          (fX4_takeFirst N v x1 4 10).bind fun r92 =>
            must (decide (r92.1 = 0 ∨ r92.1 = 1)) (
              some (r92.1, r92.2)
            )
        else
        if v.1 = 10 then
          (fX4_takeSecond N v x1 (v.2.2.1 + 1) 5 11).bind fun r96 =>
            must (decide (r96.1 = 0 ∨ r96.1 = 1)) (
              some (r96.1, r96.2)
            )
        else
        some (0, v)
      else
        some (1, (0, v.2))
  else
    if v.1 = 0 then
      (fX4_takeKind N v x1).bind fun r3 =>
        must (decide (r3.1 = 0 ∨ r3.1 = 1)) (
          some (r3.1, r3.2)
        )
    else
    if v.1 = 1 then
      (fX4_takeSign N v x1 42 2).bind fun r7 =>
        if r7.1 = 0 then
          (fX4_takeAscending N r7.2 x1 1).bind fun r10 =>
            if r10.1 = 0 then
              some (0, r10.2)
            else
              some (1, r10.2)
        else
          some (1, r7.2)
    else
    if v.1 = 2 then
      (fX4_takeSecond N v x1 1 9 11).bind fun r14 =>
        must (decide (r14.1 = 0 ∨ r14.1 = 1)) (
          some (r14.1, r14.2)
        )
    else
    if v.1 = 3 then
      (fX4_takeFirst N v x1 7 4).bind fun r18 =>
        must (decide (r18.1 = 0 ∨ r18.1 = 1)) (
          some (r18.1, r18.2)
        )
    else
    if v.1 = 4 then
      (fX4_takeSign N v x1 62 5).bind fun r22 =>
        must (decide (r22.1 = 0 ∨ r22.1 = 1)) (
          some (r22.1, r22.2)
        )
    else
    if v.1 = 5 then
      (fX4_takeSecond N v x1 0 7 6).bind fun r26 =>
        must (decide (r26.1 = 0 ∨ r26.1 = 1)) (
          some (r26.1, r26.2)
        )
    else
    if v.1 = 6 then
      (fX4_takeSign N v x1 63 7).bind fun r30 =>
        must (decide (r30.1 = 0 ∨ r30.1 = 1)) (
          some (r30.1, r30.2)
        )
    else
    if v.1 = 7 then
      (fX4_takeAscending N v x1 8).bind fun r34 =>
        must (decide (r34.1 = 0 ∨ r34.1 = 1)) (
          some (r34.1, r34.2)
        )
    else
    if v.1 = 8 then
      (fX4_takeAscending N v x1 8).bind fun r38 =>
        must (decide (r38.1 = 0 ∨ r38.1 = 1)) (
          some (r38.1, r38.2)
        )
    else
    if v.1 = 9 then
      (fX4_takeFirst N v x1 4 10).bind fun r42 =>
        must (decide (r42.1 = 0 ∨ r42.1 = 1)) (
          some (r42.1, r42.2)
        )
    else
    if v.1 = 10 then
      (fX4_takeSecond N v x1 (v.2.2.1 + 1) 5 11).bind fun r46 =>
        must (decide (r46.1 = 0 ∨ r46.1 = 1)) (
          some (r46.1, r46.2)
        )
    else
    some (0, v)
set_option maxHeartbeats 8000000 in
set_option maxRecDepth 100000 in
theorem M_X4_take (l : Launch) (D : va_G) (cy : Nat → ClassId) (N : Nat) (a : Nat → Nat) (v : SX4) (x1 : Int32) (o : Int32 × SX4) (hf : fX4_take N v x1 = some o) : okM l yX4_take wsX4_take (rmz 1 25) D cy [.ref (a 0), .int x1] (wX4 cy a v) (wX4 cy a o.2) (some (.int o.1)) := by
  refine okM_of (own := RX4) (nme := "take") (cc := cX4_take) (maxL := 2) (ret := (some .boolean)) (by decide) rfl rfl rfl (Nat.le_of_ble_eq_true rfl) ?_
  intro p e s m args below meth c A F
  have i_X4 : ∀ w ∈ u_ws RX4 TX4 6, w ∈ wsX4_take := fun _ h => List.mem_cons_of_mem _ (List.mem_append_right _ h)
  unfold fX4_take at hf
  refine V.eq rfl (show lv_args 0 [.ref (a 0), .int x1] = [(0, .ref (a 0)), (1, .int x1)] from rfl) rfl ?_
  refine V_iload_n (pc := 0) F dX4_take_0 rfl 1 rfl ?_
  refine V_bipush (v := 59) (pc := 1) F dX4_take_1 (by decide) ?_
  refine V_icmp_ne (pc := 3) (tgt := 20) F dX4_take_3 (by decide) (fun h1 => ?_) (fun h1 => ?_)
  · replace hf := ite_neg hf h1
    refine V_aload_n (pc := 20) F dX4_take_20 rfl 0 rfl ?_
    refine V_get (pc := 21) F 0 4 0 i_X4 rfl (by decide) rfl (mm 1 rfl) dX4_take_21 rfl rfl ?_
    by_cases h2 : v.1 = 0
    · replace hf := ite_pos hf h2
      refine V_tableIn (pc := 24) (tgt := 84) F dX4_take_24 (by rw [h2]; decide) (by rw [h2]; decide) (by rw [h2]; rfl) (by decide) ?_
      refine V_aload_n (pc := 84) F dX4_take_84 rfl 0 rfl ?_
      refine V_iload_n (pc := 85) F dX4_take_85 rfl 1 rfl ?_
      obtain ⟨r3, g4, hf⟩ := bind_of hf
      refine V_V (w2 := wX4 cy a r3.2) (rest := []) (st2 := [.int r3.1]) (pc := 86) F 4 (M_X4_takeKind l D cy N a v x1 r3 g4) (cwV 1 F.ts gX4_take_X4_takeKind rfl rfl rfl hd_X4_takeKind ⟨Nat.le_of_ble_eq_true rfl, Nat.le_of_ble_eq_true rfl⟩) rfl dX4_take_86 Fit.whole fstX4 rfl rfl (Nat.le_of_ble_eq_true rfl) (Nat.zero_le _) (Nat.zero_le _) rfl rfl rfl ?_
      obtain ⟨c5, hf⟩ := must_some hf
      obtain rfl := some_of hf
      exact V_ret F rfl (nar_bool (of_decide_eq_true c5)) dX4_take_89 rfl rfl
    replace hf := ite_neg hf h2
    by_cases h6 : v.1 = 1
    · replace hf := ite_pos hf h6
      refine V_tableIn (pc := 24) (tgt := 90) F dX4_take_24 (by rw [h6]; decide) (by rw [h6]; decide) (by rw [h6]; rfl) (by decide) ?_
      refine V_aload_n (pc := 90) F dX4_take_90 rfl 0 rfl ?_
      refine V_iload_n (pc := 91) F dX4_take_91 rfl 1 rfl ?_
      refine V_bipush (v := 42) (pc := 92) F dX4_take_92 (by decide) ?_
      refine V_iconst (v := 2) (pc := 94) F dX4_take_94 (by decide) ?_
      obtain ⟨r7, g8, hf⟩ := bind_of hf
      refine V_V (w2 := wX4 cy a r7.2) (rest := []) (st2 := [.int r7.1]) (pc := 95) F 4 (M_X4_takeSign l D cy N a v x1 42 2 r7 g8) (cwV 3 F.ts gX4_take_X4_takeSign rfl rfl rfl hd_X4_takeSign ⟨Nat.le_of_ble_eq_true rfl, Nat.le_of_ble_eq_true rfl⟩) rfl dX4_take_95 Fit.whole fstX4 rfl rfl (Nat.le_of_ble_eq_true rfl) (Nat.zero_le _) (Nat.zero_le _) rfl rfl rfl ?_
      refine V_if_ne (pc := 98) (tgt := 110) F dX4_take_98 (by decide) (fun h9 => ?_) (fun h9 => ?_)
      · replace hf := ite_neg hf h9
        refine V_iconst (v := 1) (pc := 110) F dX4_take_110 (by decide) ?_
        refine V_goto (pc := 111) (tgt := 115) F dX4_take_111 (by decide) ?_
        obtain rfl := some_of hf
        exact V_ret F rfl rfl dX4_take_115 rfl rfl
      · replace hf := ite_pos hf h9
        refine V_aload_n (pc := 101) F dX4_take_101 rfl 0 rfl ?_
        refine V_iload_n (pc := 102) F dX4_take_102 rfl 1 rfl ?_
        refine V_iconst (v := 1) (pc := 103) F dX4_take_103 (by decide) ?_
        obtain ⟨r10, g11, hf⟩ := bind_of hf
        refine V_V (w2 := wX4 cy a r10.2) (rest := []) (st2 := [.int r10.1]) (pc := 104) F 4 (M_X4_takeAscending l D cy N a r7.2 x1 1 r10 g11) (cwV 2 F.ts gX4_take_X4_takeAscending rfl rfl rfl hd_X4_takeAscending ⟨Nat.le_of_ble_eq_true rfl, Nat.le_of_ble_eq_true rfl⟩) rfl dX4_take_104 Fit.whole fstX4 rfl rfl (Nat.le_of_ble_eq_true rfl) (Nat.zero_le _) (Nat.zero_le _) rfl rfl rfl ?_
        refine V_if_eq (pc := 107) (tgt := 114) F dX4_take_107 (by decide) (fun h12 => ?_) (fun h12 => ?_)
        · replace hf := ite_pos hf h12
          refine V_iconst (v := 0) (pc := 114) F dX4_take_114 (by decide) ?_
          obtain rfl := some_of hf
          exact V_ret F rfl rfl dX4_take_115 rfl rfl
        · replace hf := ite_neg hf h12
          refine V_iconst (v := 1) (pc := 110) F dX4_take_110 (by decide) ?_
          refine V_goto (pc := 111) (tgt := 115) F dX4_take_111 (by decide) ?_
          obtain rfl := some_of hf
          exact V_ret F rfl rfl dX4_take_115 rfl rfl
    replace hf := ite_neg hf h6
    by_cases h13 : v.1 = 2
    · replace hf := ite_pos hf h13
      refine V_tableIn (pc := 24) (tgt := 116) F dX4_take_24 (by rw [h13]; decide) (by rw [h13]; decide) (by rw [h13]; rfl) (by decide) ?_
      refine V_aload_n (pc := 116) F dX4_take_116 rfl 0 rfl ?_
      refine V_iload_n (pc := 117) F dX4_take_117 rfl 1 rfl ?_
      refine V_iconst (v := 1) (pc := 118) F dX4_take_118 (by decide) ?_
      refine V_bipush (v := 9) (pc := 119) F dX4_take_119 (by decide) ?_
      refine V_bipush (v := 11) (pc := 121) F dX4_take_121 (by decide) ?_
      obtain ⟨r14, g15, hf⟩ := bind_of hf
      refine V_V (w2 := wX4 cy a r14.2) (rest := []) (st2 := [.int r14.1]) (pc := 123) F 4 (M_X4_takeSecond l D cy N a v x1 1 9 11 r14 g15) (cwV 4 F.ts gX4_take_X4_takeSecond rfl rfl rfl hd_X4_takeSecond ⟨Nat.le_of_ble_eq_true rfl, Nat.le_of_ble_eq_true rfl⟩) rfl dX4_take_123 Fit.whole fstX4 rfl rfl (Nat.le_of_ble_eq_true rfl) (Nat.zero_le _) (Nat.zero_le _) rfl rfl rfl ?_
      obtain ⟨c16, hf⟩ := must_some hf
      obtain rfl := some_of hf
      exact V_ret F rfl (nar_bool (of_decide_eq_true c16)) dX4_take_126 rfl rfl
    replace hf := ite_neg hf h13
    by_cases h17 : v.1 = 3
    · replace hf := ite_pos hf h17
      refine V_tableIn (pc := 24) (tgt := 127) F dX4_take_24 (by rw [h17]; decide) (by rw [h17]; decide) (by rw [h17]; rfl) (by decide) ?_
      refine V_aload_n (pc := 127) F dX4_take_127 rfl 0 rfl ?_
      refine V_iload_n (pc := 128) F dX4_take_128 rfl 1 rfl ?_
      refine V_bipush (v := 7) (pc := 129) F dX4_take_129 (by decide) ?_
      refine V_iconst (v := 4) (pc := 131) F dX4_take_131 (by decide) ?_
      obtain ⟨r18, g19, hf⟩ := bind_of hf
      refine V_V (w2 := wX4 cy a r18.2) (rest := []) (st2 := [.int r18.1]) (pc := 132) F 4 (M_X4_takeFirst l D cy N a v x1 7 4 r18 g19) (cwV 3 F.ts gX4_take_X4_takeFirst rfl rfl rfl hd_X4_takeFirst ⟨Nat.le_of_ble_eq_true rfl, Nat.le_of_ble_eq_true rfl⟩) rfl dX4_take_132 Fit.whole fstX4 rfl rfl (Nat.le_of_ble_eq_true rfl) (Nat.zero_le _) (Nat.zero_le _) rfl rfl rfl ?_
      obtain ⟨c20, hf⟩ := must_some hf
      obtain rfl := some_of hf
      exact V_ret F rfl (nar_bool (of_decide_eq_true c20)) dX4_take_135 rfl rfl
    replace hf := ite_neg hf h17
    by_cases h21 : v.1 = 4
    · replace hf := ite_pos hf h21
      refine V_tableIn (pc := 24) (tgt := 136) F dX4_take_24 (by rw [h21]; decide) (by rw [h21]; decide) (by rw [h21]; rfl) (by decide) ?_
      refine V_aload_n (pc := 136) F dX4_take_136 rfl 0 rfl ?_
      refine V_iload_n (pc := 137) F dX4_take_137 rfl 1 rfl ?_
      refine V_bipush (v := 62) (pc := 138) F dX4_take_138 (by decide) ?_
      refine V_iconst (v := 5) (pc := 140) F dX4_take_140 (by decide) ?_
      obtain ⟨r22, g23, hf⟩ := bind_of hf
      refine V_V (w2 := wX4 cy a r22.2) (rest := []) (st2 := [.int r22.1]) (pc := 141) F 4 (M_X4_takeSign l D cy N a v x1 62 5 r22 g23) (cwV 3 F.ts gX4_take_X4_takeSign rfl rfl rfl hd_X4_takeSign ⟨Nat.le_of_ble_eq_true rfl, Nat.le_of_ble_eq_true rfl⟩) rfl dX4_take_141 Fit.whole fstX4 rfl rfl (Nat.le_of_ble_eq_true rfl) (Nat.zero_le _) (Nat.zero_le _) rfl rfl rfl ?_
      obtain ⟨c24, hf⟩ := must_some hf
      obtain rfl := some_of hf
      exact V_ret F rfl (nar_bool (of_decide_eq_true c24)) dX4_take_144 rfl rfl
    replace hf := ite_neg hf h21
    by_cases h25 : v.1 = 5
    · replace hf := ite_pos hf h25
      refine V_tableIn (pc := 24) (tgt := 145) F dX4_take_24 (by rw [h25]; decide) (by rw [h25]; decide) (by rw [h25]; rfl) (by decide) ?_
      refine V_aload_n (pc := 145) F dX4_take_145 rfl 0 rfl ?_
      refine V_iload_n (pc := 146) F dX4_take_146 rfl 1 rfl ?_
      refine V_iconst (v := 0) (pc := 147) F dX4_take_147 (by decide) ?_
      refine V_bipush (v := 7) (pc := 148) F dX4_take_148 (by decide) ?_
      refine V_bipush (v := 6) (pc := 150) F dX4_take_150 (by decide) ?_
      obtain ⟨r26, g27, hf⟩ := bind_of hf
      refine V_V (w2 := wX4 cy a r26.2) (rest := []) (st2 := [.int r26.1]) (pc := 152) F 4 (M_X4_takeSecond l D cy N a v x1 0 7 6 r26 g27) (cwV 4 F.ts gX4_take_X4_takeSecond rfl rfl rfl hd_X4_takeSecond ⟨Nat.le_of_ble_eq_true rfl, Nat.le_of_ble_eq_true rfl⟩) rfl dX4_take_152 Fit.whole fstX4 rfl rfl (Nat.le_of_ble_eq_true rfl) (Nat.zero_le _) (Nat.zero_le _) rfl rfl rfl ?_
      obtain ⟨c28, hf⟩ := must_some hf
      obtain rfl := some_of hf
      exact V_ret F rfl (nar_bool (of_decide_eq_true c28)) dX4_take_155 rfl rfl
    replace hf := ite_neg hf h25
    by_cases h29 : v.1 = 6
    · replace hf := ite_pos hf h29
      refine V_tableIn (pc := 24) (tgt := 156) F dX4_take_24 (by rw [h29]; decide) (by rw [h29]; decide) (by rw [h29]; rfl) (by decide) ?_
      refine V_aload_n (pc := 156) F dX4_take_156 rfl 0 rfl ?_
      refine V_iload_n (pc := 157) F dX4_take_157 rfl 1 rfl ?_
      refine V_bipush (v := 63) (pc := 158) F dX4_take_158 (by decide) ?_
      refine V_bipush (v := 7) (pc := 160) F dX4_take_160 (by decide) ?_
      obtain ⟨r30, g31, hf⟩ := bind_of hf
      refine V_V (w2 := wX4 cy a r30.2) (rest := []) (st2 := [.int r30.1]) (pc := 162) F 4 (M_X4_takeSign l D cy N a v x1 63 7 r30 g31) (cwV 3 F.ts gX4_take_X4_takeSign rfl rfl rfl hd_X4_takeSign ⟨Nat.le_of_ble_eq_true rfl, Nat.le_of_ble_eq_true rfl⟩) rfl dX4_take_162 Fit.whole fstX4 rfl rfl (Nat.le_of_ble_eq_true rfl) (Nat.zero_le _) (Nat.zero_le _) rfl rfl rfl ?_
      obtain ⟨c32, hf⟩ := must_some hf
      obtain rfl := some_of hf
      exact V_ret F rfl (nar_bool (of_decide_eq_true c32)) dX4_take_165 rfl rfl
    replace hf := ite_neg hf h29
    by_cases h33 : v.1 = 7
    · replace hf := ite_pos hf h33
      refine V_tableIn (pc := 24) (tgt := 166) F dX4_take_24 (by rw [h33]; decide) (by rw [h33]; decide) (by rw [h33]; rfl) (by decide) ?_
      refine V_aload_n (pc := 166) F dX4_take_166 rfl 0 rfl ?_
      refine V_iload_n (pc := 167) F dX4_take_167 rfl 1 rfl ?_
      refine V_bipush (v := 8) (pc := 168) F dX4_take_168 (by decide) ?_
      obtain ⟨r34, g35, hf⟩ := bind_of hf
      refine V_V (w2 := wX4 cy a r34.2) (rest := []) (st2 := [.int r34.1]) (pc := 170) F 4 (M_X4_takeAscending l D cy N a v x1 8 r34 g35) (cwV 2 F.ts gX4_take_X4_takeAscending rfl rfl rfl hd_X4_takeAscending ⟨Nat.le_of_ble_eq_true rfl, Nat.le_of_ble_eq_true rfl⟩) rfl dX4_take_170 Fit.whole fstX4 rfl rfl (Nat.le_of_ble_eq_true rfl) (Nat.zero_le _) (Nat.zero_le _) rfl rfl rfl ?_
      obtain ⟨c36, hf⟩ := must_some hf
      obtain rfl := some_of hf
      exact V_ret F rfl (nar_bool (of_decide_eq_true c36)) dX4_take_173 rfl rfl
    replace hf := ite_neg hf h33
    by_cases h37 : v.1 = 8
    · replace hf := ite_pos hf h37
      refine V_tableIn (pc := 24) (tgt := 166) F dX4_take_24 (by rw [h37]; decide) (by rw [h37]; decide) (by rw [h37]; rfl) (by decide) ?_
      refine V_aload_n (pc := 166) F dX4_take_166 rfl 0 rfl ?_
      refine V_iload_n (pc := 167) F dX4_take_167 rfl 1 rfl ?_
      refine V_bipush (v := 8) (pc := 168) F dX4_take_168 (by decide) ?_
      obtain ⟨r38, g39, hf⟩ := bind_of hf
      refine V_V (w2 := wX4 cy a r38.2) (rest := []) (st2 := [.int r38.1]) (pc := 170) F 4 (M_X4_takeAscending l D cy N a v x1 8 r38 g39) (cwV 2 F.ts gX4_take_X4_takeAscending rfl rfl rfl hd_X4_takeAscending ⟨Nat.le_of_ble_eq_true rfl, Nat.le_of_ble_eq_true rfl⟩) rfl dX4_take_170 Fit.whole fstX4 rfl rfl (Nat.le_of_ble_eq_true rfl) (Nat.zero_le _) (Nat.zero_le _) rfl rfl rfl ?_
      obtain ⟨c40, hf⟩ := must_some hf
      obtain rfl := some_of hf
      exact V_ret F rfl (nar_bool (of_decide_eq_true c40)) dX4_take_173 rfl rfl
    replace hf := ite_neg hf h37
    by_cases h41 : v.1 = 9
    · replace hf := ite_pos hf h41
      refine V_tableIn (pc := 24) (tgt := 174) F dX4_take_24 (by rw [h41]; decide) (by rw [h41]; decide) (by rw [h41]; rfl) (by decide) ?_
      refine V_aload_n (pc := 174) F dX4_take_174 rfl 0 rfl ?_
      refine V_iload_n (pc := 175) F dX4_take_175 rfl 1 rfl ?_
      refine V_iconst (v := 4) (pc := 176) F dX4_take_176 (by decide) ?_
      refine V_bipush (v := 10) (pc := 177) F dX4_take_177 (by decide) ?_
      obtain ⟨r42, g43, hf⟩ := bind_of hf
      refine V_V (w2 := wX4 cy a r42.2) (rest := []) (st2 := [.int r42.1]) (pc := 179) F 4 (M_X4_takeFirst l D cy N a v x1 4 10 r42 g43) (cwV 3 F.ts gX4_take_X4_takeFirst rfl rfl rfl hd_X4_takeFirst ⟨Nat.le_of_ble_eq_true rfl, Nat.le_of_ble_eq_true rfl⟩) rfl dX4_take_179 Fit.whole fstX4 rfl rfl (Nat.le_of_ble_eq_true rfl) (Nat.zero_le _) (Nat.zero_le _) rfl rfl rfl ?_
      obtain ⟨c44, hf⟩ := must_some hf
      obtain rfl := some_of hf
      exact V_ret F rfl (nar_bool (of_decide_eq_true c44)) dX4_take_182 rfl rfl
    replace hf := ite_neg hf h41
    by_cases h45 : v.1 = 10
    · replace hf := ite_pos hf h45
      refine V_tableIn (pc := 24) (tgt := 183) F dX4_take_24 (by rw [h45]; decide) (by rw [h45]; decide) (by rw [h45]; rfl) (by decide) ?_
      refine V_aload_n (pc := 183) F dX4_take_183 rfl 0 rfl ?_
      refine V_iload_n (pc := 184) F dX4_take_184 rfl 1 rfl ?_
      refine V_aload_n (pc := 185) F dX4_take_185 rfl 0 rfl ?_
      refine V_get (pc := 186) F 0 4 2 i_X4 rfl (by decide) rfl (mm 2 rfl) dX4_take_186 rfl rfl ?_
      refine V_iconst (v := 1) (pc := 189) F dX4_take_189 (by decide) ?_
      refine V_iadd (pc := 190) F dX4_take_190 ?_
      refine V_iconst (v := 5) (pc := 191) F dX4_take_191 (by decide) ?_
      refine V_bipush (v := 11) (pc := 192) F dX4_take_192 (by decide) ?_
      obtain ⟨r46, g47, hf⟩ := bind_of hf
      refine V_V (w2 := wX4 cy a r46.2) (rest := []) (st2 := [.int r46.1]) (pc := 194) F 4 (M_X4_takeSecond l D cy N a v x1 (v.2.2.1 + 1) 5 11 r46 g47) (cwV 4 F.ts gX4_take_X4_takeSecond rfl rfl rfl hd_X4_takeSecond ⟨Nat.le_of_ble_eq_true rfl, Nat.le_of_ble_eq_true rfl⟩) rfl dX4_take_194 Fit.whole fstX4 rfl rfl (Nat.le_of_ble_eq_true rfl) (Nat.zero_le _) (Nat.zero_le _) rfl rfl rfl ?_
      obtain ⟨c48, hf⟩ := must_some hf
      obtain rfl := some_of hf
      exact V_ret F rfl (nar_bool (of_decide_eq_true c48)) dX4_take_197 rfl rfl
    replace hf := ite_neg hf h45
    refine V_tableOut (pc := 24) (tgt := 198) F dX4_take_24 (by have q0 := lv_neT h2 (a := 0) rfl; have q1 := lv_neT h6 (a := 1) rfl; have q2 := lv_neT h13 (a := 2) rfl; have q3 := lv_neT h17 (a := 3) rfl; have q4 := lv_neT h21 (a := 4) rfl; have q5 := lv_neT h25 (a := 5) rfl; have q6 := lv_neT h29 (a := 6) rfl; have q7 := lv_neT h33 (a := 7) rfl; have q8 := lv_neT h37 (a := 8) rfl; have q9 := lv_neT h41 (a := 9) rfl; have q10 := lv_neT h45 (a := 10) rfl; omega) (by decide) ?_
    refine V_iconst (v := 0) (pc := 198) F dX4_take_198 (by decide) ?_
    obtain rfl := some_of hf
    exact V_ret F rfl rfl dX4_take_199 rfl rfl
  · replace hf := ite_pos hf h1
    refine V_aload_n (pc := 6) F dX4_take_6 rfl 0 rfl ?_
    obtain ⟨r49, g50, hf⟩ := bind_of hf
    refine V_V (w2 := wX4 cy a v) (rest := []) (st2 := [.int r49]) (pc := 7) F 4 (M_X4_canEnd l D cy N a v r49 g50) (cwV 0 F.ts gX4_take_X4_canEnd rfl rfl rfl hd_X4_canEnd ⟨Nat.le_of_ble_eq_true rfl, Nat.le_of_ble_eq_true rfl⟩) rfl dX4_take_7 Fit.whole rfl rfl rfl (Nat.le_of_ble_eq_true rfl) (Nat.zero_le _) (Nat.zero_le _) rfl rfl rfl ?_
    refine V_if_eq (pc := 10) (tgt := 20) F dX4_take_10 (by decide) (fun h51 => ?_) (fun h51 => ?_)
    · replace hf := ite_pos hf h51
      refine V_aload_n (pc := 20) F dX4_take_20 rfl 0 rfl ?_
      refine V_get (pc := 21) F 0 4 0 i_X4 rfl (by decide) rfl (mm 1 rfl) dX4_take_21 rfl rfl ?_
      by_cases h52 : v.1 = 0
      · replace hf := ite_pos hf h52
        refine V_tableIn (pc := 24) (tgt := 84) F dX4_take_24 (by rw [h52]; decide) (by rw [h52]; decide) (by rw [h52]; rfl) (by decide) ?_
        refine V_aload_n (pc := 84) F dX4_take_84 rfl 0 rfl ?_
        refine V_iload_n (pc := 85) F dX4_take_85 rfl 1 rfl ?_
        obtain ⟨r53, g54, hf⟩ := bind_of hf
        refine V_V (w2 := wX4 cy a r53.2) (rest := []) (st2 := [.int r53.1]) (pc := 86) F 4 (M_X4_takeKind l D cy N a v x1 r53 g54) (cwV 1 F.ts gX4_take_X4_takeKind rfl rfl rfl hd_X4_takeKind ⟨Nat.le_of_ble_eq_true rfl, Nat.le_of_ble_eq_true rfl⟩) rfl dX4_take_86 Fit.whole fstX4 rfl rfl (Nat.le_of_ble_eq_true rfl) (Nat.zero_le _) (Nat.zero_le _) rfl rfl rfl ?_
        obtain ⟨c55, hf⟩ := must_some hf
        obtain rfl := some_of hf
        exact V_ret F rfl (nar_bool (of_decide_eq_true c55)) dX4_take_89 rfl rfl
      replace hf := ite_neg hf h52
      by_cases h56 : v.1 = 1
      · replace hf := ite_pos hf h56
        refine V_tableIn (pc := 24) (tgt := 90) F dX4_take_24 (by rw [h56]; decide) (by rw [h56]; decide) (by rw [h56]; rfl) (by decide) ?_
        refine V_aload_n (pc := 90) F dX4_take_90 rfl 0 rfl ?_
        refine V_iload_n (pc := 91) F dX4_take_91 rfl 1 rfl ?_
        refine V_bipush (v := 42) (pc := 92) F dX4_take_92 (by decide) ?_
        refine V_iconst (v := 2) (pc := 94) F dX4_take_94 (by decide) ?_
        obtain ⟨r57, g58, hf⟩ := bind_of hf
        refine V_V (w2 := wX4 cy a r57.2) (rest := []) (st2 := [.int r57.1]) (pc := 95) F 4 (M_X4_takeSign l D cy N a v x1 42 2 r57 g58) (cwV 3 F.ts gX4_take_X4_takeSign rfl rfl rfl hd_X4_takeSign ⟨Nat.le_of_ble_eq_true rfl, Nat.le_of_ble_eq_true rfl⟩) rfl dX4_take_95 Fit.whole fstX4 rfl rfl (Nat.le_of_ble_eq_true rfl) (Nat.zero_le _) (Nat.zero_le _) rfl rfl rfl ?_
        refine V_if_ne (pc := 98) (tgt := 110) F dX4_take_98 (by decide) (fun h59 => ?_) (fun h59 => ?_)
        · replace hf := ite_neg hf h59
          refine V_iconst (v := 1) (pc := 110) F dX4_take_110 (by decide) ?_
          refine V_goto (pc := 111) (tgt := 115) F dX4_take_111 (by decide) ?_
          obtain rfl := some_of hf
          exact V_ret F rfl rfl dX4_take_115 rfl rfl
        · replace hf := ite_pos hf h59
          refine V_aload_n (pc := 101) F dX4_take_101 rfl 0 rfl ?_
          refine V_iload_n (pc := 102) F dX4_take_102 rfl 1 rfl ?_
          refine V_iconst (v := 1) (pc := 103) F dX4_take_103 (by decide) ?_
          obtain ⟨r60, g61, hf⟩ := bind_of hf
          refine V_V (w2 := wX4 cy a r60.2) (rest := []) (st2 := [.int r60.1]) (pc := 104) F 4 (M_X4_takeAscending l D cy N a r57.2 x1 1 r60 g61) (cwV 2 F.ts gX4_take_X4_takeAscending rfl rfl rfl hd_X4_takeAscending ⟨Nat.le_of_ble_eq_true rfl, Nat.le_of_ble_eq_true rfl⟩) rfl dX4_take_104 Fit.whole fstX4 rfl rfl (Nat.le_of_ble_eq_true rfl) (Nat.zero_le _) (Nat.zero_le _) rfl rfl rfl ?_
          refine V_if_eq (pc := 107) (tgt := 114) F dX4_take_107 (by decide) (fun h62 => ?_) (fun h62 => ?_)
          · replace hf := ite_pos hf h62
            refine V_iconst (v := 0) (pc := 114) F dX4_take_114 (by decide) ?_
            obtain rfl := some_of hf
            exact V_ret F rfl rfl dX4_take_115 rfl rfl
          · replace hf := ite_neg hf h62
            refine V_iconst (v := 1) (pc := 110) F dX4_take_110 (by decide) ?_
            refine V_goto (pc := 111) (tgt := 115) F dX4_take_111 (by decide) ?_
            obtain rfl := some_of hf
            exact V_ret F rfl rfl dX4_take_115 rfl rfl
      replace hf := ite_neg hf h56
      by_cases h63 : v.1 = 2
      · replace hf := ite_pos hf h63
        refine V_tableIn (pc := 24) (tgt := 116) F dX4_take_24 (by rw [h63]; decide) (by rw [h63]; decide) (by rw [h63]; rfl) (by decide) ?_
        refine V_aload_n (pc := 116) F dX4_take_116 rfl 0 rfl ?_
        refine V_iload_n (pc := 117) F dX4_take_117 rfl 1 rfl ?_
        refine V_iconst (v := 1) (pc := 118) F dX4_take_118 (by decide) ?_
        refine V_bipush (v := 9) (pc := 119) F dX4_take_119 (by decide) ?_
        refine V_bipush (v := 11) (pc := 121) F dX4_take_121 (by decide) ?_
        obtain ⟨r64, g65, hf⟩ := bind_of hf
        refine V_V (w2 := wX4 cy a r64.2) (rest := []) (st2 := [.int r64.1]) (pc := 123) F 4 (M_X4_takeSecond l D cy N a v x1 1 9 11 r64 g65) (cwV 4 F.ts gX4_take_X4_takeSecond rfl rfl rfl hd_X4_takeSecond ⟨Nat.le_of_ble_eq_true rfl, Nat.le_of_ble_eq_true rfl⟩) rfl dX4_take_123 Fit.whole fstX4 rfl rfl (Nat.le_of_ble_eq_true rfl) (Nat.zero_le _) (Nat.zero_le _) rfl rfl rfl ?_
        obtain ⟨c66, hf⟩ := must_some hf
        obtain rfl := some_of hf
        exact V_ret F rfl (nar_bool (of_decide_eq_true c66)) dX4_take_126 rfl rfl
      replace hf := ite_neg hf h63
      by_cases h67 : v.1 = 3
      · replace hf := ite_pos hf h67
        refine V_tableIn (pc := 24) (tgt := 127) F dX4_take_24 (by rw [h67]; decide) (by rw [h67]; decide) (by rw [h67]; rfl) (by decide) ?_
        refine V_aload_n (pc := 127) F dX4_take_127 rfl 0 rfl ?_
        refine V_iload_n (pc := 128) F dX4_take_128 rfl 1 rfl ?_
        refine V_bipush (v := 7) (pc := 129) F dX4_take_129 (by decide) ?_
        refine V_iconst (v := 4) (pc := 131) F dX4_take_131 (by decide) ?_
        obtain ⟨r68, g69, hf⟩ := bind_of hf
        refine V_V (w2 := wX4 cy a r68.2) (rest := []) (st2 := [.int r68.1]) (pc := 132) F 4 (M_X4_takeFirst l D cy N a v x1 7 4 r68 g69) (cwV 3 F.ts gX4_take_X4_takeFirst rfl rfl rfl hd_X4_takeFirst ⟨Nat.le_of_ble_eq_true rfl, Nat.le_of_ble_eq_true rfl⟩) rfl dX4_take_132 Fit.whole fstX4 rfl rfl (Nat.le_of_ble_eq_true rfl) (Nat.zero_le _) (Nat.zero_le _) rfl rfl rfl ?_
        obtain ⟨c70, hf⟩ := must_some hf
        obtain rfl := some_of hf
        exact V_ret F rfl (nar_bool (of_decide_eq_true c70)) dX4_take_135 rfl rfl
      replace hf := ite_neg hf h67
      by_cases h71 : v.1 = 4
      · replace hf := ite_pos hf h71
        refine V_tableIn (pc := 24) (tgt := 136) F dX4_take_24 (by rw [h71]; decide) (by rw [h71]; decide) (by rw [h71]; rfl) (by decide) ?_
        refine V_aload_n (pc := 136) F dX4_take_136 rfl 0 rfl ?_
        refine V_iload_n (pc := 137) F dX4_take_137 rfl 1 rfl ?_
        refine V_bipush (v := 62) (pc := 138) F dX4_take_138 (by decide) ?_
        refine V_iconst (v := 5) (pc := 140) F dX4_take_140 (by decide) ?_
        obtain ⟨r72, g73, hf⟩ := bind_of hf
        refine V_V (w2 := wX4 cy a r72.2) (rest := []) (st2 := [.int r72.1]) (pc := 141) F 4 (M_X4_takeSign l D cy N a v x1 62 5 r72 g73) (cwV 3 F.ts gX4_take_X4_takeSign rfl rfl rfl hd_X4_takeSign ⟨Nat.le_of_ble_eq_true rfl, Nat.le_of_ble_eq_true rfl⟩) rfl dX4_take_141 Fit.whole fstX4 rfl rfl (Nat.le_of_ble_eq_true rfl) (Nat.zero_le _) (Nat.zero_le _) rfl rfl rfl ?_
        obtain ⟨c74, hf⟩ := must_some hf
        obtain rfl := some_of hf
        exact V_ret F rfl (nar_bool (of_decide_eq_true c74)) dX4_take_144 rfl rfl
      replace hf := ite_neg hf h71
      by_cases h75 : v.1 = 5
      · replace hf := ite_pos hf h75
        refine V_tableIn (pc := 24) (tgt := 145) F dX4_take_24 (by rw [h75]; decide) (by rw [h75]; decide) (by rw [h75]; rfl) (by decide) ?_
        refine V_aload_n (pc := 145) F dX4_take_145 rfl 0 rfl ?_
        refine V_iload_n (pc := 146) F dX4_take_146 rfl 1 rfl ?_
        refine V_iconst (v := 0) (pc := 147) F dX4_take_147 (by decide) ?_
        refine V_bipush (v := 7) (pc := 148) F dX4_take_148 (by decide) ?_
        refine V_bipush (v := 6) (pc := 150) F dX4_take_150 (by decide) ?_
        obtain ⟨r76, g77, hf⟩ := bind_of hf
        refine V_V (w2 := wX4 cy a r76.2) (rest := []) (st2 := [.int r76.1]) (pc := 152) F 4 (M_X4_takeSecond l D cy N a v x1 0 7 6 r76 g77) (cwV 4 F.ts gX4_take_X4_takeSecond rfl rfl rfl hd_X4_takeSecond ⟨Nat.le_of_ble_eq_true rfl, Nat.le_of_ble_eq_true rfl⟩) rfl dX4_take_152 Fit.whole fstX4 rfl rfl (Nat.le_of_ble_eq_true rfl) (Nat.zero_le _) (Nat.zero_le _) rfl rfl rfl ?_
        obtain ⟨c78, hf⟩ := must_some hf
        obtain rfl := some_of hf
        exact V_ret F rfl (nar_bool (of_decide_eq_true c78)) dX4_take_155 rfl rfl
      replace hf := ite_neg hf h75
      by_cases h79 : v.1 = 6
      · replace hf := ite_pos hf h79
        refine V_tableIn (pc := 24) (tgt := 156) F dX4_take_24 (by rw [h79]; decide) (by rw [h79]; decide) (by rw [h79]; rfl) (by decide) ?_
        refine V_aload_n (pc := 156) F dX4_take_156 rfl 0 rfl ?_
        refine V_iload_n (pc := 157) F dX4_take_157 rfl 1 rfl ?_
        refine V_bipush (v := 63) (pc := 158) F dX4_take_158 (by decide) ?_
        refine V_bipush (v := 7) (pc := 160) F dX4_take_160 (by decide) ?_
        obtain ⟨r80, g81, hf⟩ := bind_of hf
        refine V_V (w2 := wX4 cy a r80.2) (rest := []) (st2 := [.int r80.1]) (pc := 162) F 4 (M_X4_takeSign l D cy N a v x1 63 7 r80 g81) (cwV 3 F.ts gX4_take_X4_takeSign rfl rfl rfl hd_X4_takeSign ⟨Nat.le_of_ble_eq_true rfl, Nat.le_of_ble_eq_true rfl⟩) rfl dX4_take_162 Fit.whole fstX4 rfl rfl (Nat.le_of_ble_eq_true rfl) (Nat.zero_le _) (Nat.zero_le _) rfl rfl rfl ?_
        obtain ⟨c82, hf⟩ := must_some hf
        obtain rfl := some_of hf
        exact V_ret F rfl (nar_bool (of_decide_eq_true c82)) dX4_take_165 rfl rfl
      replace hf := ite_neg hf h79
      by_cases h83 : v.1 = 7
      · replace hf := ite_pos hf h83
        refine V_tableIn (pc := 24) (tgt := 166) F dX4_take_24 (by rw [h83]; decide) (by rw [h83]; decide) (by rw [h83]; rfl) (by decide) ?_
        refine V_aload_n (pc := 166) F dX4_take_166 rfl 0 rfl ?_
        refine V_iload_n (pc := 167) F dX4_take_167 rfl 1 rfl ?_
        refine V_bipush (v := 8) (pc := 168) F dX4_take_168 (by decide) ?_
        obtain ⟨r84, g85, hf⟩ := bind_of hf
        refine V_V (w2 := wX4 cy a r84.2) (rest := []) (st2 := [.int r84.1]) (pc := 170) F 4 (M_X4_takeAscending l D cy N a v x1 8 r84 g85) (cwV 2 F.ts gX4_take_X4_takeAscending rfl rfl rfl hd_X4_takeAscending ⟨Nat.le_of_ble_eq_true rfl, Nat.le_of_ble_eq_true rfl⟩) rfl dX4_take_170 Fit.whole fstX4 rfl rfl (Nat.le_of_ble_eq_true rfl) (Nat.zero_le _) (Nat.zero_le _) rfl rfl rfl ?_
        obtain ⟨c86, hf⟩ := must_some hf
        obtain rfl := some_of hf
        exact V_ret F rfl (nar_bool (of_decide_eq_true c86)) dX4_take_173 rfl rfl
      replace hf := ite_neg hf h83
      by_cases h87 : v.1 = 8
      · replace hf := ite_pos hf h87
        refine V_tableIn (pc := 24) (tgt := 166) F dX4_take_24 (by rw [h87]; decide) (by rw [h87]; decide) (by rw [h87]; rfl) (by decide) ?_
        refine V_aload_n (pc := 166) F dX4_take_166 rfl 0 rfl ?_
        refine V_iload_n (pc := 167) F dX4_take_167 rfl 1 rfl ?_
        refine V_bipush (v := 8) (pc := 168) F dX4_take_168 (by decide) ?_
        obtain ⟨r88, g89, hf⟩ := bind_of hf
        refine V_V (w2 := wX4 cy a r88.2) (rest := []) (st2 := [.int r88.1]) (pc := 170) F 4 (M_X4_takeAscending l D cy N a v x1 8 r88 g89) (cwV 2 F.ts gX4_take_X4_takeAscending rfl rfl rfl hd_X4_takeAscending ⟨Nat.le_of_ble_eq_true rfl, Nat.le_of_ble_eq_true rfl⟩) rfl dX4_take_170 Fit.whole fstX4 rfl rfl (Nat.le_of_ble_eq_true rfl) (Nat.zero_le _) (Nat.zero_le _) rfl rfl rfl ?_
        obtain ⟨c90, hf⟩ := must_some hf
        obtain rfl := some_of hf
        exact V_ret F rfl (nar_bool (of_decide_eq_true c90)) dX4_take_173 rfl rfl
      replace hf := ite_neg hf h87
      by_cases h91 : v.1 = 9
      · replace hf := ite_pos hf h91
        refine V_tableIn (pc := 24) (tgt := 174) F dX4_take_24 (by rw [h91]; decide) (by rw [h91]; decide) (by rw [h91]; rfl) (by decide) ?_
        refine V_aload_n (pc := 174) F dX4_take_174 rfl 0 rfl ?_
        refine V_iload_n (pc := 175) F dX4_take_175 rfl 1 rfl ?_
        refine V_iconst (v := 4) (pc := 176) F dX4_take_176 (by decide) ?_
        refine V_bipush (v := 10) (pc := 177) F dX4_take_177 (by decide) ?_
        obtain ⟨r92, g93, hf⟩ := bind_of hf
        refine V_V (w2 := wX4 cy a r92.2) (rest := []) (st2 := [.int r92.1]) (pc := 179) F 4 (M_X4_takeFirst l D cy N a v x1 4 10 r92 g93) (cwV 3 F.ts gX4_take_X4_takeFirst rfl rfl rfl hd_X4_takeFirst ⟨Nat.le_of_ble_eq_true rfl, Nat.le_of_ble_eq_true rfl⟩) rfl dX4_take_179 Fit.whole fstX4 rfl rfl (Nat.le_of_ble_eq_true rfl) (Nat.zero_le _) (Nat.zero_le _) rfl rfl rfl ?_
        obtain ⟨c94, hf⟩ := must_some hf
        obtain rfl := some_of hf
        exact V_ret F rfl (nar_bool (of_decide_eq_true c94)) dX4_take_182 rfl rfl
      replace hf := ite_neg hf h91
      by_cases h95 : v.1 = 10
      · replace hf := ite_pos hf h95
        refine V_tableIn (pc := 24) (tgt := 183) F dX4_take_24 (by rw [h95]; decide) (by rw [h95]; decide) (by rw [h95]; rfl) (by decide) ?_
        refine V_aload_n (pc := 183) F dX4_take_183 rfl 0 rfl ?_
        refine V_iload_n (pc := 184) F dX4_take_184 rfl 1 rfl ?_
        refine V_aload_n (pc := 185) F dX4_take_185 rfl 0 rfl ?_
        refine V_get (pc := 186) F 0 4 2 i_X4 rfl (by decide) rfl (mm 2 rfl) dX4_take_186 rfl rfl ?_
        refine V_iconst (v := 1) (pc := 189) F dX4_take_189 (by decide) ?_
        refine V_iadd (pc := 190) F dX4_take_190 ?_
        refine V_iconst (v := 5) (pc := 191) F dX4_take_191 (by decide) ?_
        refine V_bipush (v := 11) (pc := 192) F dX4_take_192 (by decide) ?_
        obtain ⟨r96, g97, hf⟩ := bind_of hf
        refine V_V (w2 := wX4 cy a r96.2) (rest := []) (st2 := [.int r96.1]) (pc := 194) F 4 (M_X4_takeSecond l D cy N a v x1 (v.2.2.1 + 1) 5 11 r96 g97) (cwV 4 F.ts gX4_take_X4_takeSecond rfl rfl rfl hd_X4_takeSecond ⟨Nat.le_of_ble_eq_true rfl, Nat.le_of_ble_eq_true rfl⟩) rfl dX4_take_194 Fit.whole fstX4 rfl rfl (Nat.le_of_ble_eq_true rfl) (Nat.zero_le _) (Nat.zero_le _) rfl rfl rfl ?_
        obtain ⟨c98, hf⟩ := must_some hf
        obtain rfl := some_of hf
        exact V_ret F rfl (nar_bool (of_decide_eq_true c98)) dX4_take_197 rfl rfl
      replace hf := ite_neg hf h95
      refine V_tableOut (pc := 24) (tgt := 198) F dX4_take_24 (by have q0 := lv_neT h52 (a := 0) rfl; have q1 := lv_neT h56 (a := 1) rfl; have q2 := lv_neT h63 (a := 2) rfl; have q3 := lv_neT h67 (a := 3) rfl; have q4 := lv_neT h71 (a := 4) rfl; have q5 := lv_neT h75 (a := 5) rfl; have q6 := lv_neT h79 (a := 6) rfl; have q7 := lv_neT h83 (a := 7) rfl; have q8 := lv_neT h87 (a := 8) rfl; have q9 := lv_neT h91 (a := 9) rfl; have q10 := lv_neT h95 (a := 10) rfl; omega) (by decide) ?_
      refine V_iconst (v := 0) (pc := 198) F dX4_take_198 (by decide) ?_
      obtain rfl := some_of hf
      exact V_ret F rfl rfl dX4_take_199 rfl rfl
    · replace hf := ite_neg hf h51
      refine V_aload_n (pc := 13) F dX4_take_13 rfl 0 rfl ?_
      refine V_iconst (v := 0) (pc := 14) F dX4_take_14 (by decide) ?_
      refine V_put (w2 := wX4 cy a (0, v.2)) (pc := 15) F 0 4 0 i_X4 tyX4 tyX4_ok nmX4 rfl (by decide) rfl (mm 1 rfl) rfl dX4_take_15 rfl rfl rfl (Nat.le_of_ble_eq_true rfl) rfl ?_
      refine V_iconst (v := 1) (pc := 18) F dX4_take_18 (by decide) ?_
      obtain rfl := some_of hf
      exact V_ret F rfl rfl dX4_take_19 rfl rfl
theorem hd_X4_doOrder : yX4_doOrder.cls = RX4 ∧ yX4_doOrder.cls ≠ "java/lang/invoke/MethodHandle" ∧ yX4_doOrder.cls ≠ "java/lang/invoke/VarHandle" ∧ (parseMethodDescriptor yX4_doOrder.desc).map (fun d => d.parameters.length) = some 1 := by decide +kernel
def fX4_doOrder (N : Nat) (v : SX4) (v1 : SX2) : Option (Int32 × SX2) :=
  if v.2.1 = 112 then
    (fX2_isFull N v1).bind fun r17 =>
      if r17 = 0 then
        (fX2_appendPhase N v1 v.2.2.2.2.1 v.2.2.2.1).bind fun r20 =>
          some (1, r20.2)
      else
        some (0, v1)
  else
    if v.2.1 = 114 then
      (fX2_hasPhase N v1 v.2.2.1).bind fun r5 =>
        if r5 = 0 then
          some (0, v1)
        else
          (fX2_hasPhase N v1 v.2.2.2.1).bind fun r8 =>
            if r8 = 0 then
              some (0, v1)
            else
              if v.2.2.1 = v.2.2.2.1 then
                some (0, v1)
              else
                (fX2_isFullOfRules N v1 v.2.2.1).bind fun r12 =>
                  if r12 = 0 then
                    (fX2_appendRule N v1 v.2.2.1 v.2.2.2.1 v.2.2.2.2.1).bind fun r15 =>
                      some (1, r15.2)
                  else
                    some (0, v1)
    else
      (fX2_putClash N v1 v.2.2.1 v.2.2.2.1 1).bind fun r3 =>
        some (1, r3)
set_option maxHeartbeats 8000000 in
set_option maxRecDepth 100000 in
theorem M_X4_doOrder (l : Launch) (D : va_G) (cy : Nat → ClassId) (N : Nat) (a : Nat → Nat) (a1 : Nat → Nat) (v : SX4) (v1 : SX2) (o : Int32 × SX2) (hf : fX4_doOrder N v v1 = some o) : okM l yX4_doOrder wsX4_doOrder (rmz 2 47) D cy [.ref (a 0), .ref (a1 0)] (wX4 cy a v ++ wX2 cy a1 v1) (wX4 cy a v ++ wX2 cy a1 o.2) (some (.int o.1)) := by
  refine okM_of (own := RX4) (nme := "doOrder") (cc := cX4_doOrder) (maxL := 2) (ret := (some .boolean)) (by decide) rfl rfl rfl (Nat.le_of_ble_eq_true rfl) ?_
  intro p e s m args below meth c A F
  have i_X4 : ∀ w ∈ u_ws RX4 TX4 6, w ∈ wsX4_doOrder := fun _ h => List.mem_cons_of_mem _ (List.mem_append_left _ (List.mem_append_left _ (List.mem_append_right _ h)))
  unfold fX4_doOrder at hf
  refine V.eq rfl (show lv_args 0 [.ref (a 0), .ref (a1 0)] = [(0, .ref (a 0)), (1, .ref (a1 0))] from rfl) rfl ?_
  refine V_aload_n (pc := 0) F dX4_doOrder_0 rfl 0 rfl ?_
  refine V_get (pc := 1) F 0 4 1 i_X4 rfl (by decide) rfl (mm 1 rfl) dX4_doOrder_1 rfl rfl ?_
  refine V_bipush (v := 112) (pc := 4) F dX4_doOrder_4 (by decide) ?_
  refine V_icmp_ne (pc := 6) (tgt := 34) F dX4_doOrder_6 (by decide) (fun h1 => ?_) (fun h1 => ?_)
  · replace hf := ite_neg hf h1
    refine V_aload_n (pc := 34) F dX4_doOrder_34 rfl 0 rfl ?_
    refine V_get (pc := 35) F 0 4 1 i_X4 rfl (by decide) rfl (mm 1 rfl) dX4_doOrder_35 rfl rfl ?_
    refine V_bipush (v := 114) (pc := 38) F dX4_doOrder_38 (by decide) ?_
    refine V_icmp_ne (pc := 40) (tgt := 109) F dX4_doOrder_40 (by decide) (fun h2 => ?_) (fun h2 => ?_)
    · replace hf := ite_neg hf h2
      refine V_aload_n (pc := 109) F dX4_doOrder_109 rfl 1 rfl ?_
      refine V_aload_n (pc := 110) F dX4_doOrder_110 rfl 0 rfl ?_
      refine V_get (pc := 111) F 0 4 2 i_X4 rfl (by decide) rfl (mm 4 rfl) dX4_doOrder_111 rfl rfl ?_
      refine V_aload_n (pc := 114) F dX4_doOrder_114 rfl 0 rfl ?_
      refine V_get (pc := 115) F 0 4 3 i_X4 rfl (by decide) rfl (mm 3 rfl) dX4_doOrder_115 rfl rfl ?_
      refine V_iconst (v := 1) (pc := 118) F dX4_doOrder_118 (by decide) ?_
      obtain ⟨r3, g4, hf⟩ := bind_of hf
      refine V_V (w2 := wX4 cy a v ++ wX2 cy a1 r3) (rest := []) (st2 := []) (pc := 119) F 2 (M_X2_putClash l D cy N a1 v1 v.2.2.1 v.2.2.2.1 1 r3 g4) (cwV 3 F.ts gX4_doOrder_X2_putClash rfl rfl rfl hd_X2_putClash ⟨Nat.le_of_ble_eq_true rfl, Nat.le_of_ble_eq_true rfl⟩) rfl dX4_doOrder_119 (Fit.right Fit.whole) fstX2 rfl rfl (Nat.le_of_ble_eq_true rfl) (Nat.zero_le _) (Nat.zero_le _) rfl rfl rfl ?_
      refine V_iconst (v := 1) (pc := 122) F dX4_doOrder_122 (by decide) ?_
      obtain rfl := some_of hf
      exact V_ret F rfl rfl dX4_doOrder_123 rfl rfl
    · replace hf := ite_pos hf h2
      refine V_aload_n (pc := 43) F dX4_doOrder_43 rfl 1 rfl ?_
      refine V_aload_n (pc := 44) F dX4_doOrder_44 rfl 0 rfl ?_
      refine V_get (pc := 45) F 0 4 2 i_X4 rfl (by decide) rfl (mm 4 rfl) dX4_doOrder_45 rfl rfl ?_
      obtain ⟨r5, g6, hf⟩ := bind_of hf
      refine V_V (w2 := wX4 cy a v ++ wX2 cy a1 v1) (rest := []) (st2 := [.int r5]) (pc := 48) F 2 (M_X2_hasPhase l D cy N a1 v1 v.2.2.1 r5 g6) (cwV 1 F.ts gX4_doOrder_X2_hasPhase rfl rfl rfl hd_X2_hasPhase ⟨Nat.le_of_ble_eq_true rfl, Nat.le_of_ble_eq_true rfl⟩) rfl dX4_doOrder_48 (Fit.right Fit.whole) rfl rfl rfl (Nat.le_of_ble_eq_true rfl) (Nat.zero_le _) (Nat.zero_le _) rfl rfl rfl ?_
      refine V_if_eq (pc := 51) (tgt := 87) F dX4_doOrder_51 (by decide) (fun h7 => ?_) (fun h7 => ?_)
      · replace hf := ite_pos hf h7
        refine V_iconst (v := 0) (pc := 87) F dX4_doOrder_87 (by decide) ?_
        obtain rfl := some_of hf
        exact V_ret F rfl rfl dX4_doOrder_88 rfl rfl
      · replace hf := ite_neg hf h7
        refine V_aload_n (pc := 54) F dX4_doOrder_54 rfl 1 rfl ?_
        refine V_aload_n (pc := 55) F dX4_doOrder_55 rfl 0 rfl ?_
        refine V_get (pc := 56) F 0 4 3 i_X4 rfl (by decide) rfl (mm 3 rfl) dX4_doOrder_56 rfl rfl ?_
        obtain ⟨r8, g9, hf⟩ := bind_of hf
        refine V_V (w2 := wX4 cy a v ++ wX2 cy a1 v1) (rest := []) (st2 := [.int r8]) (pc := 59) F 2 (M_X2_hasPhase l D cy N a1 v1 v.2.2.2.1 r8 g9) (cwV 1 F.ts gX4_doOrder_X2_hasPhase rfl rfl rfl hd_X2_hasPhase ⟨Nat.le_of_ble_eq_true rfl, Nat.le_of_ble_eq_true rfl⟩) rfl dX4_doOrder_59 (Fit.right Fit.whole) rfl rfl rfl (Nat.le_of_ble_eq_true rfl) (Nat.zero_le _) (Nat.zero_le _) rfl rfl rfl ?_
        refine V_if_eq (pc := 62) (tgt := 87) F dX4_doOrder_62 (by decide) (fun h10 => ?_) (fun h10 => ?_)
        · replace hf := ite_pos hf h10
          refine V_iconst (v := 0) (pc := 87) F dX4_doOrder_87 (by decide) ?_
          obtain rfl := some_of hf
          exact V_ret F rfl rfl dX4_doOrder_88 rfl rfl
        · replace hf := ite_neg hf h10
          refine V_aload_n (pc := 65) F dX4_doOrder_65 rfl 0 rfl ?_
          refine V_get (pc := 66) F 0 4 2 i_X4 rfl (by decide) rfl (mm 4 rfl) dX4_doOrder_66 rfl rfl ?_
          refine V_aload_n (pc := 69) F dX4_doOrder_69 rfl 0 rfl ?_
          refine V_get (pc := 70) F 0 4 3 i_X4 rfl (by decide) rfl (mm 3 rfl) dX4_doOrder_70 rfl rfl ?_
          refine V_icmp_eq (pc := 73) (tgt := 87) F dX4_doOrder_73 (by decide) (fun h11 => ?_) (fun h11 => ?_)
          · replace hf := ite_pos hf h11
            refine V_iconst (v := 0) (pc := 87) F dX4_doOrder_87 (by decide) ?_
            obtain rfl := some_of hf
            exact V_ret F rfl rfl dX4_doOrder_88 rfl rfl
          · replace hf := ite_neg hf h11
            refine V_aload_n (pc := 76) F dX4_doOrder_76 rfl 1 rfl ?_
            refine V_aload_n (pc := 77) F dX4_doOrder_77 rfl 0 rfl ?_
            refine V_get (pc := 78) F 0 4 2 i_X4 rfl (by decide) rfl (mm 4 rfl) dX4_doOrder_78 rfl rfl ?_
            obtain ⟨r12, g13, hf⟩ := bind_of hf
            refine V_V (w2 := wX4 cy a v ++ wX2 cy a1 v1) (rest := []) (st2 := [.int r12]) (pc := 81) F 2 (M_X2_isFullOfRules l D cy N a1 v1 v.2.2.1 r12 g13) (cwV 1 F.ts gX4_doOrder_X2_isFullOfRules rfl rfl rfl hd_X2_isFullOfRules ⟨Nat.le_of_ble_eq_true rfl, Nat.le_of_ble_eq_true rfl⟩) rfl dX4_doOrder_81 (Fit.right Fit.whole) rfl rfl rfl (Nat.le_of_ble_eq_true rfl) (Nat.zero_le _) (Nat.zero_le _) rfl rfl rfl ?_
            refine V_if_eq (pc := 84) (tgt := 89) F dX4_doOrder_84 (by decide) (fun h14 => ?_) (fun h14 => ?_)
            · replace hf := ite_pos hf h14
              refine V_aload_n (pc := 89) F dX4_doOrder_89 rfl 1 rfl ?_
              refine V_aload_n (pc := 90) F dX4_doOrder_90 rfl 0 rfl ?_
              refine V_get (pc := 91) F 0 4 2 i_X4 rfl (by decide) rfl (mm 4 rfl) dX4_doOrder_91 rfl rfl ?_
              refine V_aload_n (pc := 94) F dX4_doOrder_94 rfl 0 rfl ?_
              refine V_get (pc := 95) F 0 4 3 i_X4 rfl (by decide) rfl (mm 3 rfl) dX4_doOrder_95 rfl rfl ?_
              refine V_aload_n (pc := 98) F dX4_doOrder_98 rfl 0 rfl ?_
              refine V_get (pc := 99) F 0 4 4 i_X4 rfl (by decide) rfl (mm 2 rfl) dX4_doOrder_99 rfl rfl ?_
              obtain ⟨r15, g16, hf⟩ := bind_of hf
              refine V_V (w2 := wX4 cy a v ++ wX2 cy a1 r15.2) (rest := []) (st2 := [.int r15.1]) (pc := 102) F 2 (M_X2_appendRule l D cy N a1 v1 v.2.2.1 v.2.2.2.1 v.2.2.2.2.1 r15 g16) (cwV 3 F.ts gX4_doOrder_X2_appendRule rfl rfl rfl hd_X2_appendRule ⟨Nat.le_of_ble_eq_true rfl, Nat.le_of_ble_eq_true rfl⟩) rfl dX4_doOrder_102 (Fit.right Fit.whole) fstX2 rfl rfl (Nat.le_of_ble_eq_true rfl) (Nat.zero_le _) (Nat.zero_le _) rfl rfl rfl ?_
              refine V_pop (pc := 105) F dX4_doOrder_105 rfl ?_
              refine V_goto (pc := 106) (tgt := 122) F dX4_doOrder_106 (by decide) ?_
              refine V_iconst (v := 1) (pc := 122) F dX4_doOrder_122 (by decide) ?_
              obtain rfl := some_of hf
              exact V_ret F rfl rfl dX4_doOrder_123 rfl rfl
            · replace hf := ite_neg hf h14
              refine V_iconst (v := 0) (pc := 87) F dX4_doOrder_87 (by decide) ?_
              obtain rfl := some_of hf
              exact V_ret F rfl rfl dX4_doOrder_88 rfl rfl
  · replace hf := ite_pos hf h1
    refine V_aload_n (pc := 9) F dX4_doOrder_9 rfl 1 rfl ?_
    obtain ⟨r17, g18, hf⟩ := bind_of hf
    refine V_V (w2 := wX4 cy a v ++ wX2 cy a1 v1) (rest := []) (st2 := [.int r17]) (pc := 10) F 2 (M_X2_isFull l D cy N a1 v1 r17 g18) (cwV 0 F.ts gX4_doOrder_X2_isFull rfl rfl rfl hd_X2_isFull ⟨Nat.le_of_ble_eq_true rfl, Nat.le_of_ble_eq_true rfl⟩) rfl dX4_doOrder_10 (Fit.right Fit.whole) rfl rfl rfl (Nat.le_of_ble_eq_true rfl) (Nat.zero_le _) (Nat.zero_le _) rfl rfl rfl ?_
    refine V_if_eq (pc := 13) (tgt := 18) F dX4_doOrder_13 (by decide) (fun h19 => ?_) (fun h19 => ?_)
    · replace hf := ite_pos hf h19
      refine V_aload_n (pc := 18) F dX4_doOrder_18 rfl 1 rfl ?_
      refine V_aload_n (pc := 19) F dX4_doOrder_19 rfl 0 rfl ?_
      refine V_get (pc := 20) F 0 4 4 i_X4 rfl (by decide) rfl (mm 2 rfl) dX4_doOrder_20 rfl rfl ?_
      refine V_aload_n (pc := 23) F dX4_doOrder_23 rfl 0 rfl ?_
      refine V_get (pc := 24) F 0 4 3 i_X4 rfl (by decide) rfl (mm 3 rfl) dX4_doOrder_24 rfl rfl ?_
      obtain ⟨r20, g21, hf⟩ := bind_of hf
      refine V_V (w2 := wX4 cy a v ++ wX2 cy a1 r20.2) (rest := []) (st2 := [.int r20.1]) (pc := 27) F 2 (M_X2_appendPhase l D cy N a1 v1 v.2.2.2.2.1 v.2.2.2.1 r20 g21) (cwV 2 F.ts gX4_doOrder_X2_appendPhase rfl rfl rfl hd_X2_appendPhase ⟨Nat.le_of_ble_eq_true rfl, Nat.le_of_ble_eq_true rfl⟩) rfl dX4_doOrder_27 (Fit.right Fit.whole) fstX2 rfl rfl (Nat.le_of_ble_eq_true rfl) (Nat.zero_le _) (Nat.zero_le _) rfl rfl rfl ?_
      refine V_pop (pc := 30) F dX4_doOrder_30 rfl ?_
      refine V_goto (pc := 31) (tgt := 122) F dX4_doOrder_31 (by decide) ?_
      refine V_iconst (v := 1) (pc := 122) F dX4_doOrder_122 (by decide) ?_
      obtain rfl := some_of hf
      exact V_ret F rfl rfl dX4_doOrder_123 rfl rfl
    · replace hf := ite_neg hf h19
      refine V_iconst (v := 0) (pc := 16) F dX4_doOrder_16 (by decide) ?_
      obtain rfl := some_of hf
      exact V_ret F rfl rfl dX4_doOrder_17 rfl rfl
