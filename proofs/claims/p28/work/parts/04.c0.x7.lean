theorem n64_of {r : UInt64} (h : decide (r &&& 0x7fffffffffffffff ≤ 0x7ff0000000000000) = true) : vf_n64 r := by
  unfold vf_n64
  exact of_decide_eq_true h
abbrev SX7 : Type := SX1 × SX0 × SX6 × SX3
def wX7 (cy : Nat → ClassId) (a : Nat → Nat) (v : SX7) : va_W := [(a 0, .inr (7, [.ref (a 1), .ref (a 38), .ref (a 23), .ref (a 27)]))] ++ (wX1 cy (fun i => a (i + 1)) v.1 ++ (wX6 cy (fun i => a (i + 23)) v.2.2.1 ++ (wX3 cy (fun i => a (i + 27)) v.2.2.2 ++ (wX0 cy (fun i => a (i + 38)) v.2.1))))
theorem fstX7 {cy : Nat → ClassId} {a : Nat → Nat} {v v2 : SX7} : (wX7 cy a v).map (·.1) = (wX7 cy a v2).map (·.1) := fst_app (a := [_]) (c := [_]) rfl (fst_app fstX1 (fst_app fstX6 (fst_app fstX3 (fstX0))))
theorem hd_X7_checkDirection : yX7_checkDirection.cls ≠ "java/lang/invoke/MethodHandle" ∧ yX7_checkDirection.cls ≠ "java/lang/invoke/VarHandle" ∧ (parseMethodDescriptor yX7_checkDirection.desc).map (fun d => d.parameters.length) = some 1 := by decide +kernel
def fX7_checkDirection (N : Nat) (x0 : Int32) : Option ((String) ⊕ (Unit)) :=
  if x0 < 0 then
    some (.inl "java/lang/IllegalArgumentException")
  else
    if x0 < 6 then
      some (.inr ())
    else
      some (.inl "java/lang/IllegalArgumentException")
set_option maxHeartbeats 8000000 in
set_option maxRecDepth 100000 in
theorem M_X7_checkDirection (l : Launch) (D : va_G) (cy : Nat → ClassId) (N : Nat) (x0 : Int32) (o : Unit) (hf : fX7_checkDirection N x0 = some (.inr o)) : okM l yX7_checkDirection wsX7_checkDirection (rmz 0 0) D cy [.int x0] ([] : va_W) ([] : va_W) none := by
  refine okM_of (own := RX7) (nme := "checkDirection") (cc := cX7_checkDirection) (maxL := 1) (ret := none) (by decide) rfl rfl rfl (Nat.le_of_ble_eq_true rfl) ?_
  intro p e s m args below meth c A F
  unfold fX7_checkDirection at hf
  refine V.eq rfl (show lv_args 0 [.int x0] = [(0, .int x0)] from rfl) rfl ?_
  refine V_iload_n (pc := 0) F dX7_checkDirection_0 rfl 0 rfl ?_
  refine V_if_lt (pc := 1) (tgt := 10) F dX7_checkDirection_1 (by decide) (fun h1 => ?_) (fun h1 => ?_)
  · replace hf := ite_pos hf h1
    exact nomatch some_of hf
  · replace hf := ite_neg hf h1
    refine V_iload_n (pc := 4) F dX7_checkDirection_4 rfl 0 rfl ?_
    refine V_bipush (v := 6) (pc := 5) F dX7_checkDirection_5 (by decide) ?_
    refine V_icmp_lt (pc := 7) (tgt := 21) F dX7_checkDirection_7 (by decide) (fun h2 => ?_) (fun h2 => ?_)
    · replace hf := ite_pos hf h2
      obtain rfl := Sum.inr.inj (some_of hf)
      exact V_vret F rfl dX7_checkDirection_21 rfl
    · replace hf := ite_neg hf h2
      exact nomatch some_of hf
theorem hd_X7_clash : yX7_clash.cls = RX7 ∧ yX7_clash.cls ≠ "java/lang/invoke/MethodHandle" ∧ yX7_clash.cls ≠ "java/lang/invoke/VarHandle" ∧ (parseMethodDescriptor yX7_clash.desc).map (fun d => d.parameters.length) = some 2 := by decide +kernel
def fX7_clash (N : Nat) (v : SX7) (x1 : Int32) (x2 : Int32) : Option ((String × SX7) ⊕ (Int32 × SX7)) :=
  (fX7_checkDirection N x1).bind fun r1 => onS r1 (fun E => some (.inl (E, v))) fun q3 =>
    (fX7_checkDirection N x2).bind fun r4 => onS r4 (fun E => some (.inl (E, v))) fun q6 =>
      if x1 = x2 then
        some (.inl ("java/lang/IllegalArgumentException", v))
      else
        (fX0_keep N v.2.1 v.1).bind fun r8 =>
          (fX7_has N (rowAt 6 v.1.1.1 x1) x2).bind fun r10 =>
            if r10 = 0 then
              (fX2_putClash N v.1.1 x1 x2 1).bind fun r16 =>
                some (.inr (1, ((r16, v.1.2), r8, v.2.2)))
            else
              (fX2_putClash N v.1.1 x1 x2 0).bind fun r13 =>
                some (.inr (0, ((r13, v.1.2), r8, v.2.2)))
set_option maxHeartbeats 8000000 in
set_option maxRecDepth 100000 in
theorem M_X7_clash (l : Launch) (D : va_G) (cy : Nat → ClassId) (N : Nat) (a : Nat → Nat) (v : SX7) (x1 : Int32) (x2 : Int32) (o : Int32 × SX7) (hf : fX7_clash N v x1 x2 = some (.inr o)) : okM l yX7_clash wsX7_clash (rmz 5 107) D cy [.ref (a 0), .int x1, .int x2] (wX7 cy a v) (wX7 cy a o.2) (some (.int o.1)) := by
  refine okM_of (own := RX7) (nme := "clash") (cc := cX7_clash) (maxL := 4) (ret := (some .int)) (by decide) rfl rfl rfl (Nat.le_of_ble_eq_true rfl) ?_
  intro p e s m args below meth c A F
  have i_X1 : ∀ w ∈ u_ws RX1 TX1 10, w ∈ wsX7_clash := fun _ h => List.mem_cons_of_mem _ (List.mem_append_left _ (List.mem_append_left _ (List.mem_append_left _ (List.mem_append_left _ (List.mem_append_right _ h)))))
  have i_X2 : ∀ w ∈ u_ws RX2 TX2 8, w ∈ wsX7_clash := fun _ h => List.mem_cons_of_mem _ (List.mem_append_left _ (List.mem_append_left _ (List.mem_append_left _ (List.mem_append_right _ h))))
  have i_X7 : ∀ w ∈ u_ws RX7 TX7 4, w ∈ wsX7_clash := fun _ h => List.mem_cons_of_mem _ (List.mem_append_left _ (List.mem_append_left _ (List.mem_append_left _ (List.mem_append_left _ (List.mem_append_left _ (List.mem_append_right _ h))))))
  unfold fX7_clash at hf
  refine V.eq rfl (show lv_args 0 [.ref (a 0), .int x1, .int x2] = [(0, .ref (a 0)), (1, .int x1), (2, .int x2)] from rfl) rfl ?_
  refine V_iload_n (pc := 0) F dX7_clash_0 rfl 1 rfl ?_
  obtain ⟨r1, g2, hf⟩ := bind_of hf
  rcases r1 with E | q3
  · replace hf := onS_inl hf
    exact nomatch some_of hf
  replace hf := onS_inr hf
  refine V_Sc (rest := []) (st2 := []) (pc := 1) F (M_X7_checkDirection l D cy N x1 q3 g2) (va_cwS 1 F.ts gX7_clash_X7_checkDirection rfl rfl rfl hd_X7_checkDirection ⟨Nat.le_of_ble_eq_true rfl, Nat.le_of_ble_eq_true rfl⟩) rfl dX7_clash_1 (Nat.le_of_ble_eq_true rfl) (Nat.zero_le _) (Nat.zero_le _) rfl rfl ?_
  refine V_iload_n (pc := 4) F dX7_clash_4 rfl 2 rfl ?_
  obtain ⟨r4, g5, hf⟩ := bind_of hf
  rcases r4 with E | q6
  · replace hf := onS_inl hf
    exact nomatch some_of hf
  replace hf := onS_inr hf
  refine V_Sc (rest := []) (st2 := []) (pc := 5) F (M_X7_checkDirection l D cy N x2 q6 g5) (va_cwS 1 F.ts gX7_clash_X7_checkDirection rfl rfl rfl hd_X7_checkDirection ⟨Nat.le_of_ble_eq_true rfl, Nat.le_of_ble_eq_true rfl⟩) rfl dX7_clash_5 (Nat.le_of_ble_eq_true rfl) (Nat.zero_le _) (Nat.zero_le _) rfl rfl ?_
  refine V_iload_n (pc := 8) F dX7_clash_8 rfl 1 rfl ?_
  refine V_iload_n (pc := 9) F dX7_clash_9 rfl 2 rfl ?_
  refine V_icmp_ne (pc := 10) (tgt := 23) F dX7_clash_10 (by decide) (fun h7 => ?_) (fun h7 => ?_)
  · replace hf := ite_neg hf h7
    refine V_aload_n (pc := 23) F dX7_clash_23 rfl 0 rfl ?_
    refine V_get (pc := 24) F 0 7 1 i_X7 rfl (by decide) rfl (mm 3 rfl) dX7_clash_24 rfl rfl ?_
    refine V_aload_n (pc := 27) F dX7_clash_27 rfl 0 rfl ?_
    refine V_get (pc := 28) F 0 7 0 i_X7 rfl (by decide) rfl (mm 4 rfl) dX7_clash_28 rfl rfl ?_
    obtain ⟨r8, g9, hf⟩ := bind_of hf
    refine V_V2 (w2 := wX7 cy a (v.1, r8, v.2.2)) (rest := []) (st2 := []) (pc := 31) F 0 (M_X0_keep l D cy N (fun i => a (i + 38)) (fun i => a (i + 1)) v.2.1 v.1 r8 g9) (cwV 1 F.ts gX7_clash_X0_keep rfl rfl rfl hd_X0_keep ⟨Nat.le_of_ble_eq_true rfl, Nat.le_of_ble_eq_true rfl⟩) rfl dX7_clash_31 (Fit2.right (Fit2.swap (Fit.right (Fit.right Fit.whole)) Fit.whole)) fstX0 rfl rfl rfl (Nat.le_of_ble_eq_true rfl) (Nat.zero_le _) (Nat.zero_le _) rfl rfl rfl ?_
    refine V_aload_n (pc := 34) F dX7_clash_34 rfl 0 rfl ?_
    refine V_get (pc := 35) F 0 7 0 i_X7 rfl (by decide) rfl (mm 4 rfl) dX7_clash_35 rfl rfl ?_
    refine V_get (pc := 38) F 1 1 0 i_X1 rfl (by decide) rfl (mm 5 rfl) dX7_clash_38 rfl rfl ?_
    refine V_get (pc := 41) F 2 2 0 i_X2 rfl (by decide) rfl (mm 6 rfl) dX7_clash_41 rfl rfl ?_
    refine V_iload_n (pc := 44) F dX7_clash_44 rfl 1 rfl ?_
    refine V_V (w2 := wX7 cy a (v.1, r8, v.2.2)) (rest := []) (st2 := [.int (rowAt 6 v.1.1.1 x1)]) (pc := 45) F 5 (R_at l D cy (fun i => a (i + 3)) 6 v.1.1.1 x1 (by decide)) (cwV 1 F.ts gX7_clash_X5_at rfl rfl rfl hd_X5_at ⟨Nat.le_of_ble_eq_true rfl, Nat.le_of_ble_eq_true rfl⟩) rfl dX7_clash_45 (Fit.right (Fit.left (Fit.right (Fit.left (Fit.right (Fit.left Fit.whole)))))) rfl rfl rfl (Nat.le_of_ble_eq_true rfl) (Nat.zero_le _) (Nat.zero_le _) rfl rfl rfl ?_
    refine V_iload_n (pc := 48) F dX7_clash_48 rfl 2 rfl ?_
    obtain ⟨r10, g11, hf⟩ := bind_of hf
    refine V_Sc (rest := []) (st2 := [.int r10]) (pc := 49) F (M_X7_has l D cy N (rowAt 6 v.1.1.1 x1) x2 r10 g11) (va_cwS 2 F.ts gX7_clash_X7_has rfl rfl rfl hd_X7_has ⟨Nat.le_of_ble_eq_true rfl, Nat.le_of_ble_eq_true rfl⟩) rfl dX7_clash_49 (Nat.le_of_ble_eq_true rfl) (Nat.zero_le _) (Nat.zero_le _) rfl rfl ?_
    refine V_if_ne (pc := 52) (tgt := 59) F dX7_clash_52 (by decide) (fun h12 => ?_) (fun h12 => ?_)
    · replace hf := ite_neg hf h12
      refine V_iconst (v := 0) (pc := 59) F dX7_clash_59 (by decide) ?_
      refine V_istore_n (L2 := [(3, .int 0), (0, .ref (a 0)), (1, .int x1), (2, .int x2)]) (pc := 60) F dX7_clash_60 rfl (by decide) rfl ?_
      refine V_aload_n (pc := 61) F dX7_clash_61 rfl 1 rfl ?_
      refine V_get (pc := 62) F 0 7 0 i_X7 rfl (by decide) rfl (mm 4 rfl) dX7_clash_62 rfl rfl ?_
      refine V_get (pc := 65) F 1 1 0 i_X1 rfl (by decide) rfl (mm 5 rfl) dX7_clash_65 rfl rfl ?_
      refine V_iload_n (pc := 68) F dX7_clash_68 rfl 2 rfl ?_
      refine V_iload_n (pc := 69) F dX7_clash_69 rfl 3 rfl ?_
      refine V_iload_n (pc := 70) F dX7_clash_70 rfl 0 rfl ?_
      obtain ⟨r13, g14, hf⟩ := bind_of hf
      refine V_V (w2 := wX7 cy a ((r13, v.1.2), r8, v.2.2)) (rest := []) (st2 := []) (pc := 71) F 2 (M_X2_putClash l D cy N (fun i => a (i + 2)) v.1.1 x1 x2 0 r13 g14) (cwV 3 F.ts gX7_clash_X2_putClash rfl rfl rfl hd_X2_putClash ⟨Nat.le_of_ble_eq_true rfl, Nat.le_of_ble_eq_true rfl⟩) rfl dX7_clash_71 (Fit.right (Fit.left (Fit.right (Fit.left Fit.whole)))) fstX2 rfl rfl (Nat.le_of_ble_eq_true rfl) (Nat.zero_le _) (Nat.zero_le _) rfl rfl rfl ?_
      refine V_iload_n (pc := 74) F dX7_clash_74 rfl 0 rfl ?_
      refine V_if_eq (pc := 75) (tgt := 82) F dX7_clash_75 (by decide) (fun h15 => ?_) (fun h15 => ?_)
      · refine V_iconst (v := 0) (pc := 82) F dX7_clash_82 (by decide) ?_
        obtain rfl := Sum.inr.inj (some_of hf)
        exact V_ret F rfl rfl dX7_clash_83 rfl rfl
      · exact absurd h15 (show ¬ (¬ ((0 : Int32) = (0 : Int32))) by decide)
    · replace hf := ite_pos hf h12
      refine V_iconst (v := 1) (pc := 55) F dX7_clash_55 (by decide) ?_
      refine V_goto (pc := 56) (tgt := 60) F dX7_clash_56 (by decide) ?_
      refine V_istore_n (L2 := [(3, .int 1), (0, .ref (a 0)), (1, .int x1), (2, .int x2)]) (pc := 60) F dX7_clash_60 rfl (by decide) rfl ?_
      refine V_aload_n (pc := 61) F dX7_clash_61 rfl 1 rfl ?_
      refine V_get (pc := 62) F 0 7 0 i_X7 rfl (by decide) rfl (mm 4 rfl) dX7_clash_62 rfl rfl ?_
      refine V_get (pc := 65) F 1 1 0 i_X1 rfl (by decide) rfl (mm 5 rfl) dX7_clash_65 rfl rfl ?_
      refine V_iload_n (pc := 68) F dX7_clash_68 rfl 2 rfl ?_
      refine V_iload_n (pc := 69) F dX7_clash_69 rfl 3 rfl ?_
      refine V_iload_n (pc := 70) F dX7_clash_70 rfl 0 rfl ?_
      obtain ⟨r16, g17, hf⟩ := bind_of hf
      refine V_V (w2 := wX7 cy a ((r16, v.1.2), r8, v.2.2)) (rest := []) (st2 := []) (pc := 71) F 2 (M_X2_putClash l D cy N (fun i => a (i + 2)) v.1.1 x1 x2 1 r16 g17) (cwV 3 F.ts gX7_clash_X2_putClash rfl rfl rfl hd_X2_putClash ⟨Nat.le_of_ble_eq_true rfl, Nat.le_of_ble_eq_true rfl⟩) rfl dX7_clash_71 (Fit.right (Fit.left (Fit.right (Fit.left Fit.whole)))) fstX2 rfl rfl (Nat.le_of_ble_eq_true rfl) (Nat.zero_le _) (Nat.zero_le _) rfl rfl rfl ?_
      refine V_iload_n (pc := 74) F dX7_clash_74 rfl 0 rfl ?_
      refine V_if_eq (pc := 75) (tgt := 82) F dX7_clash_75 (by decide) (fun h18 => ?_) (fun h18 => ?_)
      · exact absurd h18 (show ¬ ((1 : Int32) = (0 : Int32)) by decide)
      · refine V_iconst (v := 1) (pc := 78) F dX7_clash_78 (by decide) ?_
        refine V_goto (pc := 79) (tgt := 83) F dX7_clash_79 (by decide) ?_
        obtain rfl := Sum.inr.inj (some_of hf)
        exact V_ret F rfl rfl dX7_clash_83 rfl rfl
  · replace hf := ite_pos hf h7
    exact nomatch some_of hf
theorem hd_X7_checkMask : yX7_checkMask.cls ≠ "java/lang/invoke/MethodHandle" ∧ yX7_checkMask.cls ≠ "java/lang/invoke/VarHandle" ∧ (parseMethodDescriptor yX7_checkMask.desc).map (fun d => d.parameters.length) = some 1 := by decide +kernel
def fX7_checkMask (N : Nat) (x0 : Int32) : Option ((String) ⊕ (Unit)) :=
  if x0 < 0 then
    some (.inl "java/lang/IllegalArgumentException")
  else
    if x0 ≤ 63 then
      some (.inr ())
    else
      some (.inl "java/lang/IllegalArgumentException")
set_option maxHeartbeats 8000000 in
set_option maxRecDepth 100000 in
theorem M_X7_checkMask (l : Launch) (D : va_G) (cy : Nat → ClassId) (N : Nat) (x0 : Int32) (o : Unit) (hf : fX7_checkMask N x0 = some (.inr o)) : okM l yX7_checkMask wsX7_checkMask (rmz 0 0) D cy [.int x0] ([] : va_W) ([] : va_W) none := by
  refine okM_of (own := RX7) (nme := "checkMask") (cc := cX7_checkMask) (maxL := 1) (ret := none) (by decide) rfl rfl rfl (Nat.le_of_ble_eq_true rfl) ?_
  intro p e s m args below meth c A F
  unfold fX7_checkMask at hf
  refine V.eq rfl (show lv_args 0 [.int x0] = [(0, .int x0)] from rfl) rfl ?_
  refine V_iload_n (pc := 0) F dX7_checkMask_0 rfl 0 rfl ?_
  refine V_if_lt (pc := 1) (tgt := 10) F dX7_checkMask_1 (by decide) (fun h1 => ?_) (fun h1 => ?_)
  · replace hf := ite_pos hf h1
    exact nomatch some_of hf
  · replace hf := ite_neg hf h1
    refine V_iload_n (pc := 4) F dX7_checkMask_4 rfl 0 rfl ?_
    refine V_bipush (v := 63) (pc := 5) F dX7_checkMask_5 (by decide) ?_
    refine V_icmp_le (pc := 7) (tgt := 21) F dX7_checkMask_7 (by decide) (fun h2 => ?_) (fun h2 => ?_)
    · replace hf := ite_pos hf h2
      obtain rfl := Sum.inr.inj (some_of hf)
      exact V_vret F rfl dX7_checkMask_21 rfl
    · replace hf := ite_neg hf h2
      exact nomatch some_of hf
theorem hd_X7_checkHold : yX7_checkHold.cls ≠ "java/lang/invoke/MethodHandle" ∧ yX7_checkHold.cls ≠ "java/lang/invoke/VarHandle" ∧ (parseMethodDescriptor yX7_checkHold.desc).map (fun d => d.parameters.length) = some 1 := by decide +kernel
def fX7_checkHold (N : Nat) (x0 : Int32) : Option ((String) ⊕ (Unit)) :=
  if x0 < 1 then
    some (.inl "java/lang/IllegalArgumentException")
  else
    if x0 ≤ 9 then
      some (.inr ())
    else
      some (.inl "java/lang/IllegalArgumentException")
set_option maxHeartbeats 8000000 in
set_option maxRecDepth 100000 in
theorem M_X7_checkHold (l : Launch) (D : va_G) (cy : Nat → ClassId) (N : Nat) (x0 : Int32) (o : Unit) (hf : fX7_checkHold N x0 = some (.inr o)) : okM l yX7_checkHold wsX7_checkHold (rmz 0 0) D cy [.int x0] ([] : va_W) ([] : va_W) none := by
  refine okM_of (own := RX7) (nme := "checkHold") (cc := cX7_checkHold) (maxL := 1) (ret := none) (by decide) rfl rfl rfl (Nat.le_of_ble_eq_true rfl) ?_
  intro p e s m args below meth c A F
  unfold fX7_checkHold at hf
  refine V.eq rfl (show lv_args 0 [.int x0] = [(0, .int x0)] from rfl) rfl ?_
  refine V_iload_n (pc := 0) F dX7_checkHold_0 rfl 0 rfl ?_
  refine V_iconst (v := 1) (pc := 1) F dX7_checkHold_1 (by decide) ?_
  refine V_icmp_lt (pc := 2) (tgt := 11) F dX7_checkHold_2 (by decide) (fun h1 => ?_) (fun h1 => ?_)
  · replace hf := ite_pos hf h1
    exact nomatch some_of hf
  · replace hf := ite_neg hf h1
    refine V_iload_n (pc := 5) F dX7_checkHold_5 rfl 0 rfl ?_
    refine V_bipush (v := 9) (pc := 6) F dX7_checkHold_6 (by decide) ?_
    refine V_icmp_le (pc := 8) (tgt := 22) F dX7_checkHold_8 (by decide) (fun h2 => ?_) (fun h2 => ?_)
    · replace hf := ite_pos hf h2
      obtain rfl := Sum.inr.inj (some_of hf)
      exact V_vret F rfl dX7_checkHold_22 rfl
    · replace hf := ite_neg hf h2
      exact nomatch some_of hf
theorem hd_X7_addPhase : yX7_addPhase.cls = RX7 ∧ yX7_addPhase.cls ≠ "java/lang/invoke/MethodHandle" ∧ yX7_addPhase.cls ≠ "java/lang/invoke/VarHandle" ∧ (parseMethodDescriptor yX7_addPhase.desc).map (fun d => d.parameters.length) = some 2 := by decide +kernel
def fX7_addPhase (N : Nat) (v : SX7) (x1 : Int32) (x2 : Int32) : Option ((String × SX7) ⊕ (Int32 × SX7)) :=
  (fX7_checkMask N x1).bind fun r1 => onS r1 (fun E => some (.inl (E, v))) fun q3 =>
    (fX7_checkHold N x2).bind fun r4 => onS r4 (fun E => some (.inl (E, v))) fun q6 =>
      (fX2_isFull N v.1.1).bind fun r7 =>
        if r7 = 0 then
          (fX0_keep N v.2.1 v.1).bind fun r10 =>
            (fX2_appendPhase N v.1.1 x1 x2).bind fun r12 =>
              some (.inr (r12.1, ((r12.2, v.1.2), r10, v.2.2)))
        else
          some (.inl ("java/lang/IllegalStateException", v))
set_option maxHeartbeats 8000000 in
set_option maxRecDepth 100000 in
theorem M_X7_addPhase (l : Launch) (D : va_G) (cy : Nat → ClassId) (N : Nat) (a : Nat → Nat) (v : SX7) (x1 : Int32) (x2 : Int32) (o : Int32 × SX7) (hf : fX7_addPhase N v x1 x2 = some (.inr o)) : okM l yX7_addPhase wsX7_addPhase (rmz 5 107) D cy [.ref (a 0), .int x1, .int x2] (wX7 cy a v) (wX7 cy a o.2) (some (.int o.1)) := by
  refine okM_of (own := RX7) (nme := "addPhase") (cc := cX7_addPhase) (maxL := 3) (ret := (some .int)) (by decide) rfl rfl rfl (Nat.le_of_ble_eq_true rfl) ?_
  intro p e s m args below meth c A F
  have i_X1 : ∀ w ∈ u_ws RX1 TX1 10, w ∈ wsX7_addPhase := fun _ h => List.mem_cons_of_mem _ (List.mem_append_left _ (List.mem_append_left _ (List.mem_append_left _ (List.mem_append_left _ (List.mem_append_left _ (List.mem_append_right _ h))))))
  have i_X7 : ∀ w ∈ u_ws RX7 TX7 4, w ∈ wsX7_addPhase := fun _ h => List.mem_cons_of_mem _ (List.mem_append_left _ (List.mem_append_left _ (List.mem_append_left _ (List.mem_append_left _ (List.mem_append_left _ (List.mem_append_left _ (List.mem_append_right _ h)))))))
  unfold fX7_addPhase at hf
  refine V.eq rfl (show lv_args 0 [.ref (a 0), .int x1, .int x2] = [(0, .ref (a 0)), (1, .int x1), (2, .int x2)] from rfl) rfl ?_
  refine V_iload_n (pc := 0) F dX7_addPhase_0 rfl 1 rfl ?_
  obtain ⟨r1, g2, hf⟩ := bind_of hf
  rcases r1 with E | q3
  · replace hf := onS_inl hf
    exact nomatch some_of hf
  replace hf := onS_inr hf
  refine V_Sc (rest := []) (st2 := []) (pc := 1) F (M_X7_checkMask l D cy N x1 q3 g2) (va_cwS 1 F.ts gX7_addPhase_X7_checkMask rfl rfl rfl hd_X7_checkMask ⟨Nat.le_of_ble_eq_true rfl, Nat.le_of_ble_eq_true rfl⟩) rfl dX7_addPhase_1 (Nat.le_of_ble_eq_true rfl) (Nat.zero_le _) (Nat.zero_le _) rfl rfl ?_
  refine V_iload_n (pc := 4) F dX7_addPhase_4 rfl 2 rfl ?_
  obtain ⟨r4, g5, hf⟩ := bind_of hf
  rcases r4 with E | q6
  · replace hf := onS_inl hf
    exact nomatch some_of hf
  replace hf := onS_inr hf
  refine V_Sc (rest := []) (st2 := []) (pc := 5) F (M_X7_checkHold l D cy N x2 q6 g5) (va_cwS 1 F.ts gX7_addPhase_X7_checkHold rfl rfl rfl hd_X7_checkHold ⟨Nat.le_of_ble_eq_true rfl, Nat.le_of_ble_eq_true rfl⟩) rfl dX7_addPhase_5 (Nat.le_of_ble_eq_true rfl) (Nat.zero_le _) (Nat.zero_le _) rfl rfl ?_
  refine V_aload_n (pc := 8) F dX7_addPhase_8 rfl 0 rfl ?_
  refine V_get (pc := 9) F 0 7 0 i_X7 rfl (by decide) rfl (mm 3 rfl) dX7_addPhase_9 rfl rfl ?_
  refine V_get (pc := 12) F 1 1 0 i_X1 rfl (by decide) rfl (mm 4 rfl) dX7_addPhase_12 rfl rfl ?_
  obtain ⟨r7, g8, hf⟩ := bind_of hf
  refine V_V (w2 := wX7 cy a v) (rest := []) (st2 := [.int r7]) (pc := 15) F 2 (M_X2_isFull l D cy N (fun i => a (i + 2)) v.1.1 r7 g8) (cwV 0 F.ts gX7_addPhase_X2_isFull rfl rfl rfl hd_X2_isFull ⟨Nat.le_of_ble_eq_true rfl, Nat.le_of_ble_eq_true rfl⟩) rfl dX7_addPhase_15 (Fit.right (Fit.left (Fit.right (Fit.left Fit.whole)))) rfl rfl rfl (Nat.le_of_ble_eq_true rfl) (Nat.zero_le _) (Nat.zero_le _) rfl rfl rfl ?_
  refine V_if_eq (pc := 18) (tgt := 31) F dX7_addPhase_18 (by decide) (fun h9 => ?_) (fun h9 => ?_)
  · replace hf := ite_pos hf h9
    refine V_aload_n (pc := 31) F dX7_addPhase_31 rfl 0 rfl ?_
    refine V_get (pc := 32) F 0 7 1 i_X7 rfl (by decide) rfl (mm 5 rfl) dX7_addPhase_32 rfl rfl ?_
    refine V_aload_n (pc := 35) F dX7_addPhase_35 rfl 0 rfl ?_
    refine V_get (pc := 36) F 0 7 0 i_X7 rfl (by decide) rfl (mm 3 rfl) dX7_addPhase_36 rfl rfl ?_
    obtain ⟨r10, g11, hf⟩ := bind_of hf
    refine V_V2 (w2 := wX7 cy a (v.1, r10, v.2.2)) (rest := []) (st2 := []) (pc := 39) F 0 (M_X0_keep l D cy N (fun i => a (i + 38)) (fun i => a (i + 1)) v.2.1 v.1 r10 g11) (cwV 1 F.ts gX7_addPhase_X0_keep rfl rfl rfl hd_X0_keep ⟨Nat.le_of_ble_eq_true rfl, Nat.le_of_ble_eq_true rfl⟩) rfl dX7_addPhase_39 (Fit2.right (Fit2.swap (Fit.right (Fit.right Fit.whole)) Fit.whole)) fstX0 rfl rfl rfl (Nat.le_of_ble_eq_true rfl) (Nat.zero_le _) (Nat.zero_le _) rfl rfl rfl ?_
    refine V_aload_n (pc := 42) F dX7_addPhase_42 rfl 0 rfl ?_
    refine V_get (pc := 43) F 0 7 0 i_X7 rfl (by decide) rfl (mm 3 rfl) dX7_addPhase_43 rfl rfl ?_
    refine V_get (pc := 46) F 1 1 0 i_X1 rfl (by decide) rfl (mm 4 rfl) dX7_addPhase_46 rfl rfl ?_
    refine V_iload_n (pc := 49) F dX7_addPhase_49 rfl 1 rfl ?_
    refine V_iload_n (pc := 50) F dX7_addPhase_50 rfl 2 rfl ?_
    obtain ⟨r12, g13, hf⟩ := bind_of hf
    refine V_V (w2 := wX7 cy a ((r12.2, v.1.2), r10, v.2.2)) (rest := []) (st2 := [.int r12.1]) (pc := 51) F 2 (M_X2_appendPhase l D cy N (fun i => a (i + 2)) v.1.1 x1 x2 r12 g13) (cwV 2 F.ts gX7_addPhase_X2_appendPhase rfl rfl rfl hd_X2_appendPhase ⟨Nat.le_of_ble_eq_true rfl, Nat.le_of_ble_eq_true rfl⟩) rfl dX7_addPhase_51 (Fit.right (Fit.left (Fit.right (Fit.left Fit.whole)))) fstX2 rfl rfl (Nat.le_of_ble_eq_true rfl) (Nat.zero_le _) (Nat.zero_le _) rfl rfl rfl ?_
    obtain rfl := Sum.inr.inj (some_of hf)
    exact V_ret F rfl rfl dX7_addPhase_54 rfl rfl
  · replace hf := ite_neg hf h9
    exact nomatch some_of hf
theorem hd_X7_checkPhase : yX7_checkPhase.cls = RX7 ∧ yX7_checkPhase.cls ≠ "java/lang/invoke/MethodHandle" ∧ yX7_checkPhase.cls ≠ "java/lang/invoke/VarHandle" ∧ (parseMethodDescriptor yX7_checkPhase.desc).map (fun d => d.parameters.length) = some 1 := by decide +kernel
def fX7_checkPhase (N : Nat) (v : SX7) (x1 : Int32) : Option ((String) ⊕ (Unit)) :=
  (fX2_hasPhase N v.1.1 x1).bind fun r1 =>
    if r1 = 0 then
      some (.inl "java/lang/IndexOutOfBoundsException")
    else
      some (.inr ())
set_option maxHeartbeats 8000000 in
set_option maxRecDepth 100000 in
theorem M_X7_checkPhase (l : Launch) (D : va_G) (cy : Nat → ClassId) (N : Nat) (a : Nat → Nat) (v : SX7) (x1 : Int32) (o : Unit) (hf : fX7_checkPhase N v x1 = some (.inr o)) : okM l yX7_checkPhase wsX7_checkPhase (rmz 1 21) D cy [.ref (a 0), .int x1] (wX7 cy a v) (wX7 cy a v) none := by
  refine okM_of (own := RX7) (nme := "checkPhase") (cc := cX7_checkPhase) (maxL := 2) (ret := none) (by decide) rfl rfl rfl (Nat.le_of_ble_eq_true rfl) ?_
  intro p e s m args below meth c A F
  have i_X1 : ∀ w ∈ u_ws RX1 TX1 10, w ∈ wsX7_checkPhase := fun _ h => List.mem_cons_of_mem _ (List.mem_append_left _ (List.mem_append_left _ (List.mem_append_right _ h)))
  have i_X7 : ∀ w ∈ u_ws RX7 TX7 4, w ∈ wsX7_checkPhase := fun _ h => List.mem_cons_of_mem _ (List.mem_append_left _ (List.mem_append_left _ (List.mem_append_left _ (List.mem_append_right _ h))))
  unfold fX7_checkPhase at hf
  refine V.eq rfl (show lv_args 0 [.ref (a 0), .int x1] = [(0, .ref (a 0)), (1, .int x1)] from rfl) rfl ?_
  refine V_aload_n (pc := 0) F dX7_checkPhase_0 rfl 0 rfl ?_
  refine V_get (pc := 1) F 0 7 0 i_X7 rfl (by decide) rfl (mm 3 rfl) dX7_checkPhase_1 rfl rfl ?_
  refine V_get (pc := 4) F 1 1 0 i_X1 rfl (by decide) rfl (mm 4 rfl) dX7_checkPhase_4 rfl rfl ?_
  refine V_iload_n (pc := 7) F dX7_checkPhase_7 rfl 1 rfl ?_
  obtain ⟨r1, g2, hf⟩ := bind_of hf
  refine V_V (w2 := wX7 cy a v) (rest := []) (st2 := [.int r1]) (pc := 8) F 2 (M_X2_hasPhase l D cy N (fun i => a (i + 2)) v.1.1 x1 r1 g2) (cwV 1 F.ts gX7_checkPhase_X2_hasPhase rfl rfl rfl hd_X2_hasPhase ⟨Nat.le_of_ble_eq_true rfl, Nat.le_of_ble_eq_true rfl⟩) rfl dX7_checkPhase_8 (Fit.right (Fit.left (Fit.right (Fit.left Fit.whole)))) rfl rfl rfl (Nat.le_of_ble_eq_true rfl) (Nat.zero_le _) (Nat.zero_le _) rfl rfl rfl ?_
  refine V_if_ne (pc := 11) (tgt := 25) F dX7_checkPhase_11 (by decide) (fun h3 => ?_) (fun h3 => ?_)
  · replace hf := ite_neg hf h3
    obtain rfl := Sum.inr.inj (some_of hf)
    exact V_vret F rfl dX7_checkPhase_25 rfl
  · replace hf := ite_pos hf h3
    exact nomatch some_of hf
theorem hd_X7_addRule : yX7_addRule.cls = RX7 ∧ yX7_addRule.cls ≠ "java/lang/invoke/MethodHandle" ∧ yX7_addRule.cls ≠ "java/lang/invoke/VarHandle" ∧ (parseMethodDescriptor yX7_addRule.desc).map (fun d => d.parameters.length) = some 3 := by decide +kernel
def fX7_addRule (N : Nat) (v : SX7) (x1 : Int32) (x2 : Int32) (x3 : Int32) : Option ((String × SX7) ⊕ (Int32 × SX7)) :=
  (fX7_checkPhase N v x1).bind fun r1 => onS r1 (fun E => some (.inl (E, v))) fun q3 =>
    (fX7_checkPhase N v x2).bind fun r4 => onS r4 (fun E => some (.inl (E, v))) fun q6 =>
      if x1 = x2 then
        some (.inl ("java/lang/IllegalArgumentException", v))
      else
        (fX7_checkMask N x3).bind fun r8 => onS r8 (fun E => some (.inl (E, v))) fun q10 =>
          (fX2_isFullOfRules N v.1.1 x1).bind fun r11 =>
            if r11 = 0 then
              (fX0_keep N v.2.1 v.1).bind fun r14 =>
                (fX2_appendRule N v.1.1 x1 x2 x3).bind fun r16 =>
                  some (.inr (r16.1, ((r16.2, v.1.2), r14, v.2.2)))
            else
              some (.inl ("java/lang/IllegalStateException", v))
set_option maxHeartbeats 8000000 in
set_option maxRecDepth 100000 in
theorem M_X7_addRule (l : Launch) (D : va_G) (cy : Nat → ClassId) (N : Nat) (a : Nat → Nat) (v : SX7) (x1 : Int32) (x2 : Int32) (x3 : Int32) (o : Int32 × SX7) (hf : fX7_addRule N v x1 x2 x3 = some (.inr o)) : okM l yX7_addRule wsX7_addRule (rmz 5 107) D cy [.ref (a 0), .int x1, .int x2, .int x3] (wX7 cy a v) (wX7 cy a o.2) (some (.int o.1)) := by
  refine okM_of (own := RX7) (nme := "addRule") (cc := cX7_addRule) (maxL := 4) (ret := (some .int)) (by decide) rfl rfl rfl (Nat.le_of_ble_eq_true rfl) ?_
  intro p e s m args below meth c A F
  have i_X1 : ∀ w ∈ u_ws RX1 TX1 10, w ∈ wsX7_addRule := fun _ h => List.mem_cons_of_mem _ (List.mem_append_left _ (List.mem_append_left _ (List.mem_append_left _ (List.mem_append_left _ (List.mem_append_left _ (List.mem_append_left _ (List.mem_append_right _ h)))))))
  have i_X7 : ∀ w ∈ u_ws RX7 TX7 4, w ∈ wsX7_addRule := fun _ h => List.mem_cons_of_mem _ (List.mem_append_left _ (List.mem_append_left _ (List.mem_append_left _ (List.mem_append_left _ (List.mem_append_left _ (List.mem_append_left _ (List.mem_append_left _ (List.mem_append_right _ h))))))))
  unfold fX7_addRule at hf
  refine V.eq rfl (show lv_args 0 [.ref (a 0), .int x1, .int x2, .int x3] = [(0, .ref (a 0)), (1, .int x1), (2, .int x2), (3, .int x3)] from rfl) rfl ?_
  refine V_aload_n (pc := 0) F dX7_addRule_0 rfl 0 rfl ?_
  refine V_iload_n (pc := 1) F dX7_addRule_1 rfl 1 rfl ?_
  obtain ⟨r1, g2, hf⟩ := bind_of hf
  rcases r1 with E | q3
  · replace hf := onS_inl hf
    exact nomatch some_of hf
  replace hf := onS_inr hf
  refine V_V (w2 := wX7 cy a v) (rest := []) (st2 := []) (pc := 2) F 7 (M_X7_checkPhase l D cy N a v x1 q3 g2) (cwV 1 F.ts gX7_addRule_X7_checkPhase rfl rfl rfl hd_X7_checkPhase ⟨Nat.le_of_ble_eq_true rfl, Nat.le_of_ble_eq_true rfl⟩) rfl dX7_addRule_2 Fit.whole rfl rfl rfl (Nat.le_of_ble_eq_true rfl) (Nat.zero_le _) (Nat.zero_le _) rfl rfl rfl ?_
  refine V_aload_n (pc := 5) F dX7_addRule_5 rfl 0 rfl ?_
  refine V_iload_n (pc := 6) F dX7_addRule_6 rfl 2 rfl ?_
  obtain ⟨r4, g5, hf⟩ := bind_of hf
  rcases r4 with E | q6
  · replace hf := onS_inl hf
    exact nomatch some_of hf
  replace hf := onS_inr hf
  refine V_V (w2 := wX7 cy a v) (rest := []) (st2 := []) (pc := 7) F 7 (M_X7_checkPhase l D cy N a v x2 q6 g5) (cwV 1 F.ts gX7_addRule_X7_checkPhase rfl rfl rfl hd_X7_checkPhase ⟨Nat.le_of_ble_eq_true rfl, Nat.le_of_ble_eq_true rfl⟩) rfl dX7_addRule_7 Fit.whole rfl rfl rfl (Nat.le_of_ble_eq_true rfl) (Nat.zero_le _) (Nat.zero_le _) rfl rfl rfl ?_
  refine V_iload_n (pc := 10) F dX7_addRule_10 rfl 1 rfl ?_
  refine V_iload_n (pc := 11) F dX7_addRule_11 rfl 2 rfl ?_
  refine V_icmp_ne (pc := 12) (tgt := 25) F dX7_addRule_12 (by decide) (fun h7 => ?_) (fun h7 => ?_)
  · replace hf := ite_neg hf h7
    refine V_iload_n (pc := 25) F dX7_addRule_25 rfl 3 rfl ?_
    obtain ⟨r8, g9, hf⟩ := bind_of hf
    rcases r8 with E | q10
    · replace hf := onS_inl hf
      exact nomatch some_of hf
    replace hf := onS_inr hf
    refine V_Sc (rest := []) (st2 := []) (pc := 26) F (M_X7_checkMask l D cy N x3 q10 g9) (va_cwS 1 F.ts gX7_addRule_X7_checkMask rfl rfl rfl hd_X7_checkMask ⟨Nat.le_of_ble_eq_true rfl, Nat.le_of_ble_eq_true rfl⟩) rfl dX7_addRule_26 (Nat.le_of_ble_eq_true rfl) (Nat.zero_le _) (Nat.zero_le _) rfl rfl ?_
    refine V_aload_n (pc := 29) F dX7_addRule_29 rfl 0 rfl ?_
    refine V_get (pc := 30) F 0 7 0 i_X7 rfl (by decide) rfl (mm 5 rfl) dX7_addRule_30 rfl rfl ?_
    refine V_get (pc := 33) F 1 1 0 i_X1 rfl (by decide) rfl (mm 6 rfl) dX7_addRule_33 rfl rfl ?_
    refine V_iload_n (pc := 36) F dX7_addRule_36 rfl 1 rfl ?_
    obtain ⟨r11, g12, hf⟩ := bind_of hf
    refine V_V (w2 := wX7 cy a v) (rest := []) (st2 := [.int r11]) (pc := 37) F 2 (M_X2_isFullOfRules l D cy N (fun i => a (i + 2)) v.1.1 x1 r11 g12) (cwV 1 F.ts gX7_addRule_X2_isFullOfRules rfl rfl rfl hd_X2_isFullOfRules ⟨Nat.le_of_ble_eq_true rfl, Nat.le_of_ble_eq_true rfl⟩) rfl dX7_addRule_37 (Fit.right (Fit.left (Fit.right (Fit.left Fit.whole)))) rfl rfl rfl (Nat.le_of_ble_eq_true rfl) (Nat.zero_le _) (Nat.zero_le _) rfl rfl rfl ?_
    refine V_if_eq (pc := 40) (tgt := 53) F dX7_addRule_40 (by decide) (fun h13 => ?_) (fun h13 => ?_)
    · replace hf := ite_pos hf h13
      refine V_aload_n (pc := 53) F dX7_addRule_53 rfl 0 rfl ?_
      refine V_get (pc := 54) F 0 7 1 i_X7 rfl (by decide) rfl (mm 7 rfl) dX7_addRule_54 rfl rfl ?_
      refine V_aload_n (pc := 57) F dX7_addRule_57 rfl 0 rfl ?_
      refine V_get (pc := 58) F 0 7 0 i_X7 rfl (by decide) rfl (mm 5 rfl) dX7_addRule_58 rfl rfl ?_
      obtain ⟨r14, g15, hf⟩ := bind_of hf
      refine V_V2 (w2 := wX7 cy a (v.1, r14, v.2.2)) (rest := []) (st2 := []) (pc := 61) F 0 (M_X0_keep l D cy N (fun i => a (i + 38)) (fun i => a (i + 1)) v.2.1 v.1 r14 g15) (cwV 1 F.ts gX7_addRule_X0_keep rfl rfl rfl hd_X0_keep ⟨Nat.le_of_ble_eq_true rfl, Nat.le_of_ble_eq_true rfl⟩) rfl dX7_addRule_61 (Fit2.right (Fit2.swap (Fit.right (Fit.right Fit.whole)) Fit.whole)) fstX0 rfl rfl rfl (Nat.le_of_ble_eq_true rfl) (Nat.zero_le _) (Nat.zero_le _) rfl rfl rfl ?_
      refine V_aload_n (pc := 64) F dX7_addRule_64 rfl 0 rfl ?_
      refine V_get (pc := 65) F 0 7 0 i_X7 rfl (by decide) rfl (mm 5 rfl) dX7_addRule_65 rfl rfl ?_
      refine V_get (pc := 68) F 1 1 0 i_X1 rfl (by decide) rfl (mm 6 rfl) dX7_addRule_68 rfl rfl ?_
      refine V_iload_n (pc := 71) F dX7_addRule_71 rfl 1 rfl ?_
      refine V_iload_n (pc := 72) F dX7_addRule_72 rfl 2 rfl ?_
      refine V_iload_n (pc := 73) F dX7_addRule_73 rfl 3 rfl ?_
      obtain ⟨r16, g17, hf⟩ := bind_of hf
      refine V_V (w2 := wX7 cy a ((r16.2, v.1.2), r14, v.2.2)) (rest := []) (st2 := [.int r16.1]) (pc := 74) F 2 (M_X2_appendRule l D cy N (fun i => a (i + 2)) v.1.1 x1 x2 x3 r16 g17) (cwV 3 F.ts gX7_addRule_X2_appendRule rfl rfl rfl hd_X2_appendRule ⟨Nat.le_of_ble_eq_true rfl, Nat.le_of_ble_eq_true rfl⟩) rfl dX7_addRule_74 (Fit.right (Fit.left (Fit.right (Fit.left Fit.whole)))) fstX2 rfl rfl (Nat.le_of_ble_eq_true rfl) (Nat.zero_le _) (Nat.zero_le _) rfl rfl rfl ?_
      obtain rfl := Sum.inr.inj (some_of hf)
      exact V_ret F rfl rfl dX7_addRule_77 rfl rfl
    · replace hf := ite_neg hf h13
      exact nomatch some_of hf
  · replace hf := ite_pos hf h7
    exact nomatch some_of hf
theorem hd_X7_change : yX7_change.cls = RX7 ∧ yX7_change.cls ≠ "java/lang/invoke/MethodHandle" ∧ yX7_change.cls ≠ "java/lang/invoke/VarHandle" ∧ (parseMethodDescriptor yX7_change.desc).map (fun d => d.parameters.length) = some 3 := by decide +kernel
def fX7_change (N : Nat) (v : SX7) (x1 : Int32) (x2 : Int32) (x3 : Int32) : Option ((String × SX7) ⊕ (Int32 × SX7)) :=
  (fX7_checkPhase N v x1).bind fun r1 => onS r1 (fun E => some (.inl (E, v))) fun q3 =>
    (fX7_checkMask N x2).bind fun r4 => onS r4 (fun E => some (.inl (E, v))) fun q6 =>
      (fX7_checkHold N x3).bind fun r7 => onS r7 (fun E => some (.inl (E, v))) fun q9 =>
        (fX0_keep N v.2.1 v.1).bind fun r10 =>
          some (.inr ((rowAt 8 v.1.1.2.1 x1), (((v.1.1.1, (rowPut 8 v.1.1.2.1 x1 x2), (rowPut 8 v.1.1.2.2.1 x1 x3), v.1.1.2.2.2), v.1.2), r10, v.2.2)))
set_option maxHeartbeats 8000000 in
set_option maxRecDepth 100000 in
theorem M_X7_change (l : Launch) (D : va_G) (cy : Nat → ClassId) (N : Nat) (a : Nat → Nat) (v : SX7) (x1 : Int32) (x2 : Int32) (x3 : Int32) (o : Int32 × SX7) (hf : fX7_change N v x1 x2 x3 = some (.inr o)) : okM l yX7_change wsX7_change (rmz 5 107) D cy [.ref (a 0), .int x1, .int x2, .int x3] (wX7 cy a v) (wX7 cy a o.2) (some (.int o.1)) := by
  refine okM_of (own := RX7) (nme := "change") (cc := cX7_change) (maxL := 5) (ret := (some .int)) (by decide) rfl rfl rfl (Nat.le_of_ble_eq_true rfl) ?_
  intro p e s m args below meth c A F
  have i_X1 : ∀ w ∈ u_ws RX1 TX1 10, w ∈ wsX7_change := fun _ h => List.mem_cons_of_mem _ (List.mem_append_left _ (List.mem_append_left _ (List.mem_append_left _ (List.mem_append_left _ (List.mem_append_left _ (List.mem_append_right _ h))))))
  have i_X2 : ∀ w ∈ u_ws RX2 TX2 8, w ∈ wsX7_change := fun _ h => List.mem_cons_of_mem _ (List.mem_append_left _ (List.mem_append_left _ (List.mem_append_left _ (List.mem_append_left _ (List.mem_append_right _ h)))))
  have i_X7 : ∀ w ∈ u_ws RX7 TX7 4, w ∈ wsX7_change := fun _ h => List.mem_cons_of_mem _ (List.mem_append_left _ (List.mem_append_left _ (List.mem_append_left _ (List.mem_append_left _ (List.mem_append_left _ (List.mem_append_left _ (List.mem_append_right _ h)))))))
  unfold fX7_change at hf
  refine V.eq rfl (show lv_args 0 [.ref (a 0), .int x1, .int x2, .int x3] = [(0, .ref (a 0)), (1, .int x1), (2, .int x2), (3, .int x3)] from rfl) rfl ?_
  refine V_aload_n (pc := 0) F dX7_change_0 rfl 0 rfl ?_
  refine V_iload_n (pc := 1) F dX7_change_1 rfl 1 rfl ?_
  obtain ⟨r1, g2, hf⟩ := bind_of hf
  rcases r1 with E | q3
  · replace hf := onS_inl hf
    exact nomatch some_of hf
  replace hf := onS_inr hf
  refine V_V (w2 := wX7 cy a v) (rest := []) (st2 := []) (pc := 2) F 7 (M_X7_checkPhase l D cy N a v x1 q3 g2) (cwV 1 F.ts gX7_change_X7_checkPhase rfl rfl rfl hd_X7_checkPhase ⟨Nat.le_of_ble_eq_true rfl, Nat.le_of_ble_eq_true rfl⟩) rfl dX7_change_2 Fit.whole rfl rfl rfl (Nat.le_of_ble_eq_true rfl) (Nat.zero_le _) (Nat.zero_le _) rfl rfl rfl ?_
  refine V_iload_n (pc := 5) F dX7_change_5 rfl 2 rfl ?_
  obtain ⟨r4, g5, hf⟩ := bind_of hf
  rcases r4 with E | q6
  · replace hf := onS_inl hf
    exact nomatch some_of hf
  replace hf := onS_inr hf
  refine V_Sc (rest := []) (st2 := []) (pc := 6) F (M_X7_checkMask l D cy N x2 q6 g5) (va_cwS 1 F.ts gX7_change_X7_checkMask rfl rfl rfl hd_X7_checkMask ⟨Nat.le_of_ble_eq_true rfl, Nat.le_of_ble_eq_true rfl⟩) rfl dX7_change_6 (Nat.le_of_ble_eq_true rfl) (Nat.zero_le _) (Nat.zero_le _) rfl rfl ?_
  refine V_iload_n (pc := 9) F dX7_change_9 rfl 3 rfl ?_
  obtain ⟨r7, g8, hf⟩ := bind_of hf
  rcases r7 with E | q9
  · replace hf := onS_inl hf
    exact nomatch some_of hf
  replace hf := onS_inr hf
  refine V_Sc (rest := []) (st2 := []) (pc := 10) F (M_X7_checkHold l D cy N x3 q9 g8) (va_cwS 1 F.ts gX7_change_X7_checkHold rfl rfl rfl hd_X7_checkHold ⟨Nat.le_of_ble_eq_true rfl, Nat.le_of_ble_eq_true rfl⟩) rfl dX7_change_10 (Nat.le_of_ble_eq_true rfl) (Nat.zero_le _) (Nat.zero_le _) rfl rfl ?_
  refine V_aload_n (pc := 13) F dX7_change_13 rfl 0 rfl ?_
  refine V_get (pc := 14) F 0 7 1 i_X7 rfl (by decide) rfl (mm 1 rfl) dX7_change_14 rfl rfl ?_
  refine V_aload_n (pc := 17) F dX7_change_17 rfl 0 rfl ?_
  refine V_get (pc := 18) F 0 7 0 i_X7 rfl (by decide) rfl (mm 2 rfl) dX7_change_18 rfl rfl ?_
  obtain ⟨r10, g11, hf⟩ := bind_of hf
  refine V_V2 (w2 := wX7 cy a (v.1, r10, v.2.2)) (rest := []) (st2 := []) (pc := 21) F 0 (M_X0_keep l D cy N (fun i => a (i + 38)) (fun i => a (i + 1)) v.2.1 v.1 r10 g11) (cwV 1 F.ts gX7_change_X0_keep rfl rfl rfl hd_X0_keep ⟨Nat.le_of_ble_eq_true rfl, Nat.le_of_ble_eq_true rfl⟩) rfl dX7_change_21 (Fit2.right (Fit2.swap (Fit.right (Fit.right Fit.whole)) Fit.whole)) fstX0 rfl rfl rfl (Nat.le_of_ble_eq_true rfl) (Nat.zero_le _) (Nat.zero_le _) rfl rfl rfl ?_
  refine V_aload_n (pc := 24) F dX7_change_24 rfl 0 rfl ?_
  refine V_get (pc := 25) F 0 7 0 i_X7 rfl (by decide) rfl (mm 2 rfl) dX7_change_25 rfl rfl ?_
  refine V_get (pc := 28) F 1 1 0 i_X1 rfl (by decide) rfl (mm 3 rfl) dX7_change_28 rfl rfl ?_
  refine V_get (pc := 31) F 2 2 1 i_X2 rfl (by decide) rfl (mm 4 rfl) dX7_change_31 rfl rfl ?_
  refine V_iload_n (pc := 34) F dX7_change_34 rfl 1 rfl ?_
  refine V_V (w2 := wX7 cy a (v.1, r10, v.2.2)) (rest := []) (st2 := [.int (rowAt 8 v.1.1.2.1 x1)]) (pc := 35) F 5 (R_at l D cy (fun i => a (i + 5)) 8 v.1.1.2.1 x1 (by decide)) (cwV 1 F.ts gX7_change_X5_at rfl rfl rfl hd_X5_at ⟨Nat.le_of_ble_eq_true rfl, Nat.le_of_ble_eq_true rfl⟩) rfl dX7_change_35 (Fit.right (Fit.left (Fit.right (Fit.left (Fit.right (Fit.right (Fit.left Fit.whole))))))) rfl rfl rfl (Nat.le_of_ble_eq_true rfl) (Nat.zero_le _) (Nat.zero_le _) rfl rfl rfl ?_
  refine V_istore (L2 := [(4, .int (rowAt 8 v.1.1.2.1 x1)), (0, .ref (a 0)), (1, .int x1), (2, .int x2), (3, .int x3)]) (pc := 38) F dX7_change_38 (by decide) rfl ?_
  refine V_aload_n (pc := 40) F dX7_change_40 rfl 1 rfl ?_
  refine V_get (pc := 41) F 0 7 0 i_X7 rfl (by decide) rfl (mm 2 rfl) dX7_change_41 rfl rfl ?_
  refine V_get (pc := 44) F 1 1 0 i_X1 rfl (by decide) rfl (mm 3 rfl) dX7_change_44 rfl rfl ?_
  refine V_get (pc := 47) F 2 2 1 i_X2 rfl (by decide) rfl (mm 4 rfl) dX7_change_47 rfl rfl ?_
  refine V_iload_n (pc := 50) F dX7_change_50 rfl 2 rfl ?_
  refine V_iload_n (pc := 51) F dX7_change_51 rfl 3 rfl ?_
  refine V_V (w2 := wX7 cy a (((v.1.1.1, (rowPut 8 v.1.1.2.1 x1 x2), v.1.1.2.2), v.1.2), r10, v.2.2)) (rest := []) (st2 := []) (pc := 52) F 5 (R_put l D cy (fun i => a (i + 5)) 8 v.1.1.2.1 x1 x2 (by decide)) (cwV 2 F.ts gX7_change_X5_put rfl rfl rfl hd_X5_put ⟨Nat.le_of_ble_eq_true rfl, Nat.le_of_ble_eq_true rfl⟩) rfl dX7_change_52 (Fit.right (Fit.left (Fit.right (Fit.left (Fit.right (Fit.right (Fit.left Fit.whole))))))) fstX5 rfl rfl (Nat.le_of_ble_eq_true rfl) (Nat.zero_le _) (Nat.zero_le _) rfl rfl rfl ?_
  refine V_aload_n (pc := 55) F dX7_change_55 rfl 1 rfl ?_
  refine V_get (pc := 56) F 0 7 0 i_X7 rfl (by decide) rfl (mm 2 rfl) dX7_change_56 rfl rfl ?_
  refine V_get (pc := 59) F 1 1 0 i_X1 rfl (by decide) rfl (mm 3 rfl) dX7_change_59 rfl rfl ?_
  refine V_get (pc := 62) F 2 2 2 i_X2 rfl (by decide) rfl (mm 5 rfl) dX7_change_62 rfl rfl ?_
  refine V_iload_n (pc := 65) F dX7_change_65 rfl 2 rfl ?_
  refine V_iload_n (pc := 66) F dX7_change_66 rfl 4 rfl ?_
  refine V_V (w2 := wX7 cy a (((v.1.1.1, (rowPut 8 v.1.1.2.1 x1 x2), (rowPut 8 v.1.1.2.2.1 x1 x3), v.1.1.2.2.2), v.1.2), r10, v.2.2)) (rest := []) (st2 := []) (pc := 67) F 5 (R_put l D cy (fun i => a (i + 7)) 8 v.1.1.2.2.1 x1 x3 (by decide)) (cwV 2 F.ts gX7_change_X5_put rfl rfl rfl hd_X5_put ⟨Nat.le_of_ble_eq_true rfl, Nat.le_of_ble_eq_true rfl⟩) rfl dX7_change_67 (Fit.right (Fit.left (Fit.right (Fit.left (Fit.right (Fit.right (Fit.right (Fit.left Fit.whole)))))))) fstX5 rfl rfl (Nat.le_of_ble_eq_true rfl) (Nat.zero_le _) (Nat.zero_le _) rfl rfl rfl ?_
  refine V_iload (pc := 70) F dX7_change_70 0 rfl ?_
  obtain rfl := Sum.inr.inj (some_of hf)
  exact V_ret F rfl rfl dX7_change_72 rfl rfl
theorem hd_X7_set : yX7_set.cls = RX7 ∧ yX7_set.cls ≠ "java/lang/invoke/MethodHandle" ∧ yX7_set.cls ≠ "java/lang/invoke/VarHandle" ∧ (parseMethodDescriptor yX7_set.desc).map (fun d => d.parameters.length) = some 1 := by decide +kernel
def fX7_set (N : Nat) (v : SX7) (x1 : Int32) : Option ((String × SX7) ⊕ (Int32 × SX7)) :=
  if x1 < 0 then
    some (.inl ("java/lang/IllegalArgumentException", v))
  else
    if x1 ≤ 5 then
      (fX0_keep N v.2.1 v.1).bind fun r3 =>
        some (.inr (v.1.1.2.2.2.2.2.2.2, (((v.1.1.1, v.1.1.2.1, v.1.1.2.2.1, v.1.1.2.2.2.1, v.1.1.2.2.2.2.1, v.1.1.2.2.2.2.2.1, v.1.1.2.2.2.2.2.2.1, x1), v.1.2), r3, v.2.2)))
    else
      some (.inl ("java/lang/IllegalArgumentException", v))
set_option maxHeartbeats 8000000 in
set_option maxRecDepth 100000 in
theorem M_X7_set (l : Launch) (D : va_G) (cy : Nat → ClassId) (N : Nat) (a : Nat → Nat) (v : SX7) (x1 : Int32) (o : Int32 × SX7) (hf : fX7_set N v x1 = some (.inr o)) : okM l yX7_set wsX7_set (rmz 5 107) D cy [.ref (a 0), .int x1] (wX7 cy a v) (wX7 cy a o.2) (some (.int o.1)) := by
  refine okM_of (own := RX7) (nme := "set") (cc := cX7_set) (maxL := 3) (ret := (some .int)) (by decide) rfl rfl rfl (Nat.le_of_ble_eq_true rfl) ?_
  intro p e s m args below meth c A F
  have i_X1 : ∀ w ∈ u_ws RX1 TX1 10, w ∈ wsX7_set := fun _ h => List.mem_cons_of_mem _ (List.mem_append_left _ (List.mem_append_left _ (List.mem_append_left _ (List.mem_append_left _ (List.mem_append_right _ h)))))
  have i_X2 : ∀ w ∈ u_ws RX2 TX2 8, w ∈ wsX7_set := fun _ h => List.mem_cons_of_mem _ (List.mem_append_left _ (List.mem_append_left _ (List.mem_append_left _ (List.mem_append_right _ h))))
  have i_X7 : ∀ w ∈ u_ws RX7 TX7 4, w ∈ wsX7_set := fun _ h => List.mem_cons_of_mem _ (List.mem_append_left _ (List.mem_append_left _ (List.mem_append_left _ (List.mem_append_left _ (List.mem_append_left _ (List.mem_append_right _ h))))))
  unfold fX7_set at hf
  refine V.eq rfl (show lv_args 0 [.ref (a 0), .int x1] = [(0, .ref (a 0)), (1, .int x1)] from rfl) rfl ?_
  refine V_iload_n (pc := 0) F dX7_set_0 rfl 1 rfl ?_
  refine V_if_lt (pc := 1) (tgt := 9) F dX7_set_1 (by decide) (fun h1 => ?_) (fun h1 => ?_)
  · replace hf := ite_pos hf h1
    exact nomatch some_of hf
  · replace hf := ite_neg hf h1
    refine V_iload_n (pc := 4) F dX7_set_4 rfl 1 rfl ?_
    refine V_iconst (v := 5) (pc := 5) F dX7_set_5 (by decide) ?_
    refine V_icmp_le (pc := 6) (tgt := 19) F dX7_set_6 (by decide) (fun h2 => ?_) (fun h2 => ?_)
    · replace hf := ite_pos hf h2
      refine V_aload_n (pc := 19) F dX7_set_19 rfl 0 rfl ?_
      refine V_get (pc := 20) F 0 7 1 i_X7 rfl (by decide) rfl (mm 3 rfl) dX7_set_20 rfl rfl ?_
      refine V_aload_n (pc := 23) F dX7_set_23 rfl 0 rfl ?_
      refine V_get (pc := 24) F 0 7 0 i_X7 rfl (by decide) rfl (mm 4 rfl) dX7_set_24 rfl rfl ?_
      obtain ⟨r3, g4, hf⟩ := bind_of hf
      refine V_V2 (w2 := wX7 cy a (v.1, r3, v.2.2)) (rest := []) (st2 := []) (pc := 27) F 0 (M_X0_keep l D cy N (fun i => a (i + 38)) (fun i => a (i + 1)) v.2.1 v.1 r3 g4) (cwV 1 F.ts gX7_set_X0_keep rfl rfl rfl hd_X0_keep ⟨Nat.le_of_ble_eq_true rfl, Nat.le_of_ble_eq_true rfl⟩) rfl dX7_set_27 (Fit2.right (Fit2.swap (Fit.right (Fit.right Fit.whole)) Fit.whole)) fstX0 rfl rfl rfl (Nat.le_of_ble_eq_true rfl) (Nat.zero_le _) (Nat.zero_le _) rfl rfl rfl ?_
      refine V_aload_n (pc := 30) F dX7_set_30 rfl 0 rfl ?_
      refine V_get (pc := 31) F 0 7 0 i_X7 rfl (by decide) rfl (mm 4 rfl) dX7_set_31 rfl rfl ?_
      refine V_get (pc := 34) F 1 1 0 i_X1 rfl (by decide) rfl (mm 5 rfl) dX7_set_34 rfl rfl ?_
      refine V_get (pc := 37) F 2 2 7 i_X2 rfl (by decide) rfl (mm 6 rfl) dX7_set_37 rfl rfl ?_
      refine V_istore_n (L2 := [(2, .int v.1.1.2.2.2.2.2.2.2), (0, .ref (a 0)), (1, .int x1)]) (pc := 40) F dX7_set_40 rfl (by decide) rfl ?_
      refine V_aload_n (pc := 41) F dX7_set_41 rfl 1 rfl ?_
      refine V_get (pc := 42) F 0 7 0 i_X7 rfl (by decide) rfl (mm 4 rfl) dX7_set_42 rfl rfl ?_
      refine V_get (pc := 45) F 1 1 0 i_X1 rfl (by decide) rfl (mm 5 rfl) dX7_set_45 rfl rfl ?_
      refine V_iload_n (pc := 48) F dX7_set_48 rfl 2 rfl ?_
      refine V_put (w2 := wX7 cy a (((v.1.1.1, v.1.1.2.1, v.1.1.2.2.1, v.1.1.2.2.2.1, v.1.1.2.2.2.2.1, v.1.1.2.2.2.2.2.1, v.1.1.2.2.2.2.2.2.1, x1), v.1.2), r3, v.2.2)) (pc := 49) F 2 2 7 i_X2 tyX2 tyX2_ok nmX2 rfl (by decide) rfl (mm 6 rfl) rfl dX7_set_49 rfl rfl rfl (Nat.le_of_ble_eq_true rfl) rfl ?_
      refine V_iload_n (pc := 52) F dX7_set_52 rfl 0 rfl ?_
      obtain rfl := Sum.inr.inj (some_of hf)
      exact V_ret F rfl rfl dX7_set_53 rfl rfl
    · replace hf := ite_neg hf h2
      exact nomatch some_of hf
theorem hd_X7_come : yX7_come.cls = RX7 ∧ yX7_come.cls ≠ "java/lang/invoke/MethodHandle" ∧ yX7_come.cls ≠ "java/lang/invoke/VarHandle" ∧ (parseMethodDescriptor yX7_come.desc).map (fun d => d.parameters.length) = some 1 := by decide +kernel
def fX7_come (N : Nat) (v : SX7) (x1 : Int32) : Option ((String × SX7) ⊕ (Int32 × SX7)) :=
  (fX7_checkDirection N x1).bind fun r1 => onS r1 (fun E => some (.inl (E, v))) fun q3 =>
    (fX0_keep N v.2.1 v.1).bind fun r4 =>
      if (rowAt 6 v.1.2.1 x1) = (-1) then
        some (.inr ((rowAt 6 (rowPut 6 v.1.2.1 x1 0) x1), ((v.1.1, (rowPut 6 v.1.2.1 x1 0), v.1.2.2), r4, v.2.2)))
      else
        some (.inr ((rowAt 6 v.1.2.1 x1), (v.1, r4, v.2.2)))
set_option maxHeartbeats 8000000 in
set_option maxRecDepth 100000 in
theorem M_X7_come (l : Launch) (D : va_G) (cy : Nat → ClassId) (N : Nat) (a : Nat → Nat) (v : SX7) (x1 : Int32) (o : Int32 × SX7) (hf : fX7_come N v x1 = some (.inr o)) : okM l yX7_come wsX7_come (rmz 5 107) D cy [.ref (a 0), .int x1] (wX7 cy a v) (wX7 cy a o.2) (some (.int o.1)) := by
  refine okM_of (own := RX7) (nme := "come") (cc := cX7_come) (maxL := 2) (ret := (some .int)) (by decide) rfl rfl rfl (Nat.le_of_ble_eq_true rfl) ?_
  intro p e s m args below meth c A F
  have i_X1 : ∀ w ∈ u_ws RX1 TX1 10, w ∈ wsX7_come := fun _ h => List.mem_cons_of_mem _ (List.mem_append_left _ (List.mem_append_left _ (List.mem_append_left _ (List.mem_append_left _ (List.mem_append_right _ h)))))
  have i_X7 : ∀ w ∈ u_ws RX7 TX7 4, w ∈ wsX7_come := fun _ h => List.mem_cons_of_mem _ (List.mem_append_left _ (List.mem_append_left _ (List.mem_append_left _ (List.mem_append_left _ (List.mem_append_left _ (List.mem_append_right _ h))))))
  unfold fX7_come at hf
  refine V.eq rfl (show lv_args 0 [.ref (a 0), .int x1] = [(0, .ref (a 0)), (1, .int x1)] from rfl) rfl ?_
  refine V_iload_n (pc := 0) F dX7_come_0 rfl 1 rfl ?_
  obtain ⟨r1, g2, hf⟩ := bind_of hf
  rcases r1 with E | q3
  · replace hf := onS_inl hf
    exact nomatch some_of hf
  replace hf := onS_inr hf
  refine V_Sc (rest := []) (st2 := []) (pc := 1) F (M_X7_checkDirection l D cy N x1 q3 g2) (va_cwS 1 F.ts gX7_come_X7_checkDirection rfl rfl rfl hd_X7_checkDirection ⟨Nat.le_of_ble_eq_true rfl, Nat.le_of_ble_eq_true rfl⟩) rfl dX7_come_1 (Nat.le_of_ble_eq_true rfl) (Nat.zero_le _) (Nat.zero_le _) rfl rfl ?_
  refine V_aload_n (pc := 4) F dX7_come_4 rfl 0 rfl ?_
  refine V_get (pc := 5) F 0 7 1 i_X7 rfl (by decide) rfl (mm 1 rfl) dX7_come_5 rfl rfl ?_
  refine V_aload_n (pc := 8) F dX7_come_8 rfl 0 rfl ?_
  refine V_get (pc := 9) F 0 7 0 i_X7 rfl (by decide) rfl (mm 2 rfl) dX7_come_9 rfl rfl ?_
  obtain ⟨r4, g5, hf⟩ := bind_of hf
  refine V_V2 (w2 := wX7 cy a (v.1, r4, v.2.2)) (rest := []) (st2 := []) (pc := 12) F 0 (M_X0_keep l D cy N (fun i => a (i + 38)) (fun i => a (i + 1)) v.2.1 v.1 r4 g5) (cwV 1 F.ts gX7_come_X0_keep rfl rfl rfl hd_X0_keep ⟨Nat.le_of_ble_eq_true rfl, Nat.le_of_ble_eq_true rfl⟩) rfl dX7_come_12 (Fit2.right (Fit2.swap (Fit.right (Fit.right Fit.whole)) Fit.whole)) fstX0 rfl rfl rfl (Nat.le_of_ble_eq_true rfl) (Nat.zero_le _) (Nat.zero_le _) rfl rfl rfl ?_
  refine V_aload_n (pc := 15) F dX7_come_15 rfl 0 rfl ?_
  refine V_get (pc := 16) F 0 7 0 i_X7 rfl (by decide) rfl (mm 2 rfl) dX7_come_16 rfl rfl ?_
  refine V_get (pc := 19) F 1 1 1 i_X1 rfl (by decide) rfl (mm 3 rfl) dX7_come_19 rfl rfl ?_
  refine V_iload_n (pc := 22) F dX7_come_22 rfl 1 rfl ?_
  refine V_V (w2 := wX7 cy a (v.1, r4, v.2.2)) (rest := []) (st2 := [.int (rowAt 6 v.1.2.1 x1)]) (pc := 23) F 5 (R_at l D cy (fun i => a (i + 15)) 6 v.1.2.1 x1 (by decide)) (cwV 1 F.ts gX7_come_X5_at rfl rfl rfl hd_X5_at ⟨Nat.le_of_ble_eq_true rfl, Nat.le_of_ble_eq_true rfl⟩) rfl dX7_come_23 (Fit.right (Fit.left (Fit.right (Fit.right (Fit.left Fit.whole))))) rfl rfl rfl (Nat.le_of_ble_eq_true rfl) (Nat.zero_le _) (Nat.zero_le _) rfl rfl rfl ?_
  refine V_iconst (v := (-1)) (pc := 26) F dX7_come_26 (by decide) ?_
  refine V_icmp_ne (pc := 27) (tgt := 42) F dX7_come_27 (by decide) (fun h6 => ?_) (fun h6 => ?_)
  · replace hf := ite_neg hf h6
    refine V_aload_n (pc := 42) F dX7_come_42 rfl 0 rfl ?_
    refine V_get (pc := 43) F 0 7 0 i_X7 rfl (by decide) rfl (mm 2 rfl) dX7_come_43 rfl rfl ?_
    refine V_get (pc := 46) F 1 1 1 i_X1 rfl (by decide) rfl (mm 3 rfl) dX7_come_46 rfl rfl ?_
    refine V_iload_n (pc := 49) F dX7_come_49 rfl 1 rfl ?_
    refine V_V (w2 := wX7 cy a (v.1, r4, v.2.2)) (rest := []) (st2 := [.int (rowAt 6 v.1.2.1 x1)]) (pc := 50) F 5 (R_at l D cy (fun i => a (i + 15)) 6 v.1.2.1 x1 (by decide)) (cwV 1 F.ts gX7_come_X5_at rfl rfl rfl hd_X5_at ⟨Nat.le_of_ble_eq_true rfl, Nat.le_of_ble_eq_true rfl⟩) rfl dX7_come_50 (Fit.right (Fit.left (Fit.right (Fit.right (Fit.left Fit.whole))))) rfl rfl rfl (Nat.le_of_ble_eq_true rfl) (Nat.zero_le _) (Nat.zero_le _) rfl rfl rfl ?_
    obtain rfl := Sum.inr.inj (some_of hf)
    exact V_ret F rfl rfl dX7_come_53 rfl rfl
  · replace hf := ite_pos hf h6
    refine V_aload_n (pc := 30) F dX7_come_30 rfl 0 rfl ?_
    refine V_get (pc := 31) F 0 7 0 i_X7 rfl (by decide) rfl (mm 2 rfl) dX7_come_31 rfl rfl ?_
    refine V_get (pc := 34) F 1 1 1 i_X1 rfl (by decide) rfl (mm 3 rfl) dX7_come_34 rfl rfl ?_
    refine V_iload_n (pc := 37) F dX7_come_37 rfl 1 rfl ?_
    refine V_iconst (v := 0) (pc := 38) F dX7_come_38 (by decide) ?_
    refine V_V (w2 := wX7 cy a ((v.1.1, (rowPut 6 v.1.2.1 x1 0), v.1.2.2), r4, v.2.2)) (rest := []) (st2 := []) (pc := 39) F 5 (R_put l D cy (fun i => a (i + 15)) 6 v.1.2.1 x1 0 (by decide)) (cwV 2 F.ts gX7_come_X5_put rfl rfl rfl hd_X5_put ⟨Nat.le_of_ble_eq_true rfl, Nat.le_of_ble_eq_true rfl⟩) rfl dX7_come_39 (Fit.right (Fit.left (Fit.right (Fit.right (Fit.left Fit.whole))))) fstX5 rfl rfl (Nat.le_of_ble_eq_true rfl) (Nat.zero_le _) (Nat.zero_le _) rfl rfl rfl ?_
    refine V_aload_n (pc := 42) F dX7_come_42 rfl 0 rfl ?_
    refine V_get (pc := 43) F 0 7 0 i_X7 rfl (by decide) rfl (mm 2 rfl) dX7_come_43 rfl rfl ?_
    refine V_get (pc := 46) F 1 1 1 i_X1 rfl (by decide) rfl (mm 3 rfl) dX7_come_46 rfl rfl ?_
    refine V_iload_n (pc := 49) F dX7_come_49 rfl 1 rfl ?_
    refine V_V (w2 := wX7 cy a ((v.1.1, (rowPut 6 v.1.2.1 x1 0), v.1.2.2), r4, v.2.2)) (rest := []) (st2 := [.int (rowAt 6 (rowPut 6 v.1.2.1 x1 0) x1)]) (pc := 50) F 5 (R_at l D cy (fun i => a (i + 15)) 6 (rowPut 6 v.1.2.1 x1 0) x1 (by decide)) (cwV 1 F.ts gX7_come_X5_at rfl rfl rfl hd_X5_at ⟨Nat.le_of_ble_eq_true rfl, Nat.le_of_ble_eq_true rfl⟩) rfl dX7_come_50 (Fit.right (Fit.left (Fit.right (Fit.right (Fit.left Fit.whole))))) rfl rfl rfl (Nat.le_of_ble_eq_true rfl) (Nat.zero_le _) (Nat.zero_le _) rfl rfl rfl ?_
    obtain rfl := Sum.inr.inj (some_of hf)
    exact V_ret F rfl rfl dX7_come_53 rfl rfl
theorem hd_X7_run : yX7_run.cls = RX7 ∧ yX7_run.cls ≠ "java/lang/invoke/MethodHandle" ∧ yX7_run.cls ≠ "java/lang/invoke/VarHandle" ∧ (parseMethodDescriptor yX7_run.desc).map (fun d => d.parameters.length) = some 1 := by decide +kernel
def fX7_run_L34 (N : Nat) (z1 : Int32) : Nat → SX7 → Int32 → Option (SX7)
  | 0, _, _ => none
  | n + 1, v, z2 =>
    if z1 ≤ z2 then
      some v
    else
      (fX1_passTick N v.1).bind fun r6 =>
        fX7_run_L34 N z1 n (r6, v.2) (z2 + 1)
def fX7_run (N : Nat) (v : SX7) (x1 : Int32) : Option ((String × SX7) ⊕ (Int32 × SX7)) :=
  if x1 < 1 then
    some (.inl ("java/lang/IllegalArgumentException", v))
  else
    if x1 ≤ 99 then
      (fX0_keep N v.2.1 v.1).bind fun r3 =>
        (fX7_run_L34 N x1 N (v.1, r3, v.2.2) 0).bind fun u8 =>
          (fX1_waiting N u8.1).bind fun r10 =>
            (fJ6_bitCount_0f7a4 N r10).bind fun r12 =>
              some (.inr (r12, u8))
    else
      some (.inl ("java/lang/IllegalArgumentException", v))
set_option maxHeartbeats 8000000 in
set_option maxRecDepth 100000 in
theorem M_X7_run (l : Launch) (D : va_G) (cy : Nat → ClassId) (N : Nat) (a : Nat → Nat) (v : SX7) (x1 : Int32) (o : Int32 × SX7) (hf : fX7_run N v x1 = some (.inr o)) : okM l yX7_run wsX7_run (rmz 5 110) D cy [.ref (a 0), .int x1] (wX7 cy a v) (wX7 cy a o.2) (some (.int o.1)) := by
  refine okM_of (own := RX7) (nme := "run") (cc := cX7_run) (maxL := 3) (ret := (some .int)) (by decide) rfl rfl rfl (Nat.le_of_ble_eq_true rfl) ?_
  intro p e s m args below meth c A F
  have i_X7 : ∀ w ∈ u_ws RX7 TX7 4, w ∈ wsX7_run := fun _ h => List.mem_cons_of_mem _ (List.mem_append_left _ (List.mem_append_left _ (List.mem_append_left _ (List.mem_append_left _ (List.mem_append_left _ (List.mem_append_right _ h))))))
  have K34 : ∀ (n : Nat) (z1 : Int32) (v : SX7) (z2 : Int32) (u : SX7), fX7_run_L34 N z1 n v z2 = some u → V p l e (rmz 5 110) s m args below meth c 3 D A 0 0 (MQ below (ok_Q D (wX7 cy a o.2) (some (.int o.1)) A) args s 0 0 A) (wX7 cy a u) [(0, .ref (a 0))] [] 52 → V p l e (rmz 5 110) s m args below meth c 3 D A 0 0 (MQ below (ok_Q D (wX7 cy a o.2) (some (.int o.1)) A) args s 0 0 A) (wX7 cy a v) [(0, .ref (a 0)), (1, .int z1), (2, .int z2)] [] 34 := by
    intro n
    induction n with
    | zero =>
      intro z1 v z2 u hf hk
      exact nomatch (show (none : Option (SX7)) = some u from hf)
    | succ n ih =>
      intro z1 v z2 u hf hk
      rw [fX7_run_L34] at hf
      refine V_iload_n (pc := 34) F dX7_run_34 rfl 2 rfl ?_
      refine V_iload_n (pc := 35) F dX7_run_35 rfl 1 rfl ?_
      refine V_icmp_ge (pc := 36) (tgt := 52) F dX7_run_36 (by decide) (fun h5 => ?_) (fun h5 => ?_)
      · replace hf := ite_pos hf h5
        obtain rfl := some_of hf
        exact V.sub [0] rfl hk
      · replace hf := ite_neg hf h5
        refine V_aload_n (pc := 39) F dX7_run_39 rfl 0 rfl ?_
        refine V_get (pc := 40) F 0 7 0 i_X7 rfl (by decide) rfl (mm 4 rfl) dX7_run_40 rfl rfl ?_
        obtain ⟨r6, g7, hf⟩ := bind_of hf
        refine V_V (w2 := wX7 cy a (r6, v.2)) (rest := []) (st2 := []) (pc := 43) F 1 (M_X1_passTick l D cy N (fun i => a (i + 1)) v.1 r6 g7) (cwV 0 F.ts gX7_run_X1_passTick rfl rfl rfl hd_X1_passTick ⟨Nat.le_of_ble_eq_true rfl, Nat.le_of_ble_eq_true rfl⟩) rfl dX7_run_43 (Fit.right (Fit.left Fit.whole)) fstX1 rfl rfl (Nat.le_of_ble_eq_true rfl) (Nat.zero_le _) (Nat.zero_le _) rfl rfl rfl ?_
        refine V_iinc (v := (z2 + 1)) (L2 := [(2, .int (z2 + 1)), (0, .ref (a 0)), (1, .int z1)]) (pc := 46) F dX7_run_46 2 rfl rfl (by decide) rfl ?_
        refine V_goto (pc := 49) (tgt := 34) F dX7_run_49 (by decide) ?_
        refine V.sub [1, 2, 0] rfl ?_
        exact ih z1 (r6, v.2) (z2 + 1) _ hf hk
  unfold fX7_run at hf
  refine V.eq rfl (show lv_args 0 [.ref (a 0), .int x1] = [(0, .ref (a 0)), (1, .int x1)] from rfl) rfl ?_
  refine V_iload_n (pc := 0) F dX7_run_0 rfl 1 rfl ?_
  refine V_iconst (v := 1) (pc := 1) F dX7_run_1 (by decide) ?_
  refine V_icmp_lt (pc := 2) (tgt := 11) F dX7_run_2 (by decide) (fun h1 => ?_) (fun h1 => ?_)
  · replace hf := ite_pos hf h1
    exact nomatch some_of hf
  · replace hf := ite_neg hf h1
    refine V_iload_n (pc := 5) F dX7_run_5 rfl 1 rfl ?_
    refine V_bipush (v := 99) (pc := 6) F dX7_run_6 (by decide) ?_
    refine V_icmp_le (pc := 8) (tgt := 21) F dX7_run_8 (by decide) (fun h2 => ?_) (fun h2 => ?_)
    · replace hf := ite_pos hf h2
      refine V_aload_n (pc := 21) F dX7_run_21 rfl 0 rfl ?_
      refine V_get (pc := 22) F 0 7 1 i_X7 rfl (by decide) rfl (mm 3 rfl) dX7_run_22 rfl rfl ?_
      refine V_aload_n (pc := 25) F dX7_run_25 rfl 0 rfl ?_
      refine V_get (pc := 26) F 0 7 0 i_X7 rfl (by decide) rfl (mm 4 rfl) dX7_run_26 rfl rfl ?_
      obtain ⟨r3, g4, hf⟩ := bind_of hf
      refine V_V2 (w2 := wX7 cy a (v.1, r3, v.2.2)) (rest := []) (st2 := []) (pc := 29) F 0 (M_X0_keep l D cy N (fun i => a (i + 38)) (fun i => a (i + 1)) v.2.1 v.1 r3 g4) (cwV 1 F.ts gX7_run_X0_keep rfl rfl rfl hd_X0_keep ⟨Nat.le_of_ble_eq_true rfl, Nat.le_of_ble_eq_true rfl⟩) rfl dX7_run_29 (Fit2.right (Fit2.swap (Fit.right (Fit.right Fit.whole)) Fit.whole)) fstX0 rfl rfl rfl (Nat.le_of_ble_eq_true rfl) (Nat.zero_le _) (Nat.zero_le _) rfl rfl rfl ?_
      refine V_iconst (v := 0) (pc := 32) F dX7_run_32 (by decide) ?_
      refine V_istore_n (L2 := [(2, .int 0), (0, .ref (a 0)), (1, .int x1)]) (pc := 33) F dX7_run_33 rfl (by decide) rfl ?_
      refine V.sub [1, 2, 0] rfl ?_
      obtain ⟨u8, g9, hf⟩ := bind_of hf
      refine K34 N x1 (v.1, r3, v.2.2) 0 u8 g9 ?_
      refine V_aload_n (pc := 52) F dX7_run_52 rfl 0 rfl ?_
      refine V_get (pc := 53) F 0 7 0 i_X7 rfl (by decide) rfl (mm 4 rfl) dX7_run_53 rfl rfl ?_
      obtain ⟨r10, g11, hf⟩ := bind_of hf
      refine V_V (w2 := wX7 cy a u8) (rest := []) (st2 := [.int r10]) (pc := 56) F 1 (M_X1_waiting l D cy N (fun i => a (i + 1)) u8.1 r10 g11) (cwV 0 F.ts gX7_run_X1_waiting rfl rfl rfl hd_X1_waiting ⟨Nat.le_of_ble_eq_true rfl, Nat.le_of_ble_eq_true rfl⟩) rfl dX7_run_56 (Fit.right (Fit.left Fit.whole)) rfl rfl rfl (Nat.le_of_ble_eq_true rfl) (Nat.zero_le _) (Nat.zero_le _) rfl rfl rfl ?_
      obtain ⟨r12, g13, hf⟩ := bind_of hf
      refine V_Sc (rest := []) (st2 := [.int r12]) (pc := 59) F (M_J6_bitCount_0f7a4 l D cy N r10 r12 g13) (va_cwS 1 F.ts gX7_run_J6_bitCount_0f7a4 rfl rfl rfl hd_J6_bitCount_0f7a4 ⟨Nat.le_of_ble_eq_true rfl, Nat.le_of_ble_eq_true rfl⟩) rfl dX7_run_59 (Nat.le_of_ble_eq_true rfl) (Nat.zero_le _) (Nat.zero_le _) rfl rfl ?_
      obtain rfl := Sum.inr.inj (some_of hf)
      exact V_ret F rfl rfl dX7_run_62 rfl rfl
    · replace hf := ite_neg hf h2
      exact nomatch some_of hf
theorem hd_X7_start : yX7_start.cls = RX7 ∧ yX7_start.cls ≠ "java/lang/invoke/MethodHandle" ∧ yX7_start.cls ≠ "java/lang/invoke/VarHandle" ∧ (parseMethodDescriptor yX7_start.desc).map (fun d => d.parameters.length) = some 1 := by decide +kernel
def fX7_start (N : Nat) (v : SX7) (x1 : Int32) : Option ((String × SX7) ⊕ (Int32 × SX7)) :=
  (fX7_checkPhase N v x1).bind fun r1 => onS r1 (fun E => some (.inl (E, v))) fun q3 =>
    (fX0_keep N v.2.1 v.1).bind fun r4 =>
      (fX1_putInto N v.1 x1).bind fun r6 =>
        some (.inr ((rowAt 8 r6.1.2.1 x1), (r6, r4, v.2.2)))
set_option maxHeartbeats 8000000 in
set_option maxRecDepth 100000 in
theorem M_X7_start (l : Launch) (D : va_G) (cy : Nat → ClassId) (N : Nat) (a : Nat → Nat) (v : SX7) (x1 : Int32) (o : Int32 × SX7) (hf : fX7_start N v x1 = some (.inr o)) : okM l yX7_start wsX7_start (rmz 5 107) D cy [.ref (a 0), .int x1] (wX7 cy a v) (wX7 cy a o.2) (some (.int o.1)) := by
  refine okM_of (own := RX7) (nme := "start") (cc := cX7_start) (maxL := 2) (ret := (some .int)) (by decide) rfl rfl rfl (Nat.le_of_ble_eq_true rfl) ?_
  intro p e s m args below meth c A F
  have i_X1 : ∀ w ∈ u_ws RX1 TX1 10, w ∈ wsX7_start := fun _ h => List.mem_cons_of_mem _ (List.mem_append_left _ (List.mem_append_left _ (List.mem_append_left _ (List.mem_append_left _ (List.mem_append_right _ h)))))
  have i_X2 : ∀ w ∈ u_ws RX2 TX2 8, w ∈ wsX7_start := fun _ h => List.mem_cons_of_mem _ (List.mem_append_left _ (List.mem_append_left _ (List.mem_append_left _ (List.mem_append_right _ h))))
  have i_X7 : ∀ w ∈ u_ws RX7 TX7 4, w ∈ wsX7_start := fun _ h => List.mem_cons_of_mem _ (List.mem_append_left _ (List.mem_append_left _ (List.mem_append_left _ (List.mem_append_left _ (List.mem_append_left _ (List.mem_append_right _ h))))))
  unfold fX7_start at hf
  refine V.eq rfl (show lv_args 0 [.ref (a 0), .int x1] = [(0, .ref (a 0)), (1, .int x1)] from rfl) rfl ?_
  refine V_aload_n (pc := 0) F dX7_start_0 rfl 0 rfl ?_
  refine V_iload_n (pc := 1) F dX7_start_1 rfl 1 rfl ?_
  obtain ⟨r1, g2, hf⟩ := bind_of hf
  rcases r1 with E | q3
  · replace hf := onS_inl hf
    exact nomatch some_of hf
  replace hf := onS_inr hf
  refine V_V (w2 := wX7 cy a v) (rest := []) (st2 := []) (pc := 2) F 7 (M_X7_checkPhase l D cy N a v x1 q3 g2) (cwV 1 F.ts gX7_start_X7_checkPhase rfl rfl rfl hd_X7_checkPhase ⟨Nat.le_of_ble_eq_true rfl, Nat.le_of_ble_eq_true rfl⟩) rfl dX7_start_2 Fit.whole rfl rfl rfl (Nat.le_of_ble_eq_true rfl) (Nat.zero_le _) (Nat.zero_le _) rfl rfl rfl ?_
  refine V_aload_n (pc := 5) F dX7_start_5 rfl 0 rfl ?_
  refine V_get (pc := 6) F 0 7 1 i_X7 rfl (by decide) rfl (mm 1 rfl) dX7_start_6 rfl rfl ?_
  refine V_aload_n (pc := 9) F dX7_start_9 rfl 0 rfl ?_
  refine V_get (pc := 10) F 0 7 0 i_X7 rfl (by decide) rfl (mm 2 rfl) dX7_start_10 rfl rfl ?_
  obtain ⟨r4, g5, hf⟩ := bind_of hf
  refine V_V2 (w2 := wX7 cy a (v.1, r4, v.2.2)) (rest := []) (st2 := []) (pc := 13) F 0 (M_X0_keep l D cy N (fun i => a (i + 38)) (fun i => a (i + 1)) v.2.1 v.1 r4 g5) (cwV 1 F.ts gX7_start_X0_keep rfl rfl rfl hd_X0_keep ⟨Nat.le_of_ble_eq_true rfl, Nat.le_of_ble_eq_true rfl⟩) rfl dX7_start_13 (Fit2.right (Fit2.swap (Fit.right (Fit.right Fit.whole)) Fit.whole)) fstX0 rfl rfl rfl (Nat.le_of_ble_eq_true rfl) (Nat.zero_le _) (Nat.zero_le _) rfl rfl rfl ?_
  refine V_aload_n (pc := 16) F dX7_start_16 rfl 0 rfl ?_
  refine V_get (pc := 17) F 0 7 0 i_X7 rfl (by decide) rfl (mm 2 rfl) dX7_start_17 rfl rfl ?_
  refine V_iload_n (pc := 20) F dX7_start_20 rfl 1 rfl ?_
  obtain ⟨r6, g7, hf⟩ := bind_of hf
  refine V_V (w2 := wX7 cy a (r6, r4, v.2.2)) (rest := []) (st2 := []) (pc := 21) F 1 (M_X1_putInto l D cy N (fun i => a (i + 1)) v.1 x1 r6 g7) (cwV 1 F.ts gX7_start_X1_putInto rfl rfl rfl hd_X1_putInto ⟨Nat.le_of_ble_eq_true rfl, Nat.le_of_ble_eq_true rfl⟩) rfl dX7_start_21 (Fit.right (Fit.left Fit.whole)) fstX1 rfl rfl (Nat.le_of_ble_eq_true rfl) (Nat.zero_le _) (Nat.zero_le _) rfl rfl rfl ?_
  refine V_aload_n (pc := 24) F dX7_start_24 rfl 0 rfl ?_
  refine V_get (pc := 25) F 0 7 0 i_X7 rfl (by decide) rfl (mm 2 rfl) dX7_start_25 rfl rfl ?_
  refine V_get (pc := 28) F 1 1 0 i_X1 rfl (by decide) rfl (mm 3 rfl) dX7_start_28 rfl rfl ?_
  refine V_get (pc := 31) F 2 2 1 i_X2 rfl (by decide) rfl (mm 4 rfl) dX7_start_31 rfl rfl ?_
  refine V_iload_n (pc := 34) F dX7_start_34 rfl 1 rfl ?_
  refine V_V (w2 := wX7 cy a (r6, r4, v.2.2)) (rest := []) (st2 := [.int (rowAt 8 r6.1.2.1 x1)]) (pc := 35) F 5 (R_at l D cy (fun i => a (i + 5)) 8 r6.1.2.1 x1 (by decide)) (cwV 1 F.ts gX7_start_X5_at rfl rfl rfl hd_X5_at ⟨Nat.le_of_ble_eq_true rfl, Nat.le_of_ble_eq_true rfl⟩) rfl dX7_start_35 (Fit.right (Fit.left (Fit.right (Fit.left (Fit.right (Fit.right (Fit.left Fit.whole))))))) rfl rfl rfl (Nat.le_of_ble_eq_true rfl) (Nat.zero_le _) (Nat.zero_le _) rfl rfl rfl ?_
  obtain rfl := Sum.inr.inj (some_of hf)
  exact V_ret F rfl rfl dX7_start_38 rfl rfl
theorem hd_X7_undo : yX7_undo.cls = RX7 ∧ yX7_undo.cls ≠ "java/lang/invoke/MethodHandle" ∧ yX7_undo.cls ≠ "java/lang/invoke/VarHandle" ∧ (parseMethodDescriptor yX7_undo.desc).map (fun d => d.parameters.length) = some 0 := by decide +kernel
def fX7_undo (N : Nat) (v : SX7) : Option ((String × SX7) ⊕ (Int32 × SX7)) :=
  if v.2.1.2.2 = 0 then
    some (.inl ("java/lang/IllegalStateException", v))
  else
    (fX0_restore N v.2.1 v.1).bind fun r2 =>
      some (.inr (r2.1.2.2, (r2.2, r2.1, v.2.2)))
set_option maxHeartbeats 8000000 in
set_option maxRecDepth 100000 in
theorem M_X7_undo (l : Launch) (D : va_G) (cy : Nat → ClassId) (N : Nat) (a : Nat → Nat) (v : SX7) (o : Int32 × SX7) (hf : fX7_undo N v = some (.inr o)) : okM l yX7_undo wsX7_undo (rmz 5 107) D cy [.ref (a 0)] (wX7 cy a v) (wX7 cy a o.2) (some (.int o.1)) := by
  refine okM_of (own := RX7) (nme := "undo") (cc := cX7_undo) (maxL := 1) (ret := (some .int)) (by decide) rfl rfl rfl (Nat.le_of_ble_eq_true rfl) ?_
  intro p e s m args below meth c A F
  have i_X0 : ∀ w ∈ u_ws RX0 TX0 3, w ∈ wsX7_undo := fun _ h => List.mem_cons_of_mem _ (List.mem_append_left _ (List.mem_append_left _ (List.mem_append_left _ (List.mem_append_left _ (List.mem_append_right _ h)))))
  have i_X7 : ∀ w ∈ u_ws RX7 TX7 4, w ∈ wsX7_undo := fun _ h => List.mem_cons_of_mem _ (List.mem_append_left _ (List.mem_append_left _ (List.mem_append_left _ (List.mem_append_left _ (List.mem_append_left _ (List.mem_append_right _ h))))))
  unfold fX7_undo at hf
  refine V.eq rfl (show lv_args 0 [.ref (a 0)] = [(0, .ref (a 0))] from rfl) rfl ?_
  refine V_aload_n (pc := 0) F dX7_undo_0 rfl 0 rfl ?_
  refine V_get (pc := 1) F 0 7 1 i_X7 rfl (by decide) rfl (mm 3 rfl) dX7_undo_1 rfl rfl ?_
  refine V_get (pc := 4) F 38 0 2 i_X0 rfl (by decide) rfl (mm 4 rfl) dX7_undo_4 rfl rfl ?_
  refine V_if_ne (pc := 7) (tgt := 20) F dX7_undo_7 (by decide) (fun h1 => ?_) (fun h1 => ?_)
  · replace hf := ite_neg hf h1
    refine V_aload_n (pc := 20) F dX7_undo_20 rfl 0 rfl ?_
    refine V_get (pc := 21) F 0 7 1 i_X7 rfl (by decide) rfl (mm 3 rfl) dX7_undo_21 rfl rfl ?_
    refine V_aload_n (pc := 24) F dX7_undo_24 rfl 0 rfl ?_
    refine V_get (pc := 25) F 0 7 0 i_X7 rfl (by decide) rfl (mm 5 rfl) dX7_undo_25 rfl rfl ?_
    obtain ⟨r2, g3, hf⟩ := bind_of hf
    refine V_V2 (w2 := wX7 cy a (r2.2, r2.1, v.2.2)) (rest := []) (st2 := []) (pc := 28) F 0 (M_X0_restore l D cy N (fun i => a (i + 38)) (fun i => a (i + 1)) v.2.1 v.1 r2 g3) (cwV 1 F.ts gX7_undo_X0_restore rfl rfl rfl hd_X0_restore ⟨Nat.le_of_ble_eq_true rfl, Nat.le_of_ble_eq_true rfl⟩) rfl dX7_undo_28 (Fit2.right (Fit2.swap (Fit.right (Fit.right Fit.whole)) Fit.whole)) fstX0 fstX1 rfl rfl (Nat.le_of_ble_eq_true rfl) (Nat.zero_le _) (Nat.zero_le _) rfl rfl rfl ?_
    refine V_aload_n (pc := 31) F dX7_undo_31 rfl 0 rfl ?_
    refine V_get (pc := 32) F 0 7 1 i_X7 rfl (by decide) rfl (mm 3 rfl) dX7_undo_32 rfl rfl ?_
    refine V_get (pc := 35) F 38 0 2 i_X0 rfl (by decide) rfl (mm 4 rfl) dX7_undo_35 rfl rfl ?_
    obtain rfl := Sum.inr.inj (some_of hf)
    exact V_ret F rfl rfl dX7_undo_38 rfl rfl
  · replace hf := ite_pos hf h1
    exact nomatch some_of hf
