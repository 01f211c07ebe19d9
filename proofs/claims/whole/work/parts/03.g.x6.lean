theorem hd_X6_add : yX6_add.cls = RX6 ∧ yX6_add.cls ≠ "java/lang/invoke/MethodHandle" ∧ yX6_add.cls ≠ "java/lang/invoke/VarHandle" ∧ (parseMethodDescriptor yX6_add.desc).map (fun d => d.parameters.length) = some 1 := by decide +kernel
def fX6_add (N : Nat) (v : SX6) (x1 : Int32) : Option (SX6) :=
  some ((rowPut 60 v.1 v.2.2 x1), v.2.1, (v.2.2 + 1))
set_option maxHeartbeats 8000000 in
set_option maxRecDepth 100000 in
theorem M_X6_add (l : Launch) (D : va_G) (cy : Nat → ClassId) (N : Nat) (a : Nat → Nat) (v : SX6) (x1 : Int32) (o : SX6) (hf : fX6_add N v x1 = some o) : okM l yX6_add wsX6_add (rmz 1 22) D cy [.ref (a 0), .int x1] (wX6 cy a v) (wX6 cy a o) none := by
  refine okM_of (own := RX6) (nme := "add") (cc := cX6_add) (maxL := 2) (ret := none) (by decide) rfl rfl rfl (Nat.le_of_ble_eq_true rfl) ?_
  intro p e s m args below meth c A F
  have i_X6 : ∀ w ∈ u_ws RX6 TX6 3, w ∈ wsX6_add := fun _ h => List.mem_cons_of_mem _ (List.mem_append_left _ (List.mem_append_right _ h))
  unfold fX6_add at hf
  refine V.eq rfl (show lv_args 0 [.ref (a 0), .int x1] = [(0, .ref (a 0)), (1, .int x1)] from rfl) rfl ?_
  refine V_aload_n (pc := 0) F dX6_add_0 rfl 0 rfl ?_
  refine V_get (pc := 1) F 0 6 0 i_X6 rfl (by decide) rfl (mm 1 rfl) dX6_add_1 rfl rfl ?_
  refine V_aload_n (pc := 4) F dX6_add_4 rfl 0 rfl ?_
  refine V_get (pc := 5) F 0 6 2 i_X6 rfl (by decide) rfl (mm 2 rfl) dX6_add_5 rfl rfl ?_
  refine V_iload_n (pc := 8) F dX6_add_8 rfl 1 rfl ?_
  refine V_V (w2 := wX6 cy a ((rowPut 60 v.1 v.2.2 x1), v.2)) (rest := []) (st2 := []) (pc := 9) F 5 (R_put l D cy (fun i => a (i + 1)) 60 v.1 v.2.2 x1 (by decide)) (cwV 2 F.ts gX6_add_X5_put rfl rfl rfl hd_X5_put ⟨Nat.le_of_ble_eq_true rfl, Nat.le_of_ble_eq_true rfl⟩) rfl dX6_add_9 (Fit.right (Fit.left Fit.whole)) fstX5 rfl rfl (Nat.le_of_ble_eq_true rfl) (Nat.zero_le _) (Nat.zero_le _) rfl rfl rfl ?_
  refine V_aload_n (pc := 12) F dX6_add_12 rfl 0 rfl ?_
  refine V_dup (pc := 13) F dX6_add_13 rfl ?_
  refine V_get (pc := 14) F 0 6 2 i_X6 rfl (by decide) rfl (mm 2 rfl) dX6_add_14 rfl rfl ?_
  refine V_iconst (v := 1) (pc := 17) F dX6_add_17 (by decide) ?_
  refine V_iadd (pc := 18) F dX6_add_18 ?_
  refine V_put (w2 := wX6 cy a ((rowPut 60 v.1 v.2.2 x1), v.2.1, (v.2.2 + 1))) (pc := 19) F 0 6 2 i_X6 tyX6 tyX6_ok nmX6 rfl (by decide) rfl (mm 2 rfl) rfl dX6_add_19 rfl rfl rfl (Nat.le_of_ble_eq_true rfl) rfl ?_
  obtain rfl := some_of hf
  exact V_vret F rfl dX6_add_22 rfl
theorem hd_X6_empty : yX6_empty.cls = RX6 ∧ yX6_empty.cls ≠ "java/lang/invoke/MethodHandle" ∧ yX6_empty.cls ≠ "java/lang/invoke/VarHandle" ∧ (parseMethodDescriptor yX6_empty.desc).map (fun d => d.parameters.length) = some 0 := by decide +kernel
def fX6_empty (N : Nat) (v : SX6) : Option (Int32 × SX6) :=
  some (v.2.2, (v.1, v.2.1, 0))
set_option maxHeartbeats 8000000 in
set_option maxRecDepth 100000 in
theorem M_X6_empty (l : Launch) (D : va_G) (cy : Nat → ClassId) (N : Nat) (a : Nat → Nat) (v : SX6) (o : Int32 × SX6) (hf : fX6_empty N v = some o) : okM l yX6_empty wsX6_empty (rmz 0 0) D cy [.ref (a 0)] (wX6 cy a v) (wX6 cy a o.2) (some (.int o.1)) := by
  refine okM_of (own := RX6) (nme := "empty") (cc := cX6_empty) (maxL := 2) (ret := (some .int)) (by decide) rfl rfl rfl (Nat.le_of_ble_eq_true rfl) ?_
  intro p e s m args below meth c A F
  have i_X6 : ∀ w ∈ u_ws RX6 TX6 3, w ∈ wsX6_empty := fun _ h => List.mem_cons_of_mem _ (List.mem_append_right _ h)
  unfold fX6_empty at hf
  refine V.eq rfl (show lv_args 0 [.ref (a 0)] = [(0, .ref (a 0))] from rfl) rfl ?_
  refine V_aload_n (pc := 0) F dX6_empty_0 rfl 0 rfl ?_
  refine V_get (pc := 1) F 0 6 2 i_X6 rfl (by decide) rfl (mm 1 rfl) dX6_empty_1 rfl rfl ?_
  refine V_istore_n (L2 := [(1, .int v.2.2), (0, .ref (a 0))]) (pc := 4) F dX6_empty_4 rfl (by decide) rfl ?_
  refine V_aload_n (pc := 5) F dX6_empty_5 rfl 1 rfl ?_
  refine V_iconst (v := 0) (pc := 6) F dX6_empty_6 (by decide) ?_
  refine V_put (w2 := wX6 cy a (v.1, v.2.1, 0)) (pc := 7) F 0 6 2 i_X6 tyX6 tyX6_ok nmX6 rfl (by decide) rfl (mm 1 rfl) rfl dX6_empty_7 rfl rfl rfl (Nat.le_of_ble_eq_true rfl) rfl ?_
  refine V_iload_n (pc := 10) F dX6_empty_10 rfl 0 rfl ?_
  obtain rfl := some_of hf
  exact V_ret F rfl rfl dX6_empty_11 rfl rfl
theorem hd_X6_errorPlace : yX6_errorPlace.cls = RX6 ∧ yX6_errorPlace.cls ≠ "java/lang/invoke/MethodHandle" ∧ yX6_errorPlace.cls ≠ "java/lang/invoke/VarHandle" ∧ (parseMethodDescriptor yX6_errorPlace.desc).map (fun d => d.parameters.length) = some 0 := by decide +kernel
def fX6_errorPlace_L9 (N : Nat)  : Nat → SX6 → Int32 → Option ((Int32 × SX6) ⊕ (SX6))
  | 0, _, _ => none
  | n + 1, v, z1 =>
    if v.2.2 ≤ z1 then
      some (.inr v)
    else
      (fX4_take N v.2.1 (rowAt 60 v.1 z1)).bind fun r4 =>
        if r4.1 = 0 then
          some (.inl (z1, (v.1, r4.2, v.2.2)))
        else
          fX6_errorPlace_L9 N n (v.1, r4.2, v.2.2) (z1 + 1)
def fX6_errorPlace (N : Nat) (v : SX6) : Option (Int32 × SX6) :=
  (fX4_begin N v.2.1).bind fun r1 =>
    (fX6_errorPlace_L9 N N (v.1, r1, v.2.2) 0).bind fun u7 => onS u7 (fun r => some r) fun q9 =>
      some (q9.2.2, q9)
set_option maxHeartbeats 8000000 in
set_option maxRecDepth 100000 in
theorem M_X6_errorPlace (l : Launch) (D : va_G) (cy : Nat → ClassId) (N : Nat) (a : Nat → Nat) (v : SX6) (o : Int32 × SX6) (hf : fX6_errorPlace N v = some o) : okM l yX6_errorPlace wsX6_errorPlace (rmz 2 46) D cy [.ref (a 0)] (wX6 cy a v) (wX6 cy a o.2) (some (.int o.1)) := by
  refine okM_of (own := RX6) (nme := "errorPlace") (cc := cX6_errorPlace) (maxL := 2) (ret := (some .int)) (by decide) rfl rfl rfl (Nat.le_of_ble_eq_true rfl) ?_
  intro p e s m args below meth c A F
  have i_X6 : ∀ w ∈ u_ws RX6 TX6 3, w ∈ wsX6_errorPlace := fun _ h => List.mem_cons_of_mem _ (List.mem_append_left _ (List.mem_append_left _ (List.mem_append_right _ h)))
  have K9 : ∀ (n : Nat) (v : SX6) (z1 : Int32) (u : (Int32 × SX6) ⊕ (SX6)), fX6_errorPlace_L9 N n v z1 = some u → (∀ r, u = .inl r → r = o) → (∀ q, u = .inr q → V p l e (rmz 2 46) s m args below meth c 2 D A 0 0 (MQ below (ok_Q D (wX6 cy a o.2) (some (.int o.1)) A) args s 0 0 A) (wX6 cy a q) [(0, .ref (a 0))] [] 43) → V p l e (rmz 2 46) s m args below meth c 2 D A 0 0 (MQ below (ok_Q D (wX6 cy a o.2) (some (.int o.1)) A) args s 0 0 A) (wX6 cy a v) [(0, .ref (a 0)), (1, .int z1)] [] 9 := by
    intro n
    induction n with
    | zero =>
      intro v z1 u hf hr hk
      exact nomatch (show (none : Option ((Int32 × SX6) ⊕ (SX6))) = some u from hf)
    | succ n ih =>
      intro v z1 u hf hr hk
      rw [fX6_errorPlace_L9] at hf
      refine V_iload_n (pc := 9) F dX6_errorPlace_9 rfl 1 rfl ?_
      refine V_aload_n (pc := 10) F dX6_errorPlace_10 rfl 0 rfl ?_
      refine V_get (pc := 11) F 0 6 2 i_X6 rfl (by decide) rfl (mm 2 rfl) dX6_errorPlace_11 rfl rfl ?_
      refine V_icmp_ge (pc := 14) (tgt := 43) F dX6_errorPlace_14 (by decide) (fun h3 => ?_) (fun h3 => ?_)
      · replace hf := ite_pos hf h3
        exact V.sub [0] rfl (hk _ (some_of hf).symm)
      · replace hf := ite_neg hf h3
        refine V_aload_n (pc := 17) F dX6_errorPlace_17 rfl 0 rfl ?_
        refine V_get (pc := 18) F 0 6 1 i_X6 rfl (by decide) rfl (mm 1 rfl) dX6_errorPlace_18 rfl rfl ?_
        refine V_aload_n (pc := 21) F dX6_errorPlace_21 rfl 0 rfl ?_
        refine V_get (pc := 22) F 0 6 0 i_X6 rfl (by decide) rfl (mm 3 rfl) dX6_errorPlace_22 rfl rfl ?_
        refine V_iload_n (pc := 25) F dX6_errorPlace_25 rfl 1 rfl ?_
        refine V_V (w2 := wX6 cy a v) (rest := [.ref (a 3)]) (st2 := [.int (rowAt 60 v.1 z1), .ref (a 3)]) (pc := 26) F 5 (R_at l D cy (fun i => a (i + 1)) 60 v.1 z1 (by decide)) (cwV 1 F.ts gX6_errorPlace_X5_at rfl rfl rfl hd_X5_at ⟨Nat.le_of_ble_eq_true rfl, Nat.le_of_ble_eq_true rfl⟩) rfl dX6_errorPlace_26 (Fit.right (Fit.left Fit.whole)) rfl rfl rfl (Nat.le_of_ble_eq_true rfl) (Nat.zero_le _) (Nat.zero_le _) rfl rfl rfl ?_
        obtain ⟨r4, g5, hf⟩ := bind_of hf
        refine V_V (w2 := wX6 cy a (v.1, r4.2, v.2.2)) (rest := []) (st2 := [.int r4.1]) (pc := 29) F 4 (M_X4_take l D cy N (fun i => a (i + 3)) v.2.1 (rowAt 60 v.1 z1) r4 g5) (cwV 1 F.ts gX6_errorPlace_X4_take rfl rfl rfl hd_X4_take ⟨Nat.le_of_ble_eq_true rfl, Nat.le_of_ble_eq_true rfl⟩) rfl dX6_errorPlace_29 (Fit.right (Fit.right Fit.whole)) fstX4 rfl rfl (Nat.le_of_ble_eq_true rfl) (Nat.zero_le _) (Nat.zero_le _) rfl rfl rfl ?_
        refine V_if_ne (pc := 32) (tgt := 37) F dX6_errorPlace_32 (by decide) (fun h6 => ?_) (fun h6 => ?_)
        · replace hf := ite_neg hf h6
          refine V_iinc (v := (z1 + 1)) (L2 := [(1, .int (z1 + 1)), (0, .ref (a 0))]) (pc := 37) F dX6_errorPlace_37 1 rfl rfl (by decide) rfl ?_
          refine V_goto (pc := 40) (tgt := 9) F dX6_errorPlace_40 (by decide) ?_
          refine V.sub [1, 0] rfl ?_
          exact ih (v.1, r4.2, v.2.2) (z1 + 1) _ hf hr hk
        · replace hf := ite_pos hf h6
          refine V_iload_n (pc := 35) F dX6_errorPlace_35 rfl 1 rfl ?_
          obtain rfl := hr _ (some_of hf).symm
          exact V_ret F rfl rfl dX6_errorPlace_36 rfl rfl
  unfold fX6_errorPlace at hf
  refine V.eq rfl (show lv_args 0 [.ref (a 0)] = [(0, .ref (a 0))] from rfl) rfl ?_
  refine V_aload_n (pc := 0) F dX6_errorPlace_0 rfl 0 rfl ?_
  refine V_get (pc := 1) F 0 6 1 i_X6 rfl (by decide) rfl (mm 1 rfl) dX6_errorPlace_1 rfl rfl ?_
  obtain ⟨r1, g2, hf⟩ := bind_of hf
  refine V_V (w2 := wX6 cy a (v.1, r1, v.2.2)) (rest := []) (st2 := []) (pc := 4) F 4 (M_X4_begin l D cy N (fun i => a (i + 3)) v.2.1 r1 g2) (cwV 0 F.ts gX6_errorPlace_X4_begin rfl rfl rfl hd_X4_begin ⟨Nat.le_of_ble_eq_true rfl, Nat.le_of_ble_eq_true rfl⟩) rfl dX6_errorPlace_4 (Fit.right (Fit.right Fit.whole)) fstX4 rfl rfl (Nat.le_of_ble_eq_true rfl) (Nat.zero_le _) (Nat.zero_le _) rfl rfl rfl ?_
  refine V_iconst (v := 0) (pc := 7) F dX6_errorPlace_7 (by decide) ?_
  refine V_istore_n (L2 := [(1, .int 0), (0, .ref (a 0))]) (pc := 8) F dX6_errorPlace_8 rfl (by decide) rfl ?_
  refine V.sub [1, 0] rfl ?_
  obtain ⟨u7, g8, hf⟩ := bind_of hf
  refine K9 N (v.1, r1, v.2.2) 0 u7 g8 (fun r h10 => ?_) (fun q9 h10 => ?_)
  · subst h10
    replace hf := onS_inl hf
    exact some_of hf
  · subst h10
    replace hf := onS_inr hf
    refine V_aload_n (pc := 43) F dX6_errorPlace_43 rfl 0 rfl ?_
    refine V_get (pc := 44) F 0 6 2 i_X6 rfl (by decide) rfl (mm 2 rfl) dX6_errorPlace_44 rfl rfl ?_
    obtain rfl := some_of hf
    exact V_ret F rfl rfl dX6_errorPlace_47 rfl rfl
theorem hd_X6_isComplete : yX6_isComplete.cls = RX6 ∧ yX6_isComplete.cls ≠ "java/lang/invoke/MethodHandle" ∧ yX6_isComplete.cls ≠ "java/lang/invoke/VarHandle" ∧ (parseMethodDescriptor yX6_isComplete.desc).map (fun d => d.parameters.length) = some 0 := by decide +kernel
def fX6_isComplete (N : Nat) (v : SX6) : Option (Int32 × SX6) :=
  (fX6_errorPlace N v).bind fun r1 =>
    if r1.1 = r1.2.2.2 then
      (fX4_canEnd N r1.2.2.1).bind fun r4 =>
        if r4 = 0 then
          some (0, r1.2)
        else
          some (1, r1.2)
    else
      some (0, r1.2)
set_option maxHeartbeats 8000000 in
set_option maxRecDepth 100000 in
theorem M_X6_isComplete (l : Launch) (D : va_G) (cy : Nat → ClassId) (N : Nat) (a : Nat → Nat) (v : SX6) (o : Int32 × SX6) (hf : fX6_isComplete N v = some o) : okM l yX6_isComplete wsX6_isComplete (rmz 3 67) D cy [.ref (a 0)] (wX6 cy a v) (wX6 cy a o.2) (some (.int o.1)) := by
  refine okM_of (own := RX6) (nme := "isComplete") (cc := cX6_isComplete) (maxL := 1) (ret := (some .boolean)) (by decide) rfl rfl rfl (Nat.le_of_ble_eq_true rfl) ?_
  intro p e s m args below meth c A F
  have i_X6 : ∀ w ∈ u_ws RX6 TX6 3, w ∈ wsX6_isComplete := fun _ h => List.mem_cons_of_mem _ (List.mem_append_left _ (List.mem_append_left _ (List.mem_append_right _ h)))
  unfold fX6_isComplete at hf
  refine V.eq rfl (show lv_args 0 [.ref (a 0)] = [(0, .ref (a 0))] from rfl) rfl ?_
  refine V_aload_n (pc := 0) F dX6_isComplete_0 rfl 0 rfl ?_
  obtain ⟨r1, g2, hf⟩ := bind_of hf
  refine V_V (w2 := wX6 cy a r1.2) (rest := []) (st2 := [.int r1.1]) (pc := 1) F 6 (M_X6_errorPlace l D cy N a v r1 g2) (cwV 0 F.ts gX6_isComplete_X6_errorPlace rfl rfl rfl hd_X6_errorPlace ⟨Nat.le_of_ble_eq_true rfl, Nat.le_of_ble_eq_true rfl⟩) rfl dX6_isComplete_1 Fit.whole fstX6 rfl rfl (Nat.le_of_ble_eq_true rfl) (Nat.zero_le _) (Nat.zero_le _) rfl rfl rfl ?_
  refine V_aload_n (pc := 4) F dX6_isComplete_4 rfl 0 rfl ?_
  refine V_get (pc := 5) F 0 6 2 i_X6 rfl (by decide) rfl (mm 1 rfl) dX6_isComplete_5 rfl rfl ?_
  refine V_icmp_ne (pc := 8) (tgt := 25) F dX6_isComplete_8 (by decide) (fun h3 => ?_) (fun h3 => ?_)
  · replace hf := ite_neg hf h3
    refine V_iconst (v := 0) (pc := 25) F dX6_isComplete_25 (by decide) ?_
    obtain rfl := some_of hf
    exact V_ret F rfl rfl dX6_isComplete_26 rfl rfl
  · replace hf := ite_pos hf h3
    refine V_aload_n (pc := 11) F dX6_isComplete_11 rfl 0 rfl ?_
    refine V_get (pc := 12) F 0 6 1 i_X6 rfl (by decide) rfl (mm 2 rfl) dX6_isComplete_12 rfl rfl ?_
    obtain ⟨r4, g5, hf⟩ := bind_of hf
    refine V_V (w2 := wX6 cy a r1.2) (rest := []) (st2 := [.int r4]) (pc := 15) F 4 (M_X4_canEnd l D cy N (fun i => a (i + 3)) r1.2.2.1 r4 g5) (cwV 0 F.ts gX6_isComplete_X4_canEnd rfl rfl rfl hd_X4_canEnd ⟨Nat.le_of_ble_eq_true rfl, Nat.le_of_ble_eq_true rfl⟩) rfl dX6_isComplete_15 (Fit.right (Fit.right Fit.whole)) rfl rfl rfl (Nat.le_of_ble_eq_true rfl) (Nat.zero_le _) (Nat.zero_le _) rfl rfl rfl ?_
    refine V_if_eq (pc := 18) (tgt := 25) F dX6_isComplete_18 (by decide) (fun h6 => ?_) (fun h6 => ?_)
    · replace hf := ite_pos hf h6
      refine V_iconst (v := 0) (pc := 25) F dX6_isComplete_25 (by decide) ?_
      obtain rfl := some_of hf
      exact V_ret F rfl rfl dX6_isComplete_26 rfl rfl
    · replace hf := ite_neg hf h6
      refine V_iconst (v := 1) (pc := 21) F dX6_isComplete_21 (by decide) ?_
      refine V_goto (pc := 22) (tgt := 26) F dX6_isComplete_22 (by decide) ?_
      obtain rfl := some_of hf
      exact V_ret F rfl rfl dX6_isComplete_26 rfl rfl
theorem hd_X6_doOrders : yX6_doOrders.cls = RX6 ∧ yX6_doOrders.cls ≠ "java/lang/invoke/MethodHandle" ∧ yX6_doOrders.cls ≠ "java/lang/invoke/VarHandle" ∧ (parseMethodDescriptor yX6_doOrders.desc).map (fun d => d.parameters.length) = some 1 := by decide +kernel
def fX6_doOrders_L11 (N : Nat)  : Nat → SX6 → SX2 → Int32 → Int32 → Option ((Int32 × SX6 × SX2) ⊕ (SX6 × SX2 × Int32))
  | 0, _, _, _, _ => none
  | n + 1, v, v1, z2, z3 =>
    if v.2.2 ≤ z3 then
      some (.inr (v, v1, z2))
    else
      if (rowAt 60 v.1 z3) = 59 then
        (fX4_doOrder N v.2.1 v1).bind fun r7 =>
          if r7.1 = 0 then
            some (.inl (z2, v, r7.2))
          else
            (fX4_take N v.2.1 (rowAt 60 v.1 z3)).bind fun r10 =>
              fX6_doOrders_L11 N n (v.1, r10.2, v.2.2) r7.2 (z2 + 1) (z3 + 1)
      else
        (fX4_take N v.2.1 (rowAt 60 v.1 z3)).bind fun r5 =>
          fX6_doOrders_L11 N n (v.1, r5.2, v.2.2) v1 z2 (z3 + 1)
def fX6_doOrders (N : Nat) (v : SX6) (v1 : SX2) : Option (Int32 × SX6 × SX2) :=
  (fX4_begin N v.2.1).bind fun r1 =>
    (fX6_doOrders_L11 N N (v.1, r1, v.2.2) v1 0 0).bind fun u12 => onS u12 (fun r => some r) fun q14 =>
      (fX4_doOrder N q14.1.2.1 q14.2.1).bind fun r16 =>
        if r16.1 = 0 then
          some (q14.2.2, q14.1, r16.2)
        else
          some ((q14.2.2 + 1), q14.1, r16.2)
set_option maxHeartbeats 8000000 in
set_option maxRecDepth 100000 in
theorem M_X6_doOrders (l : Launch) (D : va_G) (cy : Nat → ClassId) (N : Nat) (a : Nat → Nat) (a1 : Nat → Nat) (v : SX6) (v1 : SX2) (o : Int32 × SX6 × SX2) (hf : fX6_doOrders N v v1 = some o) : okM l yX6_doOrders wsX6_doOrders (rmz 3 68) D cy [.ref (a 0), .ref (a1 0)] (wX6 cy a v ++ wX2 cy a1 v1) (wX6 cy a o.2.1 ++ wX2 cy a1 o.2.2) (some (.int o.1)) := by
  refine okM_of (own := RX6) (nme := "doOrders") (cc := cX6_doOrders) (maxL := 5) (ret := (some .int)) (by decide) rfl rfl rfl (Nat.le_of_ble_eq_true rfl) ?_
  intro p e s m args below meth c A F
  have i_X6 : ∀ w ∈ u_ws RX6 TX6 3, w ∈ wsX6_doOrders := fun _ h => List.mem_cons_of_mem _ (List.mem_append_left _ (List.mem_append_left _ (List.mem_append_left _ (List.mem_append_right _ h))))
  have K11 : ∀ (n : Nat) (v : SX6) (v1 : SX2) (z2 : Int32) (z3 : Int32) (u : (Int32 × SX6 × SX2) ⊕ (SX6 × SX2 × Int32)), fX6_doOrders_L11 N n v v1 z2 z3 = some u → (∀ r, u = .inl r → r = o) → (∀ q, u = .inr q → V p l e (rmz 3 68) s m args below meth c 5 D A 0 0 (MQ below (ok_Q D (wX6 cy a o.2.1 ++ wX2 cy a1 o.2.2) (some (.int o.1)) A) args s 0 0 A) (wX6 cy a q.1 ++ wX2 cy a1 q.2.1) [(0, .ref (a 0)), (1, .ref (a1 0)), (2, .int q.2.2)] [] 68) → V p l e (rmz 3 68) s m args below meth c 5 D A 0 0 (MQ below (ok_Q D (wX6 cy a o.2.1 ++ wX2 cy a1 o.2.2) (some (.int o.1)) A) args s 0 0 A) (wX6 cy a v ++ wX2 cy a1 v1) [(0, .ref (a 0)), (1, .ref (a1 0)), (2, .int z2), (3, .int z3)] [] 11 := by
    intro n
    induction n with
    | zero =>
      intro v v1 z2 z3 u hf hr hk
      exact nomatch (show (none : Option ((Int32 × SX6 × SX2) ⊕ (SX6 × SX2 × Int32))) = some u from hf)
    | succ n ih =>
      intro v v1 z2 z3 u hf hr hk
      rw [fX6_doOrders_L11] at hf
      refine V_iload_n (pc := 11) F dX6_doOrders_11 rfl 3 rfl ?_
      refine V_aload_n (pc := 12) F dX6_doOrders_12 rfl 0 rfl ?_
      refine V_get (pc := 13) F 0 6 2 i_X6 rfl (by decide) rfl (mm 2 rfl) dX6_doOrders_13 rfl rfl ?_
      refine V_icmp_ge (pc := 16) (tgt := 68) F dX6_doOrders_16 (by decide) (fun h3 => ?_) (fun h3 => ?_)
      · replace hf := ite_pos hf h3
        exact V.sub [0, 1, 2] rfl (hk _ (some_of hf).symm)
      · replace hf := ite_neg hf h3
        refine V_aload_n (pc := 19) F dX6_doOrders_19 rfl 0 rfl ?_
        refine V_get (pc := 20) F 0 6 0 i_X6 rfl (by decide) rfl (mm 3 rfl) dX6_doOrders_20 rfl rfl ?_
        refine V_iload_n (pc := 23) F dX6_doOrders_23 rfl 3 rfl ?_
        refine V_V (w2 := wX6 cy a v ++ wX2 cy a1 v1) (rest := []) (st2 := [.int (rowAt 60 v.1 z3)]) (pc := 24) F 5 (R_at l D cy (fun i => a (i + 1)) 60 v.1 z3 (by decide)) (cwV 1 F.ts gX6_doOrders_X5_at rfl rfl rfl hd_X5_at ⟨Nat.le_of_ble_eq_true rfl, Nat.le_of_ble_eq_true rfl⟩) rfl dX6_doOrders_24 (Fit.left (Fit.right (Fit.left Fit.whole))) rfl rfl rfl (Nat.le_of_ble_eq_true rfl) (Nat.zero_le _) (Nat.zero_le _) rfl rfl rfl ?_
        refine V_istore (L2 := [(4, .int (rowAt 60 v.1 z3)), (0, .ref (a 0)), (1, .ref (a1 0)), (2, .int z2), (3, .int z3)]) (pc := 27) F dX6_doOrders_27 (by decide) rfl ?_
        refine V_iload (pc := 29) F dX6_doOrders_29 0 rfl ?_
        refine V_bipush (v := 59) (pc := 31) F dX6_doOrders_31 (by decide) ?_
        refine V_icmp_ne (pc := 33) (tgt := 52) F dX6_doOrders_33 (by decide) (fun h4 => ?_) (fun h4 => ?_)
        · replace hf := ite_neg hf h4
          refine V_aload_n (pc := 52) F dX6_doOrders_52 rfl 1 rfl ?_
          refine V_get (pc := 53) F 0 6 1 i_X6 rfl (by decide) rfl (mm 1 rfl) dX6_doOrders_53 rfl rfl ?_
          refine V_iload (pc := 56) F dX6_doOrders_56 0 rfl ?_
          obtain ⟨r5, g6, hf⟩ := bind_of hf
          refine V_V (w2 := wX6 cy a (v.1, r5.2, v.2.2) ++ wX2 cy a1 v1) (rest := []) (st2 := [.int r5.1]) (pc := 58) F 4 (M_X4_take l D cy N (fun i => a (i + 3)) v.2.1 (rowAt 60 v.1 z3) r5 g6) (cwV 1 F.ts gX6_doOrders_X4_take rfl rfl rfl hd_X4_take ⟨Nat.le_of_ble_eq_true rfl, Nat.le_of_ble_eq_true rfl⟩) rfl dX6_doOrders_58 (Fit.left (Fit.right (Fit.right Fit.whole))) fstX4 rfl rfl (Nat.le_of_ble_eq_true rfl) (Nat.zero_le _) (Nat.zero_le _) rfl rfl rfl ?_
          refine V_pop (pc := 61) F dX6_doOrders_61 rfl ?_
          refine V_iinc (v := (z3 + 1)) (L2 := [(3, .int (z3 + 1)), (4, .int (rowAt 60 v.1 z3)), (0, .ref (a 0)), (1, .ref (a1 0)), (2, .int z2)]) (pc := 62) F dX6_doOrders_62 4 rfl rfl (by decide) rfl ?_
          refine V_goto (pc := 65) (tgt := 11) F dX6_doOrders_65 (by decide) ?_
          refine V.sub [2, 3, 4, 0] rfl ?_
          exact ih (v.1, r5.2, v.2.2) v1 z2 (z3 + 1) _ hf hr hk
        · replace hf := ite_pos hf h4
          refine V_aload_n (pc := 36) F dX6_doOrders_36 rfl 1 rfl ?_
          refine V_get (pc := 37) F 0 6 1 i_X6 rfl (by decide) rfl (mm 1 rfl) dX6_doOrders_37 rfl rfl ?_
          refine V_aload_n (pc := 40) F dX6_doOrders_40 rfl 2 rfl ?_
          obtain ⟨r7, g8, hf⟩ := bind_of hf
          refine V_V2 (w2 := wX6 cy a v ++ wX2 cy a1 r7.2) (rest := []) (st2 := [.int r7.1]) (pc := 41) F 4 (M_X4_doOrder l D cy N (fun i => a (i + 3)) a1 v.2.1 v1 r7 g8) (cwV 1 F.ts gX6_doOrders_X4_doOrder rfl rfl rfl hd_X4_doOrder ⟨Nat.le_of_ble_eq_true rfl, Nat.le_of_ble_eq_true rfl⟩) rfl dX6_doOrders_41 (Fit2.both (Fit.right (Fit.right Fit.whole)) Fit.whole) rfl fstX2 rfl rfl (Nat.le_of_ble_eq_true rfl) (Nat.zero_le _) (Nat.zero_le _) rfl rfl rfl ?_
          refine V_if_ne (pc := 44) (tgt := 49) F dX6_doOrders_44 (by decide) (fun h9 => ?_) (fun h9 => ?_)
          · replace hf := ite_neg hf h9
            refine V_iinc (v := (z2 + 1)) (L2 := [(2, .int (z2 + 1)), (4, .int (rowAt 60 v.1 z3)), (0, .ref (a 0)), (1, .ref (a1 0)), (3, .int z3)]) (pc := 49) F dX6_doOrders_49 3 rfl rfl (by decide) rfl ?_
            refine V_aload_n (pc := 52) F dX6_doOrders_52 rfl 2 rfl ?_
            refine V_get (pc := 53) F 0 6 1 i_X6 rfl (by decide) rfl (mm 1 rfl) dX6_doOrders_53 rfl rfl ?_
            refine V_iload (pc := 56) F dX6_doOrders_56 1 rfl ?_
            obtain ⟨r10, g11, hf⟩ := bind_of hf
            refine V_V (w2 := wX6 cy a (v.1, r10.2, v.2.2) ++ wX2 cy a1 r7.2) (rest := []) (st2 := [.int r10.1]) (pc := 58) F 4 (M_X4_take l D cy N (fun i => a (i + 3)) v.2.1 (rowAt 60 v.1 z3) r10 g11) (cwV 1 F.ts gX6_doOrders_X4_take rfl rfl rfl hd_X4_take ⟨Nat.le_of_ble_eq_true rfl, Nat.le_of_ble_eq_true rfl⟩) rfl dX6_doOrders_58 (Fit.left (Fit.right (Fit.right Fit.whole))) fstX4 rfl rfl (Nat.le_of_ble_eq_true rfl) (Nat.zero_le _) (Nat.zero_le _) rfl rfl rfl ?_
            refine V_pop (pc := 61) F dX6_doOrders_61 rfl ?_
            refine V_iinc (v := (z3 + 1)) (L2 := [(3, .int (z3 + 1)), (2, .int (z2 + 1)), (4, .int (rowAt 60 v.1 z3)), (0, .ref (a 0)), (1, .ref (a1 0))]) (pc := 62) F dX6_doOrders_62 4 rfl rfl (by decide) rfl ?_
            refine V_goto (pc := 65) (tgt := 11) F dX6_doOrders_65 (by decide) ?_
            refine V.sub [3, 4, 1, 0] rfl ?_
            exact ih (v.1, r10.2, v.2.2) r7.2 (z2 + 1) (z3 + 1) _ hf hr hk
          · replace hf := ite_pos hf h9
            refine V_iload_n (pc := 47) F dX6_doOrders_47 rfl 3 rfl ?_
            obtain rfl := hr _ (some_of hf).symm
            exact V_ret F rfl rfl dX6_doOrders_48 rfl rfl
  unfold fX6_doOrders at hf
  refine V.eq rfl (show lv_args 0 [.ref (a 0), .ref (a1 0)] = [(0, .ref (a 0)), (1, .ref (a1 0))] from rfl) rfl ?_
  refine V_iconst (v := 0) (pc := 0) F dX6_doOrders_0 (by decide) ?_
  refine V_istore_n (L2 := [(2, .int 0), (0, .ref (a 0)), (1, .ref (a1 0))]) (pc := 1) F dX6_doOrders_1 rfl (by decide) rfl ?_
  refine V_aload_n (pc := 2) F dX6_doOrders_2 rfl 1 rfl ?_
  refine V_get (pc := 3) F 0 6 1 i_X6 rfl (by decide) rfl (mm 1 rfl) dX6_doOrders_3 rfl rfl ?_
  obtain ⟨r1, g2, hf⟩ := bind_of hf
  refine V_V (w2 := wX6 cy a (v.1, r1, v.2.2) ++ wX2 cy a1 v1) (rest := []) (st2 := []) (pc := 6) F 4 (M_X4_begin l D cy N (fun i => a (i + 3)) v.2.1 r1 g2) (cwV 0 F.ts gX6_doOrders_X4_begin rfl rfl rfl hd_X4_begin ⟨Nat.le_of_ble_eq_true rfl, Nat.le_of_ble_eq_true rfl⟩) rfl dX6_doOrders_6 (Fit.left (Fit.right (Fit.right Fit.whole))) fstX4 rfl rfl (Nat.le_of_ble_eq_true rfl) (Nat.zero_le _) (Nat.zero_le _) rfl rfl rfl ?_
  refine V_iconst (v := 0) (pc := 9) F dX6_doOrders_9 (by decide) ?_
  refine V_istore_n (L2 := [(3, .int 0), (2, .int 0), (0, .ref (a 0)), (1, .ref (a1 0))]) (pc := 10) F dX6_doOrders_10 rfl (by decide) rfl ?_
  refine V.sub [2, 3, 1, 0] rfl ?_
  obtain ⟨u12, g13, hf⟩ := bind_of hf
  refine K11 N (v.1, r1, v.2.2) v1 0 0 u12 g13 (fun r h15 => ?_) (fun q14 h15 => ?_)
  · subst h15
    replace hf := onS_inl hf
    exact some_of hf
  · subst h15
    replace hf := onS_inr hf
    refine V_aload_n (pc := 68) F dX6_doOrders_68 rfl 0 rfl ?_
    refine V_get (pc := 69) F 0 6 1 i_X6 rfl (by decide) rfl (mm 1 rfl) dX6_doOrders_69 rfl rfl ?_
    refine V_aload_n (pc := 72) F dX6_doOrders_72 rfl 1 rfl ?_
    obtain ⟨r16, g17, hf⟩ := bind_of hf
    refine V_V2 (w2 := wX6 cy a q14.1 ++ wX2 cy a1 r16.2) (rest := []) (st2 := [.int r16.1]) (pc := 73) F 4 (M_X4_doOrder l D cy N (fun i => a (i + 3)) a1 q14.1.2.1 q14.2.1 r16 g17) (cwV 1 F.ts gX6_doOrders_X4_doOrder rfl rfl rfl hd_X4_doOrder ⟨Nat.le_of_ble_eq_true rfl, Nat.le_of_ble_eq_true rfl⟩) rfl dX6_doOrders_73 (Fit2.both (Fit.right (Fit.right Fit.whole)) Fit.whole) rfl fstX2 rfl rfl (Nat.le_of_ble_eq_true rfl) (Nat.zero_le _) (Nat.zero_le _) rfl rfl rfl ?_
    refine V_if_eq (pc := 76) (tgt := 85) F dX6_doOrders_76 (by decide) (fun h18 => ?_) (fun h18 => ?_)
    · replace hf := ite_pos hf h18
      refine V_iload_n (pc := 85) F dX6_doOrders_85 rfl 2 rfl ?_
      obtain rfl := some_of hf
      exact V_ret F rfl rfl dX6_doOrders_86 rfl rfl
    · replace hf := ite_neg hf h18
      refine V_iload_n (pc := 79) F dX6_doOrders_79 rfl 2 rfl ?_
      refine V_iconst (v := 1) (pc := 80) F dX6_doOrders_80 (by decide) ?_
      refine V_iadd (pc := 81) F dX6_doOrders_81 ?_
      refine V_goto (pc := 82) (tgt := 86) F dX6_doOrders_82 (by decide) ?_
      obtain rfl := some_of hf
      exact V_ret F rfl rfl dX6_doOrders_86 rfl rfl
theorem hd_X6_mixInto : yX6_mixInto.cls = RX6 ∧ yX6_mixInto.cls ≠ "java/lang/invoke/MethodHandle" ∧ yX6_mixInto.cls ≠ "java/lang/invoke/VarHandle" ∧ (parseMethodDescriptor yX6_mixInto.desc).map (fun d => d.parameters.length) = some 1 := by decide +kernel
def fX6_mixInto_L13 (N : Nat) (v : SX6) : Nat → Int64 → Int32 → Option (Int64)
  | 0, _, _ => none
  | n + 1, z3, z5 =>
    if v.2.2 ≤ z5 then
      some z3
    else
      (fX7_mix N z3 (((rowAt 60 v.1 z5)).toInt64)).bind fun r4 =>
        fX6_mixInto_L13 N v n r4 (z5 + 1)
def fX6_mixInto (N : Nat) (v : SX6) (x1 : Int64) : Option (Int64) :=
  (fX7_mix N x1 ((v.2.2).toInt64)).bind fun r1 =>
    (fX6_mixInto_L13 N v N r1 0).bind fun u6 =>
      some u6
set_option maxHeartbeats 8000000 in
set_option maxRecDepth 100000 in
theorem M_X6_mixInto (l : Launch) (D : va_G) (cy : Nat → ClassId) (N : Nat) (a : Nat → Nat) (v : SX6) (x1 : Int64) (o : Int64) (hf : fX6_mixInto N v x1 = some o) : okM l yX6_mixInto wsX6_mixInto (rmz 1 23) D cy [.ref (a 0), .long x1] (wX6 cy a v) (wX6 cy a v) (some (.long o)) := by
  refine okM_of (own := RX6) (nme := "mixInto") (cc := cX6_mixInto) (maxL := 6) (ret := (some .long)) (by decide) rfl rfl rfl (Nat.le_of_ble_eq_true rfl) ?_
  intro p e s m args below meth c A F
  have i_X6 : ∀ w ∈ u_ws RX6 TX6 3, w ∈ wsX6_mixInto := fun _ h => List.mem_cons_of_mem _ (List.mem_append_left _ (List.mem_append_right _ h))
  have K13 : ∀ (n : Nat) (v : SX6) (z3 : Int64) (z5 : Int32) (u : Int64), fX6_mixInto_L13 N v n z3 z5 = some u → V p l e (rmz 1 23) s m args below meth c 6 D A 0 0 (MQ below (ok_Q D (wX6 cy a v) (some (.long o)) A) args s 0 0 A) (wX6 cy a v) [(3, .long u)] [] 43 → V p l e (rmz 1 23) s m args below meth c 6 D A 0 0 (MQ below (ok_Q D (wX6 cy a v) (some (.long o)) A) args s 0 0 A) (wX6 cy a v) [(0, .ref (a 0)), (3, .long z3), (5, .int z5)] [] 13 := by
    intro n
    induction n with
    | zero =>
      intro v z3 z5 u hf hk
      exact nomatch (show (none : Option (Int64)) = some u from hf)
    | succ n ih =>
      intro v z3 z5 u hf hk
      rw [fX6_mixInto_L13] at hf
      refine V_iload (pc := 13) F dX6_mixInto_13 2 rfl ?_
      refine V_aload_n (pc := 15) F dX6_mixInto_15 rfl 0 rfl ?_
      refine V_get (pc := 16) F 0 6 2 i_X6 rfl (by decide) rfl (mm 1 rfl) dX6_mixInto_16 rfl rfl ?_
      refine V_icmp_ge (pc := 19) (tgt := 43) F dX6_mixInto_19 (by decide) (fun h3 => ?_) (fun h3 => ?_)
      · replace hf := ite_pos hf h3
        obtain rfl := some_of hf
        exact V.sub [1] rfl hk
      · replace hf := ite_neg hf h3
        refine V_lload_n (pc := 22) F dX6_mixInto_22 rfl 1 rfl ?_
        refine V_aload_n (pc := 23) F dX6_mixInto_23 rfl 0 rfl ?_
        refine V_get (pc := 24) F 0 6 0 i_X6 rfl (by decide) rfl (mm 2 rfl) dX6_mixInto_24 rfl rfl ?_
        refine V_iload (pc := 27) F dX6_mixInto_27 2 rfl ?_
        refine V_V (w2 := wX6 cy a v) (rest := [.long z3]) (st2 := [.int (rowAt 60 v.1 z5), .long z3]) (pc := 29) F 5 (R_at l D cy (fun i => a (i + 1)) 60 v.1 z5 (by decide)) (cwV 1 F.ts gX6_mixInto_X5_at rfl rfl rfl hd_X5_at ⟨Nat.le_of_ble_eq_true rfl, Nat.le_of_ble_eq_true rfl⟩) rfl dX6_mixInto_29 (Fit.right (Fit.left Fit.whole)) rfl rfl rfl (Nat.le_of_ble_eq_true rfl) (Nat.zero_le _) (Nat.zero_le _) rfl rfl rfl ?_
        refine V_i2l (pc := 32) F dX6_mixInto_32 ?_
        obtain ⟨r4, g5, hf⟩ := bind_of hf
        refine V_SN (rest := []) (st2 := [.long r4]) (pc := 33) F (M_X7_mix l D cy N z3 (((rowAt 60 v.1 z5)).toInt64) r4 g5) ⟨va_cnB 2 F.ts gX6_mixInto_X7_mix_n58 rfl rfl rfl F.nest.2.2.1 (F.ts _ (mm 4 rfl)) hd_X7_mix ⟨Nat.le_of_ble_eq_true rfl, Nat.le_of_ble_eq_true rfl⟩, F.ts _ (mm 3 rfl), trivial⟩ rfl dX6_mixInto_33 (Nat.le_of_ble_eq_true rfl) (Nat.zero_le _) (Nat.zero_le _) rfl rfl ?_
        refine V_lstore_n (L2 := [(3, .long r4), (0, .ref (a 0)), (5, .int z5)]) (pc := 36) F dX6_mixInto_36 rfl (by decide) rfl ?_
        refine V_iinc (v := (z5 + 1)) (L2 := [(5, .int (z5 + 1)), (3, .long r4), (0, .ref (a 0))]) (pc := 37) F dX6_mixInto_37 2 rfl rfl (by decide) rfl ?_
        refine V_goto (pc := 40) (tgt := 13) F dX6_mixInto_40 (by decide) ?_
        refine V.sub [2, 1, 0] rfl ?_
        exact ih v r4 (z5 + 1) _ hf hk
  unfold fX6_mixInto at hf
  refine V.eq rfl (show lv_args 0 [.ref (a 0), .long x1] = [(0, .ref (a 0)), (1, .long x1)] from rfl) rfl ?_
  refine V_lload_n (pc := 0) F dX6_mixInto_0 rfl 1 rfl ?_
  refine V_aload_n (pc := 1) F dX6_mixInto_1 rfl 0 rfl ?_
  refine V_get (pc := 2) F 0 6 2 i_X6 rfl (by decide) rfl (mm 1 rfl) dX6_mixInto_2 rfl rfl ?_
  refine V_i2l (pc := 5) F dX6_mixInto_5 ?_
  obtain ⟨r1, g2, hf⟩ := bind_of hf
  refine V_SN (rest := []) (st2 := [.long r1]) (pc := 6) F (M_X7_mix l D cy N x1 ((v.2.2).toInt64) r1 g2) ⟨va_cnB 2 F.ts gX6_mixInto_X7_mix_n58 rfl rfl rfl F.nest.2.2.1 (F.ts _ (mm 4 rfl)) hd_X7_mix ⟨Nat.le_of_ble_eq_true rfl, Nat.le_of_ble_eq_true rfl⟩, F.ts _ (mm 3 rfl), trivial⟩ rfl dX6_mixInto_6 (Nat.le_of_ble_eq_true rfl) (Nat.zero_le _) (Nat.zero_le _) rfl rfl ?_
  refine V_lstore_n (L2 := [(3, .long r1), (0, .ref (a 0)), (1, .long x1)]) (pc := 9) F dX6_mixInto_9 rfl (by decide) rfl ?_
  refine V_iconst (v := 0) (pc := 10) F dX6_mixInto_10 (by decide) ?_
  refine V_istore (L2 := [(5, .int 0), (3, .long r1), (0, .ref (a 0)), (1, .long x1)]) (pc := 11) F dX6_mixInto_11 (by decide) rfl ?_
  refine V.sub [2, 1, 0] rfl ?_
  obtain ⟨u6, g7, hf⟩ := bind_of hf
  refine K13 N v r1 0 u6 g7 ?_
  refine V_lload_n (pc := 43) F dX6_mixInto_43 rfl 0 rfl ?_
  obtain rfl := some_of hf
  exact V_lret F rfl dX6_mixInto_44 rfl rfl
