theorem hd_X2_hasPhase : yX2_hasPhase.cls = RX2 ∧ yX2_hasPhase.cls ≠ "java/lang/invoke/MethodHandle" ∧ yX2_hasPhase.cls ≠ "java/lang/invoke/VarHandle" ∧ (parseMethodDescriptor yX2_hasPhase.desc).map (fun d => d.parameters.length) = some 1 := by decide +kernel
def fX2_hasPhase (N : Nat) (v : SX2) (x1 : Int32) : Option (Int32) :=
  if x1 < 0 then
    some 0
  else
    if v.2.2.2.2.2.2.1 ≤ x1 then
      some 0
    else
      some 1
set_option maxHeartbeats 8000000 in
set_option maxRecDepth 100000 in
theorem M_X2_hasPhase (l : Launch) (D : va_G) (cy : Nat → ClassId) (N : Nat) (a : Nat → Nat) (v : SX2) (x1 : Int32) (o : Int32) (hf : fX2_hasPhase N v x1 = some o) : okM l yX2_hasPhase wsX2_hasPhase (rmz 0 0) D cy [.ref (a 0), .int x1] (wX2 cy a v) (wX2 cy a v) (some (.int o)) := by
  refine okM_of (own := RX2) (nme := "hasPhase") (cc := cX2_hasPhase) (maxL := 2) (ret := (some .boolean)) (by decide) rfl rfl rfl (Nat.le_of_ble_eq_true rfl) ?_
  intro p e s m args below meth c A F
  have i_X2 : ∀ w ∈ u_ws RX2 TX2 8, w ∈ wsX2_hasPhase := fun _ h => List.mem_cons_of_mem _ (List.mem_append_right _ h)
  unfold fX2_hasPhase at hf
  refine V.eq rfl (show lv_args 0 [.ref (a 0), .int x1] = [(0, .ref (a 0)), (1, .int x1)] from rfl) rfl ?_
  refine V_iload_n (pc := 0) F dX2_hasPhase_0 rfl 1 rfl ?_
  refine V_if_lt (pc := 1) (tgt := 16) F dX2_hasPhase_1 (by decide) (fun h1 => ?_) (fun h1 => ?_)
  · replace hf := ite_pos hf h1
    refine V_iconst (v := 0) (pc := 16) F dX2_hasPhase_16 (by decide) ?_
    obtain rfl := some_of hf
    exact V_ret F rfl rfl dX2_hasPhase_17 rfl rfl
  · replace hf := ite_neg hf h1
    refine V_iload_n (pc := 4) F dX2_hasPhase_4 rfl 1 rfl ?_
    refine V_aload_n (pc := 5) F dX2_hasPhase_5 rfl 0 rfl ?_
    refine V_get (pc := 6) F 0 2 6 i_X2 rfl (by decide) rfl (mm 1 rfl) dX2_hasPhase_6 rfl rfl ?_
    refine V_icmp_ge (pc := 9) (tgt := 16) F dX2_hasPhase_9 (by decide) (fun h2 => ?_) (fun h2 => ?_)
    · replace hf := ite_pos hf h2
      refine V_iconst (v := 0) (pc := 16) F dX2_hasPhase_16 (by decide) ?_
      obtain rfl := some_of hf
      exact V_ret F rfl rfl dX2_hasPhase_17 rfl rfl
    · replace hf := ite_neg hf h2
      refine V_iconst (v := 1) (pc := 12) F dX2_hasPhase_12 (by decide) ?_
      refine V_goto (pc := 13) (tgt := 17) F dX2_hasPhase_13 (by decide) ?_
      obtain rfl := some_of hf
      exact V_ret F rfl rfl dX2_hasPhase_17 rfl rfl
theorem hd_X2_isFull : yX2_isFull.cls = RX2 ∧ yX2_isFull.cls ≠ "java/lang/invoke/MethodHandle" ∧ yX2_isFull.cls ≠ "java/lang/invoke/VarHandle" ∧ (parseMethodDescriptor yX2_isFull.desc).map (fun d => d.parameters.length) = some 0 := by decide +kernel
def fX2_isFull (N : Nat) (v : SX2) : Option (Int32) :=
  if v.2.2.2.2.2.2.1 < 8 then
    some 0
  else
    some 1
set_option maxHeartbeats 8000000 in
set_option maxRecDepth 100000 in
theorem M_X2_isFull (l : Launch) (D : va_G) (cy : Nat → ClassId) (N : Nat) (a : Nat → Nat) (v : SX2) (o : Int32) (hf : fX2_isFull N v = some o) : okM l yX2_isFull wsX2_isFull (rmz 0 0) D cy [.ref (a 0)] (wX2 cy a v) (wX2 cy a v) (some (.int o)) := by
  refine okM_of (own := RX2) (nme := "isFull") (cc := cX2_isFull) (maxL := 1) (ret := (some .boolean)) (by decide) rfl rfl rfl (Nat.le_of_ble_eq_true rfl) ?_
  intro p e s m args below meth c A F
  have i_X2 : ∀ w ∈ u_ws RX2 TX2 8, w ∈ wsX2_isFull := fun _ h => List.mem_cons_of_mem _ (List.mem_append_right _ h)
  unfold fX2_isFull at hf
  refine V.eq rfl (show lv_args 0 [.ref (a 0)] = [(0, .ref (a 0))] from rfl) rfl ?_
  refine V_aload_n (pc := 0) F dX2_isFull_0 rfl 0 rfl ?_
  refine V_get (pc := 1) F 0 2 6 i_X2 rfl (by decide) rfl (mm 1 rfl) dX2_isFull_1 rfl rfl ?_
  refine V_bipush (v := 8) (pc := 4) F dX2_isFull_4 (by decide) ?_
  refine V_icmp_lt (pc := 6) (tgt := 13) F dX2_isFull_6 (by decide) (fun h1 => ?_) (fun h1 => ?_)
  · replace hf := ite_pos hf h1
    refine V_iconst (v := 0) (pc := 13) F dX2_isFull_13 (by decide) ?_
    obtain rfl := some_of hf
    exact V_ret F rfl rfl dX2_isFull_14 rfl rfl
  · replace hf := ite_neg hf h1
    refine V_iconst (v := 1) (pc := 9) F dX2_isFull_9 (by decide) ?_
    refine V_goto (pc := 10) (tgt := 14) F dX2_isFull_10 (by decide) ?_
    obtain rfl := some_of hf
    exact V_ret F rfl rfl dX2_isFull_14 rfl rfl
theorem hd_X2_isFullOfRules : yX2_isFullOfRules.cls = RX2 ∧ yX2_isFullOfRules.cls ≠ "java/lang/invoke/MethodHandle" ∧ yX2_isFullOfRules.cls ≠ "java/lang/invoke/VarHandle" ∧ (parseMethodDescriptor yX2_isFullOfRules.desc).map (fun d => d.parameters.length) = some 1 := by decide +kernel
def fX2_isFullOfRules (N : Nat) (v : SX2) (x1 : Int32) : Option (Int32) :=
  if (rowAt 8 v.2.2.2.1 x1) < 4 then
    some 0
  else
    some 1
set_option maxHeartbeats 8000000 in
set_option maxRecDepth 100000 in
theorem M_X2_isFullOfRules (l : Launch) (D : va_G) (cy : Nat → ClassId) (N : Nat) (a : Nat → Nat) (v : SX2) (x1 : Int32) (o : Int32) (hf : fX2_isFullOfRules N v x1 = some o) : okM l yX2_isFullOfRules wsX2_isFullOfRules (rmz 1 21) D cy [.ref (a 0), .int x1] (wX2 cy a v) (wX2 cy a v) (some (.int o)) := by
  refine okM_of (own := RX2) (nme := "isFullOfRules") (cc := cX2_isFullOfRules) (maxL := 2) (ret := (some .boolean)) (by decide) rfl rfl rfl (Nat.le_of_ble_eq_true rfl) ?_
  intro p e s m args below meth c A F
  have i_X2 : ∀ w ∈ u_ws RX2 TX2 8, w ∈ wsX2_isFullOfRules := fun _ h => List.mem_cons_of_mem _ (List.mem_append_left _ (List.mem_append_right _ h))
  unfold fX2_isFullOfRules at hf
  refine V.eq rfl (show lv_args 0 [.ref (a 0), .int x1] = [(0, .ref (a 0)), (1, .int x1)] from rfl) rfl ?_
  refine V_aload_n (pc := 0) F dX2_isFullOfRules_0 rfl 0 rfl ?_
  refine V_get (pc := 1) F 0 2 3 i_X2 rfl (by decide) rfl (mm 1 rfl) dX2_isFullOfRules_1 rfl rfl ?_
  refine V_iload_n (pc := 4) F dX2_isFullOfRules_4 rfl 1 rfl ?_
  refine V_V (w2 := wX2 cy a v) (rest := []) (st2 := [.int (rowAt 8 v.2.2.2.1 x1)]) (pc := 5) F 5 (R_at l D cy (fun i => a (i + 7)) 8 v.2.2.2.1 x1 (by decide)) (cwV 1 F.ts gX2_isFullOfRules_X5_at rfl rfl rfl hd_X5_at ⟨Nat.le_of_ble_eq_true rfl, Nat.le_of_ble_eq_true rfl⟩) rfl dX2_isFullOfRules_5 (Fit.right (Fit.right (Fit.right (Fit.right (Fit.left Fit.whole))))) rfl rfl rfl (Nat.le_of_ble_eq_true rfl) (Nat.zero_le _) (Nat.zero_le _) rfl rfl rfl ?_
  refine V_iconst (v := 4) (pc := 8) F dX2_isFullOfRules_8 (by decide) ?_
  refine V_icmp_lt (pc := 9) (tgt := 16) F dX2_isFullOfRules_9 (by decide) (fun h1 => ?_) (fun h1 => ?_)
  · replace hf := ite_pos hf h1
    refine V_iconst (v := 0) (pc := 16) F dX2_isFullOfRules_16 (by decide) ?_
    obtain rfl := some_of hf
    exact V_ret F rfl rfl dX2_isFullOfRules_17 rfl rfl
  · replace hf := ite_neg hf h1
    refine V_iconst (v := 1) (pc := 12) F dX2_isFullOfRules_12 (by decide) ?_
    refine V_goto (pc := 13) (tgt := 17) F dX2_isFullOfRules_13 (by decide) ?_
    obtain rfl := some_of hf
    exact V_ret F rfl rfl dX2_isFullOfRules_17 rfl rfl
theorem hd_X2_goalOf : yX2_goalOf.cls = RX2 ∧ yX2_goalOf.cls ≠ "java/lang/invoke/MethodHandle" ∧ yX2_goalOf.cls ≠ "java/lang/invoke/VarHandle" ∧ (parseMethodDescriptor yX2_goalOf.desc).map (fun d => d.parameters.length) = some 2 := by decide +kernel
def fX2_goalOf (N : Nat) (v : SX2) (x1 : Int32) (x2 : Int32) : Option (Int32) :=
  some (rowAt 32 v.2.2.2.2.1 ((x1 * 4) + x2))
set_option maxHeartbeats 8000000 in
set_option maxRecDepth 100000 in
theorem M_X2_goalOf (l : Launch) (D : va_G) (cy : Nat → ClassId) (N : Nat) (a : Nat → Nat) (v : SX2) (x1 : Int32) (x2 : Int32) (o : Int32) (hf : fX2_goalOf N v x1 x2 = some o) : okM l yX2_goalOf wsX2_goalOf (rmz 1 21) D cy [.ref (a 0), .int x1, .int x2] (wX2 cy a v) (wX2 cy a v) (some (.int o)) := by
  refine okM_of (own := RX2) (nme := "goalOf") (cc := cX2_goalOf) (maxL := 3) (ret := (some .int)) (by decide) rfl rfl rfl (Nat.le_of_ble_eq_true rfl) ?_
  intro p e s m args below meth c A F
  have i_X2 : ∀ w ∈ u_ws RX2 TX2 8, w ∈ wsX2_goalOf := fun _ h => List.mem_cons_of_mem _ (List.mem_append_left _ (List.mem_append_right _ h))
  unfold fX2_goalOf at hf
  refine V.eq rfl (show lv_args 0 [.ref (a 0), .int x1, .int x2] = [(0, .ref (a 0)), (1, .int x1), (2, .int x2)] from rfl) rfl ?_
  refine V_aload_n (pc := 0) F dX2_goalOf_0 rfl 0 rfl ?_
  refine V_get (pc := 1) F 0 2 4 i_X2 rfl (by decide) rfl (mm 1 rfl) dX2_goalOf_1 rfl rfl ?_
  refine V_iload_n (pc := 4) F dX2_goalOf_4 rfl 1 rfl ?_
  refine V_iconst (v := 4) (pc := 5) F dX2_goalOf_5 (by decide) ?_
  refine V_imul (pc := 6) F dX2_goalOf_6 ?_
  refine V_iload_n (pc := 7) F dX2_goalOf_7 rfl 2 rfl ?_
  refine V_iadd (pc := 8) F dX2_goalOf_8 ?_
  refine V_V (w2 := wX2 cy a v) (rest := []) (st2 := [.int (rowAt 32 v.2.2.2.2.1 ((x1 * 4) + x2))]) (pc := 9) F 5 (R_at l D cy (fun i => a (i + 9)) 32 v.2.2.2.2.1 ((x1 * 4) + x2) (by decide)) (cwV 1 F.ts gX2_goalOf_X5_at rfl rfl rfl hd_X5_at ⟨Nat.le_of_ble_eq_true rfl, Nat.le_of_ble_eq_true rfl⟩) rfl dX2_goalOf_9 (Fit.right (Fit.right (Fit.right (Fit.right (Fit.right (Fit.left Fit.whole)))))) rfl rfl rfl (Nat.le_of_ble_eq_true rfl) (Nat.zero_le _) (Nat.zero_le _) rfl rfl rfl ?_
  obtain rfl := some_of hf
  exact V_ret F rfl rfl dX2_goalOf_12 rfl rfl
theorem hd_X2_askersOf : yX2_askersOf.cls = RX2 ∧ yX2_askersOf.cls ≠ "java/lang/invoke/MethodHandle" ∧ yX2_askersOf.cls ≠ "java/lang/invoke/VarHandle" ∧ (parseMethodDescriptor yX2_askersOf.desc).map (fun d => d.parameters.length) = some 2 := by decide +kernel
def fX2_askersOf (N : Nat) (v : SX2) (x1 : Int32) (x2 : Int32) : Option (Int32) :=
  some (rowAt 32 v.2.2.2.2.2.1 ((x1 * 4) + x2))
set_option maxHeartbeats 8000000 in
set_option maxRecDepth 100000 in
theorem M_X2_askersOf (l : Launch) (D : va_G) (cy : Nat → ClassId) (N : Nat) (a : Nat → Nat) (v : SX2) (x1 : Int32) (x2 : Int32) (o : Int32) (hf : fX2_askersOf N v x1 x2 = some o) : okM l yX2_askersOf wsX2_askersOf (rmz 1 21) D cy [.ref (a 0), .int x1, .int x2] (wX2 cy a v) (wX2 cy a v) (some (.int o)) := by
  refine okM_of (own := RX2) (nme := "askersOf") (cc := cX2_askersOf) (maxL := 3) (ret := (some .int)) (by decide) rfl rfl rfl (Nat.le_of_ble_eq_true rfl) ?_
  intro p e s m args below meth c A F
  have i_X2 : ∀ w ∈ u_ws RX2 TX2 8, w ∈ wsX2_askersOf := fun _ h => List.mem_cons_of_mem _ (List.mem_append_left _ (List.mem_append_right _ h))
  unfold fX2_askersOf at hf
  refine V.eq rfl (show lv_args 0 [.ref (a 0), .int x1, .int x2] = [(0, .ref (a 0)), (1, .int x1), (2, .int x2)] from rfl) rfl ?_
  refine V_aload_n (pc := 0) F dX2_askersOf_0 rfl 0 rfl ?_
  refine V_get (pc := 1) F 0 2 5 i_X2 rfl (by decide) rfl (mm 1 rfl) dX2_askersOf_1 rfl rfl ?_
  refine V_iload_n (pc := 4) F dX2_askersOf_4 rfl 1 rfl ?_
  refine V_iconst (v := 4) (pc := 5) F dX2_askersOf_5 (by decide) ?_
  refine V_imul (pc := 6) F dX2_askersOf_6 ?_
  refine V_iload_n (pc := 7) F dX2_askersOf_7 rfl 2 rfl ?_
  refine V_iadd (pc := 8) F dX2_askersOf_8 ?_
  refine V_V (w2 := wX2 cy a v) (rest := []) (st2 := [.int (rowAt 32 v.2.2.2.2.2.1 ((x1 * 4) + x2))]) (pc := 9) F 5 (R_at l D cy (fun i => a (i + 11)) 32 v.2.2.2.2.2.1 ((x1 * 4) + x2) (by decide)) (cwV 1 F.ts gX2_askersOf_X5_at rfl rfl rfl hd_X5_at ⟨Nat.le_of_ble_eq_true rfl, Nat.le_of_ble_eq_true rfl⟩) rfl dX2_askersOf_9 (Fit.right (Fit.right (Fit.right (Fit.right (Fit.right (Fit.right Fit.whole)))))) rfl rfl rfl (Nat.le_of_ble_eq_true rfl) (Nat.zero_le _) (Nat.zero_le _) rfl rfl rfl ?_
  obtain rfl := some_of hf
  exact V_ret F rfl rfl dX2_askersOf_12 rfl rfl
theorem hd_X2_appendPhase : yX2_appendPhase.cls = RX2 ∧ yX2_appendPhase.cls ≠ "java/lang/invoke/MethodHandle" ∧ yX2_appendPhase.cls ≠ "java/lang/invoke/VarHandle" ∧ (parseMethodDescriptor yX2_appendPhase.desc).map (fun d => d.parameters.length) = some 2 := by decide +kernel
def fX2_appendPhase (N : Nat) (v : SX2) (x1 : Int32) (x2 : Int32) : Option (Int32 × SX2) :=
  some (v.2.2.2.2.2.2.1, (v.1, (rowPut 8 v.2.1 v.2.2.2.2.2.2.1 x1), (rowPut 8 v.2.2.1 v.2.2.2.2.2.2.1 x2), (rowPut 8 v.2.2.2.1 v.2.2.2.2.2.2.1 0), v.2.2.2.2.1, v.2.2.2.2.2.1, (v.2.2.2.2.2.2.1 + 1), v.2.2.2.2.2.2.2))
set_option maxHeartbeats 8000000 in
set_option maxRecDepth 100000 in
theorem M_X2_appendPhase (l : Launch) (D : va_G) (cy : Nat → ClassId) (N : Nat) (a : Nat → Nat) (v : SX2) (x1 : Int32) (x2 : Int32) (o : Int32 × SX2) (hf : fX2_appendPhase N v x1 x2 = some o) : okM l yX2_appendPhase wsX2_appendPhase (rmz 1 22) D cy [.ref (a 0), .int x1, .int x2] (wX2 cy a v) (wX2 cy a o.2) (some (.int o.1)) := by
  refine okM_of (own := RX2) (nme := "appendPhase") (cc := cX2_appendPhase) (maxL := 4) (ret := (some .int)) (by decide) rfl rfl rfl (Nat.le_of_ble_eq_true rfl) ?_
  intro p e s m args below meth c A F
  have i_X2 : ∀ w ∈ u_ws RX2 TX2 8, w ∈ wsX2_appendPhase := fun _ h => List.mem_cons_of_mem _ (List.mem_append_left _ (List.mem_append_right _ h))
  unfold fX2_appendPhase at hf
  refine V.eq rfl (show lv_args 0 [.ref (a 0), .int x1, .int x2] = [(0, .ref (a 0)), (1, .int x1), (2, .int x2)] from rfl) rfl ?_
  refine V_aload_n (pc := 0) F dX2_appendPhase_0 rfl 0 rfl ?_
  refine V_get (pc := 1) F 0 2 6 i_X2 rfl (by decide) rfl (mm 1 rfl) dX2_appendPhase_1 rfl rfl ?_
  refine V_istore_n (L2 := [(3, .int v.2.2.2.2.2.2.1), (0, .ref (a 0)), (1, .int x1), (2, .int x2)]) (pc := 4) F dX2_appendPhase_4 rfl (by decide) rfl ?_
  refine V_aload_n (pc := 5) F dX2_appendPhase_5 rfl 1 rfl ?_
  refine V_get (pc := 6) F 0 2 1 i_X2 rfl (by decide) rfl (mm 2 rfl) dX2_appendPhase_6 rfl rfl ?_
  refine V_iload_n (pc := 9) F dX2_appendPhase_9 rfl 0 rfl ?_
  refine V_iload_n (pc := 10) F dX2_appendPhase_10 rfl 2 rfl ?_
  refine V_V (w2 := wX2 cy a (v.1, (rowPut 8 v.2.1 v.2.2.2.2.2.2.1 x1), v.2.2)) (rest := []) (st2 := []) (pc := 11) F 5 (R_put l D cy (fun i => a (i + 3)) 8 v.2.1 v.2.2.2.2.2.2.1 x1 (by decide)) (cwV 2 F.ts gX2_appendPhase_X5_put rfl rfl rfl hd_X5_put ⟨Nat.le_of_ble_eq_true rfl, Nat.le_of_ble_eq_true rfl⟩) rfl dX2_appendPhase_11 (Fit.right (Fit.right (Fit.left Fit.whole))) fstX5 rfl rfl (Nat.le_of_ble_eq_true rfl) (Nat.zero_le _) (Nat.zero_le _) rfl rfl rfl ?_
  refine V_aload_n (pc := 14) F dX2_appendPhase_14 rfl 1 rfl ?_
  refine V_get (pc := 15) F 0 2 2 i_X2 rfl (by decide) rfl (mm 3 rfl) dX2_appendPhase_15 rfl rfl ?_
  refine V_iload_n (pc := 18) F dX2_appendPhase_18 rfl 0 rfl ?_
  refine V_iload_n (pc := 19) F dX2_appendPhase_19 rfl 3 rfl ?_
  refine V_V (w2 := wX2 cy a (v.1, (rowPut 8 v.2.1 v.2.2.2.2.2.2.1 x1), (rowPut 8 v.2.2.1 v.2.2.2.2.2.2.1 x2), v.2.2.2)) (rest := []) (st2 := []) (pc := 20) F 5 (R_put l D cy (fun i => a (i + 5)) 8 v.2.2.1 v.2.2.2.2.2.2.1 x2 (by decide)) (cwV 2 F.ts gX2_appendPhase_X5_put rfl rfl rfl hd_X5_put ⟨Nat.le_of_ble_eq_true rfl, Nat.le_of_ble_eq_true rfl⟩) rfl dX2_appendPhase_20 (Fit.right (Fit.right (Fit.right (Fit.left Fit.whole)))) fstX5 rfl rfl (Nat.le_of_ble_eq_true rfl) (Nat.zero_le _) (Nat.zero_le _) rfl rfl rfl ?_
  refine V_aload_n (pc := 23) F dX2_appendPhase_23 rfl 1 rfl ?_
  refine V_get (pc := 24) F 0 2 3 i_X2 rfl (by decide) rfl (mm 4 rfl) dX2_appendPhase_24 rfl rfl ?_
  refine V_iload_n (pc := 27) F dX2_appendPhase_27 rfl 0 rfl ?_
  refine V_iconst (v := 0) (pc := 28) F dX2_appendPhase_28 (by decide) ?_
  refine V_V (w2 := wX2 cy a (v.1, (rowPut 8 v.2.1 v.2.2.2.2.2.2.1 x1), (rowPut 8 v.2.2.1 v.2.2.2.2.2.2.1 x2), (rowPut 8 v.2.2.2.1 v.2.2.2.2.2.2.1 0), v.2.2.2.2)) (rest := []) (st2 := []) (pc := 29) F 5 (R_put l D cy (fun i => a (i + 7)) 8 v.2.2.2.1 v.2.2.2.2.2.2.1 0 (by decide)) (cwV 2 F.ts gX2_appendPhase_X5_put rfl rfl rfl hd_X5_put ⟨Nat.le_of_ble_eq_true rfl, Nat.le_of_ble_eq_true rfl⟩) rfl dX2_appendPhase_29 (Fit.right (Fit.right (Fit.right (Fit.right (Fit.left Fit.whole))))) fstX5 rfl rfl (Nat.le_of_ble_eq_true rfl) (Nat.zero_le _) (Nat.zero_le _) rfl rfl rfl ?_
  refine V_aload_n (pc := 32) F dX2_appendPhase_32 rfl 1 rfl ?_
  refine V_iload_n (pc := 33) F dX2_appendPhase_33 rfl 0 rfl ?_
  refine V_iconst (v := 1) (pc := 34) F dX2_appendPhase_34 (by decide) ?_
  refine V_iadd (pc := 35) F dX2_appendPhase_35 ?_
  refine V_put (w2 := wX2 cy a (v.1, (rowPut 8 v.2.1 v.2.2.2.2.2.2.1 x1), (rowPut 8 v.2.2.1 v.2.2.2.2.2.2.1 x2), (rowPut 8 v.2.2.2.1 v.2.2.2.2.2.2.1 0), v.2.2.2.2.1, v.2.2.2.2.2.1, (v.2.2.2.2.2.2.1 + 1), v.2.2.2.2.2.2.2)) (pc := 36) F 0 2 6 i_X2 tyX2 tyX2_ok nmX2 rfl (by decide) rfl (mm 1 rfl) rfl dX2_appendPhase_36 rfl rfl rfl (Nat.le_of_ble_eq_true rfl) rfl ?_
  refine V_iload_n (pc := 39) F dX2_appendPhase_39 rfl 0 rfl ?_
  obtain rfl := some_of hf
  exact V_ret F rfl rfl dX2_appendPhase_40 rfl rfl
theorem hd_X2_appendRule : yX2_appendRule.cls = RX2 ∧ yX2_appendRule.cls ≠ "java/lang/invoke/MethodHandle" ∧ yX2_appendRule.cls ≠ "java/lang/invoke/VarHandle" ∧ (parseMethodDescriptor yX2_appendRule.desc).map (fun d => d.parameters.length) = some 3 := by decide +kernel
def fX2_appendRule (N : Nat) (v : SX2) (x1 : Int32) (x2 : Int32) (x3 : Int32) : Option (Int32 × SX2) :=
  some (((rowAt 8 v.2.2.2.1 x1) + 1), (v.1, v.2.1, v.2.2.1, (rowPut 8 v.2.2.2.1 x1 ((rowAt 8 v.2.2.2.1 x1) + 1)), (rowPut 32 v.2.2.2.2.1 ((x1 * 4) + (rowAt 8 v.2.2.2.1 x1)) x2), (rowPut 32 v.2.2.2.2.2.1 ((x1 * 4) + (rowAt 8 v.2.2.2.1 x1)) x3), v.2.2.2.2.2.2))
set_option maxHeartbeats 8000000 in
set_option maxRecDepth 100000 in
theorem M_X2_appendRule (l : Launch) (D : va_G) (cy : Nat → ClassId) (N : Nat) (a : Nat → Nat) (v : SX2) (x1 : Int32) (x2 : Int32) (x3 : Int32) (o : Int32 × SX2) (hf : fX2_appendRule N v x1 x2 x3 = some o) : okM l yX2_appendRule wsX2_appendRule (rmz 1 22) D cy [.ref (a 0), .int x1, .int x2, .int x3] (wX2 cy a v) (wX2 cy a o.2) (some (.int o.1)) := by
  refine okM_of (own := RX2) (nme := "appendRule") (cc := cX2_appendRule) (maxL := 5) (ret := (some .int)) (by decide) rfl rfl rfl (Nat.le_of_ble_eq_true rfl) ?_
  intro p e s m args below meth c A F
  have i_X2 : ∀ w ∈ u_ws RX2 TX2 8, w ∈ wsX2_appendRule := fun _ h => List.mem_cons_of_mem _ (List.mem_append_left _ (List.mem_append_right _ h))
  unfold fX2_appendRule at hf
  refine V.eq rfl (show lv_args 0 [.ref (a 0), .int x1, .int x2, .int x3] = [(0, .ref (a 0)), (1, .int x1), (2, .int x2), (3, .int x3)] from rfl) rfl ?_
  refine V_aload_n (pc := 0) F dX2_appendRule_0 rfl 0 rfl ?_
  refine V_get (pc := 1) F 0 2 3 i_X2 rfl (by decide) rfl (mm 1 rfl) dX2_appendRule_1 rfl rfl ?_
  refine V_iload_n (pc := 4) F dX2_appendRule_4 rfl 1 rfl ?_
  refine V_V (w2 := wX2 cy a v) (rest := []) (st2 := [.int (rowAt 8 v.2.2.2.1 x1)]) (pc := 5) F 5 (R_at l D cy (fun i => a (i + 7)) 8 v.2.2.2.1 x1 (by decide)) (cwV 1 F.ts gX2_appendRule_X5_at rfl rfl rfl hd_X5_at ⟨Nat.le_of_ble_eq_true rfl, Nat.le_of_ble_eq_true rfl⟩) rfl dX2_appendRule_5 (Fit.right (Fit.right (Fit.right (Fit.right (Fit.left Fit.whole))))) rfl rfl rfl (Nat.le_of_ble_eq_true rfl) (Nat.zero_le _) (Nat.zero_le _) rfl rfl rfl ?_
  refine V_istore (L2 := [(4, .int (rowAt 8 v.2.2.2.1 x1)), (0, .ref (a 0)), (1, .int x1), (2, .int x2), (3, .int x3)]) (pc := 8) F dX2_appendRule_8 (by decide) rfl ?_
  refine V_aload_n (pc := 10) F dX2_appendRule_10 rfl 1 rfl ?_
  refine V_get (pc := 11) F 0 2 4 i_X2 rfl (by decide) rfl (mm 2 rfl) dX2_appendRule_11 rfl rfl ?_
  refine V_iload_n (pc := 14) F dX2_appendRule_14 rfl 2 rfl ?_
  refine V_iconst (v := 4) (pc := 15) F dX2_appendRule_15 (by decide) ?_
  refine V_imul (pc := 16) F dX2_appendRule_16 ?_
  refine V_iload (pc := 17) F dX2_appendRule_17 0 rfl ?_
  refine V_iadd (pc := 19) F dX2_appendRule_19 ?_
  refine V_iload_n (pc := 20) F dX2_appendRule_20 rfl 3 rfl ?_
  refine V_V (w2 := wX2 cy a (v.1, v.2.1, v.2.2.1, v.2.2.2.1, (rowPut 32 v.2.2.2.2.1 ((x1 * 4) + (rowAt 8 v.2.2.2.1 x1)) x2), v.2.2.2.2.2)) (rest := []) (st2 := []) (pc := 21) F 5 (R_put l D cy (fun i => a (i + 9)) 32 v.2.2.2.2.1 ((x1 * 4) + (rowAt 8 v.2.2.2.1 x1)) x2 (by decide)) (cwV 2 F.ts gX2_appendRule_X5_put rfl rfl rfl hd_X5_put ⟨Nat.le_of_ble_eq_true rfl, Nat.le_of_ble_eq_true rfl⟩) rfl dX2_appendRule_21 (Fit.right (Fit.right (Fit.right (Fit.right (Fit.right (Fit.left Fit.whole)))))) fstX5 rfl rfl (Nat.le_of_ble_eq_true rfl) (Nat.zero_le _) (Nat.zero_le _) rfl rfl rfl ?_
  refine V_aload_n (pc := 24) F dX2_appendRule_24 rfl 1 rfl ?_
  refine V_get (pc := 25) F 0 2 5 i_X2 rfl (by decide) rfl (mm 3 rfl) dX2_appendRule_25 rfl rfl ?_
  refine V_iload_n (pc := 28) F dX2_appendRule_28 rfl 2 rfl ?_
  refine V_iconst (v := 4) (pc := 29) F dX2_appendRule_29 (by decide) ?_
  refine V_imul (pc := 30) F dX2_appendRule_30 ?_
  refine V_iload (pc := 31) F dX2_appendRule_31 0 rfl ?_
  refine V_iadd (pc := 33) F dX2_appendRule_33 ?_
  refine V_iload_n (pc := 34) F dX2_appendRule_34 rfl 4 rfl ?_
  refine V_V (w2 := wX2 cy a (v.1, v.2.1, v.2.2.1, v.2.2.2.1, (rowPut 32 v.2.2.2.2.1 ((x1 * 4) + (rowAt 8 v.2.2.2.1 x1)) x2), (rowPut 32 v.2.2.2.2.2.1 ((x1 * 4) + (rowAt 8 v.2.2.2.1 x1)) x3), v.2.2.2.2.2.2)) (rest := []) (st2 := []) (pc := 35) F 5 (R_put l D cy (fun i => a (i + 11)) 32 v.2.2.2.2.2.1 ((x1 * 4) + (rowAt 8 v.2.2.2.1 x1)) x3 (by decide)) (cwV 2 F.ts gX2_appendRule_X5_put rfl rfl rfl hd_X5_put ⟨Nat.le_of_ble_eq_true rfl, Nat.le_of_ble_eq_true rfl⟩) rfl dX2_appendRule_35 (Fit.right (Fit.right (Fit.right (Fit.right (Fit.right (Fit.right Fit.whole)))))) fstX5 rfl rfl (Nat.le_of_ble_eq_true rfl) (Nat.zero_le _) (Nat.zero_le _) rfl rfl rfl ?_
  refine V_aload_n (pc := 38) F dX2_appendRule_38 rfl 1 rfl ?_
  refine V_get (pc := 39) F 0 2 3 i_X2 rfl (by decide) rfl (mm 1 rfl) dX2_appendRule_39 rfl rfl ?_
  refine V_iload_n (pc := 42) F dX2_appendRule_42 rfl 2 rfl ?_
  refine V_iload (pc := 43) F dX2_appendRule_43 0 rfl ?_
  refine V_iconst (v := 1) (pc := 45) F dX2_appendRule_45 (by decide) ?_
  refine V_iadd (pc := 46) F dX2_appendRule_46 ?_
  refine V_V (w2 := wX2 cy a (v.1, v.2.1, v.2.2.1, (rowPut 8 v.2.2.2.1 x1 ((rowAt 8 v.2.2.2.1 x1) + 1)), (rowPut 32 v.2.2.2.2.1 ((x1 * 4) + (rowAt 8 v.2.2.2.1 x1)) x2), (rowPut 32 v.2.2.2.2.2.1 ((x1 * 4) + (rowAt 8 v.2.2.2.1 x1)) x3), v.2.2.2.2.2.2)) (rest := []) (st2 := []) (pc := 47) F 5 (R_put l D cy (fun i => a (i + 7)) 8 v.2.2.2.1 x1 ((rowAt 8 v.2.2.2.1 x1) + 1) (by decide)) (cwV 2 F.ts gX2_appendRule_X5_put rfl rfl rfl hd_X5_put ⟨Nat.le_of_ble_eq_true rfl, Nat.le_of_ble_eq_true rfl⟩) rfl dX2_appendRule_47 (Fit.right (Fit.right (Fit.right (Fit.right (Fit.left Fit.whole))))) fstX5 rfl rfl (Nat.le_of_ble_eq_true rfl) (Nat.zero_le _) (Nat.zero_le _) rfl rfl rfl ?_
  refine V_iload (pc := 50) F dX2_appendRule_50 0 rfl ?_
  refine V_iconst (v := 1) (pc := 52) F dX2_appendRule_52 (by decide) ?_
  refine V_iadd (pc := 53) F dX2_appendRule_53 ?_
  obtain rfl := some_of hf
  exact V_ret F rfl rfl dX2_appendRule_54 rfl rfl
theorem hd_X2_putClash : yX2_putClash.cls = RX2 ∧ yX2_putClash.cls ≠ "java/lang/invoke/MethodHandle" ∧ yX2_putClash.cls ≠ "java/lang/invoke/VarHandle" ∧ (parseMethodDescriptor yX2_putClash.desc).map (fun d => d.parameters.length) = some 3 := by decide +kernel
def fX2_putClash (N : Nat) (v : SX2) (x1 : Int32) (x2 : Int32) (x3 : Int32) : Option (SX2) :=
  if x3 = 0 then
    if x3 = 0 then
      some ((rowPut 6 (rowPut 6 v.1 x1 ((rowAt 6 v.1 x1) &&& (((1 : Int32) <<< (x2 &&& 31)) ^^^ (-1)))) x2 ((rowAt 6 v.1 x2) &&& (((1 : Int32) <<< (x1 &&& 31)) ^^^ (-1)))), v.2)
    else
      some ((rowPut 6 (rowPut 6 v.1 x1 ((rowAt 6 v.1 x1) &&& (((1 : Int32) <<< (x2 &&& 31)) ^^^ (-1)))) x2 (((rowAt 6 v.1 x2) &&& (((1 : Int32) <<< (x1 &&& 31)) ^^^ (-1))) ||| ((1 : Int32) <<< (x1 &&& 31)))), v.2)
  else
    if x3 = 0 then
      some ((rowPut 6 (rowPut 6 v.1 x1 (((rowAt 6 v.1 x1) &&& (((1 : Int32) <<< (x2 &&& 31)) ^^^ (-1))) ||| ((1 : Int32) <<< (x2 &&& 31)))) x2 ((rowAt 6 v.1 x2) &&& (((1 : Int32) <<< (x1 &&& 31)) ^^^ (-1)))), v.2)
    else
      some ((rowPut 6 (rowPut 6 v.1 x1 (((rowAt 6 v.1 x1) &&& (((1 : Int32) <<< (x2 &&& 31)) ^^^ (-1))) ||| ((1 : Int32) <<< (x2 &&& 31)))) x2 (((rowAt 6 v.1 x2) &&& (((1 : Int32) <<< (x1 &&& 31)) ^^^ (-1))) ||| ((1 : Int32) <<< (x1 &&& 31)))), v.2)
set_option maxHeartbeats 8000000 in
set_option maxRecDepth 100000 in
theorem M_X2_putClash (l : Launch) (D : va_G) (cy : Nat → ClassId) (N : Nat) (a : Nat → Nat) (v : SX2) (x1 : Int32) (x2 : Int32) (x3 : Int32) (o : SX2) (hf : fX2_putClash N v x1 x2 x3 = some o) : okM l yX2_putClash wsX2_putClash (rmz 1 22) D cy [.ref (a 0), .int x1, .int x2, .int x3] (wX2 cy a v) (wX2 cy a o) none := by
  refine okM_of (own := RX2) (nme := "putClash") (cc := cX2_putClash) (maxL := 6) (ret := none) (by decide) rfl rfl rfl (Nat.le_of_ble_eq_true rfl) ?_
  intro p e s m args below meth c A F
  have i_X2 : ∀ w ∈ u_ws RX2 TX2 8, w ∈ wsX2_putClash := fun _ h => List.mem_cons_of_mem _ (List.mem_append_left _ (List.mem_append_right _ h))
  unfold fX2_putClash at hf
  refine V.eq rfl (show lv_args 0 [.ref (a 0), .int x1, .int x2, .int x3] = [(0, .ref (a 0)), (1, .int x1), (2, .int x2), (3, .int x3)] from rfl) rfl ?_
  refine V_aload_n (pc := 0) F dX2_putClash_0 rfl 0 rfl ?_
  refine V_get (pc := 1) F 0 2 0 i_X2 rfl (by decide) rfl (mm 1 rfl) dX2_putClash_1 rfl rfl ?_
  refine V_iload_n (pc := 4) F dX2_putClash_4 rfl 1 rfl ?_
  refine V_V (w2 := wX2 cy a v) (rest := []) (st2 := [.int (rowAt 6 v.1 x1)]) (pc := 5) F 5 (R_at l D cy (fun i => a (i + 1)) 6 v.1 x1 (by decide)) (cwV 1 F.ts gX2_putClash_X5_at rfl rfl rfl hd_X5_at ⟨Nat.le_of_ble_eq_true rfl, Nat.le_of_ble_eq_true rfl⟩) rfl dX2_putClash_5 (Fit.right (Fit.left Fit.whole)) rfl rfl rfl (Nat.le_of_ble_eq_true rfl) (Nat.zero_le _) (Nat.zero_le _) rfl rfl rfl ?_
  refine V_iconst (v := 1) (pc := 8) F dX2_putClash_8 (by decide) ?_
  refine V_iload_n (pc := 9) F dX2_putClash_9 rfl 2 rfl ?_
  refine V_ishl (pc := 10) F dX2_putClash_10 ?_
  refine V_iconst (v := (-1)) (pc := 11) F dX2_putClash_11 (by decide) ?_
  refine V_ixor (pc := 12) F dX2_putClash_12 ?_
  refine V_iand (pc := 13) F dX2_putClash_13 ?_
  refine V_istore (L2 := [(4, .int ((rowAt 6 v.1 x1) &&& (((1 : Int32) <<< (x2 &&& 31)) ^^^ (-1)))), (0, .ref (a 0)), (1, .int x1), (2, .int x2), (3, .int x3)]) (pc := 14) F dX2_putClash_14 (by decide) rfl ?_
  refine V_aload_n (pc := 16) F dX2_putClash_16 rfl 1 rfl ?_
  refine V_get (pc := 17) F 0 2 0 i_X2 rfl (by decide) rfl (mm 1 rfl) dX2_putClash_17 rfl rfl ?_
  refine V_iload_n (pc := 20) F dX2_putClash_20 rfl 3 rfl ?_
  refine V_V (w2 := wX2 cy a v) (rest := []) (st2 := [.int (rowAt 6 v.1 x2)]) (pc := 21) F 5 (R_at l D cy (fun i => a (i + 1)) 6 v.1 x2 (by decide)) (cwV 1 F.ts gX2_putClash_X5_at rfl rfl rfl hd_X5_at ⟨Nat.le_of_ble_eq_true rfl, Nat.le_of_ble_eq_true rfl⟩) rfl dX2_putClash_21 (Fit.right (Fit.left Fit.whole)) rfl rfl rfl (Nat.le_of_ble_eq_true rfl) (Nat.zero_le _) (Nat.zero_le _) rfl rfl rfl ?_
  refine V_iconst (v := 1) (pc := 24) F dX2_putClash_24 (by decide) ?_
  refine V_iload_n (pc := 25) F dX2_putClash_25 rfl 2 rfl ?_
  refine V_ishl (pc := 26) F dX2_putClash_26 ?_
  refine V_iconst (v := (-1)) (pc := 27) F dX2_putClash_27 (by decide) ?_
  refine V_ixor (pc := 28) F dX2_putClash_28 ?_
  refine V_iand (pc := 29) F dX2_putClash_29 ?_
  refine V_istore (L2 := [(5, .int ((rowAt 6 v.1 x2) &&& (((1 : Int32) <<< (x1 &&& 31)) ^^^ (-1)))), (4, .int ((rowAt 6 v.1 x1) &&& (((1 : Int32) <<< (x2 &&& 31)) ^^^ (-1)))), (0, .ref (a 0)), (1, .int x1), (2, .int x2), (3, .int x3)]) (pc := 30) F dX2_putClash_30 (by decide) rfl ?_
  refine V_aload_n (pc := 32) F dX2_putClash_32 rfl 2 rfl ?_
  refine V_get (pc := 33) F 0 2 0 i_X2 rfl (by decide) rfl (mm 1 rfl) dX2_putClash_33 rfl rfl ?_
  refine V_iload_n (pc := 36) F dX2_putClash_36 rfl 3 rfl ?_
  refine V_iload_n (pc := 37) F dX2_putClash_37 rfl 5 rfl ?_
  refine V_if_eq (pc := 38) (tgt := 50) F dX2_putClash_38 (by decide) (fun h1 => ?_) (fun h1 => ?_)
  · replace hf := ite_pos hf h1
    refine V_iload (pc := 50) F dX2_putClash_50 1 rfl ?_
    refine V_V (w2 := wX2 cy a ((rowPut 6 v.1 x1 ((rowAt 6 v.1 x1) &&& (((1 : Int32) <<< (x2 &&& 31)) ^^^ (-1)))), v.2)) (rest := []) (st2 := []) (pc := 52) F 5 (R_put l D cy (fun i => a (i + 1)) 6 v.1 x1 ((rowAt 6 v.1 x1) &&& (((1 : Int32) <<< (x2 &&& 31)) ^^^ (-1))) (by decide)) (cwV 2 F.ts gX2_putClash_X5_put rfl rfl rfl hd_X5_put ⟨Nat.le_of_ble_eq_true rfl, Nat.le_of_ble_eq_true rfl⟩) rfl dX2_putClash_52 (Fit.right (Fit.left Fit.whole)) fstX5 rfl rfl (Nat.le_of_ble_eq_true rfl) (Nat.zero_le _) (Nat.zero_le _) rfl rfl rfl ?_
    refine V_aload_n (pc := 55) F dX2_putClash_55 rfl 2 rfl ?_
    refine V_get (pc := 56) F 0 2 0 i_X2 rfl (by decide) rfl (mm 1 rfl) dX2_putClash_56 rfl rfl ?_
    refine V_iload_n (pc := 59) F dX2_putClash_59 rfl 4 rfl ?_
    refine V_iload_n (pc := 60) F dX2_putClash_60 rfl 5 rfl ?_
    refine V_if_eq (pc := 61) (tgt := 73) F dX2_putClash_61 (by decide) (fun h2 => ?_) (fun h2 => ?_)
    · replace hf := ite_pos hf h2
      refine V_iload (pc := 73) F dX2_putClash_73 0 rfl ?_
      refine V_V (w2 := wX2 cy a ((rowPut 6 (rowPut 6 v.1 x1 ((rowAt 6 v.1 x1) &&& (((1 : Int32) <<< (x2 &&& 31)) ^^^ (-1)))) x2 ((rowAt 6 v.1 x2) &&& (((1 : Int32) <<< (x1 &&& 31)) ^^^ (-1)))), v.2)) (rest := []) (st2 := []) (pc := 75) F 5 (R_put l D cy (fun i => a (i + 1)) 6 (rowPut 6 v.1 x1 ((rowAt 6 v.1 x1) &&& (((1 : Int32) <<< (x2 &&& 31)) ^^^ (-1)))) x2 ((rowAt 6 v.1 x2) &&& (((1 : Int32) <<< (x1 &&& 31)) ^^^ (-1))) (by decide)) (cwV 2 F.ts gX2_putClash_X5_put rfl rfl rfl hd_X5_put ⟨Nat.le_of_ble_eq_true rfl, Nat.le_of_ble_eq_true rfl⟩) rfl dX2_putClash_75 (Fit.right (Fit.left Fit.whole)) fstX5 rfl rfl (Nat.le_of_ble_eq_true rfl) (Nat.zero_le _) (Nat.zero_le _) rfl rfl rfl ?_
      obtain rfl := some_of hf
      exact V_vret F rfl dX2_putClash_78 rfl
    · replace hf := ite_neg hf h2
      refine V_iload (pc := 64) F dX2_putClash_64 0 rfl ?_
      refine V_iconst (v := 1) (pc := 66) F dX2_putClash_66 (by decide) ?_
      refine V_iload_n (pc := 67) F dX2_putClash_67 rfl 3 rfl ?_
      refine V_ishl (pc := 68) F dX2_putClash_68 ?_
      refine V_ior (pc := 69) F dX2_putClash_69 ?_
      refine V_goto (pc := 70) (tgt := 75) F dX2_putClash_70 (by decide) ?_
      refine V_V (w2 := wX2 cy a ((rowPut 6 (rowPut 6 v.1 x1 ((rowAt 6 v.1 x1) &&& (((1 : Int32) <<< (x2 &&& 31)) ^^^ (-1)))) x2 (((rowAt 6 v.1 x2) &&& (((1 : Int32) <<< (x1 &&& 31)) ^^^ (-1))) ||| ((1 : Int32) <<< (x1 &&& 31)))), v.2)) (rest := []) (st2 := []) (pc := 75) F 5 (R_put l D cy (fun i => a (i + 1)) 6 (rowPut 6 v.1 x1 ((rowAt 6 v.1 x1) &&& (((1 : Int32) <<< (x2 &&& 31)) ^^^ (-1)))) x2 (((rowAt 6 v.1 x2) &&& (((1 : Int32) <<< (x1 &&& 31)) ^^^ (-1))) ||| ((1 : Int32) <<< (x1 &&& 31))) (by decide)) (cwV 2 F.ts gX2_putClash_X5_put rfl rfl rfl hd_X5_put ⟨Nat.le_of_ble_eq_true rfl, Nat.le_of_ble_eq_true rfl⟩) rfl dX2_putClash_75 (Fit.right (Fit.left Fit.whole)) fstX5 rfl rfl (Nat.le_of_ble_eq_true rfl) (Nat.zero_le _) (Nat.zero_le _) rfl rfl rfl ?_
      obtain rfl := some_of hf
      exact V_vret F rfl dX2_putClash_78 rfl
  · replace hf := ite_neg hf h1
    refine V_iload (pc := 41) F dX2_putClash_41 1 rfl ?_
    refine V_iconst (v := 1) (pc := 43) F dX2_putClash_43 (by decide) ?_
    refine V_iload_n (pc := 44) F dX2_putClash_44 rfl 4 rfl ?_
    refine V_ishl (pc := 45) F dX2_putClash_45 ?_
    refine V_ior (pc := 46) F dX2_putClash_46 ?_
    refine V_goto (pc := 47) (tgt := 52) F dX2_putClash_47 (by decide) ?_
    refine V_V (w2 := wX2 cy a ((rowPut 6 v.1 x1 (((rowAt 6 v.1 x1) &&& (((1 : Int32) <<< (x2 &&& 31)) ^^^ (-1))) ||| ((1 : Int32) <<< (x2 &&& 31)))), v.2)) (rest := []) (st2 := []) (pc := 52) F 5 (R_put l D cy (fun i => a (i + 1)) 6 v.1 x1 (((rowAt 6 v.1 x1) &&& (((1 : Int32) <<< (x2 &&& 31)) ^^^ (-1))) ||| ((1 : Int32) <<< (x2 &&& 31))) (by decide)) (cwV 2 F.ts gX2_putClash_X5_put rfl rfl rfl hd_X5_put ⟨Nat.le_of_ble_eq_true rfl, Nat.le_of_ble_eq_true rfl⟩) rfl dX2_putClash_52 (Fit.right (Fit.left Fit.whole)) fstX5 rfl rfl (Nat.le_of_ble_eq_true rfl) (Nat.zero_le _) (Nat.zero_le _) rfl rfl rfl ?_
    refine V_aload_n (pc := 55) F dX2_putClash_55 rfl 2 rfl ?_
    refine V_get (pc := 56) F 0 2 0 i_X2 rfl (by decide) rfl (mm 1 rfl) dX2_putClash_56 rfl rfl ?_
    refine V_iload_n (pc := 59) F dX2_putClash_59 rfl 4 rfl ?_
    refine V_iload_n (pc := 60) F dX2_putClash_60 rfl 5 rfl ?_
    refine V_if_eq (pc := 61) (tgt := 73) F dX2_putClash_61 (by decide) (fun h3 => ?_) (fun h3 => ?_)
    · replace hf := ite_pos hf h3
      refine V_iload (pc := 73) F dX2_putClash_73 0 rfl ?_
      refine V_V (w2 := wX2 cy a ((rowPut 6 (rowPut 6 v.1 x1 (((rowAt 6 v.1 x1) &&& (((1 : Int32) <<< (x2 &&& 31)) ^^^ (-1))) ||| ((1 : Int32) <<< (x2 &&& 31)))) x2 ((rowAt 6 v.1 x2) &&& (((1 : Int32) <<< (x1 &&& 31)) ^^^ (-1)))), v.2)) (rest := []) (st2 := []) (pc := 75) F 5 (R_put l D cy (fun i => a (i + 1)) 6 (rowPut 6 v.1 x1 (((rowAt 6 v.1 x1) &&& (((1 : Int32) <<< (x2 &&& 31)) ^^^ (-1))) ||| ((1 : Int32) <<< (x2 &&& 31)))) x2 ((rowAt 6 v.1 x2) &&& (((1 : Int32) <<< (x1 &&& 31)) ^^^ (-1))) (by decide)) (cwV 2 F.ts gX2_putClash_X5_put rfl rfl rfl hd_X5_put ⟨Nat.le_of_ble_eq_true rfl, Nat.le_of_ble_eq_true rfl⟩) rfl dX2_putClash_75 (Fit.right (Fit.left Fit.whole)) fstX5 rfl rfl (Nat.le_of_ble_eq_true rfl) (Nat.zero_le _) (Nat.zero_le _) rfl rfl rfl ?_
      obtain rfl := some_of hf
      exact V_vret F rfl dX2_putClash_78 rfl
    · replace hf := ite_neg hf h3
      refine V_iload (pc := 64) F dX2_putClash_64 0 rfl ?_
      refine V_iconst (v := 1) (pc := 66) F dX2_putClash_66 (by decide) ?_
      refine V_iload_n (pc := 67) F dX2_putClash_67 rfl 3 rfl ?_
      refine V_ishl (pc := 68) F dX2_putClash_68 ?_
      refine V_ior (pc := 69) F dX2_putClash_69 ?_
      refine V_goto (pc := 70) (tgt := 75) F dX2_putClash_70 (by decide) ?_
      refine V_V (w2 := wX2 cy a ((rowPut 6 (rowPut 6 v.1 x1 (((rowAt 6 v.1 x1) &&& (((1 : Int32) <<< (x2 &&& 31)) ^^^ (-1))) ||| ((1 : Int32) <<< (x2 &&& 31)))) x2 (((rowAt 6 v.1 x2) &&& (((1 : Int32) <<< (x1 &&& 31)) ^^^ (-1))) ||| ((1 : Int32) <<< (x1 &&& 31)))), v.2)) (rest := []) (st2 := []) (pc := 75) F 5 (R_put l D cy (fun i => a (i + 1)) 6 (rowPut 6 v.1 x1 (((rowAt 6 v.1 x1) &&& (((1 : Int32) <<< (x2 &&& 31)) ^^^ (-1))) ||| ((1 : Int32) <<< (x2 &&& 31)))) x2 (((rowAt 6 v.1 x2) &&& (((1 : Int32) <<< (x1 &&& 31)) ^^^ (-1))) ||| ((1 : Int32) <<< (x1 &&& 31))) (by decide)) (cwV 2 F.ts gX2_putClash_X5_put rfl rfl rfl hd_X5_put ⟨Nat.le_of_ble_eq_true rfl, Nat.le_of_ble_eq_true rfl⟩) rfl dX2_putClash_75 (Fit.right (Fit.left Fit.whole)) fstX5 rfl rfl (Nat.le_of_ble_eq_true rfl) (Nat.zero_le _) (Nat.zero_le _) rfl rfl rfl ?_
      obtain rfl := some_of hf
      exact V_vret F rfl dX2_putClash_78 rfl
theorem hd_X2_isUnsafe : yX2_isUnsafe.cls = RX2 ∧ yX2_isUnsafe.cls ≠ "java/lang/invoke/MethodHandle" ∧ yX2_isUnsafe.cls ≠ "java/lang/invoke/VarHandle" ∧ (parseMethodDescriptor yX2_isUnsafe.desc).map (fun d => d.parameters.length) = some 1 := by decide +kernel
def fX2_isUnsafe_L11 (N : Nat) (v : SX2) (z2 : Int32) : Nat → Int32 → Option ((Int32) ⊕ (Unit))
  | 0, _ => none
  | n + 1, z3 =>
    if 6 ≤ z3 then
      some (.inr ())
    else
      (fX7_has N z2 z3).bind fun r2 =>
        if r2 = 0 then
          fX2_isUnsafe_L11 N v z2 n (z3 + 1)
        else
          if (z2 &&& (rowAt 6 v.1 z3)) = 0 then
            fX2_isUnsafe_L11 N v z2 n (z3 + 1)
          else
            some (.inl 1)
def fX2_isUnsafe (N : Nat) (v : SX2) (x1 : Int32) : Option (Int32) :=
  (fX2_isUnsafe_L11 N v (rowAt 8 v.2.1 x1) N 0).bind fun u6 => onS u6 (fun r => some r) fun q8 =>
    some 0
set_option maxHeartbeats 8000000 in
set_option maxRecDepth 100000 in
theorem M_X2_isUnsafe (l : Launch) (D : va_G) (cy : Nat → ClassId) (N : Nat) (a : Nat → Nat) (v : SX2) (x1 : Int32) (o : Int32) (hf : fX2_isUnsafe N v x1 = some o) : okM l yX2_isUnsafe wsX2_isUnsafe (rmz 1 21) D cy [.ref (a 0), .int x1] (wX2 cy a v) (wX2 cy a v) (some (.int o)) := by
  refine okM_of (own := RX2) (nme := "isUnsafe") (cc := cX2_isUnsafe) (maxL := 4) (ret := (some .boolean)) (by decide) rfl rfl rfl (Nat.le_of_ble_eq_true rfl) ?_
  intro p e s m args below meth c A F
  have i_X2 : ∀ w ∈ u_ws RX2 TX2 8, w ∈ wsX2_isUnsafe := fun _ h => List.mem_cons_of_mem _ (List.mem_append_left _ (List.mem_append_right _ h))
  have K11 : ∀ (n : Nat) (v : SX2) (z2 : Int32) (z3 : Int32) (u : (Int32) ⊕ (Unit)), fX2_isUnsafe_L11 N v z2 n z3 = some u → (∀ r, u = .inl r → r = o) → (∀ q, u = .inr q → V p l e (rmz 1 21) s m args below meth c 4 D A 0 0 (MQ below (ok_Q D (wX2 cy a v) (some (.int o)) A) args s 0 0 A) (wX2 cy a v) [] [] 46) → V p l e (rmz 1 21) s m args below meth c 4 D A 0 0 (MQ below (ok_Q D (wX2 cy a v) (some (.int o)) A) args s 0 0 A) (wX2 cy a v) [(0, .ref (a 0)), (2, .int z2), (3, .int z3)] [] 11 := by
    intro n
    induction n with
    | zero =>
      intro v z2 z3 u hf hr hk
      exact nomatch (show (none : Option ((Int32) ⊕ (Unit))) = some u from hf)
    | succ n ih =>
      intro v z2 z3 u hf hr hk
      rw [fX2_isUnsafe_L11] at hf
      refine V_iload_n (pc := 11) F dX2_isUnsafe_11 rfl 2 rfl ?_
      refine V_bipush (v := 6) (pc := 12) F dX2_isUnsafe_12 (by decide) ?_
      refine V_icmp_ge (pc := 14) (tgt := 46) F dX2_isUnsafe_14 (by decide) (fun h1 => ?_) (fun h1 => ?_)
      · replace hf := ite_pos hf h1
        exact V.sub [] rfl (hk _ (some_of hf).symm)
      · replace hf := ite_neg hf h1
        refine V_iload_n (pc := 17) F dX2_isUnsafe_17 rfl 1 rfl ?_
        refine V_iload_n (pc := 18) F dX2_isUnsafe_18 rfl 2 rfl ?_
        obtain ⟨r2, g3, hf⟩ := bind_of hf
        refine V_SN (rest := []) (st2 := [.int r2]) (pc := 19) F (M_X7_has l D cy N z2 z3 r2 g3) ⟨va_cnB 2 F.ts gX2_isUnsafe_X7_has_n54 rfl rfl rfl F.nest.2.1 (F.ts _ (mm 10 rfl)) hd_X7_has ⟨Nat.le_of_ble_eq_true rfl, Nat.le_of_ble_eq_true rfl⟩, F.ts _ (mm 9 rfl), trivial⟩ rfl dX2_isUnsafe_19 (Nat.le_of_ble_eq_true rfl) (Nat.zero_le _) (Nat.zero_le _) rfl rfl ?_
        refine V_if_eq (pc := 22) (tgt := 40) F dX2_isUnsafe_22 (by decide) (fun h4 => ?_) (fun h4 => ?_)
        · replace hf := ite_pos hf h4
          refine V_iinc (v := (z3 + 1)) (L2 := [(3, .int (z3 + 1)), (0, .ref (a 0)), (2, .int z2)]) (pc := 40) F dX2_isUnsafe_40 2 rfl rfl (by decide) rfl ?_
          refine V_goto (pc := 43) (tgt := 11) F dX2_isUnsafe_43 (by decide) ?_
          refine V.sub [1, 2, 0] rfl ?_
          exact ih v z2 (z3 + 1) _ hf hr hk
        · replace hf := ite_neg hf h4
          refine V_iload_n (pc := 25) F dX2_isUnsafe_25 rfl 1 rfl ?_
          refine V_aload_n (pc := 26) F dX2_isUnsafe_26 rfl 0 rfl ?_
          refine V_get (pc := 27) F 0 2 0 i_X2 rfl (by decide) rfl (mm 2 rfl) dX2_isUnsafe_27 rfl rfl ?_
          refine V_iload_n (pc := 30) F dX2_isUnsafe_30 rfl 2 rfl ?_
          refine V_V (w2 := wX2 cy a v) (rest := [.int z2]) (st2 := [.int (rowAt 6 v.1 z3), .int z2]) (pc := 31) F 5 (R_at l D cy (fun i => a (i + 1)) 6 v.1 z3 (by decide)) (cwV 1 F.ts gX2_isUnsafe_X5_at rfl rfl rfl hd_X5_at ⟨Nat.le_of_ble_eq_true rfl, Nat.le_of_ble_eq_true rfl⟩) rfl dX2_isUnsafe_31 (Fit.right (Fit.left Fit.whole)) rfl rfl rfl (Nat.le_of_ble_eq_true rfl) (Nat.zero_le _) (Nat.zero_le _) rfl rfl rfl ?_
          refine V_iand (pc := 34) F dX2_isUnsafe_34 ?_
          refine V_if_eq (pc := 35) (tgt := 40) F dX2_isUnsafe_35 (by decide) (fun h5 => ?_) (fun h5 => ?_)
          · replace hf := ite_pos hf h5
            refine V_iinc (v := (z3 + 1)) (L2 := [(3, .int (z3 + 1)), (0, .ref (a 0)), (2, .int z2)]) (pc := 40) F dX2_isUnsafe_40 2 rfl rfl (by decide) rfl ?_
            refine V_goto (pc := 43) (tgt := 11) F dX2_isUnsafe_43 (by decide) ?_
            refine V.sub [1, 2, 0] rfl ?_
            exact ih v z2 (z3 + 1) _ hf hr hk
          · replace hf := ite_neg hf h5
            refine V_iconst (v := 1) (pc := 38) F dX2_isUnsafe_38 (by decide) ?_
            obtain rfl := hr _ (some_of hf).symm
            exact V_ret F rfl rfl dX2_isUnsafe_39 rfl rfl
  unfold fX2_isUnsafe at hf
  refine V.eq rfl (show lv_args 0 [.ref (a 0), .int x1] = [(0, .ref (a 0)), (1, .int x1)] from rfl) rfl ?_
  refine V_aload_n (pc := 0) F dX2_isUnsafe_0 rfl 0 rfl ?_
  refine V_get (pc := 1) F 0 2 1 i_X2 rfl (by decide) rfl (mm 1 rfl) dX2_isUnsafe_1 rfl rfl ?_
  refine V_iload_n (pc := 4) F dX2_isUnsafe_4 rfl 1 rfl ?_
  refine V_V (w2 := wX2 cy a v) (rest := []) (st2 := [.int (rowAt 8 v.2.1 x1)]) (pc := 5) F 5 (R_at l D cy (fun i => a (i + 3)) 8 v.2.1 x1 (by decide)) (cwV 1 F.ts gX2_isUnsafe_X5_at rfl rfl rfl hd_X5_at ⟨Nat.le_of_ble_eq_true rfl, Nat.le_of_ble_eq_true rfl⟩) rfl dX2_isUnsafe_5 (Fit.right (Fit.right (Fit.left Fit.whole))) rfl rfl rfl (Nat.le_of_ble_eq_true rfl) (Nat.zero_le _) (Nat.zero_le _) rfl rfl rfl ?_
  refine V_istore_n (L2 := [(2, .int (rowAt 8 v.2.1 x1)), (0, .ref (a 0)), (1, .int x1)]) (pc := 8) F dX2_isUnsafe_8 rfl (by decide) rfl ?_
  refine V_iconst (v := 0) (pc := 9) F dX2_isUnsafe_9 (by decide) ?_
  refine V_istore_n (L2 := [(3, .int 0), (2, .int (rowAt 8 v.2.1 x1)), (0, .ref (a 0)), (1, .int x1)]) (pc := 10) F dX2_isUnsafe_10 rfl (by decide) rfl ?_
  refine V.sub [2, 1, 0] rfl ?_
  obtain ⟨u6, g7, hf⟩ := bind_of hf
  refine K11 N v (rowAt 8 v.2.1 x1) 0 u6 g7 (fun r h9 => ?_) (fun q8 h9 => ?_)
  · subst h9
    replace hf := onS_inl hf
    exact some_of hf
  · subst h9
    replace hf := onS_inr hf
    refine V_iconst (v := 0) (pc := 46) F dX2_isUnsafe_46 (by decide) ?_
    obtain rfl := some_of hf
    exact V_ret F rfl rfl dX2_isUnsafe_47 rfl rfl
theorem hd_X2_unsafePhases : yX2_unsafePhases.cls = RX2 ∧ yX2_unsafePhases.cls ≠ "java/lang/invoke/MethodHandle" ∧ yX2_unsafePhases.cls ≠ "java/lang/invoke/VarHandle" ∧ (parseMethodDescriptor yX2_unsafePhases.desc).map (fun d => d.parameters.length) = some 0 := by decide +kernel
def fX2_unsafePhases_L4 (N : Nat) (v : SX2) : Nat → Int32 → Int32 → Option (Int32)
  | 0, _, _ => none
  | n + 1, z1, z2 =>
    if v.2.2.2.2.2.2.1 ≤ z2 then
      some z1
    else
      (fX2_isUnsafe N v z2).bind fun r2 =>
        if r2 = 0 then
          fX2_unsafePhases_L4 N v n z1 (z2 + 1)
        else
          fX2_unsafePhases_L4 N v n (z1 ||| ((1 : Int32) <<< (z2 &&& 31))) (z2 + 1)
def fX2_unsafePhases (N : Nat) (v : SX2) : Option (Int32) :=
  (fX2_unsafePhases_L4 N v N 0 0).bind fun u5 =>
    some u5
set_option maxHeartbeats 8000000 in
set_option maxRecDepth 100000 in
theorem M_X2_unsafePhases (l : Launch) (D : va_G) (cy : Nat → ClassId) (N : Nat) (a : Nat → Nat) (v : SX2) (o : Int32) (hf : fX2_unsafePhases N v = some o) : okM l yX2_unsafePhases wsX2_unsafePhases (rmz 2 44) D cy [.ref (a 0)] (wX2 cy a v) (wX2 cy a v) (some (.int o)) := by
  refine okM_of (own := RX2) (nme := "unsafePhases") (cc := cX2_unsafePhases) (maxL := 3) (ret := (some .int)) (by decide) rfl rfl rfl (Nat.le_of_ble_eq_true rfl) ?_
  intro p e s m args below meth c A F
  have i_X2 : ∀ w ∈ u_ws RX2 TX2 8, w ∈ wsX2_unsafePhases := fun _ h => List.mem_cons_of_mem _ (List.mem_append_left _ (List.mem_append_right _ h))
  have K4 : ∀ (n : Nat) (v : SX2) (z1 : Int32) (z2 : Int32) (u : Int32), fX2_unsafePhases_L4 N v n z1 z2 = some u → V p l e (rmz 2 44) s m args below meth c 3 D A 0 0 (MQ below (ok_Q D (wX2 cy a v) (some (.int o)) A) args s 0 0 A) (wX2 cy a v) [(1, .int u)] [] 32 → V p l e (rmz 2 44) s m args below meth c 3 D A 0 0 (MQ below (ok_Q D (wX2 cy a v) (some (.int o)) A) args s 0 0 A) (wX2 cy a v) [(0, .ref (a 0)), (1, .int z1), (2, .int z2)] [] 4 := by
    intro n
    induction n with
    | zero =>
      intro v z1 z2 u hf hk
      exact nomatch (show (none : Option (Int32)) = some u from hf)
    | succ n ih =>
      intro v z1 z2 u hf hk
      rw [fX2_unsafePhases_L4] at hf
      refine V_iload_n (pc := 4) F dX2_unsafePhases_4 rfl 2 rfl ?_
      refine V_aload_n (pc := 5) F dX2_unsafePhases_5 rfl 0 rfl ?_
      refine V_get (pc := 6) F 0 2 6 i_X2 rfl (by decide) rfl (mm 1 rfl) dX2_unsafePhases_6 rfl rfl ?_
      refine V_icmp_ge (pc := 9) (tgt := 32) F dX2_unsafePhases_9 (by decide) (fun h1 => ?_) (fun h1 => ?_)
      · replace hf := ite_pos hf h1
        obtain rfl := some_of hf
        exact V.sub [1] rfl hk
      · replace hf := ite_neg hf h1
        refine V_aload_n (pc := 12) F dX2_unsafePhases_12 rfl 0 rfl ?_
        refine V_iload_n (pc := 13) F dX2_unsafePhases_13 rfl 2 rfl ?_
        obtain ⟨r2, g3, hf⟩ := bind_of hf
        refine V_V (w2 := wX2 cy a v) (rest := []) (st2 := [.int r2]) (pc := 14) F 2 (M_X2_isUnsafe l D cy N a v z2 r2 g3) (cwV 1 F.ts gX2_unsafePhases_X2_isUnsafe rfl rfl rfl hd_X2_isUnsafe ⟨Nat.le_of_ble_eq_true rfl, Nat.le_of_ble_eq_true rfl⟩) rfl dX2_unsafePhases_14 Fit.whole rfl rfl rfl (Nat.le_of_ble_eq_true rfl) (Nat.zero_le _) (Nat.zero_le _) rfl rfl rfl ?_
        refine V_if_eq (pc := 17) (tgt := 26) F dX2_unsafePhases_17 (by decide) (fun h4 => ?_) (fun h4 => ?_)
        · replace hf := ite_pos hf h4
          refine V_iinc (v := (z2 + 1)) (L2 := [(2, .int (z2 + 1)), (0, .ref (a 0)), (1, .int z1)]) (pc := 26) F dX2_unsafePhases_26 2 rfl rfl (by decide) rfl ?_
          refine V_goto (pc := 29) (tgt := 4) F dX2_unsafePhases_29 (by decide) ?_
          refine V.sub [1, 2, 0] rfl ?_
          exact ih v z1 (z2 + 1) _ hf hk
        · replace hf := ite_neg hf h4
          refine V_iload_n (pc := 20) F dX2_unsafePhases_20 rfl 1 rfl ?_
          refine V_iconst (v := 1) (pc := 21) F dX2_unsafePhases_21 (by decide) ?_
          refine V_iload_n (pc := 22) F dX2_unsafePhases_22 rfl 2 rfl ?_
          refine V_ishl (pc := 23) F dX2_unsafePhases_23 ?_
          refine V_ior (pc := 24) F dX2_unsafePhases_24 ?_
          refine V_istore_n (L2 := [(1, .int (z1 ||| ((1 : Int32) <<< (z2 &&& 31)))), (0, .ref (a 0)), (2, .int z2)]) (pc := 25) F dX2_unsafePhases_25 rfl (by decide) rfl ?_
          refine V_iinc (v := (z2 + 1)) (L2 := [(2, .int (z2 + 1)), (1, .int (z1 ||| ((1 : Int32) <<< (z2 &&& 31)))), (0, .ref (a 0))]) (pc := 26) F dX2_unsafePhases_26 2 rfl rfl (by decide) rfl ?_
          refine V_goto (pc := 29) (tgt := 4) F dX2_unsafePhases_29 (by decide) ?_
          refine V.sub [2, 1, 0] rfl ?_
          exact ih v (z1 ||| ((1 : Int32) <<< (z2 &&& 31))) (z2 + 1) _ hf hk
  unfold fX2_unsafePhases at hf
  refine V.eq rfl (show lv_args 0 [.ref (a 0)] = [(0, .ref (a 0))] from rfl) rfl ?_
  refine V_iconst (v := 0) (pc := 0) F dX2_unsafePhases_0 (by decide) ?_
  refine V_istore_n (L2 := [(1, .int 0), (0, .ref (a 0))]) (pc := 1) F dX2_unsafePhases_1 rfl (by decide) rfl ?_
  refine V_iconst (v := 0) (pc := 2) F dX2_unsafePhases_2 (by decide) ?_
  refine V_istore_n (L2 := [(2, .int 0), (1, .int 0), (0, .ref (a 0))]) (pc := 3) F dX2_unsafePhases_3 rfl (by decide) rfl ?_
  refine V.sub [2, 1, 0] rfl ?_
  obtain ⟨u5, g6, hf⟩ := bind_of hf
  refine K4 N v 0 0 u5 g6 ?_
  refine V_iload_n (pc := 32) F dX2_unsafePhases_32 rfl 0 rfl ?_
  obtain rfl := some_of hf
  exact V_ret F rfl rfl dX2_unsafePhases_33 rfl rfl
theorem hd_X2_phasesWith : yX2_phasesWith.cls = RX2 ∧ yX2_phasesWith.cls ≠ "java/lang/invoke/MethodHandle" ∧ yX2_phasesWith.cls ≠ "java/lang/invoke/VarHandle" ∧ (parseMethodDescriptor yX2_phasesWith.desc).map (fun d => d.parameters.length) = some 1 := by decide +kernel
def fX2_phasesWith_L4 (N : Nat) (v : SX2) (z1 : Int32) : Nat → Int32 → Int32 → Option (Int32)
  | 0, _, _ => none
  | n + 1, z2, z3 =>
    if v.2.2.2.2.2.2.1 ≤ z3 then
      some z2
    else
      (fX7_has N (rowAt 8 v.2.1 z3) z1).bind fun r2 =>
        if r2 = 0 then
          fX2_phasesWith_L4 N v z1 n z2 (z3 + 1)
        else
          fX2_phasesWith_L4 N v z1 n (z2 ||| ((1 : Int32) <<< (z3 &&& 31))) (z3 + 1)
def fX2_phasesWith (N : Nat) (v : SX2) (x1 : Int32) : Option (Int32) :=
  (fX2_phasesWith_L4 N v x1 N 0 0).bind fun u5 =>
    some u5
set_option maxHeartbeats 8000000 in
set_option maxRecDepth 100000 in
theorem M_X2_phasesWith (l : Launch) (D : va_G) (cy : Nat → ClassId) (N : Nat) (a : Nat → Nat) (v : SX2) (x1 : Int32) (o : Int32) (hf : fX2_phasesWith N v x1 = some o) : okM l yX2_phasesWith wsX2_phasesWith (rmz 1 21) D cy [.ref (a 0), .int x1] (wX2 cy a v) (wX2 cy a v) (some (.int o)) := by
  refine okM_of (own := RX2) (nme := "phasesWith") (cc := cX2_phasesWith) (maxL := 4) (ret := (some .int)) (by decide) rfl rfl rfl (Nat.le_of_ble_eq_true rfl) ?_
  intro p e s m args below meth c A F
  have i_X2 : ∀ w ∈ u_ws RX2 TX2 8, w ∈ wsX2_phasesWith := fun _ h => List.mem_cons_of_mem _ (List.mem_append_left _ (List.mem_append_right _ h))
  have K4 : ∀ (n : Nat) (v : SX2) (z1 : Int32) (z2 : Int32) (z3 : Int32) (u : Int32), fX2_phasesWith_L4 N v z1 n z2 z3 = some u → V p l e (rmz 1 21) s m args below meth c 4 D A 0 0 (MQ below (ok_Q D (wX2 cy a v) (some (.int o)) A) args s 0 0 A) (wX2 cy a v) [(2, .int u)] [] 39 → V p l e (rmz 1 21) s m args below meth c 4 D A 0 0 (MQ below (ok_Q D (wX2 cy a v) (some (.int o)) A) args s 0 0 A) (wX2 cy a v) [(0, .ref (a 0)), (1, .int z1), (2, .int z2), (3, .int z3)] [] 4 := by
    intro n
    induction n with
    | zero =>
      intro v z1 z2 z3 u hf hk
      exact nomatch (show (none : Option (Int32)) = some u from hf)
    | succ n ih =>
      intro v z1 z2 z3 u hf hk
      rw [fX2_phasesWith_L4] at hf
      refine V_iload_n (pc := 4) F dX2_phasesWith_4 rfl 3 rfl ?_
      refine V_aload_n (pc := 5) F dX2_phasesWith_5 rfl 0 rfl ?_
      refine V_get (pc := 6) F 0 2 6 i_X2 rfl (by decide) rfl (mm 1 rfl) dX2_phasesWith_6 rfl rfl ?_
      refine V_icmp_ge (pc := 9) (tgt := 39) F dX2_phasesWith_9 (by decide) (fun h1 => ?_) (fun h1 => ?_)
      · replace hf := ite_pos hf h1
        obtain rfl := some_of hf
        exact V.sub [2] rfl hk
      · replace hf := ite_neg hf h1
        refine V_aload_n (pc := 12) F dX2_phasesWith_12 rfl 0 rfl ?_
        refine V_get (pc := 13) F 0 2 1 i_X2 rfl (by decide) rfl (mm 2 rfl) dX2_phasesWith_13 rfl rfl ?_
        refine V_iload_n (pc := 16) F dX2_phasesWith_16 rfl 3 rfl ?_
        refine V_V (w2 := wX2 cy a v) (rest := []) (st2 := [.int (rowAt 8 v.2.1 z3)]) (pc := 17) F 5 (R_at l D cy (fun i => a (i + 3)) 8 v.2.1 z3 (by decide)) (cwV 1 F.ts gX2_phasesWith_X5_at rfl rfl rfl hd_X5_at ⟨Nat.le_of_ble_eq_true rfl, Nat.le_of_ble_eq_true rfl⟩) rfl dX2_phasesWith_17 (Fit.right (Fit.right (Fit.left Fit.whole))) rfl rfl rfl (Nat.le_of_ble_eq_true rfl) (Nat.zero_le _) (Nat.zero_le _) rfl rfl rfl ?_
        refine V_iload_n (pc := 20) F dX2_phasesWith_20 rfl 1 rfl ?_
        obtain ⟨r2, g3, hf⟩ := bind_of hf
        refine V_SN (rest := []) (st2 := [.int r2]) (pc := 21) F (M_X7_has l D cy N (rowAt 8 v.2.1 z3) z1 r2 g3) ⟨va_cnB 2 F.ts gX2_phasesWith_X7_has_n54 rfl rfl rfl F.nest.2.1 (F.ts _ (mm 10 rfl)) hd_X7_has ⟨Nat.le_of_ble_eq_true rfl, Nat.le_of_ble_eq_true rfl⟩, F.ts _ (mm 9 rfl), trivial⟩ rfl dX2_phasesWith_21 (Nat.le_of_ble_eq_true rfl) (Nat.zero_le _) (Nat.zero_le _) rfl rfl ?_
        refine V_if_eq (pc := 24) (tgt := 33) F dX2_phasesWith_24 (by decide) (fun h4 => ?_) (fun h4 => ?_)
        · replace hf := ite_pos hf h4
          refine V_iinc (v := (z3 + 1)) (L2 := [(3, .int (z3 + 1)), (0, .ref (a 0)), (1, .int z1), (2, .int z2)]) (pc := 33) F dX2_phasesWith_33 3 rfl rfl (by decide) rfl ?_
          refine V_goto (pc := 36) (tgt := 4) F dX2_phasesWith_36 (by decide) ?_
          refine V.sub [1, 2, 3, 0] rfl ?_
          exact ih v z1 z2 (z3 + 1) _ hf hk
        · replace hf := ite_neg hf h4
          refine V_iload_n (pc := 27) F dX2_phasesWith_27 rfl 2 rfl ?_
          refine V_iconst (v := 1) (pc := 28) F dX2_phasesWith_28 (by decide) ?_
          refine V_iload_n (pc := 29) F dX2_phasesWith_29 rfl 3 rfl ?_
          refine V_ishl (pc := 30) F dX2_phasesWith_30 ?_
          refine V_ior (pc := 31) F dX2_phasesWith_31 ?_
          refine V_istore_n (L2 := [(2, .int (z2 ||| ((1 : Int32) <<< (z3 &&& 31)))), (0, .ref (a 0)), (1, .int z1), (3, .int z3)]) (pc := 32) F dX2_phasesWith_32 rfl (by decide) rfl ?_
          refine V_iinc (v := (z3 + 1)) (L2 := [(3, .int (z3 + 1)), (2, .int (z2 ||| ((1 : Int32) <<< (z3 &&& 31)))), (0, .ref (a 0)), (1, .int z1)]) (pc := 33) F dX2_phasesWith_33 3 rfl rfl (by decide) rfl ?_
          refine V_goto (pc := 36) (tgt := 4) F dX2_phasesWith_36 (by decide) ?_
          refine V.sub [2, 3, 1, 0] rfl ?_
          exact ih v z1 (z2 ||| ((1 : Int32) <<< (z3 &&& 31))) (z3 + 1) _ hf hk
  unfold fX2_phasesWith at hf
  refine V.eq rfl (show lv_args 0 [.ref (a 0), .int x1] = [(0, .ref (a 0)), (1, .int x1)] from rfl) rfl ?_
  refine V_iconst (v := 0) (pc := 0) F dX2_phasesWith_0 (by decide) ?_
  refine V_istore_n (L2 := [(2, .int 0), (0, .ref (a 0)), (1, .int x1)]) (pc := 1) F dX2_phasesWith_1 rfl (by decide) rfl ?_
  refine V_iconst (v := 0) (pc := 2) F dX2_phasesWith_2 (by decide) ?_
  refine V_istore_n (L2 := [(3, .int 0), (2, .int 0), (0, .ref (a 0)), (1, .int x1)]) (pc := 3) F dX2_phasesWith_3 rfl (by decide) rfl ?_
  refine V.sub [2, 3, 1, 0] rfl ?_
  obtain ⟨u5, g6, hf⟩ := bind_of hf
  refine K4 N v x1 0 0 u5 g6 ?_
  refine V_iload_n (pc := 39) F dX2_phasesWith_39 rfl 0 rfl ?_
  obtain rfl := some_of hf
  exact V_ret F rfl rfl dX2_phasesWith_40 rfl rfl
theorem hd_X2_clearingBetween : yX2_clearingBetween.cls = RX2 ∧ yX2_clearingBetween.cls ≠ "java/lang/invoke/MethodHandle" ∧ yX2_clearingBetween.cls ≠ "java/lang/invoke/VarHandle" ∧ (parseMethodDescriptor yX2_clearingBetween.desc).map (fun d => d.parameters.length) = some 2 := by decide +kernel
def fX2_clearingBetween (N : Nat) (v : SX2) (x1 : Int32) (x2 : Int32) : Option (Int32) :=
  if (rowAt 8 v.2.1 x1) = (rowAt 8 v.2.1 x2) then
    some 0
  else
    some v.2.2.2.2.2.2.2
set_option maxHeartbeats 8000000 in
set_option maxRecDepth 100000 in
theorem M_X2_clearingBetween (l : Launch) (D : va_G) (cy : Nat → ClassId) (N : Nat) (a : Nat → Nat) (v : SX2) (x1 : Int32) (x2 : Int32) (o : Int32) (hf : fX2_clearingBetween N v x1 x2 = some o) : okM l yX2_clearingBetween wsX2_clearingBetween (rmz 1 21) D cy [.ref (a 0), .int x1, .int x2] (wX2 cy a v) (wX2 cy a v) (some (.int o)) := by
  refine okM_of (own := RX2) (nme := "clearingBetween") (cc := cX2_clearingBetween) (maxL := 3) (ret := (some .int)) (by decide) rfl rfl rfl (Nat.le_of_ble_eq_true rfl) ?_
  intro p e s m args below meth c A F
  have i_X2 : ∀ w ∈ u_ws RX2 TX2 8, w ∈ wsX2_clearingBetween := fun _ h => List.mem_cons_of_mem _ (List.mem_append_left _ (List.mem_append_right _ h))
  unfold fX2_clearingBetween at hf
  refine V.eq rfl (show lv_args 0 [.ref (a 0), .int x1, .int x2] = [(0, .ref (a 0)), (1, .int x1), (2, .int x2)] from rfl) rfl ?_
  refine V_aload_n (pc := 0) F dX2_clearingBetween_0 rfl 0 rfl ?_
  refine V_get (pc := 1) F 0 2 1 i_X2 rfl (by decide) rfl (mm 1 rfl) dX2_clearingBetween_1 rfl rfl ?_
  refine V_iload_n (pc := 4) F dX2_clearingBetween_4 rfl 1 rfl ?_
  refine V_V (w2 := wX2 cy a v) (rest := []) (st2 := [.int (rowAt 8 v.2.1 x1)]) (pc := 5) F 5 (R_at l D cy (fun i => a (i + 3)) 8 v.2.1 x1 (by decide)) (cwV 1 F.ts gX2_clearingBetween_X5_at rfl rfl rfl hd_X5_at ⟨Nat.le_of_ble_eq_true rfl, Nat.le_of_ble_eq_true rfl⟩) rfl dX2_clearingBetween_5 (Fit.right (Fit.right (Fit.left Fit.whole))) rfl rfl rfl (Nat.le_of_ble_eq_true rfl) (Nat.zero_le _) (Nat.zero_le _) rfl rfl rfl ?_
  refine V_aload_n (pc := 8) F dX2_clearingBetween_8 rfl 0 rfl ?_
  refine V_get (pc := 9) F 0 2 1 i_X2 rfl (by decide) rfl (mm 1 rfl) dX2_clearingBetween_9 rfl rfl ?_
  refine V_iload_n (pc := 12) F dX2_clearingBetween_12 rfl 2 rfl ?_
  refine V_V (w2 := wX2 cy a v) (rest := [.int (rowAt 8 v.2.1 x1)]) (st2 := [.int (rowAt 8 v.2.1 x2), .int (rowAt 8 v.2.1 x1)]) (pc := 13) F 5 (R_at l D cy (fun i => a (i + 3)) 8 v.2.1 x2 (by decide)) (cwV 1 F.ts gX2_clearingBetween_X5_at rfl rfl rfl hd_X5_at ⟨Nat.le_of_ble_eq_true rfl, Nat.le_of_ble_eq_true rfl⟩) rfl dX2_clearingBetween_13 (Fit.right (Fit.right (Fit.left Fit.whole))) rfl rfl rfl (Nat.le_of_ble_eq_true rfl) (Nat.zero_le _) (Nat.zero_le _) rfl rfl rfl ?_
  refine V_icmp_ne (pc := 16) (tgt := 23) F dX2_clearingBetween_16 (by decide) (fun h1 => ?_) (fun h1 => ?_)
  · replace hf := ite_neg hf h1
    refine V_aload_n (pc := 23) F dX2_clearingBetween_23 rfl 0 rfl ?_
    refine V_get (pc := 24) F 0 2 7 i_X2 rfl (by decide) rfl (mm 2 rfl) dX2_clearingBetween_24 rfl rfl ?_
    obtain rfl := some_of hf
    exact V_ret F rfl rfl dX2_clearingBetween_27 rfl rfl
  · replace hf := ite_pos hf h1
    refine V_iconst (v := 0) (pc := 19) F dX2_clearingBetween_19 (by decide) ?_
    refine V_goto (pc := 20) (tgt := 27) F dX2_clearingBetween_20 (by decide) ?_
    obtain rfl := some_of hf
    exact V_ret F rfl rfl dX2_clearingBetween_27 rfl rfl
theorem hd_X2_copyFrom : yX2_copyFrom.cls = RX2 ∧ yX2_copyFrom.cls ≠ "java/lang/invoke/MethodHandle" ∧ yX2_copyFrom.cls ≠ "java/lang/invoke/VarHandle" ∧ (parseMethodDescriptor yX2_copyFrom.desc).map (fun d => d.parameters.length) = some 1 := by decide +kernel
def fX2_copyFrom (N : Nat) (v : SX2) (v1 : SX2) : Option (SX2) :=
  some v1
set_option maxHeartbeats 8000000 in
set_option maxRecDepth 100000 in
theorem M_X2_copyFrom (l : Launch) (D : va_G) (cy : Nat → ClassId) (N : Nat) (a : Nat → Nat) (a1 : Nat → Nat) (v : SX2) (v1 : SX2) (o : SX2) (hf : fX2_copyFrom N v v1 = some o) : okM l yX2_copyFrom wsX2_copyFrom (rmz 2 43) D cy [.ref (a 0), .ref (a1 0)] (wX2 cy a v ++ wX2 cy a1 v1) (wX2 cy a o ++ wX2 cy a1 v1) none := by
  refine okM_of (own := RX2) (nme := "copyFrom") (cc := cX2_copyFrom) (maxL := 2) (ret := none) (by decide) rfl rfl rfl (Nat.le_of_ble_eq_true rfl) ?_
  intro p e s m args below meth c A F
  have i_X2 : ∀ w ∈ u_ws RX2 TX2 8, w ∈ wsX2_copyFrom := fun _ h => List.mem_cons_of_mem _ (List.mem_append_left _ (List.mem_append_right _ h))
  unfold fX2_copyFrom at hf
  refine V.eq rfl (show lv_args 0 [.ref (a 0), .ref (a1 0)] = [(0, .ref (a 0)), (1, .ref (a1 0))] from rfl) rfl ?_
  refine V_aload_n (pc := 0) F dX2_copyFrom_0 rfl 0 rfl ?_
  refine V_get (pc := 1) F 0 2 0 i_X2 rfl (by decide) rfl (mm 1 rfl) dX2_copyFrom_1 rfl rfl ?_
  refine V_aload_n (pc := 4) F dX2_copyFrom_4 rfl 1 rfl ?_
  refine V_get (pc := 5) F 13 2 0 i_X2 rfl (by decide) rfl (mm 1 rfl) dX2_copyFrom_5 rfl rfl ?_
  refine V_V2 (w2 := wX2 cy a (v1.1, v.2) ++ wX2 cy a1 v1) (rest := []) (st2 := []) (pc := 8) F 5 (R_copyFrom l D cy (fun i => a (i + 1)) (fun i => a1 (i + 1)) 6 v.1 v1.1 (by decide)) (cwV 1 F.ts gX2_copyFrom_X5_copyFrom rfl rfl rfl hd_X5_copyFrom ⟨Nat.le_of_ble_eq_true rfl, Nat.le_of_ble_eq_true rfl⟩) rfl dX2_copyFrom_8 (Fit2.both (Fit.right (Fit.left Fit.whole)) (Fit.right (Fit.left Fit.whole))) fstX5 rfl rfl rfl (Nat.le_of_ble_eq_true rfl) (Nat.zero_le _) (Nat.zero_le _) rfl rfl rfl ?_
  refine V_aload_n (pc := 11) F dX2_copyFrom_11 rfl 0 rfl ?_
  refine V_get (pc := 12) F 0 2 1 i_X2 rfl (by decide) rfl (mm 2 rfl) dX2_copyFrom_12 rfl rfl ?_
  refine V_aload_n (pc := 15) F dX2_copyFrom_15 rfl 1 rfl ?_
  refine V_get (pc := 16) F 13 2 1 i_X2 rfl (by decide) rfl (mm 2 rfl) dX2_copyFrom_16 rfl rfl ?_
  refine V_V2 (w2 := wX2 cy a (v1.1, v1.2.1, v.2.2) ++ wX2 cy a1 v1) (rest := []) (st2 := []) (pc := 19) F 5 (R_copyFrom l D cy (fun i => a (i + 3)) (fun i => a1 (i + 3)) 8 v.2.1 v1.2.1 (by decide)) (cwV 1 F.ts gX2_copyFrom_X5_copyFrom rfl rfl rfl hd_X5_copyFrom ⟨Nat.le_of_ble_eq_true rfl, Nat.le_of_ble_eq_true rfl⟩) rfl dX2_copyFrom_19 (Fit2.both (Fit.right (Fit.right (Fit.left Fit.whole))) (Fit.right (Fit.right (Fit.left Fit.whole)))) fstX5 rfl rfl rfl (Nat.le_of_ble_eq_true rfl) (Nat.zero_le _) (Nat.zero_le _) rfl rfl rfl ?_
  refine V_aload_n (pc := 22) F dX2_copyFrom_22 rfl 0 rfl ?_
  refine V_get (pc := 23) F 0 2 2 i_X2 rfl (by decide) rfl (mm 3 rfl) dX2_copyFrom_23 rfl rfl ?_
  refine V_aload_n (pc := 26) F dX2_copyFrom_26 rfl 1 rfl ?_
  refine V_get (pc := 27) F 13 2 2 i_X2 rfl (by decide) rfl (mm 3 rfl) dX2_copyFrom_27 rfl rfl ?_
  refine V_V2 (w2 := wX2 cy a (v1.1, v1.2.1, v1.2.2.1, v.2.2.2) ++ wX2 cy a1 v1) (rest := []) (st2 := []) (pc := 30) F 5 (R_copyFrom l D cy (fun i => a (i + 5)) (fun i => a1 (i + 5)) 8 v.2.2.1 v1.2.2.1 (by decide)) (cwV 1 F.ts gX2_copyFrom_X5_copyFrom rfl rfl rfl hd_X5_copyFrom ⟨Nat.le_of_ble_eq_true rfl, Nat.le_of_ble_eq_true rfl⟩) rfl dX2_copyFrom_30 (Fit2.both (Fit.right (Fit.right (Fit.right (Fit.left Fit.whole)))) (Fit.right (Fit.right (Fit.right (Fit.left Fit.whole))))) fstX5 rfl rfl rfl (Nat.le_of_ble_eq_true rfl) (Nat.zero_le _) (Nat.zero_le _) rfl rfl rfl ?_
  refine V_aload_n (pc := 33) F dX2_copyFrom_33 rfl 0 rfl ?_
  refine V_get (pc := 34) F 0 2 3 i_X2 rfl (by decide) rfl (mm 4 rfl) dX2_copyFrom_34 rfl rfl ?_
  refine V_aload_n (pc := 37) F dX2_copyFrom_37 rfl 1 rfl ?_
  refine V_get (pc := 38) F 13 2 3 i_X2 rfl (by decide) rfl (mm 4 rfl) dX2_copyFrom_38 rfl rfl ?_
  refine V_V2 (w2 := wX2 cy a (v1.1, v1.2.1, v1.2.2.1, v1.2.2.2.1, v.2.2.2.2) ++ wX2 cy a1 v1) (rest := []) (st2 := []) (pc := 41) F 5 (R_copyFrom l D cy (fun i => a (i + 7)) (fun i => a1 (i + 7)) 8 v.2.2.2.1 v1.2.2.2.1 (by decide)) (cwV 1 F.ts gX2_copyFrom_X5_copyFrom rfl rfl rfl hd_X5_copyFrom ⟨Nat.le_of_ble_eq_true rfl, Nat.le_of_ble_eq_true rfl⟩) rfl dX2_copyFrom_41 (Fit2.both (Fit.right (Fit.right (Fit.right (Fit.right (Fit.left Fit.whole))))) (Fit.right (Fit.right (Fit.right (Fit.right (Fit.left Fit.whole)))))) fstX5 rfl rfl rfl (Nat.le_of_ble_eq_true rfl) (Nat.zero_le _) (Nat.zero_le _) rfl rfl rfl ?_
  refine V_aload_n (pc := 44) F dX2_copyFrom_44 rfl 0 rfl ?_
  refine V_get (pc := 45) F 0 2 4 i_X2 rfl (by decide) rfl (mm 5 rfl) dX2_copyFrom_45 rfl rfl ?_
  refine V_aload_n (pc := 48) F dX2_copyFrom_48 rfl 1 rfl ?_
  refine V_get (pc := 49) F 13 2 4 i_X2 rfl (by decide) rfl (mm 5 rfl) dX2_copyFrom_49 rfl rfl ?_
  refine V_V2 (w2 := wX2 cy a (v1.1, v1.2.1, v1.2.2.1, v1.2.2.2.1, v1.2.2.2.2.1, v.2.2.2.2.2) ++ wX2 cy a1 v1) (rest := []) (st2 := []) (pc := 52) F 5 (R_copyFrom l D cy (fun i => a (i + 9)) (fun i => a1 (i + 9)) 32 v.2.2.2.2.1 v1.2.2.2.2.1 (by decide)) (cwV 1 F.ts gX2_copyFrom_X5_copyFrom rfl rfl rfl hd_X5_copyFrom ⟨Nat.le_of_ble_eq_true rfl, Nat.le_of_ble_eq_true rfl⟩) rfl dX2_copyFrom_52 (Fit2.both (Fit.right (Fit.right (Fit.right (Fit.right (Fit.right (Fit.left Fit.whole)))))) (Fit.right (Fit.right (Fit.right (Fit.right (Fit.right (Fit.left Fit.whole))))))) fstX5 rfl rfl rfl (Nat.le_of_ble_eq_true rfl) (Nat.zero_le _) (Nat.zero_le _) rfl rfl rfl ?_
  refine V_aload_n (pc := 55) F dX2_copyFrom_55 rfl 0 rfl ?_
  refine V_get (pc := 56) F 0 2 5 i_X2 rfl (by decide) rfl (mm 6 rfl) dX2_copyFrom_56 rfl rfl ?_
  refine V_aload_n (pc := 59) F dX2_copyFrom_59 rfl 1 rfl ?_
  refine V_get (pc := 60) F 13 2 5 i_X2 rfl (by decide) rfl (mm 6 rfl) dX2_copyFrom_60 rfl rfl ?_
  refine V_V2 (w2 := wX2 cy a (v1.1, v1.2.1, v1.2.2.1, v1.2.2.2.1, v1.2.2.2.2.1, v1.2.2.2.2.2.1, v.2.2.2.2.2.2) ++ wX2 cy a1 v1) (rest := []) (st2 := []) (pc := 63) F 5 (R_copyFrom l D cy (fun i => a (i + 11)) (fun i => a1 (i + 11)) 32 v.2.2.2.2.2.1 v1.2.2.2.2.2.1 (by decide)) (cwV 1 F.ts gX2_copyFrom_X5_copyFrom rfl rfl rfl hd_X5_copyFrom ⟨Nat.le_of_ble_eq_true rfl, Nat.le_of_ble_eq_true rfl⟩) rfl dX2_copyFrom_63 (Fit2.both (Fit.right (Fit.right (Fit.right (Fit.right (Fit.right (Fit.right Fit.whole)))))) (Fit.right (Fit.right (Fit.right (Fit.right (Fit.right (Fit.right Fit.whole))))))) fstX5 rfl rfl rfl (Nat.le_of_ble_eq_true rfl) (Nat.zero_le _) (Nat.zero_le _) rfl rfl rfl ?_
  refine V_aload_n (pc := 66) F dX2_copyFrom_66 rfl 0 rfl ?_
  refine V_aload_n (pc := 67) F dX2_copyFrom_67 rfl 1 rfl ?_
  refine V_get (pc := 68) F 13 2 6 i_X2 rfl (by decide) rfl (mm 7 rfl) dX2_copyFrom_68 rfl rfl ?_
  refine V_put (w2 := wX2 cy a (v1.1, v1.2.1, v1.2.2.1, v1.2.2.2.1, v1.2.2.2.2.1, v1.2.2.2.2.2.1, v1.2.2.2.2.2.2.1, v.2.2.2.2.2.2.2) ++ wX2 cy a1 v1) (pc := 71) F 0 2 6 i_X2 tyX2 tyX2_ok nmX2 rfl (by decide) rfl (mm 7 rfl) rfl dX2_copyFrom_71 rfl rfl rfl (Nat.le_of_ble_eq_true rfl) rfl ?_
  refine V_aload_n (pc := 74) F dX2_copyFrom_74 rfl 0 rfl ?_
  refine V_aload_n (pc := 75) F dX2_copyFrom_75 rfl 1 rfl ?_
  refine V_get (pc := 76) F 13 2 7 i_X2 rfl (by decide) rfl (mm 8 rfl) dX2_copyFrom_76 rfl rfl ?_
  refine V_put (w2 := wX2 cy a v1 ++ wX2 cy a1 v1) (pc := 79) F 0 2 7 i_X2 tyX2 tyX2_ok nmX2 rfl (by decide) rfl (mm 8 rfl) rfl dX2_copyFrom_79 rfl rfl rfl (Nat.le_of_ble_eq_true rfl) rfl ?_
  obtain rfl := some_of hf
  exact V_vret F rfl dX2_copyFrom_82 rfl
