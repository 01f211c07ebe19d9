/-! the constructors -/
theorem df_X4 : ∀ j, j < 6 → defaultValue (tyX4 j) = vp_V [.int 0, .int 0, .int 0, .int 0, .int 0, .int 0] j := fun j hj => by
  rcases (show j = 0 ∨ j = 1 ∨ j = 2 ∨ j = 3 ∨ j = 4 ∨ j = 5 by omega) with rfl | rfl | rfl | rfl | rfl | rfl <;> rfl
theorem hdi_X4 : yX4_init.cls ≠ "java/lang/invoke/MethodHandle" ∧ yX4_init.cls ≠ "java/lang/invoke/VarHandle" ∧ (parseMethodDescriptor yX4_init.desc).map (fun d => d.parameters.length) = some 0 := by decide +kernel
theorem df_X5 : ∀ j, j < 1 → defaultValue (tyX5 j) = vp_V [.null] j := fun j hj => by
  rcases (show j = 0 by omega) with rfl <;> rfl
theorem hdi_X5 : yX5_init.cls ≠ "java/lang/invoke/MethodHandle" ∧ yX5_init.cls ≠ "java/lang/invoke/VarHandle" ∧ (parseMethodDescriptor yX5_init.desc).map (fun d => d.parameters.length) = some 1 := by decide +kernel
theorem df_X2 : ∀ j, j < 8 → defaultValue (tyX2 j) = vp_V [.null, .null, .null, .null, .null, .null, .int 0, .int 0] j := fun j hj => by
  rcases (show j = 0 ∨ j = 1 ∨ j = 2 ∨ j = 3 ∨ j = 4 ∨ j = 5 ∨ j = 6 ∨ j = 7 by omega) with rfl | rfl | rfl | rfl | rfl | rfl | rfl | rfl <;> rfl
theorem hdi_X2 : yX2_init.cls ≠ "java/lang/invoke/MethodHandle" ∧ yX2_init.cls ≠ "java/lang/invoke/VarHandle" ∧ (parseMethodDescriptor yX2_init.desc).map (fun d => d.parameters.length) = some 0 := by decide +kernel
theorem df_X3 : ∀ j, j < 6 → defaultValue (tyX3 j) = vp_V [.null, .null, .null, .null, .null, .int 0] j := fun j hj => by
  rcases (show j = 0 ∨ j = 1 ∨ j = 2 ∨ j = 3 ∨ j = 4 ∨ j = 5 by omega) with rfl | rfl | rfl | rfl | rfl | rfl <;> rfl
theorem hdi_X3 : yX3_init.cls ≠ "java/lang/invoke/MethodHandle" ∧ yX3_init.cls ≠ "java/lang/invoke/VarHandle" ∧ (parseMethodDescriptor yX3_init.desc).map (fun d => d.parameters.length) = some 0 := by decide +kernel
theorem df_X6 : ∀ j, j < 3 → defaultValue (tyX6 j) = vp_V [.null, .null, .int 0] j := fun j hj => by
  rcases (show j = 0 ∨ j = 1 ∨ j = 2 by omega) with rfl | rfl | rfl <;> rfl
theorem hdi_X6 : yX6_init.cls ≠ "java/lang/invoke/MethodHandle" ∧ yX6_init.cls ≠ "java/lang/invoke/VarHandle" ∧ (parseMethodDescriptor yX6_init.desc).map (fun d => d.parameters.length) = some 0 := by decide +kernel
theorem df_X1 : ∀ j, j < 10 → defaultValue (tyX1 j) = vp_V [.null, .null, .null, .null, .null, .int 0, .int 0, .int 0, .int 0, .int 0] j := fun j hj => by
  rcases (show j = 0 ∨ j = 1 ∨ j = 2 ∨ j = 3 ∨ j = 4 ∨ j = 5 ∨ j = 6 ∨ j = 7 ∨ j = 8 ∨ j = 9 by omega) with rfl | rfl | rfl | rfl | rfl | rfl | rfl | rfl | rfl | rfl <;> rfl
theorem hdi_X1 : yX1_init.cls ≠ "java/lang/invoke/MethodHandle" ∧ yX1_init.cls ≠ "java/lang/invoke/VarHandle" ∧ (parseMethodDescriptor yX1_init.desc).map (fun d => d.parameters.length) = some 0 := by decide +kernel
theorem df_X0 : ∀ j, j < 3 → defaultValue (tyX0 j) = vp_V [.null, .int 0, .int 0] j := fun j hj => by
  rcases (show j = 0 ∨ j = 1 ∨ j = 2 by omega) with rfl | rfl | rfl <;> rfl
theorem hdi_X0 : yX0_init.cls ≠ "java/lang/invoke/MethodHandle" ∧ yX0_init.cls ≠ "java/lang/invoke/VarHandle" ∧ (parseMethodDescriptor yX0_init.desc).map (fun d => d.parameters.length) = some 0 := by decide +kernel
theorem df_X7 : ∀ j, j < 4 → defaultValue (tyX7 j) = vp_V [.null, .null, .null, .null] j := fun j hj => by
  rcases (show j = 0 ∨ j = 1 ∨ j = 2 ∨ j = 3 by omega) with rfl | rfl | rfl | rfl <;> rfl
theorem hdi_X7 : yX7_init.cls ≠ "java/lang/invoke/MethodHandle" ∧ yX7_init.cls ≠ "java/lang/invoke/VarHandle" ∧ (parseMethodDescriptor yX7_init.desc).map (fun d => d.parameters.length) = some 0 := by decide +kernel
def iR : SX4 := (0, 0, 0, 0, 0, 0)
def iP : SX2 := ((fun _ => 0), (fun _ => 0), (fun _ => 0), (fun _ => 0), (fun _ => 0), (fun _ => 0), 0, 2)
def iF : SX3 := ((fun _ => 0), (fun _ => 0), (fun _ => 0), (fun _ => 0), (fun _ => 0), 0)
def iT : SX6 := ((fun _ => 0), iR, 0)
def iM : SX1 := (iP, (fun _ => (-1)), (fun _ => 0), (fun _ => 0), (fun _ => 0), 0, 0, 0, 0, 0)
def iH : SX0 := ((fun _ => iM), 0, 0)
def iG : SX7 := (iM, iH, iT, iF)
set_option maxHeartbeats 8000000 in
set_option maxRecDepth 100000 in
theorem N_X5_init (l : Launch) (D : va_G) (cy : Nat → ClassId) (h n : Nat) (hn : n < 1000) : okN l yX5_init wsX5_init (rmN 1 20 1 n) D cy [.ref h, .int (nI n)] [(h, .inr (5, [.null]))] (fun a => wX5 cy n a (fun _ => 0)) h 1 n := by
  refine okN_of (own := RX5) (nme := "<init>") (cc := cX5_init) (maxL := 2) (ret := none) (by decide) rfl rfl rfl (Nat.le_of_ble_eq_true rfl) ?_
  intro p e s m args below meth c A F FN
  have i_X5 : ∀ w ∈ u_ws RX5 TX5 1, w ∈ wsX5_init := fun _ h => List.mem_cons_of_mem _ (List.mem_append_right _ h)
  refine V.eq rfl (show lv_args 0 [.ref h, .int (nI n)] = [(0, .ref h), (1, .int (nI n))] from rfl) rfl ?_
  refine V_aload_n (pc := 0) F dX5_init_0 rfl 0 rfl ?_
  refine V_obj (pc := 1) F (mm 1 rfl) (mm 2 rfl) (mm 3 rfl) dX5_init_1 (Nat.le_of_ble_eq_true rfl) (Nat.le_of_ble_eq_true rfl) ?_
  refine V_aload_n (pc := 4) F dX5_init_4 rfl 0 rfl ?_
  refine V_iload_n (pc := 5) F dX5_init_5 rfl 1 rfl ?_
  refine V_if_ge (pc := 6) (tgt := 13) F dX5_init_6 (by decide) (fun _ => ?_) (fun hh => absurd (nI_pos' (show n < 2 ^ 31 by omega)) hh)
  refine V_iload_n (pc := 13) F dX5_init_13 rfl 1 rfl ?_
  refine V_newi (n := nI n) (N := n) (pc := 14) F (mm 4 rfl) (nI_pos (by omega)) (nI_clamp (by omega)) (by omega) (Nat.le_of_ble_eq_true rfl) (Nat.le_of_eq (Nat.zero_add n)) dX5_init_14 (fun q => ?_)
  refine V_putF (w2 := [(h, .inr (5, [.ref q]))] ++ [(q, .inl (cy 0, n, .inl (fun _ => 0)))]) (pc := 16) F 0 5 0 i_X5 tyX5 tyX5_ok nmX5 rfl (by decide) rfl (mm 5 rfl) rfl rfl rfl dX5_init_16 rfl rfl rfl (Nat.le_of_ble_eq_true rfl) rfl ?_
  exact V_vretN F (fun i => if i = 0 then h else q) rfl rfl dX5_init_19 (fun H hP => hP) (fun _ hD => hD) (Nat.le_refl _) (Nat.le_of_eq (Nat.zero_add n))
set_option maxHeartbeats 8000000 in
set_option maxRecDepth 100000 in
theorem N_X4_init (l : Launch) (D : va_G) (cy : Nat → ClassId) (h : Nat) : okN l yX4_init wsX4_init (rmN 1 20 0 0) D cy [.ref h] [(h, .inr (4, [.int 0, .int 0, .int 0, .int 0, .int 0, .int 0]))] (fun a => wX4 cy a iR) h 0 0 := by
  refine okN_of (own := RX4) (nme := "<init>") (cc := cX4_init) (maxL := 1) (ret := none) (by decide) rfl rfl rfl (Nat.le_of_ble_eq_true rfl) ?_
  intro p e s m args below meth c A F FN
  have i_X4 : ∀ w ∈ u_ws RX4 TX4 6, w ∈ wsX4_init := fun _ h => List.mem_cons_of_mem _ (List.mem_append_right _ h)
  refine V.eq rfl (show lv_args 0 [.ref h] = [(0, .ref h)] from rfl) rfl ?_
  refine V_aload_n (pc := 0) F dX4_init_0 rfl 0 rfl ?_
  refine V_obj (pc := 1) F (mm 1 rfl) (mm 2 rfl) (mm 3 rfl) dX4_init_1 (Nat.le_of_ble_eq_true rfl) (Nat.le_of_ble_eq_true rfl) ?_
  refine V_aload_n (pc := 4) F dX4_init_4 rfl 0 rfl ?_
  refine V_iconst (v := 0) (pc := 5) F dX4_init_5 (by decide) ?_
  refine V_put (w2 := [(h, .inr (4, [.int 0, .int 0, .int 0, .int 0, .int 0, .int 0]))]) (pc := 6) F 0 4 0 i_X4 tyX4 tyX4_ok nmX4 rfl (by decide) rfl (mm 4 rfl) rfl dX4_init_6 rfl rfl rfl (Nat.le_of_ble_eq_true rfl) rfl ?_
  refine V_aload_n (pc := 9) F dX4_init_9 rfl 0 rfl ?_
  refine V_iconst (v := 0) (pc := 10) F dX4_init_10 (by decide) ?_
  refine V_put (w2 := [(h, .inr (4, [.int 0, .int 0, .int 0, .int 0, .int 0, .int 0]))]) (pc := 11) F 0 4 1 i_X4 tyX4 tyX4_ok nmX4 rfl (by decide) rfl (mm 5 rfl) rfl dX4_init_11 rfl rfl rfl (Nat.le_of_ble_eq_true rfl) rfl ?_
  refine V_aload_n (pc := 14) F dX4_init_14 rfl 0 rfl ?_
  refine V_iconst (v := 0) (pc := 15) F dX4_init_15 (by decide) ?_
  refine V_put (w2 := [(h, .inr (4, [.int 0, .int 0, .int 0, .int 0, .int 0, .int 0]))]) (pc := 16) F 0 4 2 i_X4 tyX4 tyX4_ok nmX4 rfl (by decide) rfl (mm 6 rfl) rfl dX4_init_16 rfl rfl rfl (Nat.le_of_ble_eq_true rfl) rfl ?_
  refine V_aload_n (pc := 19) F dX4_init_19 rfl 0 rfl ?_
  refine V_iconst (v := 0) (pc := 20) F dX4_init_20 (by decide) ?_
  refine V_put (w2 := [(h, .inr (4, [.int 0, .int 0, .int 0, .int 0, .int 0, .int 0]))]) (pc := 21) F 0 4 3 i_X4 tyX4 tyX4_ok nmX4 rfl (by decide) rfl (mm 7 rfl) rfl dX4_init_21 rfl rfl rfl (Nat.le_of_ble_eq_true rfl) rfl ?_
  refine V_aload_n (pc := 24) F dX4_init_24 rfl 0 rfl ?_
  refine V_iconst (v := 0) (pc := 25) F dX4_init_25 (by decide) ?_
  refine V_put (w2 := [(h, .inr (4, [.int 0, .int 0, .int 0, .int 0, .int 0, .int 0]))]) (pc := 26) F 0 4 4 i_X4 tyX4 tyX4_ok nmX4 rfl (by decide) rfl (mm 8 rfl) rfl dX4_init_26 rfl rfl rfl (Nat.le_of_ble_eq_true rfl) rfl ?_
  refine V_aload_n (pc := 29) F dX4_init_29 rfl 0 rfl ?_
  refine V_iconst (v := 0) (pc := 30) F dX4_init_30 (by decide) ?_
  refine V_put (w2 := [(h, .inr (4, [.int 0, .int 0, .int 0, .int 0, .int 0, .int 0]))]) (pc := 31) F 0 4 5 i_X4 tyX4 tyX4_ok nmX4 rfl (by decide) rfl (mm 9 rfl) rfl dX4_init_31 rfl rfl rfl (Nat.le_of_ble_eq_true rfl) rfl ?_
  exact V_vretN F (fun i => ([h] : List Nat).getD i 0) rfl rfl dX4_init_34 (fun H hP => hP) (fun _ hD => hD) (Nat.le_of_ble_eq_true rfl) (Nat.le_of_ble_eq_true rfl)
set_option maxHeartbeats 8000000 in
set_option maxRecDepth 100000 in
theorem N_X2_init (l : Launch) (D : va_G) (cy : Nat → ClassId) (h : Nat) : okN l yX2_init wsX2_init (rmN 2 41 12 100) D cy [.ref h] [(h, .inr (2, [.null, .null, .null, .null, .null, .null, .int 0, .int 0]))] (fun a => wX2 cy a iP) h 12 100 := by
  refine okN_of (own := RX2) (nme := "<init>") (cc := cX2_init) (maxL := 1) (ret := none) (by decide) rfl rfl rfl (Nat.le_of_ble_eq_true rfl) ?_
  intro p e s m args below meth c A F FN
  have i_X2 : ∀ w ∈ u_ws RX2 TX2 8, w ∈ wsX2_init := fun _ h => List.mem_cons_of_mem _ (List.mem_append_right _ h)
  have i_X5 : ∀ w ∈ u_ws RX5 TX5 1, w ∈ wsX2_init := fun _ h => List.mem_cons_of_mem _ (List.mem_append_left _ (List.mem_append_right _ h))
  refine V.eq rfl (show lv_args 0 [.ref h] = [(0, .ref h)] from rfl) rfl ?_
  refine V_aload_n (pc := 0) F dX2_init_0 rfl 0 rfl ?_
  refine V_obj (pc := 1) F (mm 1 rfl) (mm 2 rfl) (mm 3 rfl) dX2_init_1 (Nat.le_of_ble_eq_true rfl) (Nat.le_of_ble_eq_true rfl) ?_
  refine V_aload_n (pc := 4) F dX2_init_4 rfl 0 rfl ?_
  refine V_newo (C := RX5) (T := TX5) (N := 1) (ci := 5) (fs := [.null]) (pc := 5) F i_X5 tyX5 tyX5_ok rfl (mm 4 rfl) (mm 5 rfl) (mm 6 rfl) df_X5 (Nat.le_of_ble_eq_true rfl) (Nat.le_of_ble_eq_true rfl) dX2_init_5 (fun q0 => ?_)
  refine V_dup (pc := 8) F dX2_init_8 rfl ?_
  refine V_bipush (v := nI 6) (pc := 9) F dX2_init_9 (by decide) ?_
  refine V_I (As := [.int (nI 6)]) (rest := [.ref q0, .ref h]) (pc := 11) F FN (N_X5_init l D cy q0 6 (by decide)) (cwI 1 F.ts gX2_init_X5_init rfl rfl rfl (F.ts _ (mm 6 rfl)) (F.ts _ (mm 15 rfl)) (F.ts _ (mm 16 rfl)) rfl hdi_X5 ⟨(Nat.le_of_ble_eq_true rfl), (Nat.le_of_ble_eq_true rfl)⟩) rfl dX2_init_11 (Nat.le_of_ble_eq_true rfl) (Nat.le_of_ble_eq_true rfl) (Nat.le_of_ble_eq_true rfl) rfl (fun b0 eb0 => ?_)
  subst eb0
  refine V_putF (w2 := ([(h, .inr (2, [.ref (b0 0), .null, .null, .null, .null, .null, .int 0, .int 0]))] ++ wX5 cy 6 b0 (fun _ => 0))) (pc := 14) F 0 2 0 i_X2 tyX2 tyX2_ok nmX2 rfl (by decide) rfl (mm 7 rfl) rfl rfl rfl dX2_init_14 rfl rfl rfl (Nat.le_of_ble_eq_true rfl) rfl ?_
  refine V_aload_n (pc := 17) F dX2_init_17 rfl 0 rfl ?_
  refine V_newo (C := RX5) (T := TX5) (N := 1) (ci := 5) (fs := [.null]) (pc := 18) F i_X5 tyX5 tyX5_ok rfl (mm 4 rfl) (mm 5 rfl) (mm 6 rfl) df_X5 (Nat.le_of_ble_eq_true rfl) (Nat.le_of_ble_eq_true rfl) dX2_init_18 (fun q1 => ?_)
  refine V_dup (pc := 21) F dX2_init_21 rfl ?_
  refine V_bipush (v := nI 8) (pc := 22) F dX2_init_22 (by decide) ?_
  refine V_I (As := [.int (nI 8)]) (rest := [.ref q1, .ref h]) (pc := 24) F FN (N_X5_init l D cy q1 8 (by decide)) (cwI 1 F.ts gX2_init_X5_init rfl rfl rfl (F.ts _ (mm 6 rfl)) (F.ts _ (mm 15 rfl)) (F.ts _ (mm 16 rfl)) rfl hdi_X5 ⟨(Nat.le_of_ble_eq_true rfl), (Nat.le_of_ble_eq_true rfl)⟩) rfl dX2_init_24 (Nat.le_of_ble_eq_true rfl) (Nat.le_of_ble_eq_true rfl) (Nat.le_of_ble_eq_true rfl) rfl (fun b1 eb1 => ?_)
  subst eb1
  refine V_putF (w2 := (([(h, .inr (2, [.ref (b0 0), .ref (b1 0), .null, .null, .null, .null, .int 0, .int 0]))] ++ wX5 cy 6 b0 (fun _ => 0)) ++ wX5 cy 8 b1 (fun _ => 0))) (pc := 27) F 0 2 1 i_X2 tyX2 tyX2_ok nmX2 rfl (by decide) rfl (mm 8 rfl) rfl rfl rfl dX2_init_27 rfl rfl rfl (Nat.le_of_ble_eq_true rfl) rfl ?_
  refine V_aload_n (pc := 30) F dX2_init_30 rfl 0 rfl ?_
  refine V_newo (C := RX5) (T := TX5) (N := 1) (ci := 5) (fs := [.null]) (pc := 31) F i_X5 tyX5 tyX5_ok rfl (mm 4 rfl) (mm 5 rfl) (mm 6 rfl) df_X5 (Nat.le_of_ble_eq_true rfl) (Nat.le_of_ble_eq_true rfl) dX2_init_31 (fun q2 => ?_)
  refine V_dup (pc := 34) F dX2_init_34 rfl ?_
  refine V_bipush (v := nI 8) (pc := 35) F dX2_init_35 (by decide) ?_
  refine V_I (As := [.int (nI 8)]) (rest := [.ref q2, .ref h]) (pc := 37) F FN (N_X5_init l D cy q2 8 (by decide)) (cwI 1 F.ts gX2_init_X5_init rfl rfl rfl (F.ts _ (mm 6 rfl)) (F.ts _ (mm 15 rfl)) (F.ts _ (mm 16 rfl)) rfl hdi_X5 ⟨(Nat.le_of_ble_eq_true rfl), (Nat.le_of_ble_eq_true rfl)⟩) rfl dX2_init_37 (Nat.le_of_ble_eq_true rfl) (Nat.le_of_ble_eq_true rfl) (Nat.le_of_ble_eq_true rfl) rfl (fun b2 eb2 => ?_)
  subst eb2
  refine V_putF (w2 := ((([(h, .inr (2, [.ref (b0 0), .ref (b1 0), .ref (b2 0), .null, .null, .null, .int 0, .int 0]))] ++ wX5 cy 6 b0 (fun _ => 0)) ++ wX5 cy 8 b1 (fun _ => 0)) ++ wX5 cy 8 b2 (fun _ => 0))) (pc := 40) F 0 2 2 i_X2 tyX2 tyX2_ok nmX2 rfl (by decide) rfl (mm 9 rfl) rfl rfl rfl dX2_init_40 rfl rfl rfl (Nat.le_of_ble_eq_true rfl) rfl ?_
  refine V_aload_n (pc := 43) F dX2_init_43 rfl 0 rfl ?_
  refine V_newo (C := RX5) (T := TX5) (N := 1) (ci := 5) (fs := [.null]) (pc := 44) F i_X5 tyX5 tyX5_ok rfl (mm 4 rfl) (mm 5 rfl) (mm 6 rfl) df_X5 (Nat.le_of_ble_eq_true rfl) (Nat.le_of_ble_eq_true rfl) dX2_init_44 (fun q3 => ?_)
  refine V_dup (pc := 47) F dX2_init_47 rfl ?_
  refine V_bipush (v := nI 8) (pc := 48) F dX2_init_48 (by decide) ?_
  refine V_I (As := [.int (nI 8)]) (rest := [.ref q3, .ref h]) (pc := 50) F FN (N_X5_init l D cy q3 8 (by decide)) (cwI 1 F.ts gX2_init_X5_init rfl rfl rfl (F.ts _ (mm 6 rfl)) (F.ts _ (mm 15 rfl)) (F.ts _ (mm 16 rfl)) rfl hdi_X5 ⟨(Nat.le_of_ble_eq_true rfl), (Nat.le_of_ble_eq_true rfl)⟩) rfl dX2_init_50 (Nat.le_of_ble_eq_true rfl) (Nat.le_of_ble_eq_true rfl) (Nat.le_of_ble_eq_true rfl) rfl (fun b3 eb3 => ?_)
  subst eb3
  refine V_putF (w2 := (((([(h, .inr (2, [.ref (b0 0), .ref (b1 0), .ref (b2 0), .ref (b3 0), .null, .null, .int 0, .int 0]))] ++ wX5 cy 6 b0 (fun _ => 0)) ++ wX5 cy 8 b1 (fun _ => 0)) ++ wX5 cy 8 b2 (fun _ => 0)) ++ wX5 cy 8 b3 (fun _ => 0))) (pc := 53) F 0 2 3 i_X2 tyX2 tyX2_ok nmX2 rfl (by decide) rfl (mm 10 rfl) rfl rfl rfl dX2_init_53 rfl rfl rfl (Nat.le_of_ble_eq_true rfl) rfl ?_
  refine V_aload_n (pc := 56) F dX2_init_56 rfl 0 rfl ?_
  refine V_newo (C := RX5) (T := TX5) (N := 1) (ci := 5) (fs := [.null]) (pc := 57) F i_X5 tyX5 tyX5_ok rfl (mm 4 rfl) (mm 5 rfl) (mm 6 rfl) df_X5 (Nat.le_of_ble_eq_true rfl) (Nat.le_of_ble_eq_true rfl) dX2_init_57 (fun q4 => ?_)
  refine V_dup (pc := 60) F dX2_init_60 rfl ?_
  refine V_bipush (v := nI 32) (pc := 61) F dX2_init_61 (by decide) ?_
  refine V_I (As := [.int (nI 32)]) (rest := [.ref q4, .ref h]) (pc := 63) F FN (N_X5_init l D cy q4 32 (by decide)) (cwI 1 F.ts gX2_init_X5_init rfl rfl rfl (F.ts _ (mm 6 rfl)) (F.ts _ (mm 15 rfl)) (F.ts _ (mm 16 rfl)) rfl hdi_X5 ⟨(Nat.le_of_ble_eq_true rfl), (Nat.le_of_ble_eq_true rfl)⟩) rfl dX2_init_63 (Nat.le_of_ble_eq_true rfl) (Nat.le_of_ble_eq_true rfl) (Nat.le_of_ble_eq_true rfl) rfl (fun b4 eb4 => ?_)
  subst eb4
  refine V_putF (w2 := ((((([(h, .inr (2, [.ref (b0 0), .ref (b1 0), .ref (b2 0), .ref (b3 0), .ref (b4 0), .null, .int 0, .int 0]))] ++ wX5 cy 6 b0 (fun _ => 0)) ++ wX5 cy 8 b1 (fun _ => 0)) ++ wX5 cy 8 b2 (fun _ => 0)) ++ wX5 cy 8 b3 (fun _ => 0)) ++ wX5 cy 32 b4 (fun _ => 0))) (pc := 66) F 0 2 4 i_X2 tyX2 tyX2_ok nmX2 rfl (by decide) rfl (mm 11 rfl) rfl rfl rfl dX2_init_66 rfl rfl rfl (Nat.le_of_ble_eq_true rfl) rfl ?_
  refine V_aload_n (pc := 69) F dX2_init_69 rfl 0 rfl ?_
  refine V_newo (C := RX5) (T := TX5) (N := 1) (ci := 5) (fs := [.null]) (pc := 70) F i_X5 tyX5 tyX5_ok rfl (mm 4 rfl) (mm 5 rfl) (mm 6 rfl) df_X5 (Nat.le_of_ble_eq_true rfl) (Nat.le_of_ble_eq_true rfl) dX2_init_70 (fun q5 => ?_)
  refine V_dup (pc := 73) F dX2_init_73 rfl ?_
  refine V_bipush (v := nI 32) (pc := 74) F dX2_init_74 (by decide) ?_
  refine V_I (As := [.int (nI 32)]) (rest := [.ref q5, .ref h]) (pc := 76) F FN (N_X5_init l D cy q5 32 (by decide)) (cwI 1 F.ts gX2_init_X5_init rfl rfl rfl (F.ts _ (mm 6 rfl)) (F.ts _ (mm 15 rfl)) (F.ts _ (mm 16 rfl)) rfl hdi_X5 ⟨(Nat.le_of_ble_eq_true rfl), (Nat.le_of_ble_eq_true rfl)⟩) rfl dX2_init_76 (Nat.le_of_ble_eq_true rfl) (Nat.le_of_ble_eq_true rfl) (Nat.le_of_ble_eq_true rfl) rfl (fun b5 eb5 => ?_)
  subst eb5
  refine V_putF (w2 := (((((([(h, .inr (2, [.ref (b0 0), .ref (b1 0), .ref (b2 0), .ref (b3 0), .ref (b4 0), .ref (b5 0), .int 0, .int 0]))] ++ wX5 cy 6 b0 (fun _ => 0)) ++ wX5 cy 8 b1 (fun _ => 0)) ++ wX5 cy 8 b2 (fun _ => 0)) ++ wX5 cy 8 b3 (fun _ => 0)) ++ wX5 cy 32 b4 (fun _ => 0)) ++ wX5 cy 32 b5 (fun _ => 0))) (pc := 79) F 0 2 5 i_X2 tyX2 tyX2_ok nmX2 rfl (by decide) rfl (mm 12 rfl) rfl rfl rfl dX2_init_79 rfl rfl rfl (Nat.le_of_ble_eq_true rfl) rfl ?_
  refine V_aload_n (pc := 82) F dX2_init_82 rfl 0 rfl ?_
  refine V_iconst (v := 0) (pc := 83) F dX2_init_83 (by decide) ?_
  refine V_put (w2 := (((((([(h, .inr (2, [.ref (b0 0), .ref (b1 0), .ref (b2 0), .ref (b3 0), .ref (b4 0), .ref (b5 0), .int 0, .int 0]))] ++ wX5 cy 6 b0 (fun _ => 0)) ++ wX5 cy 8 b1 (fun _ => 0)) ++ wX5 cy 8 b2 (fun _ => 0)) ++ wX5 cy 8 b3 (fun _ => 0)) ++ wX5 cy 32 b4 (fun _ => 0)) ++ wX5 cy 32 b5 (fun _ => 0))) (pc := 84) F 0 2 6 i_X2 tyX2 tyX2_ok nmX2 rfl (by decide) rfl (mm 13 rfl) rfl dX2_init_84 rfl rfl rfl (Nat.le_of_ble_eq_true rfl) rfl ?_
  refine V_aload_n (pc := 87) F dX2_init_87 rfl 0 rfl ?_
  refine V_iconst (v := 2) (pc := 88) F dX2_init_88 (by decide) ?_
  refine V_put (w2 := (((((([(h, .inr (2, [.ref (b0 0), .ref (b1 0), .ref (b2 0), .ref (b3 0), .ref (b4 0), .ref (b5 0), .int 0, .int 2]))] ++ wX5 cy 6 b0 (fun _ => 0)) ++ wX5 cy 8 b1 (fun _ => 0)) ++ wX5 cy 8 b2 (fun _ => 0)) ++ wX5 cy 8 b3 (fun _ => 0)) ++ wX5 cy 32 b4 (fun _ => 0)) ++ wX5 cy 32 b5 (fun _ => 0))) (pc := 89) F 0 2 7 i_X2 tyX2 tyX2_ok nmX2 rfl (by decide) rfl (mm 14 rfl) rfl dX2_init_89 rfl rfl rfl (Nat.le_of_ble_eq_true rfl) rfl ?_
  exact V_vretN F (fun i => ([h, b0 0, b0 1, b1 0, b1 1, b2 0, b2 1, b3 0, b3 1, b4 0, b4 1, b5 0, b5 1] : List Nat).getD i 0) rfl rfl dX2_init_92 (fun H hP => hP) (fun _ hD => hD) (Nat.le_of_ble_eq_true rfl) (Nat.le_of_ble_eq_true rfl)
set_option maxHeartbeats 8000000 in
set_option maxRecDepth 100000 in
theorem N_X3_init (l : Launch) (D : va_G) (cy : Nat → ClassId) (h : Nat) : okN l yX3_init wsX3_init (rmN 2 41 10 163) D cy [.ref h] [(h, .inr (3, [.null, .null, .null, .null, .null, .int 0]))] (fun a => wX3 cy a iF) h 10 163 := by
  refine okN_of (own := RX3) (nme := "<init>") (cc := cX3_init) (maxL := 1) (ret := none) (by decide) rfl rfl rfl (Nat.le_of_ble_eq_true rfl) ?_
  intro p e s m args below meth c A F FN
  have i_X3 : ∀ w ∈ u_ws RX3 TX3 6, w ∈ wsX3_init := fun _ h => List.mem_cons_of_mem _ (List.mem_append_right _ h)
  have i_X5 : ∀ w ∈ u_ws RX5 TX5 1, w ∈ wsX3_init := fun _ h => List.mem_cons_of_mem _ (List.mem_append_left _ (List.mem_append_right _ h))
  refine V.eq rfl (show lv_args 0 [.ref h] = [(0, .ref h)] from rfl) rfl ?_
  refine V_aload_n (pc := 0) F dX3_init_0 rfl 0 rfl ?_
  refine V_obj (pc := 1) F (mm 1 rfl) (mm 2 rfl) (mm 3 rfl) dX3_init_1 (Nat.le_of_ble_eq_true rfl) (Nat.le_of_ble_eq_true rfl) ?_
  refine V_aload_n (pc := 4) F dX3_init_4 rfl 0 rfl ?_
  refine V_newo (C := RX5) (T := TX5) (N := 1) (ci := 5) (fs := [.null]) (pc := 5) F i_X5 tyX5 tyX5_ok rfl (mm 4 rfl) (mm 5 rfl) (mm 6 rfl) df_X5 (Nat.le_of_ble_eq_true rfl) (Nat.le_of_ble_eq_true rfl) dX3_init_5 (fun q0 => ?_)
  refine V_dup (pc := 8) F dX3_init_8 rfl ?_
  refine V_bipush (v := nI 8) (pc := 9) F dX3_init_9 (by decide) ?_
  refine V_I (As := [.int (nI 8)]) (rest := [.ref q0, .ref h]) (pc := 11) F FN (N_X5_init l D cy q0 8 (by decide)) (cwI 1 F.ts gX3_init_X5_init rfl rfl rfl (F.ts _ (mm 6 rfl)) (F.ts _ (mm 13 rfl)) (F.ts _ (mm 14 rfl)) rfl hdi_X5 ⟨(Nat.le_of_ble_eq_true rfl), (Nat.le_of_ble_eq_true rfl)⟩) rfl dX3_init_11 (Nat.le_of_ble_eq_true rfl) (Nat.le_of_ble_eq_true rfl) (Nat.le_of_ble_eq_true rfl) rfl (fun b0 eb0 => ?_)
  subst eb0
  refine V_putF (w2 := ([(h, .inr (3, [.ref (b0 0), .null, .null, .null, .null, .int 0]))] ++ wX5 cy 8 b0 (fun _ => 0))) (pc := 14) F 0 3 0 i_X3 tyX3 tyX3_ok nmX3 rfl (by decide) rfl (mm 7 rfl) rfl rfl rfl dX3_init_14 rfl rfl rfl (Nat.le_of_ble_eq_true rfl) rfl ?_
  refine V_aload_n (pc := 17) F dX3_init_17 rfl 0 rfl ?_
  refine V_newo (C := RX5) (T := TX5) (N := 1) (ci := 5) (fs := [.null]) (pc := 18) F i_X5 tyX5 tyX5_ok rfl (mm 4 rfl) (mm 5 rfl) (mm 6 rfl) df_X5 (Nat.le_of_ble_eq_true rfl) (Nat.le_of_ble_eq_true rfl) dX3_init_18 (fun q1 => ?_)
  refine V_dup (pc := 21) F dX3_init_21 rfl ?_
  refine V_bipush (v := nI 48) (pc := 22) F dX3_init_22 (by decide) ?_
  refine V_I (As := [.int (nI 48)]) (rest := [.ref q1, .ref h]) (pc := 24) F FN (N_X5_init l D cy q1 48 (by decide)) (cwI 1 F.ts gX3_init_X5_init rfl rfl rfl (F.ts _ (mm 6 rfl)) (F.ts _ (mm 13 rfl)) (F.ts _ (mm 14 rfl)) rfl hdi_X5 ⟨(Nat.le_of_ble_eq_true rfl), (Nat.le_of_ble_eq_true rfl)⟩) rfl dX3_init_24 (Nat.le_of_ble_eq_true rfl) (Nat.le_of_ble_eq_true rfl) (Nat.le_of_ble_eq_true rfl) rfl (fun b1 eb1 => ?_)
  subst eb1
  refine V_putF (w2 := (([(h, .inr (3, [.ref (b0 0), .ref (b1 0), .null, .null, .null, .int 0]))] ++ wX5 cy 8 b0 (fun _ => 0)) ++ wX5 cy 48 b1 (fun _ => 0))) (pc := 27) F 0 3 1 i_X3 tyX3 tyX3_ok nmX3 rfl (by decide) rfl (mm 8 rfl) rfl rfl rfl dX3_init_27 rfl rfl rfl (Nat.le_of_ble_eq_true rfl) rfl ?_
  refine V_aload_n (pc := 30) F dX3_init_30 rfl 0 rfl ?_
  refine V_newo (C := RX5) (T := TX5) (N := 1) (ci := 5) (fs := [.null]) (pc := 31) F i_X5 tyX5 tyX5_ok rfl (mm 4 rfl) (mm 5 rfl) (mm 6 rfl) df_X5 (Nat.le_of_ble_eq_true rfl) (Nat.le_of_ble_eq_true rfl) dX3_init_31 (fun q2 => ?_)
  refine V_dup (pc := 34) F dX3_init_34 rfl ?_
  refine V_bipush (v := nI 48) (pc := 35) F dX3_init_35 (by decide) ?_
  refine V_I (As := [.int (nI 48)]) (rest := [.ref q2, .ref h]) (pc := 37) F FN (N_X5_init l D cy q2 48 (by decide)) (cwI 1 F.ts gX3_init_X5_init rfl rfl rfl (F.ts _ (mm 6 rfl)) (F.ts _ (mm 13 rfl)) (F.ts _ (mm 14 rfl)) rfl hdi_X5 ⟨(Nat.le_of_ble_eq_true rfl), (Nat.le_of_ble_eq_true rfl)⟩) rfl dX3_init_37 (Nat.le_of_ble_eq_true rfl) (Nat.le_of_ble_eq_true rfl) (Nat.le_of_ble_eq_true rfl) rfl (fun b2 eb2 => ?_)
  subst eb2
  refine V_putF (w2 := ((([(h, .inr (3, [.ref (b0 0), .ref (b1 0), .ref (b2 0), .null, .null, .int 0]))] ++ wX5 cy 8 b0 (fun _ => 0)) ++ wX5 cy 48 b1 (fun _ => 0)) ++ wX5 cy 48 b2 (fun _ => 0))) (pc := 40) F 0 3 2 i_X3 tyX3 tyX3_ok nmX3 rfl (by decide) rfl (mm 9 rfl) rfl rfl rfl dX3_init_40 rfl rfl rfl (Nat.le_of_ble_eq_true rfl) rfl ?_
  refine V_aload_n (pc := 43) F dX3_init_43 rfl 0 rfl ?_
  refine V_newo (C := RX5) (T := TX5) (N := 1) (ci := 5) (fs := [.null]) (pc := 44) F i_X5 tyX5 tyX5_ok rfl (mm 4 rfl) (mm 5 rfl) (mm 6 rfl) df_X5 (Nat.le_of_ble_eq_true rfl) (Nat.le_of_ble_eq_true rfl) dX3_init_44 (fun q3 => ?_)
  refine V_dup (pc := 47) F dX3_init_47 rfl ?_
  refine V_bipush (v := nI 48) (pc := 48) F dX3_init_48 (by decide) ?_
  refine V_I (As := [.int (nI 48)]) (rest := [.ref q3, .ref h]) (pc := 50) F FN (N_X5_init l D cy q3 48 (by decide)) (cwI 1 F.ts gX3_init_X5_init rfl rfl rfl (F.ts _ (mm 6 rfl)) (F.ts _ (mm 13 rfl)) (F.ts _ (mm 14 rfl)) rfl hdi_X5 ⟨(Nat.le_of_ble_eq_true rfl), (Nat.le_of_ble_eq_true rfl)⟩) rfl dX3_init_50 (Nat.le_of_ble_eq_true rfl) (Nat.le_of_ble_eq_true rfl) (Nat.le_of_ble_eq_true rfl) rfl (fun b3 eb3 => ?_)
  subst eb3
  refine V_putF (w2 := (((([(h, .inr (3, [.ref (b0 0), .ref (b1 0), .ref (b2 0), .ref (b3 0), .null, .int 0]))] ++ wX5 cy 8 b0 (fun _ => 0)) ++ wX5 cy 48 b1 (fun _ => 0)) ++ wX5 cy 48 b2 (fun _ => 0)) ++ wX5 cy 48 b3 (fun _ => 0))) (pc := 53) F 0 3 3 i_X3 tyX3 tyX3_ok nmX3 rfl (by decide) rfl (mm 10 rfl) rfl rfl rfl dX3_init_53 rfl rfl rfl (Nat.le_of_ble_eq_true rfl) rfl ?_
  refine V_aload_n (pc := 56) F dX3_init_56 rfl 0 rfl ?_
  refine V_newo (C := RX5) (T := TX5) (N := 1) (ci := 5) (fs := [.null]) (pc := 57) F i_X5 tyX5 tyX5_ok rfl (mm 4 rfl) (mm 5 rfl) (mm 6 rfl) df_X5 (Nat.le_of_ble_eq_true rfl) (Nat.le_of_ble_eq_true rfl) dX3_init_57 (fun q4 => ?_)
  refine V_dup (pc := 60) F dX3_init_60 rfl ?_
  refine V_bipush (v := nI 6) (pc := 61) F dX3_init_61 (by decide) ?_
  refine V_I (As := [.int (nI 6)]) (rest := [.ref q4, .ref h]) (pc := 63) F FN (N_X5_init l D cy q4 6 (by decide)) (cwI 1 F.ts gX3_init_X5_init rfl rfl rfl (F.ts _ (mm 6 rfl)) (F.ts _ (mm 13 rfl)) (F.ts _ (mm 14 rfl)) rfl hdi_X5 ⟨(Nat.le_of_ble_eq_true rfl), (Nat.le_of_ble_eq_true rfl)⟩) rfl dX3_init_63 (Nat.le_of_ble_eq_true rfl) (Nat.le_of_ble_eq_true rfl) (Nat.le_of_ble_eq_true rfl) rfl (fun b4 eb4 => ?_)
  subst eb4
  refine V_putF (w2 := ((((([(h, .inr (3, [.ref (b0 0), .ref (b1 0), .ref (b2 0), .ref (b3 0), .ref (b4 0), .int 0]))] ++ wX5 cy 8 b0 (fun _ => 0)) ++ wX5 cy 48 b1 (fun _ => 0)) ++ wX5 cy 48 b2 (fun _ => 0)) ++ wX5 cy 48 b3 (fun _ => 0)) ++ wX5 cy 6 b4 (fun _ => 0))) (pc := 66) F 0 3 4 i_X3 tyX3 tyX3_ok nmX3 rfl (by decide) rfl (mm 11 rfl) rfl rfl rfl dX3_init_66 rfl rfl rfl (Nat.le_of_ble_eq_true rfl) rfl ?_
  refine V_aload_n (pc := 69) F dX3_init_69 rfl 0 rfl ?_
  refine V_iconst (v := 0) (pc := 70) F dX3_init_70 (by decide) ?_
  refine V_put (w2 := ((((([(h, .inr (3, [.ref (b0 0), .ref (b1 0), .ref (b2 0), .ref (b3 0), .ref (b4 0), .int 0]))] ++ wX5 cy 8 b0 (fun _ => 0)) ++ wX5 cy 48 b1 (fun _ => 0)) ++ wX5 cy 48 b2 (fun _ => 0)) ++ wX5 cy 48 b3 (fun _ => 0)) ++ wX5 cy 6 b4 (fun _ => 0))) (pc := 71) F 0 3 5 i_X3 tyX3 tyX3_ok nmX3 rfl (by decide) rfl (mm 12 rfl) rfl dX3_init_71 rfl rfl rfl (Nat.le_of_ble_eq_true rfl) rfl ?_
  exact V_vretN F (fun i => ([h, b0 0, b0 1, b1 0, b1 1, b2 0, b2 1, b3 0, b3 1, b4 0, b4 1] : List Nat).getD i 0) rfl rfl dX3_init_74 (fun H hP => hP) (fun _ hD => hD) (Nat.le_of_ble_eq_true rfl) (Nat.le_of_ble_eq_true rfl)
set_option maxHeartbeats 8000000 in
set_option maxRecDepth 100000 in
theorem N_X6_init (l : Launch) (D : va_G) (cy : Nat → ClassId) (h : Nat) : okN l yX6_init wsX6_init (rmN 2 41 3 67) D cy [.ref h] [(h, .inr (6, [.null, .null, .int 0]))] (fun a => wX6 cy a iT) h 3 67 := by
  refine okN_of (own := RX6) (nme := "<init>") (cc := cX6_init) (maxL := 1) (ret := none) (by decide) rfl rfl rfl (Nat.le_of_ble_eq_true rfl) ?_
  intro p e s m args below meth c A F FN
  have i_X4 : ∀ w ∈ u_ws RX4 TX4 6, w ∈ wsX6_init := fun _ h => List.mem_cons_of_mem _ (List.mem_append_right _ h)
  have i_X5 : ∀ w ∈ u_ws RX5 TX5 1, w ∈ wsX6_init := fun _ h => List.mem_cons_of_mem _ (List.mem_append_left _ (List.mem_append_left _ (List.mem_append_right _ h)))
  have i_X6 : ∀ w ∈ u_ws RX6 TX6 3, w ∈ wsX6_init := fun _ h => List.mem_cons_of_mem _ (List.mem_append_left _ (List.mem_append_right _ h))
  refine V.eq rfl (show lv_args 0 [.ref h] = [(0, .ref h)] from rfl) rfl ?_
  refine V_aload_n (pc := 0) F dX6_init_0 rfl 0 rfl ?_
  refine V_obj (pc := 1) F (mm 1 rfl) (mm 2 rfl) (mm 3 rfl) dX6_init_1 (Nat.le_of_ble_eq_true rfl) (Nat.le_of_ble_eq_true rfl) ?_
  refine V_aload_n (pc := 4) F dX6_init_4 rfl 0 rfl ?_
  refine V_newo (C := RX5) (T := TX5) (N := 1) (ci := 5) (fs := [.null]) (pc := 5) F i_X5 tyX5 tyX5_ok rfl (mm 4 rfl) (mm 5 rfl) (mm 6 rfl) df_X5 (Nat.le_of_ble_eq_true rfl) (Nat.le_of_ble_eq_true rfl) dX6_init_5 (fun q0 => ?_)
  refine V_dup (pc := 8) F dX6_init_8 rfl ?_
  refine V_bipush (v := nI 60) (pc := 9) F dX6_init_9 (by decide) ?_
  refine V_I (As := [.int (nI 60)]) (rest := [.ref q0, .ref h]) (pc := 11) F FN (N_X5_init l D cy q0 60 (by decide)) (cwI 1 F.ts gX6_init_X5_init rfl rfl rfl (F.ts _ (mm 6 rfl)) (F.ts _ (mm 13 rfl)) (F.ts _ (mm 14 rfl)) rfl hdi_X5 ⟨(Nat.le_of_ble_eq_true rfl), (Nat.le_of_ble_eq_true rfl)⟩) rfl dX6_init_11 (Nat.le_of_ble_eq_true rfl) (Nat.le_of_ble_eq_true rfl) (Nat.le_of_ble_eq_true rfl) rfl (fun b0 eb0 => ?_)
  subst eb0
  refine V_putF (w2 := ([(h, .inr (6, [.ref (b0 0), .null, .int 0]))] ++ wX5 cy 60 b0 (fun _ => 0))) (pc := 14) F 0 6 0 i_X6 tyX6 tyX6_ok nmX6 rfl (by decide) rfl (mm 7 rfl) rfl rfl rfl dX6_init_14 rfl rfl rfl (Nat.le_of_ble_eq_true rfl) rfl ?_
  refine V_aload_n (pc := 17) F dX6_init_17 rfl 0 rfl ?_
  refine V_newo (C := RX4) (T := TX4) (N := 6) (ci := 4) (fs := [.int 0, .int 0, .int 0, .int 0, .int 0, .int 0]) (pc := 18) F i_X4 tyX4 tyX4_ok rfl (mm 8 rfl) (mm 9 rfl) (mm 10 rfl) df_X4 (Nat.le_of_ble_eq_true rfl) (Nat.le_of_ble_eq_true rfl) dX6_init_18 (fun q1 => ?_)
  refine V_dup (pc := 21) F dX6_init_21 rfl ?_
  refine V_IN (As := []) (rest := [.ref q1, .ref h]) (pc := 22) F FN (N_X4_init l D cy q1) ⟨va_cnB 0 F.ts gX6_init_X4_init_n22 rfl rfl rfl FN.2.1 (F.ts _ (mm 10 rfl)) hdi_X4 ⟨(Nat.le_of_ble_eq_true rfl), (Nat.le_of_ble_eq_true rfl)⟩, rfl, F.ts _ (mm 19 rfl)⟩ rfl dX6_init_22 (Nat.le_of_ble_eq_true rfl) (Nat.le_of_ble_eq_true rfl) (Nat.le_of_ble_eq_true rfl) rfl (fun b1 eb1 => ?_)
  subst eb1
  refine V_putF (w2 := (([(h, .inr (6, [.ref (b0 0), .ref (b1 0), .int 0]))] ++ wX5 cy 60 b0 (fun _ => 0)) ++ wX4 cy b1 iR)) (pc := 25) F 0 6 1 i_X6 tyX6 tyX6_ok nmX6 rfl (by decide) rfl (mm 11 rfl) rfl rfl rfl dX6_init_25 rfl rfl rfl (Nat.le_of_ble_eq_true rfl) rfl ?_
  refine V_aload_n (pc := 28) F dX6_init_28 rfl 0 rfl ?_
  refine V_iconst (v := 0) (pc := 29) F dX6_init_29 (by decide) ?_
  refine V_put (w2 := (([(h, .inr (6, [.ref (b0 0), .ref (b1 0), .int 0]))] ++ wX5 cy 60 b0 (fun _ => 0)) ++ wX4 cy b1 iR)) (pc := 30) F 0 6 2 i_X6 tyX6 tyX6_ok nmX6 rfl (by decide) rfl (mm 12 rfl) rfl dX6_init_30 rfl rfl rfl (Nat.le_of_ble_eq_true rfl) rfl ?_
  exact V_vretN F (fun i => ([h, b0 0, b0 1, b1 0] : List Nat).getD i 0) rfl rfl dX6_init_33 (fun H hP => hP) (fun _ hD => hD) (Nat.le_of_ble_eq_true rfl) (Nat.le_of_ble_eq_true rfl)
set_option maxHeartbeats 8000000 in
set_option maxRecDepth 100000 in
theorem N_X1_init (l : Launch) (D : va_G) (cy : Nat → ClassId) (h : Nat) : okN l yX1_init wsX1_init (rmN 3 61 21 138) D cy [.ref h] [(h, .inr (1, [.null, .null, .null, .null, .null, .int 0, .int 0, .int 0, .int 0, .int 0]))] (fun a => wX1 cy a iM) h 21 138 := by
  refine okN_of (own := RX1) (nme := "<init>") (cc := cX1_init) (maxL := 1) (ret := none) (by decide) rfl rfl rfl (Nat.le_of_ble_eq_true rfl) ?_
  intro p e s m args below meth c A F FN
  have i_X1 : ∀ w ∈ u_ws RX1 TX1 10, w ∈ wsX1_init := fun _ h => List.mem_cons_of_mem _ (List.mem_append_left _ (List.mem_append_right _ h))
  have i_X2 : ∀ w ∈ u_ws RX2 TX2 8, w ∈ wsX1_init := fun _ h => List.mem_cons_of_mem _ (List.mem_append_left _ (List.mem_append_left _ (List.mem_append_right _ h)))
  have i_X5 : ∀ w ∈ u_ws RX5 TX5 1, w ∈ wsX1_init := fun _ h => List.mem_cons_of_mem _ (List.mem_append_right _ h)
  refine V.eq rfl (show lv_args 0 [.ref h] = [(0, .ref h)] from rfl) rfl ?_
  refine V_aload_n (pc := 0) F dX1_init_0 rfl 0 rfl ?_
  refine V_obj (pc := 1) F (mm 1 rfl) (mm 2 rfl) (mm 3 rfl) dX1_init_1 (Nat.le_of_ble_eq_true rfl) (Nat.le_of_ble_eq_true rfl) ?_
  refine V_aload_n (pc := 4) F dX1_init_4 rfl 0 rfl ?_
  refine V_newo (C := RX2) (T := TX2) (N := 8) (ci := 2) (fs := [.null, .null, .null, .null, .null, .null, .int 0, .int 0]) (pc := 5) F i_X2 tyX2 tyX2_ok rfl (mm 4 rfl) (mm 5 rfl) (mm 6 rfl) df_X2 (Nat.le_of_ble_eq_true rfl) (Nat.le_of_ble_eq_true rfl) dX1_init_5 (fun q0 => ?_)
  refine V_dup (pc := 8) F dX1_init_8 rfl ?_
  refine V_IN (As := []) (rest := [.ref q0, .ref h]) (pc := 9) F FN (N_X2_init l D cy q0) ⟨va_cnB 0 F.ts gX1_init_X2_init_n11 rfl rfl rfl FN.1 (F.ts _ (mm 6 rfl)) hdi_X2 ⟨(Nat.le_of_ble_eq_true rfl), (Nat.le_of_ble_eq_true rfl)⟩, rfl, F.ts _ (mm 20 rfl)⟩ rfl dX1_init_9 (Nat.le_of_ble_eq_true rfl) (Nat.le_of_ble_eq_true rfl) (Nat.le_of_ble_eq_true rfl) rfl (fun b0 eb0 => ?_)
  subst eb0
  refine V_putF (w2 := ([(h, .inr (1, [.ref (b0 0), .null, .null, .null, .null, .int 0, .int 0, .int 0, .int 0, .int 0]))] ++ wX2 cy b0 iP)) (pc := 12) F 0 1 0 i_X1 tyX1 tyX1_ok nmX1 rfl (by decide) rfl (mm 7 rfl) rfl rfl rfl dX1_init_12 rfl rfl rfl (Nat.le_of_ble_eq_true rfl) rfl ?_
  refine V_aload_n (pc := 15) F dX1_init_15 rfl 0 rfl ?_
  refine V_newo (C := RX5) (T := TX5) (N := 1) (ci := 5) (fs := [.null]) (pc := 16) F i_X5 tyX5 tyX5_ok rfl (mm 8 rfl) (mm 9 rfl) (mm 10 rfl) df_X5 (Nat.le_of_ble_eq_true rfl) (Nat.le_of_ble_eq_true rfl) dX1_init_16 (fun q1 => ?_)
  refine V_dup (pc := 19) F dX1_init_19 rfl ?_
  refine V_bipush (v := nI 6) (pc := 20) F dX1_init_20 (by decide) ?_
  refine V_I (As := [.int (nI 6)]) (rest := [.ref q1, .ref h]) (pc := 22) F FN (N_X5_init l D cy q1 6 (by decide)) (cwI 1 F.ts gX1_init_X5_init rfl rfl rfl (F.ts _ (mm 10 rfl)) (F.ts _ (mm 38 rfl)) (F.ts _ (mm 33 rfl)) rfl hdi_X5 ⟨(Nat.le_of_ble_eq_true rfl), (Nat.le_of_ble_eq_true rfl)⟩) rfl dX1_init_22 (Nat.le_of_ble_eq_true rfl) (Nat.le_of_ble_eq_true rfl) (Nat.le_of_ble_eq_true rfl) rfl (fun b1 eb1 => ?_)
  subst eb1
  refine V_putF (w2 := (([(h, .inr (1, [.ref (b0 0), .ref (b1 0), .null, .null, .null, .int 0, .int 0, .int 0, .int 0, .int 0]))] ++ wX2 cy b0 iP) ++ wX5 cy 6 b1 (fun _ => 0))) (pc := 25) F 0 1 1 i_X1 tyX1 tyX1_ok nmX1 rfl (by decide) rfl (mm 11 rfl) rfl rfl rfl dX1_init_25 rfl rfl rfl (Nat.le_of_ble_eq_true rfl) rfl ?_
  refine V_aload_n (pc := 28) F dX1_init_28 rfl 0 rfl ?_
  refine V_newo (C := RX5) (T := TX5) (N := 1) (ci := 5) (fs := [.null]) (pc := 29) F i_X5 tyX5 tyX5_ok rfl (mm 8 rfl) (mm 9 rfl) (mm 10 rfl) df_X5 (Nat.le_of_ble_eq_true rfl) (Nat.le_of_ble_eq_true rfl) dX1_init_29 (fun q2 => ?_)
  refine V_dup (pc := 32) F dX1_init_32 rfl ?_
  refine V_bipush (v := nI 6) (pc := 33) F dX1_init_33 (by decide) ?_
  refine V_I (As := [.int (nI 6)]) (rest := [.ref q2, .ref h]) (pc := 35) F FN (N_X5_init l D cy q2 6 (by decide)) (cwI 1 F.ts gX1_init_X5_init rfl rfl rfl (F.ts _ (mm 10 rfl)) (F.ts _ (mm 38 rfl)) (F.ts _ (mm 33 rfl)) rfl hdi_X5 ⟨(Nat.le_of_ble_eq_true rfl), (Nat.le_of_ble_eq_true rfl)⟩) rfl dX1_init_35 (Nat.le_of_ble_eq_true rfl) (Nat.le_of_ble_eq_true rfl) (Nat.le_of_ble_eq_true rfl) rfl (fun b2 eb2 => ?_)
  subst eb2
  refine V_putF (w2 := ((([(h, .inr (1, [.ref (b0 0), .ref (b1 0), .ref (b2 0), .null, .null, .int 0, .int 0, .int 0, .int 0, .int 0]))] ++ wX2 cy b0 iP) ++ wX5 cy 6 b1 (fun _ => 0)) ++ wX5 cy 6 b2 (fun _ => 0))) (pc := 38) F 0 1 2 i_X1 tyX1 tyX1_ok nmX1 rfl (by decide) rfl (mm 12 rfl) rfl rfl rfl dX1_init_38 rfl rfl rfl (Nat.le_of_ble_eq_true rfl) rfl ?_
  refine V_aload_n (pc := 41) F dX1_init_41 rfl 0 rfl ?_
  refine V_newo (C := RX5) (T := TX5) (N := 1) (ci := 5) (fs := [.null]) (pc := 42) F i_X5 tyX5 tyX5_ok rfl (mm 8 rfl) (mm 9 rfl) (mm 10 rfl) df_X5 (Nat.le_of_ble_eq_true rfl) (Nat.le_of_ble_eq_true rfl) dX1_init_42 (fun q3 => ?_)
  refine V_dup (pc := 45) F dX1_init_45 rfl ?_
  refine V_bipush (v := nI 6) (pc := 46) F dX1_init_46 (by decide) ?_
  refine V_I (As := [.int (nI 6)]) (rest := [.ref q3, .ref h]) (pc := 48) F FN (N_X5_init l D cy q3 6 (by decide)) (cwI 1 F.ts gX1_init_X5_init rfl rfl rfl (F.ts _ (mm 10 rfl)) (F.ts _ (mm 38 rfl)) (F.ts _ (mm 33 rfl)) rfl hdi_X5 ⟨(Nat.le_of_ble_eq_true rfl), (Nat.le_of_ble_eq_true rfl)⟩) rfl dX1_init_48 (Nat.le_of_ble_eq_true rfl) (Nat.le_of_ble_eq_true rfl) (Nat.le_of_ble_eq_true rfl) rfl (fun b3 eb3 => ?_)
  subst eb3
  refine V_putF (w2 := (((([(h, .inr (1, [.ref (b0 0), .ref (b1 0), .ref (b2 0), .ref (b3 0), .null, .int 0, .int 0, .int 0, .int 0, .int 0]))] ++ wX2 cy b0 iP) ++ wX5 cy 6 b1 (fun _ => 0)) ++ wX5 cy 6 b2 (fun _ => 0)) ++ wX5 cy 6 b3 (fun _ => 0))) (pc := 51) F 0 1 3 i_X1 tyX1 tyX1_ok nmX1 rfl (by decide) rfl (mm 13 rfl) rfl rfl rfl dX1_init_51 rfl rfl rfl (Nat.le_of_ble_eq_true rfl) rfl ?_
  refine V_aload_n (pc := 54) F dX1_init_54 rfl 0 rfl ?_
  refine V_newo (C := RX5) (T := TX5) (N := 1) (ci := 5) (fs := [.null]) (pc := 55) F i_X5 tyX5 tyX5_ok rfl (mm 8 rfl) (mm 9 rfl) (mm 10 rfl) df_X5 (Nat.le_of_ble_eq_true rfl) (Nat.le_of_ble_eq_true rfl) dX1_init_55 (fun q4 => ?_)
  refine V_dup (pc := 58) F dX1_init_58 rfl ?_
  refine V_bipush (v := nI 8) (pc := 59) F dX1_init_59 (by decide) ?_
  refine V_I (As := [.int (nI 8)]) (rest := [.ref q4, .ref h]) (pc := 61) F FN (N_X5_init l D cy q4 8 (by decide)) (cwI 1 F.ts gX1_init_X5_init rfl rfl rfl (F.ts _ (mm 10 rfl)) (F.ts _ (mm 38 rfl)) (F.ts _ (mm 33 rfl)) rfl hdi_X5 ⟨(Nat.le_of_ble_eq_true rfl), (Nat.le_of_ble_eq_true rfl)⟩) rfl dX1_init_61 (Nat.le_of_ble_eq_true rfl) (Nat.le_of_ble_eq_true rfl) (Nat.le_of_ble_eq_true rfl) rfl (fun b4 eb4 => ?_)
  subst eb4
  refine V_putF (w2 := ((((([(h, .inr (1, [.ref (b0 0), .ref (b1 0), .ref (b2 0), .ref (b3 0), .ref (b4 0), .int 0, .int 0, .int 0, .int 0, .int 0]))] ++ wX2 cy b0 iP) ++ wX5 cy 6 b1 (fun _ => 0)) ++ wX5 cy 6 b2 (fun _ => 0)) ++ wX5 cy 6 b3 (fun _ => 0)) ++ wX5 cy 8 b4 (fun _ => 0))) (pc := 64) F 0 1 4 i_X1 tyX1 tyX1_ok nmX1 rfl (by decide) rfl (mm 14 rfl) rfl rfl rfl dX1_init_64 rfl rfl rfl (Nat.le_of_ble_eq_true rfl) rfl ?_
  refine V_aload_n (pc := 67) F dX1_init_67 rfl 0 rfl ?_
  refine V_iconst (v := 0) (pc := 68) F dX1_init_68 (by decide) ?_
  refine V_put (w2 := ((((([(h, .inr (1, [.ref (b0 0), .ref (b1 0), .ref (b2 0), .ref (b3 0), .ref (b4 0), .int 0, .int 0, .int 0, .int 0, .int 0]))] ++ wX2 cy b0 iP) ++ wX5 cy 6 b1 (fun _ => 0)) ++ wX5 cy 6 b2 (fun _ => 0)) ++ wX5 cy 6 b3 (fun _ => 0)) ++ wX5 cy 8 b4 (fun _ => 0))) (pc := 69) F 0 1 5 i_X1 tyX1 tyX1_ok nmX1 rfl (by decide) rfl (mm 15 rfl) rfl dX1_init_69 rfl rfl rfl (Nat.le_of_ble_eq_true rfl) rfl ?_
  refine V_aload_n (pc := 72) F dX1_init_72 rfl 0 rfl ?_
  refine V_iconst (v := 0) (pc := 73) F dX1_init_73 (by decide) ?_
  refine V_put (w2 := ((((([(h, .inr (1, [.ref (b0 0), .ref (b1 0), .ref (b2 0), .ref (b3 0), .ref (b4 0), .int 0, .int 0, .int 0, .int 0, .int 0]))] ++ wX2 cy b0 iP) ++ wX5 cy 6 b1 (fun _ => 0)) ++ wX5 cy 6 b2 (fun _ => 0)) ++ wX5 cy 6 b3 (fun _ => 0)) ++ wX5 cy 8 b4 (fun _ => 0))) (pc := 74) F 0 1 6 i_X1 tyX1 tyX1_ok nmX1 rfl (by decide) rfl (mm 16 rfl) rfl dX1_init_74 rfl rfl rfl (Nat.le_of_ble_eq_true rfl) rfl ?_
  refine V_aload_n (pc := 77) F dX1_init_77 rfl 0 rfl ?_
  refine V_iconst (v := 0) (pc := 78) F dX1_init_78 (by decide) ?_
  refine V_put (w2 := ((((([(h, .inr (1, [.ref (b0 0), .ref (b1 0), .ref (b2 0), .ref (b3 0), .ref (b4 0), .int 0, .int 0, .int 0, .int 0, .int 0]))] ++ wX2 cy b0 iP) ++ wX5 cy 6 b1 (fun _ => 0)) ++ wX5 cy 6 b2 (fun _ => 0)) ++ wX5 cy 6 b3 (fun _ => 0)) ++ wX5 cy 8 b4 (fun _ => 0))) (pc := 79) F 0 1 7 i_X1 tyX1 tyX1_ok nmX1 rfl (by decide) rfl (mm 17 rfl) rfl dX1_init_79 rfl rfl rfl (Nat.le_of_ble_eq_true rfl) rfl ?_
  refine V_aload_n (pc := 82) F dX1_init_82 rfl 0 rfl ?_
  refine V_iconst (v := 0) (pc := 83) F dX1_init_83 (by decide) ?_
  refine V_put (w2 := ((((([(h, .inr (1, [.ref (b0 0), .ref (b1 0), .ref (b2 0), .ref (b3 0), .ref (b4 0), .int 0, .int 0, .int 0, .int 0, .int 0]))] ++ wX2 cy b0 iP) ++ wX5 cy 6 b1 (fun _ => 0)) ++ wX5 cy 6 b2 (fun _ => 0)) ++ wX5 cy 6 b3 (fun _ => 0)) ++ wX5 cy 8 b4 (fun _ => 0))) (pc := 84) F 0 1 8 i_X1 tyX1 tyX1_ok nmX1 rfl (by decide) rfl (mm 18 rfl) rfl dX1_init_84 rfl rfl rfl (Nat.le_of_ble_eq_true rfl) rfl ?_
  refine V_aload_n (pc := 87) F dX1_init_87 rfl 0 rfl ?_
  refine V_iconst (v := 0) (pc := 88) F dX1_init_88 (by decide) ?_
  refine V_put (w2 := ((((([(h, .inr (1, [.ref (b0 0), .ref (b1 0), .ref (b2 0), .ref (b3 0), .ref (b4 0), .int 0, .int 0, .int 0, .int 0, .int 0]))] ++ wX2 cy b0 iP) ++ wX5 cy 6 b1 (fun _ => 0)) ++ wX5 cy 6 b2 (fun _ => 0)) ++ wX5 cy 6 b3 (fun _ => 0)) ++ wX5 cy 8 b4 (fun _ => 0))) (pc := 89) F 0 1 9 i_X1 tyX1 tyX1_ok nmX1 rfl (by decide) rfl (mm 19 rfl) rfl dX1_init_89 rfl rfl rfl (Nat.le_of_ble_eq_true rfl) rfl ?_
  refine V_aload_n (pc := 92) F dX1_init_92 rfl 0 rfl ?_
  refine V_get (pc := 93) F 0 1 1 i_X1 rfl (by decide) rfl (mm 11 rfl) dX1_init_93 rfl rfl ?_
  refine V_iconst (v := (-1)) (pc := 96) F dX1_init_96 (by decide) ?_
  refine V_V (w2 := ((((([(h, .inr (1, [.ref (b0 0), .ref (b1 0), .ref (b2 0), .ref (b3 0), .ref (b4 0), .int 0, .int 0, .int 0, .int 0, .int 0]))] ++ wX2 cy b0 iP) ++ wX5 cy 6 b1 (fun _ => (-1))) ++ wX5 cy 6 b2 (fun _ => 0)) ++ wX5 cy 6 b3 (fun _ => 0)) ++ wX5 cy 8 b4 (fun _ => 0))) (rest := []) (st2 := []) (pc := 97) F 5 (R_fill l D cy b1 6 (fun _ => 0) (-1) (by decide)) (cwV 1 F.ts gX1_init_X5_fill rfl rfl rfl hd_X5_fill ⟨(Nat.le_of_ble_eq_true rfl), (Nat.le_of_ble_eq_true rfl)⟩) rfl dX1_init_97 (Fit.left (Fit.left (Fit.left (Fit.right Fit.whole)))) fstX5 rfl rfl (Nat.le_of_ble_eq_true rfl) (Nat.le_of_ble_eq_true rfl) (Nat.le_of_ble_eq_true rfl) rfl rfl rfl ?_
  exact V_vretN F (fun i => ([h, b0 0, b0 1, b0 2, b0 3, b0 4, b0 5, b0 6, b0 7, b0 8, b0 9, b0 10, b0 11, b0 12, b1 0, b1 1, b2 0, b2 1, b3 0, b3 1, b4 0, b4 1] : List Nat).getD i 0) rfl rfl dX1_init_100 (fun H hP => hP) (fun _ hD => hD) (Nat.le_of_ble_eq_true rfl) (Nat.le_of_ble_eq_true rfl)
