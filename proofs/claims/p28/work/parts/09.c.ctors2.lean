/-! the constructors of the model, the history and the class -/
theorem wX5_congr {cy : Nat → ClassId} {n : Nat} {a b : Nat → Nat} (h : ∀ i, i < 2 → a i = b i) (v : SX5) : wX5 cy n a v = wX5 cy n b v := by
  unfold wX5
  rw [h 0 (by omega), h 1 (by omega)]
theorem wX4_congr {cy : Nat → ClassId} {a b : Nat → Nat} (h : ∀ i, i < 1 → a i = b i) (v : SX4) : wX4 cy a v = wX4 cy b v := by
  unfold wX4
  rw [h 0 (by omega)]
theorem wX2_congr {cy : Nat → ClassId} {a b : Nat → Nat} (h : ∀ i, i < 13 → a i = b i) (v : SX2) : wX2 cy a v = wX2 cy b v := by
  unfold wX2
  have e0 : wX5 cy 6 (fun i => a (i + 1)) v.1 = wX5 cy 6 (fun i => b (i + 1)) v.1 := wX5_congr (fun i hi => h (i + 1) (by omega)) _
  have e1 : wX5 cy 8 (fun i => a (i + 3)) v.2.1 = wX5 cy 8 (fun i => b (i + 3)) v.2.1 := wX5_congr (fun i hi => h (i + 3) (by omega)) _
  have e2 : wX5 cy 8 (fun i => a (i + 5)) v.2.2.1 = wX5 cy 8 (fun i => b (i + 5)) v.2.2.1 := wX5_congr (fun i hi => h (i + 5) (by omega)) _
  have e3 : wX5 cy 8 (fun i => a (i + 7)) v.2.2.2.1 = wX5 cy 8 (fun i => b (i + 7)) v.2.2.2.1 := wX5_congr (fun i hi => h (i + 7) (by omega)) _
  have e4 : wX5 cy 32 (fun i => a (i + 9)) v.2.2.2.2.1 = wX5 cy 32 (fun i => b (i + 9)) v.2.2.2.2.1 := wX5_congr (fun i hi => h (i + 9) (by omega)) _
  have e5 : wX5 cy 32 (fun i => a (i + 11)) v.2.2.2.2.2.1 = wX5 cy 32 (fun i => b (i + 11)) v.2.2.2.2.2.1 := wX5_congr (fun i hi => h (i + 11) (by omega)) _
  rw [e0, e1, e2, e3, e4, e5, h 0 (by omega), h 1 (by omega), h 3 (by omega), h 5 (by omega), h 7 (by omega), h 9 (by omega), h 11 (by omega)]
theorem wX1_congr {cy : Nat → ClassId} {a b : Nat → Nat} (h : ∀ i, i < 22 → a i = b i) (v : SX1) : wX1 cy a v = wX1 cy b v := by
  unfold wX1
  have e0 : wX2 cy (fun i => a (i + 1)) v.1 = wX2 cy (fun i => b (i + 1)) v.1 := wX2_congr (fun i hi => h (i + 1) (by omega)) _
  have e1 : wX5 cy 6 (fun i => a (i + 14)) v.2.1 = wX5 cy 6 (fun i => b (i + 14)) v.2.1 := wX5_congr (fun i hi => h (i + 14) (by omega)) _
  have e2 : wX5 cy 6 (fun i => a (i + 16)) v.2.2.1 = wX5 cy 6 (fun i => b (i + 16)) v.2.2.1 := wX5_congr (fun i hi => h (i + 16) (by omega)) _
  have e3 : wX5 cy 6 (fun i => a (i + 18)) v.2.2.2.1 = wX5 cy 6 (fun i => b (i + 18)) v.2.2.2.1 := wX5_congr (fun i hi => h (i + 18) (by omega)) _
  have e4 : wX5 cy 8 (fun i => a (i + 20)) v.2.2.2.2.1 = wX5 cy 8 (fun i => b (i + 20)) v.2.2.2.2.1 := wX5_congr (fun i hi => h (i + 20) (by omega)) _
  rw [e0, e1, e2, e3, e4, h 0 (by omega), h 1 (by omega), h 14 (by omega), h 16 (by omega), h 18 (by omega), h 20 (by omega)]
theorem wX3_congr {cy : Nat → ClassId} {a b : Nat → Nat} (h : ∀ i, i < 11 → a i = b i) (v : SX3) : wX3 cy a v = wX3 cy b v := by
  unfold wX3
  have e0 : wX5 cy 8 (fun i => a (i + 1)) v.1 = wX5 cy 8 (fun i => b (i + 1)) v.1 := wX5_congr (fun i hi => h (i + 1) (by omega)) _
  have e1 : wX5 cy 48 (fun i => a (i + 3)) v.2.1 = wX5 cy 48 (fun i => b (i + 3)) v.2.1 := wX5_congr (fun i hi => h (i + 3) (by omega)) _
  have e2 : wX5 cy 48 (fun i => a (i + 5)) v.2.2.1 = wX5 cy 48 (fun i => b (i + 5)) v.2.2.1 := wX5_congr (fun i hi => h (i + 5) (by omega)) _
  have e3 : wX5 cy 48 (fun i => a (i + 7)) v.2.2.2.1 = wX5 cy 48 (fun i => b (i + 7)) v.2.2.2.1 := wX5_congr (fun i hi => h (i + 7) (by omega)) _
  have e4 : wX5 cy 6 (fun i => a (i + 9)) v.2.2.2.2.1 = wX5 cy 6 (fun i => b (i + 9)) v.2.2.2.2.1 := wX5_congr (fun i hi => h (i + 9) (by omega)) _
  rw [e0, e1, e2, e3, e4, h 0 (by omega), h 1 (by omega), h 3 (by omega), h 5 (by omega), h 7 (by omega), h 9 (by omega)]
theorem wX6_congr {cy : Nat → ClassId} {a b : Nat → Nat} (h : ∀ i, i < 4 → a i = b i) (v : SX6) : wX6 cy a v = wX6 cy b v := by
  unfold wX6
  have e0 : wX5 cy 60 (fun i => a (i + 1)) v.1 = wX5 cy 60 (fun i => b (i + 1)) v.1 := wX5_congr (fun i hi => h (i + 1) (by omega)) _
  have e1 : wX4 cy (fun i => a (i + 3)) v.2.1 = wX4 cy (fun i => b (i + 3)) v.2.1 := wX4_congr (fun i hi => h (i + 3) (by omega)) _
  rw [e0, e1, h 0 (by omega), h 1 (by omega), h 3 (by omega)]
set_option maxHeartbeats 8000000 in
set_option maxRecDepth 100000 in
theorem N_X0_init (l : Launch) (D : va_G) (cy : Nat → ClassId) (h : Nat) : okN l yX0_init wsX0_init (rmN 4 81 133 894) D cy [.ref h] [(h, .inr (0, [.null, .int 0, .int 0]))] (fun a => wX0 cy a iH) h 133 894 := by
  refine okN_of (own := RX0) (nme := "<init>") (cc := cX0_init) (maxL := 2) (ret := none) (by decide) rfl rfl rfl (Nat.le_of_ble_eq_true rfl) ?_
  intro p e s m args below meth c A F FN
  have i_X0 : ∀ w ∈ u_ws RX0 TX0 3, w ∈ wsX0_init := fun _ h => List.mem_cons_of_mem _ (List.mem_append_left _ (List.mem_append_left _ (List.mem_append_left _ (List.mem_append_right _ h))))
  have i_X1 : ∀ w ∈ u_ws RX1 TX1 10, w ∈ wsX0_init := fun _ h => List.mem_cons_of_mem _ (List.mem_append_left _ (List.mem_append_left _ (List.mem_append_right _ h)))
  refine V.eq rfl (show lv_args 0 [.ref h] = [(0, .ref h)] from rfl) rfl ?_
  refine V_aload_n (pc := 0) F dX0_init_0 rfl 0 rfl ?_
  refine V_obj (pc := 1) F (mm 1 rfl) (mm 2 rfl) (mm 3 rfl) dX0_init_1 (Nat.le_of_ble_eq_true rfl) (Nat.le_of_ble_eq_true rfl) ?_
  refine V_aload_n (pc := 4) F dX0_init_4 rfl 0 rfl ?_
  refine V_bipush (v := nI 6) (pc := 5) F dX0_init_5 (by decide) ?_
  refine V_newq (n := nI 6) (N := 6) (pc := 7) F FN (mm 4 rfl) (nI_pos (by decide)) (nI_clamp (by decide)) (by decide) (Nat.le_of_ble_eq_true rfl) (Nat.le_of_ble_eq_true rfl) dX0_init_7 (fun q0 => ?_)
  refine V_putF (w2 := ([(h, .inr (0, [.ref q0, .int 0, .int 0]))] ++ [(q0, .inl (cy 2, 6, .inr (.inr (.inr (.inr (fun _ => none))))))])) (pc := 10) F 0 0 0 i_X0 tyX0 tyX0_ok nmX0 rfl (by decide) rfl (mm 5 rfl) rfl rfl rfl dX0_init_10 rfl rfl rfl (Nat.le_of_ble_eq_true rfl) rfl ?_
  refine V_aload_n (pc := 13) F dX0_init_13 rfl 0 rfl ?_
  refine V_iconst (v := 0) (pc := 14) F dX0_init_14 (by decide) ?_
  refine V_put (w2 := ([(h, .inr (0, [.ref q0, .int 0, .int 0]))] ++ [(q0, .inl (cy 2, 6, .inr (.inr (.inr (.inr (fun _ => none))))))])) (pc := 15) F 0 0 1 i_X0 tyX0 tyX0_ok nmX0 rfl (by decide) rfl (mm 6 rfl) rfl dX0_init_15 rfl rfl rfl (Nat.le_of_ble_eq_true rfl) rfl ?_
  refine V_aload_n (pc := 18) F dX0_init_18 rfl 0 rfl ?_
  refine V_iconst (v := 0) (pc := 19) F dX0_init_19 (by decide) ?_
  refine V_put (w2 := ([(h, .inr (0, [.ref q0, .int 0, .int 0]))] ++ [(q0, .inl (cy 2, 6, .inr (.inr (.inr (.inr (fun _ => none))))))])) (pc := 20) F 0 0 2 i_X0 tyX0 tyX0_ok nmX0 rfl (by decide) rfl (mm 7 rfl) rfl dX0_init_20 rfl rfl rfl (Nat.le_of_ble_eq_true rfl) rfl ?_
  refine V_iconst (v := 0) (pc := 23) F dX0_init_23 (by decide) ?_
  refine V_istore_n (L2 := [(1, .int 0), (0, .ref h)]) (pc := 24) F dX0_init_24 rfl (by decide) rfl ?_
  refine V_iload_n (pc := 25) F dX0_init_25 rfl 0 rfl ?_
  refine V_aload_n (pc := 26) F dX0_init_26 rfl 1 rfl ?_
  refine V_get (pc := 27) F 0 0 0 i_X0 rfl (by decide) rfl (mm 5 rfl) dX0_init_27 rfl rfl ?_
  refine V_alenq (v := nI 6) (pc := 30) F 1 rfl rfl dX0_init_30 ?_
  refine V_icmp_ge (pc := 31) (tgt := 53) F dX0_init_31 (by decide) (fun hh => absurd hh (by decide)) (fun _ => ?_)
  refine V_aload_n (pc := 34) F dX0_init_34 rfl 1 rfl ?_
  refine V_get (pc := 35) F 0 0 0 i_X0 rfl (by decide) rfl (mm 5 rfl) dX0_init_35 rfl rfl ?_
  refine V_iload_n (pc := 38) F dX0_init_38 rfl 0 rfl ?_
  refine V_newo (C := RX1) (T := TX1) (N := 10) (ci := 1) (fs := [.null, .null, .null, .null, .null, .int 0, .int 0, .int 0, .int 0, .int 0]) (pc := 39) F i_X1 tyX1 tyX1_ok rfl (mm 4 rfl) (mm 8 rfl) (mm 9 rfl) df_X1 (Nat.le_of_ble_eq_true rfl) (Nat.le_of_ble_eq_true rfl) dX0_init_39 (fun q1 => ?_)
  refine V_dup (pc := 42) F dX0_init_42 rfl ?_
  refine V_I (As := []) (rest := [.ref q1, .int 0, .ref q0]) (pc := 43) F FN (N_X1_init l D cy q1) (cwI 0 F.ts gX0_init_X1_init rfl rfl rfl (F.ts _ (mm 9 rfl)) (F.ts _ (mm 10 rfl)) (F.ts _ (mm 11 rfl)) rfl hdi_X1 ⟨(Nat.le_of_ble_eq_true rfl), (Nat.le_of_ble_eq_true rfl)⟩) rfl dX0_init_43 (Nat.le_of_ble_eq_true rfl) (Nat.le_of_ble_eq_true rfl) (Nat.le_of_ble_eq_true rfl) rfl (fun b1 eb1 => ?_)
  subst eb1
  refine V_aastq (w2 := (([(h, .inr (0, [.ref q0, .int 0, .int 0]))] ++ [(q0, .inl (cy 2, 6, .inr (.inr (.inr (.inr (va_up (fun _ => none) (0 : Int32).toNatClampNeg (some (b1 0))))))))]) ++ wX1 cy b1 iM)) (pc := 46) F 1 _ rfl (at_right (k := 0) rfl) (by unfold vp_in; decide) dX0_init_46 rfl ?_
  refine V_iinc (v := 1) (L2 := [(1, .int 1), (0, .ref h)]) (pc := 47) F dX0_init_47 0 rfl (by decide) (by decide) rfl ?_
  refine V_goto (pc := 50) (tgt := 25) F dX0_init_50 (by decide) ?_
  refine V_iload_n (pc := 25) F dX0_init_25 rfl 0 rfl ?_
  refine V_aload_n (pc := 26) F dX0_init_26 rfl 1 rfl ?_
  refine V_get (pc := 27) F 0 0 0 i_X0 rfl (by decide) rfl (mm 5 rfl) dX0_init_27 rfl rfl ?_
  refine V_alenq (v := nI 6) (pc := 30) F 1 rfl rfl dX0_init_30 ?_
  refine V_icmp_ge (pc := 31) (tgt := 53) F dX0_init_31 (by decide) (fun hh => absurd hh (by decide)) (fun _ => ?_)
  refine V_aload_n (pc := 34) F dX0_init_34 rfl 1 rfl ?_
  refine V_get (pc := 35) F 0 0 0 i_X0 rfl (by decide) rfl (mm 5 rfl) dX0_init_35 rfl rfl ?_
  refine V_iload_n (pc := 38) F dX0_init_38 rfl 0 rfl ?_
  refine V_newo (C := RX1) (T := TX1) (N := 10) (ci := 1) (fs := [.null, .null, .null, .null, .null, .int 0, .int 0, .int 0, .int 0, .int 0]) (pc := 39) F i_X1 tyX1 tyX1_ok rfl (mm 4 rfl) (mm 8 rfl) (mm 9 rfl) df_X1 (Nat.le_of_ble_eq_true rfl) (Nat.le_of_ble_eq_true rfl) dX0_init_39 (fun q2 => ?_)
  refine V_dup (pc := 42) F dX0_init_42 rfl ?_
  refine V_I (As := []) (rest := [.ref q2, .int 1, .ref q0]) (pc := 43) F FN (N_X1_init l D cy q2) (cwI 0 F.ts gX0_init_X1_init rfl rfl rfl (F.ts _ (mm 9 rfl)) (F.ts _ (mm 10 rfl)) (F.ts _ (mm 11 rfl)) rfl hdi_X1 ⟨(Nat.le_of_ble_eq_true rfl), (Nat.le_of_ble_eq_true rfl)⟩) rfl dX0_init_43 (Nat.le_of_ble_eq_true rfl) (Nat.le_of_ble_eq_true rfl) (Nat.le_of_ble_eq_true rfl) rfl (fun b2 eb2 => ?_)
  subst eb2
  refine V_aastq (w2 := ((([(h, .inr (0, [.ref q0, .int 0, .int 0]))] ++ [(q0, .inl (cy 2, 6, .inr (.inr (.inr (.inr (va_up (va_up (fun _ => none) (0 : Int32).toNatClampNeg (some (b1 0))) (1 : Int32).toNatClampNeg (some (b2 0))))))))]) ++ wX1 cy b1 iM) ++ wX1 cy b2 iM)) (pc := 46) F 1 _ rfl (at_right (k := 0) rfl) (by unfold vp_in; decide) dX0_init_46 rfl ?_
  refine V_iinc (v := 2) (L2 := [(1, .int 2), (0, .ref h)]) (pc := 47) F dX0_init_47 0 rfl (by decide) (by decide) rfl ?_
  refine V_goto (pc := 50) (tgt := 25) F dX0_init_50 (by decide) ?_
  refine V_iload_n (pc := 25) F dX0_init_25 rfl 0 rfl ?_
  refine V_aload_n (pc := 26) F dX0_init_26 rfl 1 rfl ?_
  refine V_get (pc := 27) F 0 0 0 i_X0 rfl (by decide) rfl (mm 5 rfl) dX0_init_27 rfl rfl ?_
  refine V_alenq (v := nI 6) (pc := 30) F 1 rfl rfl dX0_init_30 ?_
  refine V_icmp_ge (pc := 31) (tgt := 53) F dX0_init_31 (by decide) (fun hh => absurd hh (by decide)) (fun _ => ?_)
  refine V_aload_n (pc := 34) F dX0_init_34 rfl 1 rfl ?_
  refine V_get (pc := 35) F 0 0 0 i_X0 rfl (by decide) rfl (mm 5 rfl) dX0_init_35 rfl rfl ?_
  refine V_iload_n (pc := 38) F dX0_init_38 rfl 0 rfl ?_
  refine V_newo (C := RX1) (T := TX1) (N := 10) (ci := 1) (fs := [.null, .null, .null, .null, .null, .int 0, .int 0, .int 0, .int 0, .int 0]) (pc := 39) F i_X1 tyX1 tyX1_ok rfl (mm 4 rfl) (mm 8 rfl) (mm 9 rfl) df_X1 (Nat.le_of_ble_eq_true rfl) (Nat.le_of_ble_eq_true rfl) dX0_init_39 (fun q3 => ?_)
  refine V_dup (pc := 42) F dX0_init_42 rfl ?_
  refine V_I (As := []) (rest := [.ref q3, .int 2, .ref q0]) (pc := 43) F FN (N_X1_init l D cy q3) (cwI 0 F.ts gX0_init_X1_init rfl rfl rfl (F.ts _ (mm 9 rfl)) (F.ts _ (mm 10 rfl)) (F.ts _ (mm 11 rfl)) rfl hdi_X1 ⟨(Nat.le_of_ble_eq_true rfl), (Nat.le_of_ble_eq_true rfl)⟩) rfl dX0_init_43 (Nat.le_of_ble_eq_true rfl) (Nat.le_of_ble_eq_true rfl) (Nat.le_of_ble_eq_true rfl) rfl (fun b3 eb3 => ?_)
  subst eb3
  refine V_aastq (w2 := (((([(h, .inr (0, [.ref q0, .int 0, .int 0]))] ++ [(q0, .inl (cy 2, 6, .inr (.inr (.inr (.inr (va_up (va_up (va_up (fun _ => none) (0 : Int32).toNatClampNeg (some (b1 0))) (1 : Int32).toNatClampNeg (some (b2 0))) (2 : Int32).toNatClampNeg (some (b3 0))))))))]) ++ wX1 cy b1 iM) ++ wX1 cy b2 iM) ++ wX1 cy b3 iM)) (pc := 46) F 1 _ rfl (at_right (k := 0) rfl) (by unfold vp_in; decide) dX0_init_46 rfl ?_
  refine V_iinc (v := 3) (L2 := [(1, .int 3), (0, .ref h)]) (pc := 47) F dX0_init_47 0 rfl (by decide) (by decide) rfl ?_
  refine V_goto (pc := 50) (tgt := 25) F dX0_init_50 (by decide) ?_
  refine V_iload_n (pc := 25) F dX0_init_25 rfl 0 rfl ?_
  refine V_aload_n (pc := 26) F dX0_init_26 rfl 1 rfl ?_
  refine V_get (pc := 27) F 0 0 0 i_X0 rfl (by decide) rfl (mm 5 rfl) dX0_init_27 rfl rfl ?_
  refine V_alenq (v := nI 6) (pc := 30) F 1 rfl rfl dX0_init_30 ?_
  refine V_icmp_ge (pc := 31) (tgt := 53) F dX0_init_31 (by decide) (fun hh => absurd hh (by decide)) (fun _ => ?_)
  refine V_aload_n (pc := 34) F dX0_init_34 rfl 1 rfl ?_
  refine V_get (pc := 35) F 0 0 0 i_X0 rfl (by decide) rfl (mm 5 rfl) dX0_init_35 rfl rfl ?_
  refine V_iload_n (pc := 38) F dX0_init_38 rfl 0 rfl ?_
  refine V_newo (C := RX1) (T := TX1) (N := 10) (ci := 1) (fs := [.null, .null, .null, .null, .null, .int 0, .int 0, .int 0, .int 0, .int 0]) (pc := 39) F i_X1 tyX1 tyX1_ok rfl (mm 4 rfl) (mm 8 rfl) (mm 9 rfl) df_X1 (Nat.le_of_ble_eq_true rfl) (Nat.le_of_ble_eq_true rfl) dX0_init_39 (fun q4 => ?_)
  refine V_dup (pc := 42) F dX0_init_42 rfl ?_
  refine V_I (As := []) (rest := [.ref q4, .int 3, .ref q0]) (pc := 43) F FN (N_X1_init l D cy q4) (cwI 0 F.ts gX0_init_X1_init rfl rfl rfl (F.ts _ (mm 9 rfl)) (F.ts _ (mm 10 rfl)) (F.ts _ (mm 11 rfl)) rfl hdi_X1 ⟨(Nat.le_of_ble_eq_true rfl), (Nat.le_of_ble_eq_true rfl)⟩) rfl dX0_init_43 (Nat.le_of_ble_eq_true rfl) (Nat.le_of_ble_eq_true rfl) (Nat.le_of_ble_eq_true rfl) rfl (fun b4 eb4 => ?_)
  subst eb4
  refine V_aastq (w2 := ((((([(h, .inr (0, [.ref q0, .int 0, .int 0]))] ++ [(q0, .inl (cy 2, 6, .inr (.inr (.inr (.inr (va_up (va_up (va_up (va_up (fun _ => none) (0 : Int32).toNatClampNeg (some (b1 0))) (1 : Int32).toNatClampNeg (some (b2 0))) (2 : Int32).toNatClampNeg (some (b3 0))) (3 : Int32).toNatClampNeg (some (b4 0))))))))]) ++ wX1 cy b1 iM) ++ wX1 cy b2 iM) ++ wX1 cy b3 iM) ++ wX1 cy b4 iM)) (pc := 46) F 1 _ rfl (at_right (k := 0) rfl) (by unfold vp_in; decide) dX0_init_46 rfl ?_
  refine V_iinc (v := 4) (L2 := [(1, .int 4), (0, .ref h)]) (pc := 47) F dX0_init_47 0 rfl (by decide) (by decide) rfl ?_
  refine V_goto (pc := 50) (tgt := 25) F dX0_init_50 (by decide) ?_
  refine V_iload_n (pc := 25) F dX0_init_25 rfl 0 rfl ?_
  refine V_aload_n (pc := 26) F dX0_init_26 rfl 1 rfl ?_
  refine V_get (pc := 27) F 0 0 0 i_X0 rfl (by decide) rfl (mm 5 rfl) dX0_init_27 rfl rfl ?_
  refine V_alenq (v := nI 6) (pc := 30) F 1 rfl rfl dX0_init_30 ?_
  refine V_icmp_ge (pc := 31) (tgt := 53) F dX0_init_31 (by decide) (fun hh => absurd hh (by decide)) (fun _ => ?_)
  refine V_aload_n (pc := 34) F dX0_init_34 rfl 1 rfl ?_
  refine V_get (pc := 35) F 0 0 0 i_X0 rfl (by decide) rfl (mm 5 rfl) dX0_init_35 rfl rfl ?_
  refine V_iload_n (pc := 38) F dX0_init_38 rfl 0 rfl ?_
  refine V_newo (C := RX1) (T := TX1) (N := 10) (ci := 1) (fs := [.null, .null, .null, .null, .null, .int 0, .int 0, .int 0, .int 0, .int 0]) (pc := 39) F i_X1 tyX1 tyX1_ok rfl (mm 4 rfl) (mm 8 rfl) (mm 9 rfl) df_X1 (Nat.le_of_ble_eq_true rfl) (Nat.le_of_ble_eq_true rfl) dX0_init_39 (fun q5 => ?_)
  refine V_dup (pc := 42) F dX0_init_42 rfl ?_
  refine V_I (As := []) (rest := [.ref q5, .int 4, .ref q0]) (pc := 43) F FN (N_X1_init l D cy q5) (cwI 0 F.ts gX0_init_X1_init rfl rfl rfl (F.ts _ (mm 9 rfl)) (F.ts _ (mm 10 rfl)) (F.ts _ (mm 11 rfl)) rfl hdi_X1 ⟨(Nat.le_of_ble_eq_true rfl), (Nat.le_of_ble_eq_true rfl)⟩) rfl dX0_init_43 (Nat.le_of_ble_eq_true rfl) (Nat.le_of_ble_eq_true rfl) (Nat.le_of_ble_eq_true rfl) rfl (fun b5 eb5 => ?_)
  subst eb5
  refine V_aastq (w2 := (((((([(h, .inr (0, [.ref q0, .int 0, .int 0]))] ++ [(q0, .inl (cy 2, 6, .inr (.inr (.inr (.inr (va_up (va_up (va_up (va_up (va_up (fun _ => none) (0 : Int32).toNatClampNeg (some (b1 0))) (1 : Int32).toNatClampNeg (some (b2 0))) (2 : Int32).toNatClampNeg (some (b3 0))) (3 : Int32).toNatClampNeg (some (b4 0))) (4 : Int32).toNatClampNeg (some (b5 0))))))))]) ++ wX1 cy b1 iM) ++ wX1 cy b2 iM) ++ wX1 cy b3 iM) ++ wX1 cy b4 iM) ++ wX1 cy b5 iM)) (pc := 46) F 1 _ rfl (at_right (k := 0) rfl) (by unfold vp_in; decide) dX0_init_46 rfl ?_
  refine V_iinc (v := 5) (L2 := [(1, .int 5), (0, .ref h)]) (pc := 47) F dX0_init_47 0 rfl (by decide) (by decide) rfl ?_
  refine V_goto (pc := 50) (tgt := 25) F dX0_init_50 (by decide) ?_
  refine V_iload_n (pc := 25) F dX0_init_25 rfl 0 rfl ?_
  refine V_aload_n (pc := 26) F dX0_init_26 rfl 1 rfl ?_
  refine V_get (pc := 27) F 0 0 0 i_X0 rfl (by decide) rfl (mm 5 rfl) dX0_init_27 rfl rfl ?_
  refine V_alenq (v := nI 6) (pc := 30) F 1 rfl rfl dX0_init_30 ?_
  refine V_icmp_ge (pc := 31) (tgt := 53) F dX0_init_31 (by decide) (fun hh => absurd hh (by decide)) (fun _ => ?_)
  refine V_aload_n (pc := 34) F dX0_init_34 rfl 1 rfl ?_
  refine V_get (pc := 35) F 0 0 0 i_X0 rfl (by decide) rfl (mm 5 rfl) dX0_init_35 rfl rfl ?_
  refine V_iload_n (pc := 38) F dX0_init_38 rfl 0 rfl ?_
  refine V_newo (C := RX1) (T := TX1) (N := 10) (ci := 1) (fs := [.null, .null, .null, .null, .null, .int 0, .int 0, .int 0, .int 0, .int 0]) (pc := 39) F i_X1 tyX1 tyX1_ok rfl (mm 4 rfl) (mm 8 rfl) (mm 9 rfl) df_X1 (Nat.le_of_ble_eq_true rfl) (Nat.le_of_ble_eq_true rfl) dX0_init_39 (fun q6 => ?_)
  refine V_dup (pc := 42) F dX0_init_42 rfl ?_
  refine V_I (As := []) (rest := [.ref q6, .int 5, .ref q0]) (pc := 43) F FN (N_X1_init l D cy q6) (cwI 0 F.ts gX0_init_X1_init rfl rfl rfl (F.ts _ (mm 9 rfl)) (F.ts _ (mm 10 rfl)) (F.ts _ (mm 11 rfl)) rfl hdi_X1 ⟨(Nat.le_of_ble_eq_true rfl), (Nat.le_of_ble_eq_true rfl)⟩) rfl dX0_init_43 (Nat.le_of_ble_eq_true rfl) (Nat.le_of_ble_eq_true rfl) (Nat.le_of_ble_eq_true rfl) rfl (fun b6 eb6 => ?_)
  subst eb6
  refine V_aastq (w2 := ((((((([(h, .inr (0, [.ref q0, .int 0, .int 0]))] ++ [(q0, .inl (cy 2, 6, .inr (.inr (.inr (.inr (va_up (va_up (va_up (va_up (va_up (va_up (fun _ => none) (0 : Int32).toNatClampNeg (some (b1 0))) (1 : Int32).toNatClampNeg (some (b2 0))) (2 : Int32).toNatClampNeg (some (b3 0))) (3 : Int32).toNatClampNeg (some (b4 0))) (4 : Int32).toNatClampNeg (some (b5 0))) (5 : Int32).toNatClampNeg (some (b6 0))))))))]) ++ wX1 cy b1 iM) ++ wX1 cy b2 iM) ++ wX1 cy b3 iM) ++ wX1 cy b4 iM) ++ wX1 cy b5 iM) ++ wX1 cy b6 iM)) (pc := 46) F 1 _ rfl (at_right (k := 0) rfl) (by unfold vp_in; decide) dX0_init_46 rfl ?_
  refine V_iinc (v := 6) (L2 := [(1, .int 6), (0, .ref h)]) (pc := 47) F dX0_init_47 0 rfl (by decide) (by decide) rfl ?_
  refine V_goto (pc := 50) (tgt := 25) F dX0_init_50 (by decide) ?_
  refine V_iload_n (pc := 25) F dX0_init_25 rfl 0 rfl ?_
  refine V_aload_n (pc := 26) F dX0_init_26 rfl 1 rfl ?_
  refine V_get (pc := 27) F 0 0 0 i_X0 rfl (by decide) rfl (mm 5 rfl) dX0_init_27 rfl rfl ?_
  refine V_alenq (v := nI 6) (pc := 30) F 1 rfl rfl dX0_init_30 ?_
  refine V_icmp_ge (pc := 31) (tgt := 53) F dX0_init_31 (by decide) (fun _ => ?_) (fun hh => absurd (by decide) hh)
  generalize hga : (fun i => if i = 0 then h else if i = 1 then q0 else if i < 24 then b1 (i - 2) else if i < 46 then b2 (i - 24) else if i < 68 then b3 (i - 46) else if i < 90 then b4 (i - 68) else if i < 112 then b5 (i - 90) else b6 (i - 112) : Nat → Nat) = ga
  have g0 : ga 0 = h := by rw [← hga]; rfl
  have g1 : ga 1 = q0 := by rw [← hga]; rfl
  have m0 : wX1 cy (fun i => ga (i + 2)) iM = wX1 cy b1 iM := wX1_congr (fun i hi => by
    rw [← hga]
    dsimp only
    rw [if_neg (by omega), if_neg (by omega), if_pos (by omega), show i + 2 - 2 = i by omega]) _
  have m1 : wX1 cy (fun i => ga (i + 24)) iM = wX1 cy b2 iM := wX1_congr (fun i hi => by
    rw [← hga]
    dsimp only
    rw [if_neg (by omega), if_neg (by omega), if_neg (by omega), if_pos (by omega), show i + 24 - 24 = i by omega]) _
  have m2 : wX1 cy (fun i => ga (i + 46)) iM = wX1 cy b3 iM := wX1_congr (fun i hi => by
    rw [← hga]
    dsimp only
    rw [if_neg (by omega), if_neg (by omega), if_neg (by omega), if_neg (by omega), if_pos (by omega), show i + 46 - 46 = i by omega]) _
  have m3 : wX1 cy (fun i => ga (i + 68)) iM = wX1 cy b4 iM := wX1_congr (fun i hi => by
    rw [← hga]
    dsimp only
    rw [if_neg (by omega), if_neg (by omega), if_neg (by omega), if_neg (by omega), if_neg (by omega), if_pos (by omega), show i + 68 - 68 = i by omega]) _
  have m4 : wX1 cy (fun i => ga (i + 90)) iM = wX1 cy b5 iM := wX1_congr (fun i hi => by
    rw [← hga]
    dsimp only
    rw [if_neg (by omega), if_neg (by omega), if_neg (by omega), if_neg (by omega), if_neg (by omega), if_neg (by omega), if_pos (by omega), show i + 90 - 90 = i by omega]) _
  have m5 : wX1 cy (fun i => ga (i + 112)) iM = wX1 cy b6 iM := wX1_congr (fun i hi => by
    rw [← hga]
    dsimp only
    rw [if_neg (by omega), if_neg (by omega), if_neg (by omega), if_neg (by omega), if_neg (by omega), if_neg (by omega), if_neg (by omega), show i + 112 - 112 = i by omega]) _
  have ga2 : ∀ j, j < 6 → (va_up (va_up (va_up (va_up (va_up (va_up (fun _ => none) (0 : Int32).toNatClampNeg (some (b1 0))) (1 : Int32).toNatClampNeg (some (b2 0))) (2 : Int32).toNatClampNeg (some (b3 0))) (3 : Int32).toNatClampNeg (some (b4 0))) (4 : Int32).toNatClampNeg (some (b5 0))) (5 : Int32).toNatClampNeg (some (b6 0))) j = some (ga (22 * j + 2)) := fun j hj => by
    rcases (show j = 0 ∨ j = 1 ∨ j = 2 ∨ j = 3 ∨ j = 4 ∨ j = 5 by omega) with rfl | rfl | rfl | rfl | rfl | rfl <;> (rw [← hga]; rfl)
  have e0 : wX0 cy ga iH = [(h, .inr (0, [.ref q0, .int 0, .int 0])), (q0, .inl (cy 2, 6, .inr (.inr (.inr (.inr (fun j => some (ga (22 * j + 2))))))))] ++ (wX1 cy b1 iM ++ (wX1 cy b2 iM ++ (wX1 cy b3 iM ++ (wX1 cy b4 iM ++ (wX1 cy b5 iM ++ (wX1 cy b6 iM)))))) := by
    unfold wX0
    rw [g0, g1]
    show _ ++ (wX1 cy (fun i => ga (i + 2)) iM ++ (wX1 cy (fun i => ga (i + 24)) iM ++ (wX1 cy (fun i => ga (i + 46)) iM ++ (wX1 cy (fun i => ga (i + 68)) iM ++ (wX1 cy (fun i => ga (i + 90)) iM ++ (wX1 cy (fun i => ga (i + 112)) iM)))))) = _
    rw [m0, m1, m2, m3, m4, m5]
    rfl
  refine V_vretN F ga g0 rfl dX0_init_53 (fun H hP => ?_) (fun B hD => ?_) (Nat.le_of_ble_eq_true rfl) (Nat.le_of_ble_eq_true rfl)
  · have h2 := hP.cellq 1 (g := fun j => some (ga (22 * j + 2))) rfl ga2
    rw [e0]
    simp only [List.append_assoc, List.cons_append, List.nil_append, List.set_cons_succ, List.set_cons_zero] at h2 ⊢
    exact h2
  · rw [e0]
    refine hD.fst ?_
    simp only [List.append_assoc, List.cons_append, List.nil_append, List.map_append, List.map_cons, List.map_nil]
set_option maxHeartbeats 8000000 in
set_option maxRecDepth 100000 in
theorem N_X7_init (l : Launch) (D : va_G) (cy : Nat → ClassId) (h : Nat) : okN l yX7_init wsX7_init (rmN 5 102 171 1284) D cy [.ref h] [(h, .inr (7, [.null, .null, .null, .null]))] (fun a => wX7 cy a iG) h 171 1284 := by
  refine okN_of (own := RX7) (nme := "<init>") (cc := cX7_init) (maxL := 1) (ret := none) (by decide) rfl rfl rfl (Nat.le_of_ble_eq_true rfl) ?_
  intro p e s m args below meth c A F FN
  have i_X0 : ∀ w ∈ u_ws RX0 TX0 3, w ∈ wsX7_init := fun _ h => List.mem_cons_of_mem _ (List.mem_append_left _ (List.mem_append_left _ (List.mem_append_left _ (List.mem_append_left _ (List.mem_append_left _ (List.mem_append_right _ h))))))
  have i_X1 : ∀ w ∈ u_ws RX1 TX1 10, w ∈ wsX7_init := fun _ h => List.mem_cons_of_mem _ (List.mem_append_left _ (List.mem_append_left _ (List.mem_append_left _ (List.mem_append_left _ (List.mem_append_left _ (List.mem_append_left _ (List.mem_append_left _ (List.mem_append_right _ h))))))))
  have i_X3 : ∀ w ∈ u_ws RX3 TX3 6, w ∈ wsX7_init := fun _ h => List.mem_cons_of_mem _ (List.mem_append_left _ (List.mem_append_left _ (List.mem_append_left _ (List.mem_append_right _ h))))
  have i_X6 : ∀ w ∈ u_ws RX6 TX6 3, w ∈ wsX7_init := fun _ h => List.mem_cons_of_mem _ (List.mem_append_left _ (List.mem_append_left _ (List.mem_append_left _ (List.mem_append_left _ (List.mem_append_right _ h)))))
  have i_X7 : ∀ w ∈ u_ws RX7 TX7 4, w ∈ wsX7_init := fun _ h => List.mem_cons_of_mem _ (List.mem_append_left _ (List.mem_append_left _ (List.mem_append_left _ (List.mem_append_left _ (List.mem_append_left _ (List.mem_append_left _ (List.mem_append_right _ h)))))))
  refine V.eq rfl (show lv_args 0 [.ref h] = [(0, .ref h)] from rfl) rfl ?_
  refine V_aload_n (pc := 0) F dX7_init_0 rfl 0 rfl ?_
  refine V_obj (pc := 1) F (mm 1 rfl) (mm 2 rfl) (mm 3 rfl) dX7_init_1 (Nat.le_of_ble_eq_true rfl) (Nat.le_of_ble_eq_true rfl) ?_
  refine V_aload_n (pc := 4) F dX7_init_4 rfl 0 rfl ?_
  refine V_newo (C := RX1) (T := TX1) (N := 10) (ci := 1) (fs := [.null, .null, .null, .null, .null, .int 0, .int 0, .int 0, .int 0, .int 0]) (pc := 5) F i_X1 tyX1 tyX1_ok rfl (mm 4 rfl) (mm 5 rfl) (mm 6 rfl) df_X1 (Nat.le_of_ble_eq_true rfl) (Nat.le_of_ble_eq_true rfl) dX7_init_5 (fun q0 => ?_)
  refine V_dup (pc := 8) F dX7_init_8 rfl ?_
  refine V_I (As := []) (rest := [.ref q0, .ref h]) (pc := 9) F FN (N_X1_init l D cy q0) (cwI 0 F.ts gX7_init_X1_init rfl rfl rfl (F.ts _ (mm 6 rfl)) (F.ts _ (mm 20 rfl)) (F.ts _ (mm 21 rfl)) rfl hdi_X1 ⟨(Nat.le_of_ble_eq_true rfl), (Nat.le_of_ble_eq_true rfl)⟩) rfl dX7_init_9 (Nat.le_of_ble_eq_true rfl) (Nat.le_of_ble_eq_true rfl) (Nat.le_of_ble_eq_true rfl) rfl (fun b0 eb0 => ?_)
  subst eb0
  refine V_putF (w2 := ([(h, .inr (7, [.ref (b0 0), .null, .null, .null]))] ++ wX1 cy b0 iM)) (pc := 12) F 0 7 0 i_X7 tyX7 tyX7_ok nmX7 rfl (by decide) rfl (mm 7 rfl) rfl rfl rfl dX7_init_12 rfl rfl rfl (Nat.le_of_ble_eq_true rfl) rfl ?_
  refine V_aload_n (pc := 15) F dX7_init_15 rfl 0 rfl ?_
  refine V_newo (C := RX0) (T := TX0) (N := 3) (ci := 0) (fs := [.null, .int 0, .int 0]) (pc := 16) F i_X0 tyX0 tyX0_ok rfl (mm 8 rfl) (mm 9 rfl) (mm 10 rfl) df_X0 (Nat.le_of_ble_eq_true rfl) (Nat.le_of_ble_eq_true rfl) dX7_init_16 (fun q1 => ?_)
  refine V_dup (pc := 19) F dX7_init_19 rfl ?_
  refine V_I (As := []) (rest := [.ref q1, .ref h]) (pc := 20) F FN (N_X0_init l D cy q1) (cwI 0 F.ts gX7_init_X0_init rfl rfl rfl (F.ts _ (mm 10 rfl)) (F.ts _ (mm 63 rfl)) (F.ts _ (mm 64 rfl)) rfl hdi_X0 ⟨(Nat.le_of_ble_eq_true rfl), (Nat.le_of_ble_eq_true rfl)⟩) rfl dX7_init_20 (Nat.le_of_ble_eq_true rfl) (Nat.le_of_ble_eq_true rfl) (Nat.le_of_ble_eq_true rfl) rfl (fun b1 eb1 => ?_)
  subst eb1
  refine V_putF (w2 := (([(h, .inr (7, [.ref (b0 0), .ref (b1 0), .null, .null]))] ++ wX1 cy b0 iM) ++ wX0 cy b1 iH)) (pc := 23) F 0 7 1 i_X7 tyX7 tyX7_ok nmX7 rfl (by decide) rfl (mm 11 rfl) rfl rfl rfl dX7_init_23 rfl rfl rfl (Nat.le_of_ble_eq_true rfl) rfl ?_
  refine V_aload_n (pc := 26) F dX7_init_26 rfl 0 rfl ?_
  refine V_newo (C := RX6) (T := TX6) (N := 3) (ci := 6) (fs := [.null, .null, .int 0]) (pc := 27) F i_X6 tyX6 tyX6_ok rfl (mm 12 rfl) (mm 13 rfl) (mm 14 rfl) df_X6 (Nat.le_of_ble_eq_true rfl) (Nat.le_of_ble_eq_true rfl) dX7_init_27 (fun q2 => ?_)
  refine V_dup (pc := 30) F dX7_init_30 rfl ?_
  refine V_IN (As := []) (rest := [.ref q2, .ref h]) (pc := 31) F FN (N_X6_init l D cy q2) ⟨va_cnB 0 F.ts gX7_init_X6_init_n25 rfl rfl rfl FN.2.2.1 (F.ts _ (mm 14 rfl)) hdi_X6 ⟨(Nat.le_of_ble_eq_true rfl), (Nat.le_of_ble_eq_true rfl)⟩, rfl, F.ts _ (mm 72 rfl)⟩ rfl dX7_init_31 (Nat.le_of_ble_eq_true rfl) (Nat.le_of_ble_eq_true rfl) (Nat.le_of_ble_eq_true rfl) rfl (fun b2 eb2 => ?_)
  subst eb2
  refine V_putF (w2 := ((([(h, .inr (7, [.ref (b0 0), .ref (b1 0), .ref (b2 0), .null]))] ++ wX1 cy b0 iM) ++ wX0 cy b1 iH) ++ wX6 cy b2 iT)) (pc := 34) F 0 7 2 i_X7 tyX7 tyX7_ok nmX7 rfl (by decide) rfl (mm 15 rfl) rfl rfl rfl dX7_init_34 rfl rfl rfl (Nat.le_of_ble_eq_true rfl) rfl ?_
  refine V_aload_n (pc := 37) F dX7_init_37 rfl 0 rfl ?_
  refine V_newo (C := RX3) (T := TX3) (N := 6) (ci := 3) (fs := [.null, .null, .null, .null, .null, .int 0]) (pc := 38) F i_X3 tyX3 tyX3_ok rfl (mm 16 rfl) (mm 17 rfl) (mm 18 rfl) df_X3 (Nat.le_of_ble_eq_true rfl) (Nat.le_of_ble_eq_true rfl) dX7_init_38 (fun q3 => ?_)
  refine V_dup (pc := 41) F dX7_init_41 rfl ?_
  refine V_IN (As := []) (rest := [.ref q3, .ref h]) (pc := 42) F FN (N_X3_init l D cy q3) ⟨va_cnB 0 F.ts gX7_init_X3_init_n32 rfl rfl rfl FN.2.2.2.1 (F.ts _ (mm 18 rfl)) hdi_X3 ⟨(Nat.le_of_ble_eq_true rfl), (Nat.le_of_ble_eq_true rfl)⟩, rfl, F.ts _ (mm 92 rfl)⟩ rfl dX7_init_42 (Nat.le_of_ble_eq_true rfl) (Nat.le_of_ble_eq_true rfl) (Nat.le_of_ble_eq_true rfl) rfl (fun b3 eb3 => ?_)
  subst eb3
  refine V_putF (w2 := (((([(h, .inr (7, [.ref (b0 0), .ref (b1 0), .ref (b2 0), .ref (b3 0)]))] ++ wX1 cy b0 iM) ++ wX0 cy b1 iH) ++ wX6 cy b2 iT) ++ wX3 cy b3 iF)) (pc := 45) F 0 7 3 i_X7 tyX7 tyX7_ok nmX7 rfl (by decide) rfl (mm 19 rfl) rfl rfl rfl dX7_init_45 rfl rfl rfl (Nat.le_of_ble_eq_true rfl) rfl ?_
  generalize hga : (fun i => if i = 0 then h else if i < 23 then b0 (i - 1) else if i < 27 then b2 (i - 23) else if i < 38 then b3 (i - 27) else b1 (i - 38) : Nat → Nat) = ga
  have g0 : ga 0 = h := by rw [← hga]; rfl
  have g1 : ga 1 = b0 0 := by rw [← hga]; rfl
  have g23 : ga 23 = b2 0 := by rw [← hga]; rfl
  have g27 : ga 27 = b3 0 := by rw [← hga]; rfl
  have g38 : ga 38 = b1 0 := by rw [← hga]; rfl
  have m1 : wX1 cy (fun i => ga (i + 1)) iM = wX1 cy b0 iM := wX1_congr (fun i hi => by
    rw [← hga]
    dsimp only
    rw [if_neg (by omega), if_pos (by omega), show i + 1 - 1 = i by omega]) _
  have m6 : wX6 cy (fun i => ga (i + 23)) iT = wX6 cy b2 iT := wX6_congr (fun i hi => by
    rw [← hga]
    dsimp only
    rw [if_neg (by omega), if_neg (by omega), if_pos (by omega), show i + 23 - 23 = i by omega]) _
  have m3 : wX3 cy (fun i => ga (i + 27)) iF = wX3 cy b3 iF := wX3_congr (fun i hi => by
    rw [← hga]
    dsimp only
    rw [if_neg (by omega), if_neg (by omega), if_neg (by omega), if_pos (by omega), show i + 27 - 27 = i by omega]) _
  have m0 : (fun i => ga (i + 38)) = b1 := by
    funext i
    rw [← hga]
    dsimp only
    rw [if_neg (by omega), if_neg (by omega), if_neg (by omega), if_neg (by omega), show i + 38 - 38 = i by omega]
  have e0 : wX7 cy ga iG = [(h, .inr (7, [.ref (b0 0), .ref (b1 0), .ref (b2 0), .ref (b3 0)]))] ++ (wX1 cy b0 iM ++ (wX6 cy b2 iT ++ (wX3 cy b3 iF ++ wX0 cy b1 iH))) := by
    unfold wX7
    rw [g0, g1, g23, g27, g38]
    show _ ++ (wX1 cy (fun i => ga (i + 1)) iM ++ (wX6 cy (fun i => ga (i + 23)) iT ++ (wX3 cy (fun i => ga (i + 27)) iF ++ wX0 cy (fun i => ga (i + 38)) iH))) = _
    rw [m0, m1, m6, m3]
  have hp : ∀ X Y Z2 U T2 : va_W, ((((X ++ Y) ++ Z2) ++ U) ++ T2).Perm (X ++ (Y ++ (U ++ (T2 ++ Z2)))) := by
    intro X Y Z2 U T2
    rw [List.append_assoc, List.append_assoc, List.append_assoc]
    refine List.Perm.append_left _ (List.Perm.append_left _ ?_)
    refine List.perm_append_comm.trans ?_
    rw [List.append_assoc]
  refine V_vretN F ga g0 rfl dX7_init_48 (fun H hP => ?_) (fun B hD => ?_) (Nat.le_of_ble_eq_true rfl) (Nat.le_of_ble_eq_true rfl)
  · rw [e0]
    exact hP.perm (hp _ _ _ _ _)
  · rw [e0]
    exact hD.perm (hp _ _ _ _ _)
