theorem hd_X8_run : yX8_run.cls = RX8 ∧ yX8_run.cls ≠ "java/lang/invoke/MethodHandle" ∧ yX8_run.cls ≠ "java/lang/invoke/VarHandle" ∧ (parseMethodDescriptor yX8_run.desc).map (fun d => d.parameters.length) = some 1 := by decide +kernel
def fX8_run_L34 (N : Nat) (z1 : Int32) : Nat → SX8 → Int32 → Option (SX8)
  | 0, _, _ => none
  | n + 1, v, z2 =>
    if z1 ≤ z2 then
      some v
    else
      (fX8_tick N v).bind fun r9 =>
        fX8_run_L34 N z1 n r9 (z2 + 1)
def fX8_run (N : Nat) (v : SX8) (x1 : Int32) : Option (Int32 × SX8) :=
  (fX8_in N x1 1 99).bind fun r1 =>
    if r1 = 0 then
      some (0, (1, v.2))
    else
      (fX8_save N (0, v.2)).bind fun r6 =>
        (fX8_run_L34 N x1 N r6 0).bind fun u11 =>
          (fX8_waiting N u11).bind fun r13 =>
            (fX8_bits N r13).bind fun r15 =>
              some (r15, u11)
set_option maxHeartbeats 8000000 in
set_option maxRecDepth 100000 in
theorem M_X8_run (l : Launch) (D : va_G) (cy : Nat → ClassId) (N : Nat) (a : Nat → Nat) (v : SX8) (x1 : Int32) (o : Int32 × SX8) (hf : fX8_run N v x1 = some o) : okM l yX8_run wsX8_run (rmz 5 110) D cy [.ref (a 0), .int x1] (wX8 cy a v) (wX8 cy a o.2) (some (.int o.1)) := by
  refine okM_of (own := RX8) (nme := "run") (cc := cX8_run) (maxL := 3) (ret := (some .int)) (by decide) rfl rfl rfl (Nat.le_of_ble_eq_true rfl) ?_
  intro p e s m args below meth c A F
  have i_X8 : ∀ w ∈ u_ws RX8 TX8 13, w ∈ wsX8_run := fun _ h => List.mem_cons_of_mem _ (List.mem_append_right _ h)
  have K34 : ∀ (n : Nat) (z1 : Int32) (v : SX8) (z2 : Int32) (u : SX8), fX8_run_L34 N z1 n v z2 = some u → V p l e (rmz 5 110) s m args below meth c 3 D A 0 0 (MQ below (ok_Q D (wX8 cy a o.2) (some (.int o.1)) A) args s 0 0 A) (wX8 cy a u) [(0, .ref (a 0))] [] 49 → V p l e (rmz 5 110) s m args below meth c 3 D A 0 0 (MQ below (ok_Q D (wX8 cy a o.2) (some (.int o.1)) A) args s 0 0 A) (wX8 cy a v) [(0, .ref (a 0)), (1, .int z1), (2, .int z2)] [] 34 := by
    intro n
    induction n with
    | zero =>
      intro z1 v z2 u hf hk
      exact nomatch (show (none : Option (SX8)) = some u from hf)
    | succ n ih =>
      intro z1 v z2 u hf hk
      rw [fX8_run_L34] at hf
      refine V_iload_n (pc := 34) F dX8_run_34 rfl 2 rfl ?_
      refine V_iload_n (pc := 35) F dX8_run_35 rfl 1 rfl ?_
      refine V_icmp_ge (pc := 36) (tgt := 49) F dX8_run_36 (by decide) (fun h8 => ?_) (fun h8 => ?_)
      · replace hf := ite_pos hf h8
        obtain rfl := some_of hf
        exact V.sub [0] rfl hk
      · replace hf := ite_neg hf h8
        refine V_aload_n (pc := 39) F dX8_run_39 rfl 0 rfl ?_
        obtain ⟨r9, g10, hf⟩ := bind_of hf
        refine V_V (w2 := wX8 cy a r9) (rest := []) (st2 := []) (pc := 40) F 8 (M_X8_tick l D cy N a v r9 g10) (cwV 0 F.ts gX8_run_X8_tick rfl rfl rfl hd_X8_tick ⟨Nat.le_of_ble_eq_true rfl, Nat.le_of_ble_eq_true rfl⟩) rfl dX8_run_40 Fit.whole fstX8 rfl rfl (Nat.le_of_ble_eq_true rfl) (Nat.zero_le _) (Nat.zero_le _) rfl rfl rfl ?_
        refine V_iinc (v := (z2 + 1)) (L2 := [(2, .int (z2 + 1)), (0, .ref (a 0)), (1, .int z1)]) (pc := 43) F dX8_run_43 2 rfl rfl (by decide) rfl ?_
        refine V_goto (pc := 46) (tgt := 34) F dX8_run_46 (by decide) ?_
        refine V.sub [1, 2, 0] rfl ?_
        exact ih z1 r9 (z2 + 1) _ hf hk
  unfold fX8_run at hf
  refine V.eq rfl (show lv_args 0 [.ref (a 0), .int x1] = [(0, .ref (a 0)), (1, .int x1)] from rfl) rfl ?_
  refine V_aload_n (pc := 0) F dX8_run_0 rfl 0 rfl ?_
  refine V_iload_n (pc := 1) F dX8_run_1 rfl 1 rfl ?_
  refine V_iconst (v := 1) (pc := 2) F dX8_run_2 (by decide) ?_
  refine V_bipush (v := 99) (pc := 3) F dX8_run_3 (by decide) ?_
  obtain ⟨r1, g2, hf⟩ := bind_of hf
  refine V_Sc (rest := [.ref (a 0)]) (st2 := [.int r1, .ref (a 0)]) (pc := 5) F (M_X8_in l D cy N x1 1 99 r1 g2) (va_cwS 3 F.ts gX8_run_X8_in rfl rfl rfl hd_X8_in ⟨Nat.le_of_ble_eq_true rfl, Nat.le_of_ble_eq_true rfl⟩) rfl dX8_run_5 (Nat.le_of_ble_eq_true rfl) (Nat.zero_le _) (Nat.zero_le _) rfl rfl ?_
  refine V_if_eq (pc := 8) (tgt := 15) F dX8_run_8 (by decide) (fun h3 => ?_) (fun h3 => ?_)
  · replace hf := ite_pos hf h3
    refine V_iconst (v := 1) (pc := 15) F dX8_run_15 (by decide) ?_
    refine V_put (w2 := wX8 cy a (1, v.2)) (pc := 16) F 0 8 0 i_X8 tyX8 tyX8_ok nmX8 rfl (by decide) rfl (mm 1 rfl) rfl dX8_run_16 rfl rfl rfl (Nat.le_of_ble_eq_true rfl) rfl ?_
    refine V_aload_n (pc := 19) F dX8_run_19 rfl 0 rfl ?_
    refine V_get (pc := 20) F 0 8 0 i_X8 rfl (by decide) rfl (mm 1 rfl) dX8_run_20 rfl rfl ?_
    refine V_if_le (pc := 23) (tgt := 28) F dX8_run_23 (by decide) (fun h4 => ?_) (fun h4 => ?_)
    · exact absurd h4 (show ¬ ((1 : Int32) ≤ (0 : Int32)) by decide)
    · refine V_iconst (v := 0) (pc := 26) F dX8_run_26 (by decide) ?_
      obtain rfl := some_of hf
      exact V_ret F rfl rfl dX8_run_27 rfl rfl
  · replace hf := ite_neg hf h3
    refine V_iconst (v := 0) (pc := 11) F dX8_run_11 (by decide) ?_
    refine V_goto (pc := 12) (tgt := 16) F dX8_run_12 (by decide) ?_
    refine V_put (w2 := wX8 cy a (0, v.2)) (pc := 16) F 0 8 0 i_X8 tyX8 tyX8_ok nmX8 rfl (by decide) rfl (mm 1 rfl) rfl dX8_run_16 rfl rfl rfl (Nat.le_of_ble_eq_true rfl) rfl ?_
    refine V_aload_n (pc := 19) F dX8_run_19 rfl 0 rfl ?_
    refine V_get (pc := 20) F 0 8 0 i_X8 rfl (by decide) rfl (mm 1 rfl) dX8_run_20 rfl rfl ?_
    refine V_if_le (pc := 23) (tgt := 28) F dX8_run_23 (by decide) (fun h5 => ?_) (fun h5 => ?_)
    · refine V_aload_n (pc := 28) F dX8_run_28 rfl 0 rfl ?_
      obtain ⟨r6, g7, hf⟩ := bind_of hf
      refine V_V (w2 := wX8 cy a r6) (rest := []) (st2 := []) (pc := 29) F 8 (M_X8_save l D cy N a (0, v.2) r6 g7) (cwV 0 F.ts gX8_run_X8_save rfl rfl rfl hd_X8_save ⟨Nat.le_of_ble_eq_true rfl, Nat.le_of_ble_eq_true rfl⟩) rfl dX8_run_29 Fit.whole fstX8 rfl rfl (Nat.le_of_ble_eq_true rfl) (Nat.zero_le _) (Nat.zero_le _) rfl rfl rfl ?_
      refine V_iconst (v := 0) (pc := 32) F dX8_run_32 (by decide) ?_
      refine V_istore_n (L2 := [(2, .int 0), (0, .ref (a 0)), (1, .int x1)]) (pc := 33) F dX8_run_33 rfl (by decide) rfl ?_
      refine V.sub [1, 2, 0] rfl ?_
      obtain ⟨u11, g12, hf⟩ := bind_of hf
      refine K34 N x1 r6 0 u11 g12 ?_
      refine V_aload_n (pc := 49) F dX8_run_49 rfl 0 rfl ?_
      obtain ⟨r13, g14, hf⟩ := bind_of hf
      refine V_V (w2 := wX8 cy a u11) (rest := []) (st2 := [.int r13]) (pc := 50) F 8 (M_X8_waiting l D cy N a u11 r13 g14) (cwV 0 F.ts gX8_run_X8_waiting rfl rfl rfl hd_X8_waiting ⟨Nat.le_of_ble_eq_true rfl, Nat.le_of_ble_eq_true rfl⟩) rfl dX8_run_50 Fit.whole rfl rfl rfl (Nat.le_of_ble_eq_true rfl) (Nat.zero_le _) (Nat.zero_le _) rfl rfl rfl ?_
      obtain ⟨r15, g16, hf⟩ := bind_of hf
      refine V_Sc (rest := []) (st2 := [.int r15]) (pc := 53) F (M_X8_bits l D cy N r13 r15 g16) (va_cwS 1 F.ts gX8_run_X8_bits rfl rfl rfl hd_X8_bits ⟨Nat.le_of_ble_eq_true rfl, Nat.le_of_ble_eq_true rfl⟩) rfl dX8_run_53 (Nat.le_of_ble_eq_true rfl) (Nat.zero_le _) (Nat.zero_le _) rfl rfl ?_
      obtain rfl := some_of hf
      exact V_ret F rfl rfl dX8_run_56 rfl rfl
    · exact absurd h5 (show ¬ (¬ ((0 : Int32) ≤ (0 : Int32))) by decide)
