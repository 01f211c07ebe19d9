theorem hd_X8_directions : yX8_directions.cls = RX8 ∧ yX8_directions.cls ≠ "java/lang/invoke/MethodHandle" ∧ yX8_directions.cls ≠ "java/lang/invoke/VarHandle" ∧ (parseMethodDescriptor yX8_directions.desc).map (fun d => d.parameters.length) = some 0 := by decide +kernel
def fX8_directions_L4 (N : Nat)  : Nat → SX8 → Int32 → Int32 → Option (SX8 × Int32)
  | 0, _, _, _ => none
  | n + 1, v, z1, z2 =>
    if v.2.2.2.2.2.2.2.2.2.1 = (-1) then
      (fX8_letter N v).bind fun r2 =>
        (fX8_in N (r2 - 48) (z2 + 1) 5).bind fun r4 =>
          if r4 = 0 then
            some (v, z1)
          else
            (fX8_letter N v).bind fun r7 =>
              fX8_directions_L4 N n (v.1, v.2.1, v.2.2.1, v.2.2.2.1, v.2.2.2.2.1, v.2.2.2.2.2.1, v.2.2.2.2.2.2.1, v.2.2.2.2.2.2.2.1, (v.2.2.2.2.2.2.2.2.1 + 1), v.2.2.2.2.2.2.2.2.2) (z1 ||| ((1 : Int32) <<< ((r7 - 48) &&& 31))) (r7 - 48)
    else
      some (v, z1)
def fX8_directions (N : Nat) (v : SX8) : Option (Int32 × SX8) :=
  (fX8_directions_L4 N N v 0 (-1)).bind fun u9 =>
    some (u9.2, u9.1)
set_option maxHeartbeats 8000000 in
set_option maxRecDepth 100000 in
theorem M_X8_directions (l : Launch) (D : va_G) (cy : Nat → ClassId) (N : Nat) (a : Nat → Nat) (v : SX8) (o : Int32 × SX8) (hf : fX8_directions N v = some o) : okM l yX8_directions wsX8_directions (rmz 1 22) D cy [.ref (a 0)] (wX8 cy a v) (wX8 cy a o.2) (some (.int o.1)) := by
  refine okM_of (own := RX8) (nme := "directions") (cc := cX8_directions) (maxL := 3) (ret := (some .int)) (by decide) rfl rfl rfl (Nat.le_of_ble_eq_true rfl) ?_
  intro p e s m args below meth c A F
  have i_X8 : ∀ w ∈ u_ws RX8 TX8 13, w ∈ wsX8_directions := fun _ h => List.mem_cons_of_mem _ (List.mem_append_right _ h)
  have K4 : ∀ (n : Nat) (v : SX8) (z1 : Int32) (z2 : Int32) (u : SX8 × Int32), fX8_directions_L4 N n v z1 z2 = some u → V p l e (rmz 1 22) s m args below meth c 3 D A 0 0 (MQ below (ok_Q D (wX8 cy a o.2) (some (.int o.1)) A) args s 0 0 A) (wX8 cy a u.1) [(1, .int u.2)] [] 56 → V p l e (rmz 1 22) s m args below meth c 3 D A 0 0 (MQ below (ok_Q D (wX8 cy a o.2) (some (.int o.1)) A) args s 0 0 A) (wX8 cy a v) [(0, .ref (a 0)), (1, .int z1), (2, .int z2)] [] 4 := by
    intro n
    induction n with
    | zero =>
      intro v z1 z2 u hf hk
      exact nomatch (show (none : Option (SX8 × Int32)) = some u from hf)
    | succ n ih =>
      intro v z1 z2 u hf hk
      rw [fX8_directions_L4] at hf
      refine V_aload_n (pc := 4) F dX8_directions_4 rfl 0 rfl ?_
      refine V_get (pc := 5) F 0 8 9 i_X8 rfl (by decide) rfl (mm 1 rfl) dX8_directions_5 rfl rfl ?_
      refine V_iconst (v := (-1)) (pc := 8) F dX8_directions_8 (by decide) ?_
      refine V_icmp_ne (pc := 9) (tgt := 56) F dX8_directions_9 (by decide) (fun h1 => ?_) (fun h1 => ?_)
      · replace hf := ite_neg hf h1
        obtain rfl := some_of hf
        exact V.sub [1] rfl hk
      · replace hf := ite_pos hf h1
        refine V_aload_n (pc := 12) F dX8_directions_12 rfl 0 rfl ?_
        obtain ⟨r2, g3, hf⟩ := bind_of hf
        refine V_V (w2 := wX8 cy a v) (rest := []) (st2 := [.int r2]) (pc := 13) F 8 (M_X8_letter l D cy N a v r2 g3) (cwV 0 F.ts gX8_directions_X8_letter rfl rfl rfl hd_X8_letter ⟨Nat.le_of_ble_eq_true rfl, Nat.le_of_ble_eq_true rfl⟩) rfl dX8_directions_13 Fit.whole rfl rfl rfl (Nat.le_of_ble_eq_true rfl) (Nat.zero_le _) (Nat.zero_le _) rfl rfl rfl ?_
        refine V_bipush (v := 48) (pc := 16) F dX8_directions_16 (by decide) ?_
        refine V_isub (pc := 18) F dX8_directions_18 ?_
        refine V_iload_n (pc := 19) F dX8_directions_19 rfl 2 rfl ?_
        refine V_iconst (v := 1) (pc := 20) F dX8_directions_20 (by decide) ?_
        refine V_iadd (pc := 21) F dX8_directions_21 ?_
        refine V_iconst (v := 5) (pc := 22) F dX8_directions_22 (by decide) ?_
        obtain ⟨r4, g5, hf⟩ := bind_of hf
        refine V_Sc (rest := []) (st2 := [.int r4]) (pc := 23) F (M_X8_in l D cy N (r2 - 48) (z2 + 1) 5 r4 g5) (va_cwS 3 F.ts gX8_directions_X8_in rfl rfl rfl hd_X8_in ⟨Nat.le_of_ble_eq_true rfl, Nat.le_of_ble_eq_true rfl⟩) rfl dX8_directions_23 (Nat.le_of_ble_eq_true rfl) (Nat.zero_le _) (Nat.zero_le _) rfl rfl ?_
        refine V_if_eq (pc := 26) (tgt := 56) F dX8_directions_26 (by decide) (fun h6 => ?_) (fun h6 => ?_)
        · replace hf := ite_pos hf h6
          obtain rfl := some_of hf
          exact V.sub [1] rfl hk
        · replace hf := ite_neg hf h6
          refine V_aload_n (pc := 29) F dX8_directions_29 rfl 0 rfl ?_
          obtain ⟨r7, g8, hf⟩ := bind_of hf
          refine V_V (w2 := wX8 cy a v) (rest := []) (st2 := [.int r7]) (pc := 30) F 8 (M_X8_letter l D cy N a v r7 g8) (cwV 0 F.ts gX8_directions_X8_letter rfl rfl rfl hd_X8_letter ⟨Nat.le_of_ble_eq_true rfl, Nat.le_of_ble_eq_true rfl⟩) rfl dX8_directions_30 Fit.whole rfl rfl rfl (Nat.le_of_ble_eq_true rfl) (Nat.zero_le _) (Nat.zero_le _) rfl rfl rfl ?_
          refine V_bipush (v := 48) (pc := 33) F dX8_directions_33 (by decide) ?_
          refine V_isub (pc := 35) F dX8_directions_35 ?_
          refine V_istore_n (L2 := [(2, .int (r7 - 48)), (0, .ref (a 0)), (1, .int z1)]) (pc := 36) F dX8_directions_36 rfl (by decide) rfl ?_
          refine V_iload_n (pc := 37) F dX8_directions_37 rfl 2 rfl ?_
          refine V_iconst (v := 1) (pc := 38) F dX8_directions_38 (by decide) ?_
          refine V_iload_n (pc := 39) F dX8_directions_39 rfl 0 rfl ?_
          refine V_ishl (pc := 40) F dX8_directions_40 ?_
          refine V_ior (pc := 41) F dX8_directions_41 ?_
          refine V_istore_n (L2 := [(1, .int (z1 ||| ((1 : Int32) <<< ((r7 - 48) &&& 31)))), (2, .int (r7 - 48)), (0, .ref (a 0))]) (pc := 42) F dX8_directions_42 rfl (by decide) rfl ?_
          refine V_aload_n (pc := 43) F dX8_directions_43 rfl 2 rfl ?_
          refine V_dup (pc := 44) F dX8_directions_44 rfl ?_
          refine V_get (pc := 45) F 0 8 8 i_X8 rfl (by decide) rfl (mm 2 rfl) dX8_directions_45 rfl rfl ?_
          refine V_iconst (v := 1) (pc := 48) F dX8_directions_48 (by decide) ?_
          refine V_iadd (pc := 49) F dX8_directions_49 ?_
          refine V_put (w2 := wX8 cy a (v.1, v.2.1, v.2.2.1, v.2.2.2.1, v.2.2.2.2.1, v.2.2.2.2.2.1, v.2.2.2.2.2.2.1, v.2.2.2.2.2.2.2.1, (v.2.2.2.2.2.2.2.2.1 + 1), v.2.2.2.2.2.2.2.2.2)) (pc := 50) F 0 8 8 i_X8 tyX8 tyX8_ok nmX8 rfl (by decide) rfl (mm 2 rfl) rfl dX8_directions_50 rfl rfl rfl (Nat.le_of_ble_eq_true rfl) rfl ?_
          refine V_goto (pc := 53) (tgt := 4) F dX8_directions_53 (by decide) ?_
          refine V.sub [2, 0, 1] rfl ?_
          exact ih (v.1, v.2.1, v.2.2.1, v.2.2.2.1, v.2.2.2.2.1, v.2.2.2.2.2.1, v.2.2.2.2.2.2.1, v.2.2.2.2.2.2.2.1, (v.2.2.2.2.2.2.2.2.1 + 1), v.2.2.2.2.2.2.2.2.2) (z1 ||| ((1 : Int32) <<< ((r7 - 48) &&& 31))) (r7 - 48) _ hf hk
  unfold fX8_directions at hf
  refine V.eq rfl (show lv_args 0 [.ref (a 0)] = [(0, .ref (a 0))] from rfl) rfl ?_
  refine V_iconst (v := 0) (pc := 0) F dX8_directions_0 (by decide) ?_
  refine V_istore_n (L2 := [(1, .int 0), (0, .ref (a 0))]) (pc := 1) F dX8_directions_1 rfl (by decide) rfl ?_
  refine V_iconst (v := (-1)) (pc := 2) F dX8_directions_2 (by decide) ?_
  refine V_istore_n (L2 := [(2, .int (-1)), (1, .int 0), (0, .ref (a 0))]) (pc := 3) F dX8_directions_3 rfl (by decide) rfl ?_
  refine V.sub [2, 1, 0] rfl ?_
  obtain ⟨u9, g10, hf⟩ := bind_of hf
  refine K4 N v 0 (-1) u9 g10 ?_
  refine V_iload_n (pc := 56) F dX8_directions_56 rfl 0 rfl ?_
  obtain rfl := some_of hf
  exact V_ret F rfl rfl dX8_directions_57 rfl rfl
