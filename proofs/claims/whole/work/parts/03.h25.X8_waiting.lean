theorem hd_X8_waiting : yX8_waiting.cls = RX8 ∧ yX8_waiting.cls ≠ "java/lang/invoke/MethodHandle" ∧ yX8_waiting.cls ≠ "java/lang/invoke/VarHandle" ∧ (parseMethodDescriptor yX8_waiting.desc).map (fun d => d.parameters.length) = some 0 := by decide +kernel
def fX8_waiting_L4 (N : Nat) (v : SX8) : Nat → Int32 → Int32 → Option (Int32)
  | 0, _, _ => none
  | n + 1, z1, z2 =>
    if 6 ≤ z2 then
      some z1
    else
      chk ((13 : Int32) + z2) 143 (
        if (v.2.1 ((13 : Int32) + z2).toNatClampNeg) = (-1) then
          fX8_waiting_L4 N v n (z1 ||| 0) (z2 + 1)
        else
          fX8_waiting_L4 N v n (z1 ||| ((1 : Int32) <<< (z2 &&& 31))) (z2 + 1)
      )
def fX8_waiting (N : Nat) (v : SX8) : Option (Int32) :=
  (fX8_waiting_L4 N v N 0 0).bind fun u4 =>
    some u4
set_option maxHeartbeats 8000000 in
set_option maxRecDepth 100000 in
theorem M_X8_waiting (l : Launch) (D : va_G) (cy : Nat → ClassId) (N : Nat) (a : Nat → Nat) (v : SX8) (o : Int32) (hf : fX8_waiting N v = some o) : okM l yX8_waiting wsX8_waiting (rmz 0 0) D cy [.ref (a 0)] (wX8 cy a v) (wX8 cy a v) (some (.int o)) := by
  refine okM_of (own := RX8) (nme := "waiting") (cc := cX8_waiting) (maxL := 3) (ret := (some .int)) (by decide) rfl rfl rfl (Nat.le_of_ble_eq_true rfl) ?_
  intro p e s m args below meth c A F
  have i_X8 : ∀ w ∈ u_ws RX8 TX8 13, w ∈ wsX8_waiting := fun _ h => List.mem_cons_of_mem _ (List.mem_append_right _ h)
  have K4 : ∀ (n : Nat) (v : SX8) (z1 : Int32) (z2 : Int32) (u : Int32), fX8_waiting_L4 N v n z1 z2 = some u → V p l e (rmz 0 0) s m args below meth c 3 D A 0 0 (MQ below (ok_Q D (wX8 cy a v) (some (.int o)) A) args s 0 0 A) (wX8 cy a v) [(1, .int u)] [] 39 → V p l e (rmz 0 0) s m args below meth c 3 D A 0 0 (MQ below (ok_Q D (wX8 cy a v) (some (.int o)) A) args s 0 0 A) (wX8 cy a v) [(0, .ref (a 0)), (1, .int z1), (2, .int z2)] [] 4 := by
    intro n
    induction n with
    | zero =>
      intro v z1 z2 u hf hk
      exact nomatch (show (none : Option (Int32)) = some u from hf)
    | succ n ih =>
      intro v z1 z2 u hf hk
      rw [fX8_waiting_L4] at hf
      refine V_iload_n (pc := 4) F dX8_waiting_4 rfl 2 rfl ?_
      refine V_bipush (v := 6) (pc := 5) F dX8_waiting_5 (by decide) ?_
      refine V_icmp_ge (pc := 7) (tgt := 39) F dX8_waiting_7 (by decide) (fun h1 => ?_) (fun h1 => ?_)
      · replace hf := ite_pos hf h1
        obtain rfl := some_of hf
        exact V.sub [1] rfl hk
      · replace hf := ite_neg hf h1
        refine V_iload_n (pc := 10) F dX8_waiting_10 rfl 1 rfl ?_
        refine V_aload_n (pc := 11) F dX8_waiting_11 rfl 0 rfl ?_
        refine V_get (pc := 12) F 0 8 1 i_X8 rfl (by decide) rfl (mm 1 rfl) dX8_waiting_12 rfl rfl ?_
        refine V_bipush (v := 13) (pc := 15) F dX8_waiting_15 (by decide) ?_
        refine V_iload_n (pc := 17) F dX8_waiting_17 rfl 2 rfl ?_
        refine V_iadd (pc := 18) F dX8_waiting_18 ?_
        obtain ⟨c2, hf⟩ := chk_some hf
        refine V_iald (pc := 19) F 1 rfl c2 dX8_waiting_19 ?_
        refine V_iconst (v := (-1)) (pc := 20) F dX8_waiting_20 (by decide) ?_
        refine V_icmp_ne (pc := 21) (tgt := 28) F dX8_waiting_21 (by decide) (fun h3 => ?_) (fun h3 => ?_)
        · replace hf := ite_neg hf h3
          refine V_iconst (v := 1) (pc := 28) F dX8_waiting_28 (by decide) ?_
          refine V_iload_n (pc := 29) F dX8_waiting_29 rfl 2 rfl ?_
          refine V_ishl (pc := 30) F dX8_waiting_30 ?_
          refine V_ior (pc := 31) F dX8_waiting_31 ?_
          refine V_istore_n (L2 := [(1, .int (z1 ||| ((1 : Int32) <<< (z2 &&& 31)))), (0, .ref (a 0)), (2, .int z2)]) (pc := 32) F dX8_waiting_32 rfl (by decide) rfl ?_
          refine V_iinc (v := (z2 + 1)) (L2 := [(2, .int (z2 + 1)), (1, .int (z1 ||| ((1 : Int32) <<< (z2 &&& 31)))), (0, .ref (a 0))]) (pc := 33) F dX8_waiting_33 2 rfl rfl (by decide) rfl ?_
          refine V_goto (pc := 36) (tgt := 4) F dX8_waiting_36 (by decide) ?_
          refine V.sub [2, 1, 0] rfl ?_
          exact ih v (z1 ||| ((1 : Int32) <<< (z2 &&& 31))) (z2 + 1) _ hf hk
        · replace hf := ite_pos hf h3
          refine V_iconst (v := 0) (pc := 24) F dX8_waiting_24 (by decide) ?_
          refine V_goto (pc := 25) (tgt := 31) F dX8_waiting_25 (by decide) ?_
          refine V_ior (pc := 31) F dX8_waiting_31 ?_
          refine V_istore_n (L2 := [(1, .int (z1 ||| 0)), (0, .ref (a 0)), (2, .int z2)]) (pc := 32) F dX8_waiting_32 rfl (by decide) rfl ?_
          refine V_iinc (v := (z2 + 1)) (L2 := [(2, .int (z2 + 1)), (1, .int (z1 ||| 0)), (0, .ref (a 0))]) (pc := 33) F dX8_waiting_33 2 rfl rfl (by decide) rfl ?_
          refine V_goto (pc := 36) (tgt := 4) F dX8_waiting_36 (by decide) ?_
          refine V.sub [2, 1, 0] rfl ?_
          exact ih v (z1 ||| 0) (z2 + 1) _ hf hk
  unfold fX8_waiting at hf
  refine V.eq rfl (show lv_args 0 [.ref (a 0)] = [(0, .ref (a 0))] from rfl) rfl ?_
  refine V_iconst (v := 0) (pc := 0) F dX8_waiting_0 (by decide) ?_
  refine V_istore_n (L2 := [(1, .int 0), (0, .ref (a 0))]) (pc := 1) F dX8_waiting_1 rfl (by decide) rfl ?_
  refine V_iconst (v := 0) (pc := 2) F dX8_waiting_2 (by decide) ?_
  refine V_istore_n (L2 := [(2, .int 0), (1, .int 0), (0, .ref (a 0))]) (pc := 3) F dX8_waiting_3 rfl (by decide) rfl ?_
  refine V.sub [2, 1, 0] rfl ?_
  obtain ⟨u4, g5, hf⟩ := bind_of hf
  refine K4 N v 0 0 u4 g5 ?_
  refine V_iload_n (pc := 39) F dX8_waiting_39 rfl 0 rfl ?_
  obtain rfl := some_of hf
  exact V_ret F rfl rfl dX8_waiting_40 rfl rfl
