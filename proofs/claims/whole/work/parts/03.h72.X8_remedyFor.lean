theorem hd_X8_remedyFor : yX8_remedyFor.cls = RX8 ∧ yX8_remedyFor.cls ≠ "java/lang/invoke/MethodHandle" ∧ yX8_remedyFor.cls ≠ "java/lang/invoke/VarHandle" ∧ (parseMethodDescriptor yX8_remedyFor.desc).map (fun d => d.parameters.length) = some 2 := by decide +kernel
def fX8_remedyFor_L12 (N : Nat) (z1 : Int32) (z2 : Int32) : Nat → SX8 → Int32 → Option ((Int32 × SX8) ⊕ (SX8))
  | 0, _, _ => none
  | n + 1, v, z3 =>
    chk 0 143 (
      if (v.2.1 (0 : Int32).toNatClampNeg) ≤ z3 then
        some (.inr v)
      else
        if z3 = z2 then
          fX8_remedyFor_L12 N z1 z2 n v (z3 + 1)
        else
          (fX8_helps N v z1 z2 z3).bind fun r7 =>
            if r7.1 = 0 then
              fX8_remedyFor_L12 N z1 z2 n r7.2 (z3 + 1)
            else
              some (.inl (z3, r7.2))
    )
def fX8_remedyFor (N : Nat) (v : SX8) (x1 : Int32) (x2 : Int32) : Option (Int32 × SX8) :=
  (fX8_canStarveAnywhere N v x1).bind fun r1 =>
    if r1 = 0 then
      some ((-1), v)
    else
      (fX8_remedyFor_L12 N x1 x2 N v 0).bind fun u10 => onS u10 (fun r => some r) fun q12 =>
        some ((-1), q12)
set_option maxHeartbeats 8000000 in
set_option maxRecDepth 100000 in
theorem M_X8_remedyFor (l : Launch) (D : va_G) (cy : Nat → ClassId) (N : Nat) (a : Nat → Nat) (v : SX8) (x1 : Int32) (x2 : Int32) (o : Int32 × SX8) (hf : fX8_remedyFor N v x1 x2 = some o) : okM l yX8_remedyFor wsX8_remedyFor (rmz 9 217) D cy [.ref (a 0), .int x1, .int x2] (wX8 cy a v) (wX8 cy a o.2) (some (.int o.1)) := by
  refine okM_of (own := RX8) (nme := "remedyFor") (cc := cX8_remedyFor) (maxL := 4) (ret := (some .int)) (by decide) rfl rfl rfl (Nat.le_of_ble_eq_true rfl) ?_
  intro p e s m args below meth c A F
  have i_X8 : ∀ w ∈ u_ws RX8 TX8 13, w ∈ wsX8_remedyFor := fun _ h => List.mem_cons_of_mem _ (List.mem_append_right _ h)
  have K12 : ∀ (n : Nat) (z1 : Int32) (z2 : Int32) (v : SX8) (z3 : Int32) (u : (Int32 × SX8) ⊕ (SX8)), fX8_remedyFor_L12 N z1 z2 n v z3 = some u → (∀ r, u = .inl r → r = o) → (∀ q, u = .inr q → V p l e (rmz 9 217) s m args below meth c 4 D A 0 0 (MQ below (ok_Q D (wX8 cy a o.2) (some (.int o.1)) A) args s 0 0 A) (wX8 cy a q) [] [] 45) → V p l e (rmz 9 217) s m args below meth c 4 D A 0 0 (MQ below (ok_Q D (wX8 cy a o.2) (some (.int o.1)) A) args s 0 0 A) (wX8 cy a v) [(0, .ref (a 0)), (1, .int z1), (2, .int z2), (3, .int z3)] [] 12 := by
    intro n
    induction n with
    | zero =>
      intro z1 z2 v z3 u hf hr hk
      exact nomatch (show (none : Option ((Int32 × SX8) ⊕ (SX8))) = some u from hf)
    | succ n ih =>
      intro z1 z2 v z3 u hf hr hk
      rw [fX8_remedyFor_L12] at hf
      refine V_iload_n (pc := 12) F dX8_remedyFor_12 rfl 3 rfl ?_
      refine V_aload_n (pc := 13) F dX8_remedyFor_13 rfl 0 rfl ?_
      refine V_get (pc := 14) F 0 8 1 i_X8 rfl (by decide) rfl (mm 1 rfl) dX8_remedyFor_14 rfl rfl ?_
      refine V_iconst (v := 0) (pc := 17) F dX8_remedyFor_17 (by decide) ?_
      obtain ⟨c4, hf⟩ := chk_some hf
      refine V_iald (pc := 18) F 1 rfl c4 dX8_remedyFor_18 ?_
      refine V_icmp_ge (pc := 19) (tgt := 45) F dX8_remedyFor_19 (by decide) (fun h5 => ?_) (fun h5 => ?_)
      · replace hf := ite_pos hf h5
        exact V.sub [] rfl (hk _ (some_of hf).symm)
      · replace hf := ite_neg hf h5
        refine V_iload_n (pc := 22) F dX8_remedyFor_22 rfl 3 rfl ?_
        refine V_iload_n (pc := 23) F dX8_remedyFor_23 rfl 2 rfl ?_
        refine V_icmp_eq (pc := 24) (tgt := 39) F dX8_remedyFor_24 (by decide) (fun h6 => ?_) (fun h6 => ?_)
        · replace hf := ite_pos hf h6
          refine V_iinc (v := (z3 + 1)) (L2 := [(3, .int (z3 + 1)), (0, .ref (a 0)), (1, .int z1), (2, .int z2)]) (pc := 39) F dX8_remedyFor_39 3 rfl rfl (by decide) rfl ?_
          refine V_goto (pc := 42) (tgt := 12) F dX8_remedyFor_42 (by decide) ?_
          refine V.sub [1, 2, 3, 0] rfl ?_
          exact ih z1 z2 v (z3 + 1) _ hf hr hk
        · replace hf := ite_neg hf h6
          refine V_aload_n (pc := 27) F dX8_remedyFor_27 rfl 0 rfl ?_
          refine V_iload_n (pc := 28) F dX8_remedyFor_28 rfl 1 rfl ?_
          refine V_iload_n (pc := 29) F dX8_remedyFor_29 rfl 2 rfl ?_
          refine V_iload_n (pc := 30) F dX8_remedyFor_30 rfl 3 rfl ?_
          obtain ⟨r7, g8, hf⟩ := bind_of hf
          refine V_V (w2 := wX8 cy a r7.2) (rest := []) (st2 := [.int r7.1]) (pc := 31) F 8 (M_X8_helps l D cy N a v z1 z2 z3 r7 g8) (cwV 3 F.ts gX8_remedyFor_X8_helps rfl rfl rfl hd_X8_helps ⟨Nat.le_of_ble_eq_true rfl, Nat.le_of_ble_eq_true rfl⟩) rfl dX8_remedyFor_31 Fit.whole fstX8 rfl rfl (Nat.le_of_ble_eq_true rfl) (Nat.zero_le _) (Nat.zero_le _) rfl rfl rfl ?_
          refine V_if_eq (pc := 34) (tgt := 39) F dX8_remedyFor_34 (by decide) (fun h9 => ?_) (fun h9 => ?_)
          · replace hf := ite_pos hf h9
            refine V_iinc (v := (z3 + 1)) (L2 := [(3, .int (z3 + 1)), (0, .ref (a 0)), (1, .int z1), (2, .int z2)]) (pc := 39) F dX8_remedyFor_39 3 rfl rfl (by decide) rfl ?_
            refine V_goto (pc := 42) (tgt := 12) F dX8_remedyFor_42 (by decide) ?_
            refine V.sub [1, 2, 3, 0] rfl ?_
            exact ih z1 z2 r7.2 (z3 + 1) _ hf hr hk
          · replace hf := ite_neg hf h9
            refine V_iload_n (pc := 37) F dX8_remedyFor_37 rfl 3 rfl ?_
            obtain rfl := hr _ (some_of hf).symm
            exact V_ret F rfl rfl dX8_remedyFor_38 rfl rfl
  unfold fX8_remedyFor at hf
  refine V.eq rfl (show lv_args 0 [.ref (a 0), .int x1, .int x2] = [(0, .ref (a 0)), (1, .int x1), (2, .int x2)] from rfl) rfl ?_
  refine V_aload_n (pc := 0) F dX8_remedyFor_0 rfl 0 rfl ?_
  refine V_iload_n (pc := 1) F dX8_remedyFor_1 rfl 1 rfl ?_
  obtain ⟨r1, g2, hf⟩ := bind_of hf
  refine V_V (w2 := wX8 cy a v) (rest := []) (st2 := [.int r1]) (pc := 2) F 8 (M_X8_canStarveAnywhere l D cy N a v x1 r1 g2) (cwV 1 F.ts gX8_remedyFor_X8_canStarveAnywhere rfl rfl rfl hd_X8_canStarveAnywhere ⟨Nat.le_of_ble_eq_true rfl, Nat.le_of_ble_eq_true rfl⟩) rfl dX8_remedyFor_2 Fit.whole rfl rfl rfl (Nat.le_of_ble_eq_true rfl) (Nat.zero_le _) (Nat.zero_le _) rfl rfl rfl ?_
  refine V_if_ne (pc := 5) (tgt := 10) F dX8_remedyFor_5 (by decide) (fun h3 => ?_) (fun h3 => ?_)
  · replace hf := ite_neg hf h3
    refine V_iconst (v := 0) (pc := 10) F dX8_remedyFor_10 (by decide) ?_
    refine V_istore_n (L2 := [(3, .int 0), (0, .ref (a 0)), (1, .int x1), (2, .int x2)]) (pc := 11) F dX8_remedyFor_11 rfl (by decide) rfl ?_
    refine V.sub [1, 2, 3, 0] rfl ?_
    obtain ⟨u10, g11, hf⟩ := bind_of hf
    refine K12 N x1 x2 v 0 u10 g11 (fun r h13 => ?_) (fun q12 h13 => ?_)
    · subst h13
      exact some_of (onS_inl hf)
    · subst h13
      replace hf := onS_inr hf
      refine V_iconst (v := (-1)) (pc := 45) F dX8_remedyFor_45 (by decide) ?_
      obtain rfl := some_of hf
      exact V_ret F rfl rfl dX8_remedyFor_46 rfl rfl
  · replace hf := ite_pos hf h3
    refine V_iconst (v := (-1)) (pc := 8) F dX8_remedyFor_8 (by decide) ?_
    obtain rfl := some_of hf
    exact V_ret F rfl rfl dX8_remedyFor_9 rfl rfl
