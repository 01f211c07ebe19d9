theorem hd_X8_readBuffer : yX8_readBuffer.cls = RX8 ∧ yX8_readBuffer.cls ≠ "java/lang/invoke/MethodHandle" ∧ yX8_readBuffer.cls ≠ "java/lang/invoke/VarHandle" ∧ (parseMethodDescriptor yX8_readBuffer.desc).map (fun d => d.parameters.length) = some 0 := by decide +kernel
def fX8_readBuffer_L17 (N : Nat)  : Nat → SX8 → Int32 → Option (SX8)
  | 0, _, _ => none
  | n + 1, v, z1 =>
    if z1 = 0 then
      some v
    else
      (fX8_readOrder N v).bind fun r2 =>
        if r2.2.2.2.2.2.2.2.2.2.1 = (-1) then
          if r2.2.2.2.2.2.1 ≤ r2.2.2.2.2.2.2.2.2.1 then
            fX8_readBuffer_L17 N n r2 0
          else
            (fX8_letter N r2).bind fun r9 =>
              if r9 = 59 then
                (fX8_wants N r2 1).bind fun r15 =>
                  if r15.2.2.2.2.2.2.2.2.2.1 = (-1) then
                    fX8_readBuffer_L17 N n r15 1
                  else
                    fX8_readBuffer_L17 N n r15 0
              else
                (fX8_wants N r2 0).bind fun r12 =>
                  if r12.2.2.2.2.2.2.2.2.2.1 = (-1) then
                    fX8_readBuffer_L17 N n r12 1
                  else
                    fX8_readBuffer_L17 N n r12 0
        else
          fX8_readBuffer_L17 N n r2 0
def fX8_readBuffer (N : Nat) (v : SX8) : Option (Int32 × SX8) :=
  (fX8_readBuffer_L17 N N (v.1, v.2.1, v.2.2.1, v.2.2.2.1, v.2.2.2.2.1, v.2.2.2.2.2.1, v.2.2.2.2.2.2.1, 0, 0, (-1), v.2.2.2.2.2.2.2.2.2.2) 1).bind fun u18 =>
    some (u18.2.2.2.2.2.2.2.2.2.1, u18)
set_option maxHeartbeats 8000000 in
set_option maxRecDepth 100000 in
theorem M_X8_readBuffer (l : Launch) (D : va_G) (cy : Nat → ClassId) (N : Nat) (a : Nat → Nat) (v : SX8) (o : Int32 × SX8) (hf : fX8_readBuffer N v = some o) : okM l yX8_readBuffer wsX8_readBuffer (rmz 4 88) D cy [.ref (a 0)] (wX8 cy a v) (wX8 cy a o.2) (some (.int o.1)) := by
  refine okM_of (own := RX8) (nme := "readBuffer") (cc := cX8_readBuffer) (maxL := 2) (ret := (some .int)) (by decide) rfl rfl rfl (Nat.le_of_ble_eq_true rfl) ?_
  intro p e s m args below meth c A F
  have i_X8 : ∀ w ∈ u_ws RX8 TX8 13, w ∈ wsX8_readBuffer := fun _ h => List.mem_cons_of_mem _ (List.mem_append_right _ h)
  have K17 : ∀ (n : Nat) (v : SX8) (z1 : Int32) (u : SX8), fX8_readBuffer_L17 N n v z1 = some u → V p l e (rmz 4 88) s m args below meth c 2 D A 0 0 (MQ below (ok_Q D (wX8 cy a o.2) (some (.int o.1)) A) args s 0 0 A) (wX8 cy a u) [(0, .ref (a 0))] [] 89 → V p l e (rmz 4 88) s m args below meth c 2 D A 0 0 (MQ below (ok_Q D (wX8 cy a o.2) (some (.int o.1)) A) args s 0 0 A) (wX8 cy a v) [(0, .ref (a 0)), (1, .int z1)] [] 17 := by
    intro n
    induction n with
    | zero =>
      intro v z1 u hf hk
      exact nomatch (show (none : Option (SX8)) = some u from hf)
    | succ n ih =>
      intro v z1 u hf hk
      rw [fX8_readBuffer_L17] at hf
      refine V_iload_n (pc := 17) F dX8_readBuffer_17 rfl 1 rfl ?_
      refine V_if_eq (pc := 18) (tgt := 89) F dX8_readBuffer_18 (by decide) (fun h1 => ?_) (fun h1 => ?_)
      · replace hf := ite_pos hf h1
        obtain rfl := some_of hf
        exact V.sub [0] rfl hk
      · replace hf := ite_neg hf h1
        refine V_aload_n (pc := 21) F dX8_readBuffer_21 rfl 0 rfl ?_
        obtain ⟨r2, g3, hf⟩ := bind_of hf
        refine V_V (w2 := wX8 cy a r2) (rest := []) (st2 := []) (pc := 22) F 8 (M_X8_readOrder l D cy N a v r2 g3) (cwV 0 F.ts gX8_readBuffer_X8_readOrder rfl rfl rfl hd_X8_readOrder ⟨Nat.le_of_ble_eq_true rfl, Nat.le_of_ble_eq_true rfl⟩) rfl dX8_readBuffer_22 Fit.whole fstX8 rfl rfl (Nat.le_of_ble_eq_true rfl) (Nat.zero_le _) (Nat.zero_le _) rfl rfl rfl ?_
        refine V_aload_n (pc := 25) F dX8_readBuffer_25 rfl 0 rfl ?_
        refine V_get (pc := 26) F 0 8 9 i_X8 rfl (by decide) rfl (mm 3 rfl) dX8_readBuffer_26 rfl rfl ?_
        refine V_iconst (v := (-1)) (pc := 29) F dX8_readBuffer_29 (by decide) ?_
        refine V_icmp_ne (pc := 30) (tgt := 48) F dX8_readBuffer_30 (by decide) (fun h4 => ?_) (fun h4 => ?_)
        · replace hf := ite_neg hf h4
          refine V_iconst (v := 0) (pc := 48) F dX8_readBuffer_48 (by decide) ?_
          refine V_istore_n (L2 := [(1, .int 0), (0, .ref (a 0))]) (pc := 49) F dX8_readBuffer_49 rfl (by decide) rfl ?_
          refine V_iload_n (pc := 50) F dX8_readBuffer_50 rfl 0 rfl ?_
          refine V_if_eq (pc := 51) (tgt := 17) F dX8_readBuffer_51 (by decide) (fun h5 => ?_) (fun h5 => ?_)
          · refine V.sub [1, 0] rfl ?_
            exact ih r2 0 _ hf hk
          · exact absurd h5 (show ¬ (¬ ((0 : Int32) = (0 : Int32))) by decide)
        · replace hf := ite_pos hf h4
          refine V_aload_n (pc := 33) F dX8_readBuffer_33 rfl 0 rfl ?_
          refine V_get (pc := 34) F 0 8 8 i_X8 rfl (by decide) rfl (mm 2 rfl) dX8_readBuffer_34 rfl rfl ?_
          refine V_aload_n (pc := 37) F dX8_readBuffer_37 rfl 0 rfl ?_
          refine V_get (pc := 38) F 0 8 5 i_X8 rfl (by decide) rfl (mm 4 rfl) dX8_readBuffer_38 rfl rfl ?_
          refine V_icmp_ge (pc := 41) (tgt := 48) F dX8_readBuffer_41 (by decide) (fun h6 => ?_) (fun h6 => ?_)
          · replace hf := ite_pos hf h6
            refine V_iconst (v := 0) (pc := 48) F dX8_readBuffer_48 (by decide) ?_
            refine V_istore_n (L2 := [(1, .int 0), (0, .ref (a 0))]) (pc := 49) F dX8_readBuffer_49 rfl (by decide) rfl ?_
            refine V_iload_n (pc := 50) F dX8_readBuffer_50 rfl 0 rfl ?_
            refine V_if_eq (pc := 51) (tgt := 17) F dX8_readBuffer_51 (by decide) (fun h7 => ?_) (fun h7 => ?_)
            · refine V.sub [1, 0] rfl ?_
              exact ih r2 0 _ hf hk
            · exact absurd h7 (show ¬ (¬ ((0 : Int32) = (0 : Int32))) by decide)
          · replace hf := ite_neg hf h6
            refine V_iconst (v := 1) (pc := 44) F dX8_readBuffer_44 (by decide) ?_
            refine V_goto (pc := 45) (tgt := 49) F dX8_readBuffer_45 (by decide) ?_
            refine V_istore_n (L2 := [(1, .int 1), (0, .ref (a 0))]) (pc := 49) F dX8_readBuffer_49 rfl (by decide) rfl ?_
            refine V_iload_n (pc := 50) F dX8_readBuffer_50 rfl 0 rfl ?_
            refine V_if_eq (pc := 51) (tgt := 17) F dX8_readBuffer_51 (by decide) (fun h8 => ?_) (fun h8 => ?_)
            · exact absurd h8 (show ¬ ((1 : Int32) = (0 : Int32)) by decide)
            · refine V_aload_n (pc := 54) F dX8_readBuffer_54 rfl 1 rfl ?_
              refine V_aload_n (pc := 55) F dX8_readBuffer_55 rfl 1 rfl ?_
              obtain ⟨r9, g10, hf⟩ := bind_of hf
              refine V_V (w2 := wX8 cy a r2) (rest := [.ref (a 0)]) (st2 := [.int r9, .ref (a 0)]) (pc := 56) F 8 (M_X8_letter l D cy N a r2 r9 g10) (cwV 0 F.ts gX8_readBuffer_X8_letter rfl rfl rfl hd_X8_letter ⟨Nat.le_of_ble_eq_true rfl, Nat.le_of_ble_eq_true rfl⟩) rfl dX8_readBuffer_56 Fit.whole rfl rfl rfl (Nat.le_of_ble_eq_true rfl) (Nat.zero_le _) (Nat.zero_le _) rfl rfl rfl ?_
              refine V_bipush (v := 59) (pc := 59) F dX8_readBuffer_59 (by decide) ?_
              refine V_icmp_ne (pc := 61) (tgt := 68) F dX8_readBuffer_61 (by decide) (fun h11 => ?_) (fun h11 => ?_)
              · replace hf := ite_neg hf h11
                refine V_iconst (v := 0) (pc := 68) F dX8_readBuffer_68 (by decide) ?_
                obtain ⟨r12, g13, hf⟩ := bind_of hf
                refine V_V (w2 := wX8 cy a r12) (rest := []) (st2 := []) (pc := 69) F 8 (M_X8_wants l D cy N a r2 0 r12 g13) (cwV 1 F.ts gX8_readBuffer_X8_wants rfl rfl rfl hd_X8_wants ⟨Nat.le_of_ble_eq_true rfl, Nat.le_of_ble_eq_true rfl⟩) rfl dX8_readBuffer_69 Fit.whole fstX8 rfl rfl (Nat.le_of_ble_eq_true rfl) (Nat.zero_le _) (Nat.zero_le _) rfl rfl rfl ?_
                refine V_aload_n (pc := 72) F dX8_readBuffer_72 rfl 1 rfl ?_
                refine V_get (pc := 73) F 0 8 9 i_X8 rfl (by decide) rfl (mm 3 rfl) dX8_readBuffer_73 rfl rfl ?_
                refine V_iconst (v := (-1)) (pc := 76) F dX8_readBuffer_76 (by decide) ?_
                refine V_icmp_ne (pc := 77) (tgt := 84) F dX8_readBuffer_77 (by decide) (fun h14 => ?_) (fun h14 => ?_)
                · replace hf := ite_neg hf h14
                  refine V_iconst (v := 0) (pc := 84) F dX8_readBuffer_84 (by decide) ?_
                  refine V_istore_n (L2 := [(1, .int 0), (0, .ref (a 0))]) (pc := 85) F dX8_readBuffer_85 rfl (by decide) rfl ?_
                  refine V_goto (pc := 86) (tgt := 17) F dX8_readBuffer_86 (by decide) ?_
                  refine V.sub [1, 0] rfl ?_
                  exact ih r12 0 _ hf hk
                · replace hf := ite_pos hf h14
                  refine V_iconst (v := 1) (pc := 80) F dX8_readBuffer_80 (by decide) ?_
                  refine V_goto (pc := 81) (tgt := 85) F dX8_readBuffer_81 (by decide) ?_
                  refine V_istore_n (L2 := [(1, .int 1), (0, .ref (a 0))]) (pc := 85) F dX8_readBuffer_85 rfl (by decide) rfl ?_
                  refine V_goto (pc := 86) (tgt := 17) F dX8_readBuffer_86 (by decide) ?_
                  refine V.sub [1, 0] rfl ?_
                  exact ih r12 1 _ hf hk
              · replace hf := ite_pos hf h11
                refine V_iconst (v := 1) (pc := 64) F dX8_readBuffer_64 (by decide) ?_
                refine V_goto (pc := 65) (tgt := 69) F dX8_readBuffer_65 (by decide) ?_
                obtain ⟨r15, g16, hf⟩ := bind_of hf
                refine V_V (w2 := wX8 cy a r15) (rest := []) (st2 := []) (pc := 69) F 8 (M_X8_wants l D cy N a r2 1 r15 g16) (cwV 1 F.ts gX8_readBuffer_X8_wants rfl rfl rfl hd_X8_wants ⟨Nat.le_of_ble_eq_true rfl, Nat.le_of_ble_eq_true rfl⟩) rfl dX8_readBuffer_69 Fit.whole fstX8 rfl rfl (Nat.le_of_ble_eq_true rfl) (Nat.zero_le _) (Nat.zero_le _) rfl rfl rfl ?_
                refine V_aload_n (pc := 72) F dX8_readBuffer_72 rfl 1 rfl ?_
                refine V_get (pc := 73) F 0 8 9 i_X8 rfl (by decide) rfl (mm 3 rfl) dX8_readBuffer_73 rfl rfl ?_
                refine V_iconst (v := (-1)) (pc := 76) F dX8_readBuffer_76 (by decide) ?_
                refine V_icmp_ne (pc := 77) (tgt := 84) F dX8_readBuffer_77 (by decide) (fun h17 => ?_) (fun h17 => ?_)
                · replace hf := ite_neg hf h17
                  refine V_iconst (v := 0) (pc := 84) F dX8_readBuffer_84 (by decide) ?_
                  refine V_istore_n (L2 := [(1, .int 0), (0, .ref (a 0))]) (pc := 85) F dX8_readBuffer_85 rfl (by decide) rfl ?_
                  refine V_goto (pc := 86) (tgt := 17) F dX8_readBuffer_86 (by decide) ?_
                  refine V.sub [1, 0] rfl ?_
                  exact ih r15 0 _ hf hk
                · replace hf := ite_pos hf h17
                  refine V_iconst (v := 1) (pc := 80) F dX8_readBuffer_80 (by decide) ?_
                  refine V_goto (pc := 81) (tgt := 85) F dX8_readBuffer_81 (by decide) ?_
                  refine V_istore_n (L2 := [(1, .int 1), (0, .ref (a 0))]) (pc := 85) F dX8_readBuffer_85 rfl (by decide) rfl ?_
                  refine V_goto (pc := 86) (tgt := 17) F dX8_readBuffer_86 (by decide) ?_
                  refine V.sub [1, 0] rfl ?_
                  exact ih r15 1 _ hf hk
  unfold fX8_readBuffer at hf
  refine V.eq rfl (show lv_args 0 [.ref (a 0)] = [(0, .ref (a 0))] from rfl) rfl ?_
  refine V_aload_n (pc := 0) F dX8_readBuffer_0 rfl 0 rfl ?_
  refine V_iconst (v := 0) (pc := 1) F dX8_readBuffer_1 (by decide) ?_
  refine V_put (w2 := wX8 cy a (v.1, v.2.1, v.2.2.1, v.2.2.2.1, v.2.2.2.2.1, v.2.2.2.2.2.1, v.2.2.2.2.2.2.1, 0, v.2.2.2.2.2.2.2.2)) (pc := 2) F 0 8 7 i_X8 tyX8 tyX8_ok nmX8 rfl (by decide) rfl (mm 1 rfl) rfl dX8_readBuffer_2 rfl rfl rfl (Nat.le_of_ble_eq_true rfl) rfl ?_
  refine V_aload_n (pc := 5) F dX8_readBuffer_5 rfl 0 rfl ?_
  refine V_iconst (v := 0) (pc := 6) F dX8_readBuffer_6 (by decide) ?_
  refine V_put (w2 := wX8 cy a (v.1, v.2.1, v.2.2.1, v.2.2.2.1, v.2.2.2.2.1, v.2.2.2.2.2.1, v.2.2.2.2.2.2.1, 0, 0, v.2.2.2.2.2.2.2.2.2)) (pc := 7) F 0 8 8 i_X8 tyX8 tyX8_ok nmX8 rfl (by decide) rfl (mm 2 rfl) rfl dX8_readBuffer_7 rfl rfl rfl (Nat.le_of_ble_eq_true rfl) rfl ?_
  refine V_aload_n (pc := 10) F dX8_readBuffer_10 rfl 0 rfl ?_
  refine V_iconst (v := (-1)) (pc := 11) F dX8_readBuffer_11 (by decide) ?_
  refine V_put (w2 := wX8 cy a (v.1, v.2.1, v.2.2.1, v.2.2.2.1, v.2.2.2.2.1, v.2.2.2.2.2.1, v.2.2.2.2.2.2.1, 0, 0, (-1), v.2.2.2.2.2.2.2.2.2.2)) (pc := 12) F 0 8 9 i_X8 tyX8 tyX8_ok nmX8 rfl (by decide) rfl (mm 3 rfl) rfl dX8_readBuffer_12 rfl rfl rfl (Nat.le_of_ble_eq_true rfl) rfl ?_
  refine V_iconst (v := 1) (pc := 15) F dX8_readBuffer_15 (by decide) ?_
  refine V_istore_n (L2 := [(1, .int 1), (0, .ref (a 0))]) (pc := 16) F dX8_readBuffer_16 rfl (by decide) rfl ?_
  refine V.sub [1, 0] rfl ?_
  obtain ⟨u18, g19, hf⟩ := bind_of hf
  refine K17 N (v.1, v.2.1, v.2.2.1, v.2.2.2.1, v.2.2.2.2.1, v.2.2.2.2.2.1, v.2.2.2.2.2.2.1, 0, 0, (-1), v.2.2.2.2.2.2.2.2.2.2) 1 u18 g19 ?_
  refine V_aload_n (pc := 89) F dX8_readBuffer_89 rfl 0 rfl ?_
  refine V_get (pc := 90) F 0 8 9 i_X8 rfl (by decide) rfl (mm 3 rfl) dX8_readBuffer_90 rfl rfl ?_
  obtain rfl := some_of hf
  exact V_ret F rfl rfl dX8_readBuffer_93 rfl rfl
