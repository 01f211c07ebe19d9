theorem hd_X8_slowestOne : yX8_slowestOne.cls = RX8 ∧ yX8_slowestOne.cls ≠ "java/lang/invoke/MethodHandle" ∧ yX8_slowestOne.cls ≠ "java/lang/invoke/VarHandle" ∧ (parseMethodDescriptor yX8_slowestOne.desc).map (fun d => d.parameters.length) = some 0 := by decide +kernel
def fX8_slowestOne_L52 (N : Nat) (z1 : Int32) (z4 : Int32) (z5 : Int32) : Nat → SX8 → Int32 → Int32 → Int32 → Option (SX8 × Int32 × Int32)
  | 0, _, _, _, _ => none
  | n + 1, v, z2, z3, z6 =>
    chk 0 143 (
      if (v.2.1 (0 : Int32).toNatClampNeg) ≤ z6 then
        some (v, z2, z3)
      else
        if z5 = 0 then
          some (v, z2, z3)
        else
          if ((z1 >>> (z6 &&& 31)) &&& 1) = 1 then
            (fX8_longest N v z4 z6).bind fun r14 =>
              if r14.1 ≤ z3 then
                if r14.1 ≤ z3 then
                  fX8_slowestOne_L52 N z1 z4 z5 n r14.2 z2 z3 (z6 + 1)
                else
                  fX8_slowestOne_L52 N z1 z4 z5 n r14.2 z2 r14.1 (z6 + 1)
              else
                if r14.1 ≤ z3 then
                  fX8_slowestOne_L52 N z1 z4 z5 n r14.2 z4 z3 (z6 + 1)
                else
                  fX8_slowestOne_L52 N z1 z4 z5 n r14.2 z4 r14.1 (z6 + 1)
          else
            if (-1) ≤ z3 then
              if (-1) ≤ z3 then
                fX8_slowestOne_L52 N z1 z4 z5 n v z2 z3 (z6 + 1)
              else
                fX8_slowestOne_L52 N z1 z4 z5 n v z2 (-1) (z6 + 1)
            else
              if (-1) ≤ z3 then
                fX8_slowestOne_L52 N z1 z4 z5 n v z4 z3 (z6 + 1)
              else
                fX8_slowestOne_L52 N z1 z4 z5 n v z4 (-1) (z6 + 1)
    )
def fX8_slowestOne_L12 (N : Nat) (z1 : Int32) : Nat → SX8 → Int32 → Int32 → Int32 → Option (SX8 × Int32)
  | 0, _, _, _, _ => none
  | n + 1, v, z2, z3, z4 =>
    if 6 ≤ z4 then
      some (v, z2)
    else
      (fX8_greensOf N v z1).bind fun r4 =>
        if ((r4 >>> (z4 &&& 31)) &&& 1) = 1 then
          (fX8_canStarveAnywhere N v z4).bind fun r21 =>
            if r21 = 0 then
              (fX8_slowestOne_L52 N z1 z4 1 N v z2 z3 0).bind fun u26 =>
                fX8_slowestOne_L12 N z1 n u26.1 u26.2.1 u26.2.2 (z4 + 1)
            else
              (fX8_slowestOne_L52 N z1 z4 0 N v z2 z3 0).bind fun u24 =>
                fX8_slowestOne_L12 N z1 n u24.1 u24.2.1 u24.2.2 (z4 + 1)
        else
          (fX8_slowestOne_L52 N z1 z4 0 N v z2 z3 0).bind fun u19 =>
            fX8_slowestOne_L12 N z1 n u19.1 u19.2.1 u19.2.2 (z4 + 1)
def fX8_slowestOne (N : Nat) (v : SX8) : Option (Int32 × SX8) :=
  (fX8_comers N v).bind fun r1 =>
    (fX8_slowestOne_L12 N r1 N v (-1) (-1) 0).bind fun u28 =>
      some (u28.2, u28.1)
set_option maxHeartbeats 8000000 in
set_option maxRecDepth 100000 in
theorem M_X8_slowestOne (l : Launch) (D : va_G) (cy : Nat → ClassId) (N : Nat) (a : Nat → Nat) (v : SX8) (o : Int32 × SX8) (hf : fX8_slowestOne N v = some o) : okM l yX8_slowestOne wsX8_slowestOne (rmz 9 215) D cy [.ref (a 0)] (wX8 cy a v) (wX8 cy a o.2) (some (.int o.1)) := by
  refine okM_of (own := RX8) (nme := "slowestOne") (cc := cX8_slowestOne) (maxL := 8) (ret := (some .int)) (by decide) rfl rfl rfl (Nat.le_of_ble_eq_true rfl) ?_
  intro p e s m args below meth c A F
  have i_X8 : ∀ w ∈ u_ws RX8 TX8 13, w ∈ wsX8_slowestOne := fun _ h => List.mem_cons_of_mem _ (List.mem_append_right _ h)
  have K52 : ∀ (n : Nat) (z1 : Int32) (z4 : Int32) (z5 : Int32) (v : SX8) (z2 : Int32) (z3 : Int32) (z6 : Int32) (u : SX8 × Int32 × Int32), fX8_slowestOne_L52 N z1 z4 z5 n v z2 z3 z6 = some u → V p l e (rmz 9 215) s m args below meth c 8 D A 0 0 (MQ below (ok_Q D (wX8 cy a o.2) (some (.int o.1)) A) args s 0 0 A) (wX8 cy a u.1) [(0, .ref (a 0)), (1, .int z1), (2, .int u.2.1), (3, .int u.2.2), (4, .int z4)] [] 124 → V p l e (rmz 9 215) s m args below meth c 8 D A 0 0 (MQ below (ok_Q D (wX8 cy a o.2) (some (.int o.1)) A) args s 0 0 A) (wX8 cy a v) [(0, .ref (a 0)), (1, .int z1), (2, .int z2), (3, .int z3), (4, .int z4), (5, .int z5), (6, .int z6)] [] 52 := by
    intro n
    induction n with
    | zero =>
      intro z1 z4 z5 v z2 z3 z6 u hf hk
      exact nomatch (show (none : Option (SX8 × Int32 × Int32)) = some u from hf)
    | succ n ih =>
      intro z1 z4 z5 v z2 z3 z6 u hf hk
      rw [fX8_slowestOne_L52] at hf
      refine V_iload (pc := 52) F dX8_slowestOne_52 6 rfl ?_
      refine V_aload_n (pc := 54) F dX8_slowestOne_54 rfl 0 rfl ?_
      refine V_get (pc := 55) F 0 8 1 i_X8 rfl (by decide) rfl (mm 1 rfl) dX8_slowestOne_55 rfl rfl ?_
      refine V_iconst (v := 0) (pc := 58) F dX8_slowestOne_58 (by decide) ?_
      obtain ⟨c7, hf⟩ := chk_some hf
      refine V_iald (pc := 59) F 1 rfl c7 dX8_slowestOne_59 ?_
      refine V_icmp_ge (pc := 60) (tgt := 124) F dX8_slowestOne_60 (by decide) (fun h8 => ?_) (fun h8 => ?_)
      · replace hf := ite_pos hf h8
        obtain rfl := some_of hf
        exact V.sub [0, 1, 2, 3, 4] rfl hk
      · replace hf := ite_neg hf h8
        refine V_iload (pc := 63) F dX8_slowestOne_63 5 rfl ?_
        refine V_if_eq (pc := 65) (tgt := 124) F dX8_slowestOne_65 (by decide) (fun h9 => ?_) (fun h9 => ?_)
        · replace hf := ite_pos hf h9
          obtain rfl := some_of hf
          exact V.sub [0, 1, 2, 3, 4] rfl hk
        · replace hf := ite_neg hf h9
          refine V_iload_n (pc := 68) F dX8_slowestOne_68 rfl 1 rfl ?_
          refine V_iload (pc := 69) F dX8_slowestOne_69 6 rfl ?_
          refine V_ishr (pc := 71) F dX8_slowestOne_71 ?_
          refine V_iconst (v := 1) (pc := 72) F dX8_slowestOne_72 (by decide) ?_
          refine V_iand (pc := 73) F dX8_slowestOne_73 ?_
          refine V_iconst (v := 1) (pc := 74) F dX8_slowestOne_74 (by decide) ?_
          refine V_icmp_ne (pc := 75) (tgt := 89) F dX8_slowestOne_75 (by decide) (fun h10 => ?_) (fun h10 => ?_)
          · replace hf := ite_neg hf h10
            refine V_iconst (v := (-1)) (pc := 89) F dX8_slowestOne_89 (by decide) ?_
            refine V_istore (L2 := [(7, .int (-1)), (0, .ref (a 0)), (1, .int z1), (2, .int z2), (3, .int z3), (4, .int z4), (5, .int z5), (6, .int z6)]) (pc := 90) F dX8_slowestOne_90 (by decide) rfl ?_
            refine V_iload (pc := 92) F dX8_slowestOne_92 0 rfl ?_
            refine V_iload_n (pc := 94) F dX8_slowestOne_94 rfl 4 rfl ?_
            refine V_icmp_le (pc := 95) (tgt := 103) F dX8_slowestOne_95 (by decide) (fun h11 => ?_) (fun h11 => ?_)
            · replace hf := ite_pos hf h11
              refine V_iload_n (pc := 103) F dX8_slowestOne_103 rfl 3 rfl ?_
              refine V_istore_n (L2 := [(2, .int z2), (7, .int (-1)), (0, .ref (a 0)), (1, .int z1), (3, .int z3), (4, .int z4), (5, .int z5), (6, .int z6)]) (pc := 104) F dX8_slowestOne_104 rfl (by decide) rfl ?_
              refine V_iload (pc := 105) F dX8_slowestOne_105 1 rfl ?_
              refine V_iload_n (pc := 107) F dX8_slowestOne_107 rfl 4 rfl ?_
              refine V_icmp_le (pc := 108) (tgt := 116) F dX8_slowestOne_108 (by decide) (fun h12 => ?_) (fun h12 => ?_)
              · replace hf := ite_pos hf h12
                refine V_iload_n (pc := 116) F dX8_slowestOne_116 rfl 4 rfl ?_
                refine V_istore_n (L2 := [(3, .int z3), (2, .int z2), (7, .int (-1)), (0, .ref (a 0)), (1, .int z1), (4, .int z4), (5, .int z5), (6, .int z6)]) (pc := 117) F dX8_slowestOne_117 rfl (by decide) rfl ?_
                refine V_iinc (v := (z6 + 1)) (L2 := [(6, .int (z6 + 1)), (3, .int z3), (2, .int z2), (7, .int (-1)), (0, .ref (a 0)), (1, .int z1), (4, .int z4), (5, .int z5)]) (pc := 118) F dX8_slowestOne_118 7 rfl rfl (by decide) rfl ?_
                refine V_goto (pc := 121) (tgt := 52) F dX8_slowestOne_121 (by decide) ?_
                refine V.sub [4, 5, 2, 1, 6, 7, 0] rfl ?_
                exact ih z1 z4 z5 v z2 z3 (z6 + 1) _ hf hk
              · replace hf := ite_neg hf h12
                refine V_iload (pc := 111) F dX8_slowestOne_111 1 rfl ?_
                refine V_goto (pc := 113) (tgt := 117) F dX8_slowestOne_113 (by decide) ?_
                refine V_istore_n (L2 := [(3, .int (-1)), (2, .int z2), (7, .int (-1)), (0, .ref (a 0)), (1, .int z1), (4, .int z4), (5, .int z5), (6, .int z6)]) (pc := 117) F dX8_slowestOne_117 rfl (by decide) rfl ?_
                refine V_iinc (v := (z6 + 1)) (L2 := [(6, .int (z6 + 1)), (3, .int (-1)), (2, .int z2), (7, .int (-1)), (0, .ref (a 0)), (1, .int z1), (4, .int z4), (5, .int z5)]) (pc := 118) F dX8_slowestOne_118 7 rfl rfl (by decide) rfl ?_
                refine V_goto (pc := 121) (tgt := 52) F dX8_slowestOne_121 (by decide) ?_
                refine V.sub [4, 5, 2, 1, 6, 7, 0] rfl ?_
                exact ih z1 z4 z5 v z2 (-1) (z6 + 1) _ hf hk
            · replace hf := ite_neg hf h11
              refine V_iload (pc := 98) F dX8_slowestOne_98 5 rfl ?_
              refine V_goto (pc := 100) (tgt := 104) F dX8_slowestOne_100 (by decide) ?_
              refine V_istore_n (L2 := [(2, .int z4), (7, .int (-1)), (0, .ref (a 0)), (1, .int z1), (3, .int z3), (4, .int z4), (5, .int z5), (6, .int z6)]) (pc := 104) F dX8_slowestOne_104 rfl (by decide) rfl ?_
              refine V_iload (pc := 105) F dX8_slowestOne_105 1 rfl ?_
              refine V_iload_n (pc := 107) F dX8_slowestOne_107 rfl 4 rfl ?_
              refine V_icmp_le (pc := 108) (tgt := 116) F dX8_slowestOne_108 (by decide) (fun h13 => ?_) (fun h13 => ?_)
              · replace hf := ite_pos hf h13
                refine V_iload_n (pc := 116) F dX8_slowestOne_116 rfl 4 rfl ?_
                refine V_istore_n (L2 := [(3, .int z3), (2, .int z4), (7, .int (-1)), (0, .ref (a 0)), (1, .int z1), (4, .int z4), (5, .int z5), (6, .int z6)]) (pc := 117) F dX8_slowestOne_117 rfl (by decide) rfl ?_
                refine V_iinc (v := (z6 + 1)) (L2 := [(6, .int (z6 + 1)), (3, .int z3), (2, .int z4), (7, .int (-1)), (0, .ref (a 0)), (1, .int z1), (4, .int z4), (5, .int z5)]) (pc := 118) F dX8_slowestOne_118 7 rfl rfl (by decide) rfl ?_
                refine V_goto (pc := 121) (tgt := 52) F dX8_slowestOne_121 (by decide) ?_
                refine V.sub [4, 5, 2, 1, 6, 7, 0] rfl ?_
                exact ih z1 z4 z5 v z4 z3 (z6 + 1) _ hf hk
              · replace hf := ite_neg hf h13
                refine V_iload (pc := 111) F dX8_slowestOne_111 1 rfl ?_
                refine V_goto (pc := 113) (tgt := 117) F dX8_slowestOne_113 (by decide) ?_
                refine V_istore_n (L2 := [(3, .int (-1)), (2, .int z4), (7, .int (-1)), (0, .ref (a 0)), (1, .int z1), (4, .int z4), (5, .int z5), (6, .int z6)]) (pc := 117) F dX8_slowestOne_117 rfl (by decide) rfl ?_
                refine V_iinc (v := (z6 + 1)) (L2 := [(6, .int (z6 + 1)), (3, .int (-1)), (2, .int z4), (7, .int (-1)), (0, .ref (a 0)), (1, .int z1), (4, .int z4), (5, .int z5)]) (pc := 118) F dX8_slowestOne_118 7 rfl rfl (by decide) rfl ?_
                refine V_goto (pc := 121) (tgt := 52) F dX8_slowestOne_121 (by decide) ?_
                refine V.sub [4, 5, 2, 1, 6, 7, 0] rfl ?_
                exact ih z1 z4 z5 v z4 (-1) (z6 + 1) _ hf hk
          · replace hf := ite_pos hf h10
            refine V_aload_n (pc := 78) F dX8_slowestOne_78 rfl 0 rfl ?_
            refine V_iload (pc := 79) F dX8_slowestOne_79 4 rfl ?_
            refine V_iload (pc := 81) F dX8_slowestOne_81 6 rfl ?_
            obtain ⟨r14, g15, hf⟩ := bind_of hf
            refine V_V (w2 := wX8 cy a r14.2) (rest := []) (st2 := [.int r14.1]) (pc := 83) F 8 (M_X8_longest l D cy N a v z4 z6 r14 g15) (cwV 2 F.ts gX8_slowestOne_X8_longest rfl rfl rfl hd_X8_longest ⟨Nat.le_of_ble_eq_true rfl, Nat.le_of_ble_eq_true rfl⟩) rfl dX8_slowestOne_83 Fit.whole fstX8 rfl rfl (Nat.le_of_ble_eq_true rfl) (Nat.zero_le _) (Nat.zero_le _) rfl rfl rfl ?_
            refine V_goto (pc := 86) (tgt := 90) F dX8_slowestOne_86 (by decide) ?_
            refine V_istore (L2 := [(7, .int r14.1), (0, .ref (a 0)), (1, .int z1), (2, .int z2), (3, .int z3), (4, .int z4), (5, .int z5), (6, .int z6)]) (pc := 90) F dX8_slowestOne_90 (by decide) rfl ?_
            refine V_iload (pc := 92) F dX8_slowestOne_92 0 rfl ?_
            refine V_iload_n (pc := 94) F dX8_slowestOne_94 rfl 4 rfl ?_
            refine V_icmp_le (pc := 95) (tgt := 103) F dX8_slowestOne_95 (by decide) (fun h16 => ?_) (fun h16 => ?_)
            · replace hf := ite_pos hf h16
              refine V_iload_n (pc := 103) F dX8_slowestOne_103 rfl 3 rfl ?_
              refine V_istore_n (L2 := [(2, .int z2), (7, .int r14.1), (0, .ref (a 0)), (1, .int z1), (3, .int z3), (4, .int z4), (5, .int z5), (6, .int z6)]) (pc := 104) F dX8_slowestOne_104 rfl (by decide) rfl ?_
              refine V_iload (pc := 105) F dX8_slowestOne_105 1 rfl ?_
              refine V_iload_n (pc := 107) F dX8_slowestOne_107 rfl 4 rfl ?_
              refine V_icmp_le (pc := 108) (tgt := 116) F dX8_slowestOne_108 (by decide) (fun h17 => ?_) (fun h17 => ?_)
              · replace hf := ite_pos hf h17
                refine V_iload_n (pc := 116) F dX8_slowestOne_116 rfl 4 rfl ?_
                refine V_istore_n (L2 := [(3, .int z3), (2, .int z2), (7, .int r14.1), (0, .ref (a 0)), (1, .int z1), (4, .int z4), (5, .int z5), (6, .int z6)]) (pc := 117) F dX8_slowestOne_117 rfl (by decide) rfl ?_
                refine V_iinc (v := (z6 + 1)) (L2 := [(6, .int (z6 + 1)), (3, .int z3), (2, .int z2), (7, .int r14.1), (0, .ref (a 0)), (1, .int z1), (4, .int z4), (5, .int z5)]) (pc := 118) F dX8_slowestOne_118 7 rfl rfl (by decide) rfl ?_
                refine V_goto (pc := 121) (tgt := 52) F dX8_slowestOne_121 (by decide) ?_
                refine V.sub [4, 5, 2, 1, 6, 7, 0] rfl ?_
                exact ih z1 z4 z5 r14.2 z2 z3 (z6 + 1) _ hf hk
              · replace hf := ite_neg hf h17
                refine V_iload (pc := 111) F dX8_slowestOne_111 1 rfl ?_
                refine V_goto (pc := 113) (tgt := 117) F dX8_slowestOne_113 (by decide) ?_
                refine V_istore_n (L2 := [(3, .int r14.1), (2, .int z2), (7, .int r14.1), (0, .ref (a 0)), (1, .int z1), (4, .int z4), (5, .int z5), (6, .int z6)]) (pc := 117) F dX8_slowestOne_117 rfl (by decide) rfl ?_
                refine V_iinc (v := (z6 + 1)) (L2 := [(6, .int (z6 + 1)), (3, .int r14.1), (2, .int z2), (7, .int r14.1), (0, .ref (a 0)), (1, .int z1), (4, .int z4), (5, .int z5)]) (pc := 118) F dX8_slowestOne_118 7 rfl rfl (by decide) rfl ?_
                refine V_goto (pc := 121) (tgt := 52) F dX8_slowestOne_121 (by decide) ?_
                refine V.sub [4, 5, 2, 1, 6, 7, 0] rfl ?_
                exact ih z1 z4 z5 r14.2 z2 r14.1 (z6 + 1) _ hf hk
            · replace hf := ite_neg hf h16
              refine V_iload (pc := 98) F dX8_slowestOne_98 5 rfl ?_
              refine V_goto (pc := 100) (tgt := 104) F dX8_slowestOne_100 (by decide) ?_
              refine V_istore_n (L2 := [(2, .int z4), (7, .int r14.1), (0, .ref (a 0)), (1, .int z1), (3, .int z3), (4, .int z4), (5, .int z5), (6, .int z6)]) (pc := 104) F dX8_slowestOne_104 rfl (by decide) rfl ?_
              refine V_iload (pc := 105) F dX8_slowestOne_105 1 rfl ?_
              refine V_iload_n (pc := 107) F dX8_slowestOne_107 rfl 4 rfl ?_
              refine V_icmp_le (pc := 108) (tgt := 116) F dX8_slowestOne_108 (by decide) (fun h18 => ?_) (fun h18 => ?_)
              · replace hf := ite_pos hf h18
                refine V_iload_n (pc := 116) F dX8_slowestOne_116 rfl 4 rfl ?_
                refine V_istore_n (L2 := [(3, .int z3), (2, .int z4), (7, .int r14.1), (0, .ref (a 0)), (1, .int z1), (4, .int z4), (5, .int z5), (6, .int z6)]) (pc := 117) F dX8_slowestOne_117 rfl (by decide) rfl ?_
                refine V_iinc (v := (z6 + 1)) (L2 := [(6, .int (z6 + 1)), (3, .int z3), (2, .int z4), (7, .int r14.1), (0, .ref (a 0)), (1, .int z1), (4, .int z4), (5, .int z5)]) (pc := 118) F dX8_slowestOne_118 7 rfl rfl (by decide) rfl ?_
                refine V_goto (pc := 121) (tgt := 52) F dX8_slowestOne_121 (by decide) ?_
                refine V.sub [4, 5, 2, 1, 6, 7, 0] rfl ?_
                exact ih z1 z4 z5 r14.2 z4 z3 (z6 + 1) _ hf hk
              · replace hf := ite_neg hf h18
                refine V_iload (pc := 111) F dX8_slowestOne_111 1 rfl ?_
                refine V_goto (pc := 113) (tgt := 117) F dX8_slowestOne_113 (by decide) ?_
                refine V_istore_n (L2 := [(3, .int r14.1), (2, .int z4), (7, .int r14.1), (0, .ref (a 0)), (1, .int z1), (4, .int z4), (5, .int z5), (6, .int z6)]) (pc := 117) F dX8_slowestOne_117 rfl (by decide) rfl ?_
                refine V_iinc (v := (z6 + 1)) (L2 := [(6, .int (z6 + 1)), (3, .int r14.1), (2, .int z4), (7, .int r14.1), (0, .ref (a 0)), (1, .int z1), (4, .int z4), (5, .int z5)]) (pc := 118) F dX8_slowestOne_118 7 rfl rfl (by decide) rfl ?_
                refine V_goto (pc := 121) (tgt := 52) F dX8_slowestOne_121 (by decide) ?_
                refine V.sub [4, 5, 2, 1, 6, 7, 0] rfl ?_
                exact ih z1 z4 z5 r14.2 z4 r14.1 (z6 + 1) _ hf hk
  have K12 : ∀ (n : Nat) (z1 : Int32) (v : SX8) (z2 : Int32) (z3 : Int32) (z4 : Int32) (u : SX8 × Int32), fX8_slowestOne_L12 N z1 n v z2 z3 z4 = some u → V p l e (rmz 9 215) s m args below meth c 8 D A 0 0 (MQ below (ok_Q D (wX8 cy a o.2) (some (.int o.1)) A) args s 0 0 A) (wX8 cy a u.1) [(2, .int u.2)] [] 130 → V p l e (rmz 9 215) s m args below meth c 8 D A 0 0 (MQ below (ok_Q D (wX8 cy a o.2) (some (.int o.1)) A) args s 0 0 A) (wX8 cy a v) [(0, .ref (a 0)), (1, .int z1), (2, .int z2), (3, .int z3), (4, .int z4)] [] 12 := by
    intro n
    induction n with
    | zero =>
      intro z1 v z2 z3 z4 u hf hk
      exact nomatch (show (none : Option (SX8 × Int32)) = some u from hf)
    | succ n ih =>
      intro z1 v z2 z3 z4 u hf hk
      rw [fX8_slowestOne_L12] at hf
      refine V_iload (pc := 12) F dX8_slowestOne_12 4 rfl ?_
      refine V_bipush (v := 6) (pc := 14) F dX8_slowestOne_14 (by decide) ?_
      refine V_icmp_ge (pc := 16) (tgt := 130) F dX8_slowestOne_16 (by decide) (fun h3 => ?_) (fun h3 => ?_)
      · replace hf := ite_pos hf h3
        obtain rfl := some_of hf
        exact V.sub [2] rfl hk
      · replace hf := ite_neg hf h3
        refine V_aload_n (pc := 19) F dX8_slowestOne_19 rfl 0 rfl ?_
        refine V_iload_n (pc := 20) F dX8_slowestOne_20 rfl 1 rfl ?_
        obtain ⟨r4, g5, hf⟩ := bind_of hf
        refine V_V (w2 := wX8 cy a v) (rest := []) (st2 := [.int r4]) (pc := 21) F 8 (M_X8_greensOf l D cy N a v z1 r4 g5) (cwV 1 F.ts gX8_slowestOne_X8_greensOf rfl rfl rfl hd_X8_greensOf ⟨Nat.le_of_ble_eq_true rfl, Nat.le_of_ble_eq_true rfl⟩) rfl dX8_slowestOne_21 Fit.whole rfl rfl rfl (Nat.le_of_ble_eq_true rfl) (Nat.zero_le _) (Nat.zero_le _) rfl rfl rfl ?_
        refine V_iload (pc := 24) F dX8_slowestOne_24 4 rfl ?_
        refine V_ishr (pc := 26) F dX8_slowestOne_26 ?_
        refine V_iconst (v := 1) (pc := 27) F dX8_slowestOne_27 (by decide) ?_
        refine V_iand (pc := 28) F dX8_slowestOne_28 ?_
        refine V_iconst (v := 1) (pc := 29) F dX8_slowestOne_29 (by decide) ?_
        refine V_icmp_ne (pc := 30) (tgt := 46) F dX8_slowestOne_30 (by decide) (fun h6 => ?_) (fun h6 => ?_)
        · replace hf := ite_neg hf h6
          refine V_iconst (v := 0) (pc := 46) F dX8_slowestOne_46 (by decide) ?_
          refine V_istore (L2 := [(5, .int 0), (0, .ref (a 0)), (1, .int z1), (2, .int z2), (3, .int z3), (4, .int z4)]) (pc := 47) F dX8_slowestOne_47 (by decide) rfl ?_
          refine V_iconst (v := 0) (pc := 49) F dX8_slowestOne_49 (by decide) ?_
          refine V_istore (L2 := [(6, .int 0), (5, .int 0), (0, .ref (a 0)), (1, .int z1), (2, .int z2), (3, .int z3), (4, .int z4)]) (pc := 50) F dX8_slowestOne_50 (by decide) rfl ?_
          refine V.sub [2, 3, 4, 5, 6, 1, 0] rfl ?_
          obtain ⟨u19, g20, hf⟩ := bind_of hf
          refine K52 N z1 z4 0 v z2 z3 0 u19 g20 ?_
          refine V_iinc (v := (z4 + 1)) (L2 := [(4, .int (z4 + 1)), (0, .ref (a 0)), (1, .int z1), (2, .int u19.2.1), (3, .int u19.2.2)]) (pc := 124) F dX8_slowestOne_124 4 rfl rfl (by decide) rfl ?_
          refine V_goto (pc := 127) (tgt := 12) F dX8_slowestOne_127 (by decide) ?_
          refine V.sub [1, 2, 3, 4, 0] rfl ?_
          exact ih z1 u19.1 u19.2.1 u19.2.2 (z4 + 1) _ hf hk
        · replace hf := ite_pos hf h6
          refine V_aload_n (pc := 33) F dX8_slowestOne_33 rfl 0 rfl ?_
          refine V_iload (pc := 34) F dX8_slowestOne_34 4 rfl ?_
          obtain ⟨r21, g22, hf⟩ := bind_of hf
          refine V_V (w2 := wX8 cy a v) (rest := []) (st2 := [.int r21]) (pc := 36) F 8 (M_X8_canStarveAnywhere l D cy N a v z4 r21 g22) (cwV 1 F.ts gX8_slowestOne_X8_canStarveAnywhere rfl rfl rfl hd_X8_canStarveAnywhere ⟨Nat.le_of_ble_eq_true rfl, Nat.le_of_ble_eq_true rfl⟩) rfl dX8_slowestOne_36 Fit.whole rfl rfl rfl (Nat.le_of_ble_eq_true rfl) (Nat.zero_le _) (Nat.zero_le _) rfl rfl rfl ?_
          refine V_if_ne (pc := 39) (tgt := 46) F dX8_slowestOne_39 (by decide) (fun h23 => ?_) (fun h23 => ?_)
          · replace hf := ite_neg hf h23
            refine V_iconst (v := 0) (pc := 46) F dX8_slowestOne_46 (by decide) ?_
            refine V_istore (L2 := [(5, .int 0), (0, .ref (a 0)), (1, .int z1), (2, .int z2), (3, .int z3), (4, .int z4)]) (pc := 47) F dX8_slowestOne_47 (by decide) rfl ?_
            refine V_iconst (v := 0) (pc := 49) F dX8_slowestOne_49 (by decide) ?_
            refine V_istore (L2 := [(6, .int 0), (5, .int 0), (0, .ref (a 0)), (1, .int z1), (2, .int z2), (3, .int z3), (4, .int z4)]) (pc := 50) F dX8_slowestOne_50 (by decide) rfl ?_
            refine V.sub [2, 3, 4, 5, 6, 1, 0] rfl ?_
            obtain ⟨u24, g25, hf⟩ := bind_of hf
            refine K52 N z1 z4 0 v z2 z3 0 u24 g25 ?_
            refine V_iinc (v := (z4 + 1)) (L2 := [(4, .int (z4 + 1)), (0, .ref (a 0)), (1, .int z1), (2, .int u24.2.1), (3, .int u24.2.2)]) (pc := 124) F dX8_slowestOne_124 4 rfl rfl (by decide) rfl ?_
            refine V_goto (pc := 127) (tgt := 12) F dX8_slowestOne_127 (by decide) ?_
            refine V.sub [1, 2, 3, 4, 0] rfl ?_
            exact ih z1 u24.1 u24.2.1 u24.2.2 (z4 + 1) _ hf hk
          · replace hf := ite_pos hf h23
            refine V_iconst (v := 1) (pc := 42) F dX8_slowestOne_42 (by decide) ?_
            refine V_goto (pc := 43) (tgt := 47) F dX8_slowestOne_43 (by decide) ?_
            refine V_istore (L2 := [(5, .int 1), (0, .ref (a 0)), (1, .int z1), (2, .int z2), (3, .int z3), (4, .int z4)]) (pc := 47) F dX8_slowestOne_47 (by decide) rfl ?_
            refine V_iconst (v := 0) (pc := 49) F dX8_slowestOne_49 (by decide) ?_
            refine V_istore (L2 := [(6, .int 0), (5, .int 1), (0, .ref (a 0)), (1, .int z1), (2, .int z2), (3, .int z3), (4, .int z4)]) (pc := 50) F dX8_slowestOne_50 (by decide) rfl ?_
            refine V.sub [2, 3, 4, 5, 6, 1, 0] rfl ?_
            obtain ⟨u26, g27, hf⟩ := bind_of hf
            refine K52 N z1 z4 1 v z2 z3 0 u26 g27 ?_
            refine V_iinc (v := (z4 + 1)) (L2 := [(4, .int (z4 + 1)), (0, .ref (a 0)), (1, .int z1), (2, .int u26.2.1), (3, .int u26.2.2)]) (pc := 124) F dX8_slowestOne_124 4 rfl rfl (by decide) rfl ?_
            refine V_goto (pc := 127) (tgt := 12) F dX8_slowestOne_127 (by decide) ?_
            refine V.sub [1, 2, 3, 4, 0] rfl ?_
            exact ih z1 u26.1 u26.2.1 u26.2.2 (z4 + 1) _ hf hk
  unfold fX8_slowestOne at hf
  refine V.eq rfl (show lv_args 0 [.ref (a 0)] = [(0, .ref (a 0))] from rfl) rfl ?_
  refine V_aload_n (pc := 0) F dX8_slowestOne_0 rfl 0 rfl ?_
  obtain ⟨r1, g2, hf⟩ := bind_of hf
  refine V_V (w2 := wX8 cy a v) (rest := []) (st2 := [.int r1]) (pc := 1) F 8 (M_X8_comers l D cy N a v r1 g2) (cwV 0 F.ts gX8_slowestOne_X8_comers rfl rfl rfl hd_X8_comers ⟨Nat.le_of_ble_eq_true rfl, Nat.le_of_ble_eq_true rfl⟩) rfl dX8_slowestOne_1 Fit.whole rfl rfl rfl (Nat.le_of_ble_eq_true rfl) (Nat.zero_le _) (Nat.zero_le _) rfl rfl rfl ?_
  refine V_istore_n (L2 := [(1, .int r1), (0, .ref (a 0))]) (pc := 4) F dX8_slowestOne_4 rfl (by decide) rfl ?_
  refine V_iconst (v := (-1)) (pc := 5) F dX8_slowestOne_5 (by decide) ?_
  refine V_istore_n (L2 := [(2, .int (-1)), (1, .int r1), (0, .ref (a 0))]) (pc := 6) F dX8_slowestOne_6 rfl (by decide) rfl ?_
  refine V_iconst (v := (-1)) (pc := 7) F dX8_slowestOne_7 (by decide) ?_
  refine V_istore_n (L2 := [(3, .int (-1)), (2, .int (-1)), (1, .int r1), (0, .ref (a 0))]) (pc := 8) F dX8_slowestOne_8 rfl (by decide) rfl ?_
  refine V_iconst (v := 0) (pc := 9) F dX8_slowestOne_9 (by decide) ?_
  refine V_istore (L2 := [(4, .int 0), (3, .int (-1)), (2, .int (-1)), (1, .int r1), (0, .ref (a 0))]) (pc := 10) F dX8_slowestOne_10 (by decide) rfl ?_
  refine V.sub [4, 3, 2, 1, 0] rfl ?_
  obtain ⟨u28, g29, hf⟩ := bind_of hf
  refine K12 N r1 v (-1) (-1) 0 u28 g29 ?_
  refine V_iload_n (pc := 130) F dX8_slowestOne_130 rfl 0 rfl ?_
  obtain rfl := some_of hf
  exact V_ret F rfl rfl dX8_slowestOne_131 rfl rfl
