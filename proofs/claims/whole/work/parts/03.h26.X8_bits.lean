theorem hd_X8_bits : yX8_bits.cls ≠ "java/lang/invoke/MethodHandle" ∧ yX8_bits.cls ≠ "java/lang/invoke/VarHandle" ∧ (parseMethodDescriptor yX8_bits.desc).map (fun d => d.parameters.length) = some 1 := by decide +kernel
def fX8_bits_L4 (N : Nat)  : Nat → Int32 → Int32 → Option (Int32)
  | 0, _, _ => none
  | n + 1, z1, z2 =>
    if z2 = 0 then
      some z1
    else
      fX8_bits_L4 N n (z1 + 1) (z2 &&& (z2 - 1))
def fX8_bits (N : Nat) (x0 : Int32) : Option (Int32) :=
  (fX8_bits_L4 N N 0 x0).bind fun u2 =>
    some u2
set_option maxHeartbeats 8000000 in
set_option maxRecDepth 100000 in
theorem M_X8_bits (l : Launch) (D : va_G) (cy : Nat → ClassId) (N : Nat) (x0 : Int32) (o : Int32) (hf : fX8_bits N x0 = some o) : okM l yX8_bits wsX8_bits (rmz 0 0) D cy [.int x0] ([] : va_W) ([] : va_W) (some (.int o)) := by
  refine okM_of (own := RX8) (nme := "bits") (cc := cX8_bits) (maxL := 3) (ret := (some .int)) (by decide) rfl rfl rfl (Nat.le_of_ble_eq_true rfl) ?_
  intro p e s m args below meth c A F
  have K4 : ∀ (n : Nat) (z1 : Int32) (z2 : Int32) (u : Int32), fX8_bits_L4 N n z1 z2 = some u → V p l e (rmz 0 0) s m args below meth c 3 D A 0 0 (MQ below (ok_Q D ([] : va_W) (some (.int o)) A) args s 0 0 A) ([] : va_W) [(1, .int u)] [] 20 → V p l e (rmz 0 0) s m args below meth c 3 D A 0 0 (MQ below (ok_Q D ([] : va_W) (some (.int o)) A) args s 0 0 A) ([] : va_W) [(1, .int z1), (2, .int z2)] [] 4 := by
    intro n
    induction n with
    | zero =>
      intro z1 z2 u hf hk
      exact nomatch (show (none : Option (Int32)) = some u from hf)
    | succ n ih =>
      intro z1 z2 u hf hk
      rw [fX8_bits_L4] at hf
      refine V_iload_n (pc := 4) F dX8_bits_4 rfl 1 rfl ?_
      refine V_if_eq (pc := 5) (tgt := 20) F dX8_bits_5 (by decide) (fun h1 => ?_) (fun h1 => ?_)
      · replace hf := ite_pos hf h1
        obtain rfl := some_of hf
        exact V.sub [0] rfl hk
      · replace hf := ite_neg hf h1
        refine V_iinc (v := (z1 + 1)) (L2 := [(1, .int (z1 + 1)), (2, .int z2)]) (pc := 8) F dX8_bits_8 0 rfl rfl (by decide) rfl ?_
        refine V_iload_n (pc := 11) F dX8_bits_11 rfl 1 rfl ?_
        refine V_iload_n (pc := 12) F dX8_bits_12 rfl 1 rfl ?_
        refine V_iconst (v := 1) (pc := 13) F dX8_bits_13 (by decide) ?_
        refine V_isub (pc := 14) F dX8_bits_14 ?_
        refine V_iand (pc := 15) F dX8_bits_15 ?_
        refine V_istore_n (L2 := [(2, .int (z2 &&& (z2 - 1))), (1, .int (z1 + 1))]) (pc := 16) F dX8_bits_16 rfl (by decide) rfl ?_
        refine V_goto (pc := 17) (tgt := 4) F dX8_bits_17 (by decide) ?_
        refine V.sub [1, 0] rfl ?_
        exact ih (z1 + 1) (z2 &&& (z2 - 1)) _ hf hk
  unfold fX8_bits at hf
  refine V.eq rfl (show lv_args 0 [.int x0] = [(0, .int x0)] from rfl) rfl ?_
  refine V_iconst (v := 0) (pc := 0) F dX8_bits_0 (by decide) ?_
  refine V_istore_n (L2 := [(1, .int 0), (0, .int x0)]) (pc := 1) F dX8_bits_1 rfl (by decide) rfl ?_
  refine V_iload_n (pc := 2) F dX8_bits_2 rfl 1 rfl ?_
  refine V_istore_n (L2 := [(2, .int x0), (1, .int 0), (0, .int x0)]) (pc := 3) F dX8_bits_3 rfl (by decide) rfl ?_
  refine V.sub [1, 0] rfl ?_
  obtain ⟨u2, g3, hf⟩ := bind_of hf
  refine K4 N 0 x0 u2 g3 ?_
  refine V_iload_n (pc := 20) F dX8_bits_20 rfl 0 rfl ?_
  obtain rfl := some_of hf
  exact V_ret F rfl rfl dX8_bits_21 rfl rfl
