theorem hd_X8_bitsOf : yX8_bitsOf.cls ≠ "java/lang/invoke/MethodHandle" ∧ yX8_bitsOf.cls ≠ "java/lang/invoke/VarHandle" ∧ (parseMethodDescriptor yX8_bitsOf.desc).map (fun d => d.parameters.length) = some 1 := by decide +kernel
def fX8_bitsOf_L15 (N : Nat)  : Nat → UInt64 → Int64 → Option (UInt64 × Int64)
  | 0, _, _ => none
  | n + 1, z2, z4 =>
    if (Op.cmpValue (FP.dcmp z2 (4611686018427387904)) .l) < 0 then
      some (z2, z4)
    else
      must (decide ((FP.ddiv z2 (4611686018427387904)) &&& 0x7fffffffffffffff ≤ 0x7ff0000000000000)) (
        fX8_bitsOf_L15 N n (FP.ddiv z2 (4611686018427387904)) (z4 + 1)
      )
def fX8_bitsOf_L38 (N : Nat)  : Nat → UInt64 → Int64 → Option (UInt64 × Int64)
  | 0, _, _ => none
  | n + 1, z2, z4 =>
    if 0 ≤ (Op.cmpValue (FP.dcmp z2 FP.dconst1) .g) then
      some (z2, z4)
    else
      must (decide ((FP.dmul z2 (4611686018427387904)) &&& 0x7fffffffffffffff ≤ 0x7ff0000000000000)) (
        fX8_bitsOf_L38 N n (FP.dmul z2 (4611686018427387904)) (z4 - 1)
      )
def fX8_bitsOf (N : Nat) (x0 : UInt64) : Option (Int64) :=
  if (Op.cmpValue (FP.dcmp x0 FP.dconst0) .l) = 0 then
    some 0
  else
    (fX8_bitsOf_L15 N N x0 (1023)).bind fun u4 =>
      (fX8_bitsOf_L38 N N u4.1 u4.2).bind fun u8 =>
        must (decide ((FP.dmul u8.1 (4841369599423283200)) &&& 0x7fffffffffffffff ≤ 0x7ff0000000000000)) (
          some (((u8.2 <<< ((52 : Int32).toInt64 &&& 63)) + (FP.d2l (FP.dmul u8.1 (4841369599423283200)))) - (4503599627370496))
        )
set_option maxHeartbeats 8000000 in
set_option maxRecDepth 100000 in
theorem M_X8_bitsOf (l : Launch) (D : va_G) (cy : Nat → ClassId) (N : Nat) (x0 : UInt64) (o : Int64) (hf : fX8_bitsOf N x0 = some o) : okM l yX8_bitsOf wsX8_bitsOf (rmz 0 0) D cy [.double x0] ([] : va_W) ([] : va_W) (some (.long o)) := by
  refine okM_of (own := RX8) (nme := "bitsOf") (cc := cX8_bitsOf) (maxL := 6) (ret := (some .long)) (by decide) rfl rfl rfl (Nat.le_of_ble_eq_true rfl) ?_
  intro p e s m args below meth c A F
  have K15 : ∀ (n : Nat) (z2 : UInt64) (z4 : Int64) (u : UInt64 × Int64), fX8_bitsOf_L15 N n z2 z4 = some u → V p l e (rmz 0 0) s m args below meth c 6 D A 0 0 (MQ below (ok_Q D ([] : va_W) (some (.long o)) A) args s 0 0 A) ([] : va_W) [(2, .double u.1), (4, .long u.2)] [] 38 → V p l e (rmz 0 0) s m args below meth c 6 D A 0 0 (MQ below (ok_Q D ([] : va_W) (some (.long o)) A) args s 0 0 A) ([] : va_W) [(2, .double z2), (4, .long z4)] [] 15 := by
    intro n
    induction n with
    | zero =>
      intro z2 z4 u hf hk
      exact nomatch (show (none : Option (UInt64 × Int64)) = some u from hf)
    | succ n ih =>
      intro z2 z4 u hf hk
      rw [fX8_bitsOf_L15] at hf
      refine V_dload_n (pc := 15) F dX8_bitsOf_15 rfl 0 rfl ?_
      refine V_ldc2d (v := (4611686018427387904)) (pc := 16) F dX8_bitsOf_16 (mm 2 rfl) ?_
      refine V_dcmp (pc := 19) F dX8_bitsOf_19 ?_
      refine V_if_lt (pc := 20) (tgt := 38) F dX8_bitsOf_20 (by decide) (fun h2 => ?_) (fun h2 => ?_)
      · replace hf := ite_pos hf h2
        obtain rfl := some_of hf
        exact V.sub [0, 1] rfl hk
      · replace hf := ite_neg hf h2
        refine V_dload_n (pc := 23) F dX8_bitsOf_23 rfl 0 rfl ?_
        refine V_ldc2d (v := (4611686018427387904)) (pc := 24) F dX8_bitsOf_24 (mm 2 rfl) ?_
        obtain ⟨c3, hf⟩ := must_some hf
        refine V_ddiv (pc := 27) F dX8_bitsOf_27 (n64_of c3) ?_
        refine V_dstore_n (L2 := [(2, .double (FP.ddiv z2 (4611686018427387904))), (4, .long z4)]) (pc := 28) F dX8_bitsOf_28 rfl (by decide) rfl ?_
        refine V_lload (pc := 29) F dX8_bitsOf_29 1 rfl ?_
        refine V_lconst (v := 1) (pc := 31) F dX8_bitsOf_31 (by decide) ?_
        refine V_ladd (pc := 32) F dX8_bitsOf_32 ?_
        refine V_lstore (L2 := [(4, .long (z4 + 1)), (2, .double (FP.ddiv z2 (4611686018427387904)))]) (pc := 33) F dX8_bitsOf_33 (by decide) rfl ?_
        refine V_goto (pc := 35) (tgt := 15) F dX8_bitsOf_35 (by decide) ?_
        refine V.sub [1, 0] rfl ?_
        exact ih (FP.ddiv z2 (4611686018427387904)) (z4 + 1) _ hf hk
  have K38 : ∀ (n : Nat) (z2 : UInt64) (z4 : Int64) (u : UInt64 × Int64), fX8_bitsOf_L38 N n z2 z4 = some u → V p l e (rmz 0 0) s m args below meth c 6 D A 0 0 (MQ below (ok_Q D ([] : va_W) (some (.long o)) A) args s 0 0 A) ([] : va_W) [(2, .double u.1), (4, .long u.2)] [] 59 → V p l e (rmz 0 0) s m args below meth c 6 D A 0 0 (MQ below (ok_Q D ([] : va_W) (some (.long o)) A) args s 0 0 A) ([] : va_W) [(2, .double z2), (4, .long z4)] [] 38 := by
    intro n
    induction n with
    | zero =>
      intro z2 z4 u hf hk
      exact nomatch (show (none : Option (UInt64 × Int64)) = some u from hf)
    | succ n ih =>
      intro z2 z4 u hf hk
      rw [fX8_bitsOf_L38] at hf
      refine V_dload_n (pc := 38) F dX8_bitsOf_38 rfl 0 rfl ?_
      refine V_dconst1 (pc := 39) F dX8_bitsOf_39 ?_
      refine V_dcmp (pc := 40) F dX8_bitsOf_40 ?_
      refine V_if_ge (pc := 41) (tgt := 59) F dX8_bitsOf_41 (by decide) (fun h6 => ?_) (fun h6 => ?_)
      · replace hf := ite_pos hf h6
        obtain rfl := some_of hf
        exact V.sub [0, 1] rfl hk
      · replace hf := ite_neg hf h6
        refine V_dload_n (pc := 44) F dX8_bitsOf_44 rfl 0 rfl ?_
        refine V_ldc2d (v := (4611686018427387904)) (pc := 45) F dX8_bitsOf_45 (mm 2 rfl) ?_
        obtain ⟨c7, hf⟩ := must_some hf
        refine V_dmul (pc := 48) F dX8_bitsOf_48 (n64_of c7) ?_
        refine V_dstore_n (L2 := [(2, .double (FP.dmul z2 (4611686018427387904))), (4, .long z4)]) (pc := 49) F dX8_bitsOf_49 rfl (by decide) rfl ?_
        refine V_lload (pc := 50) F dX8_bitsOf_50 1 rfl ?_
        refine V_lconst (v := 1) (pc := 52) F dX8_bitsOf_52 (by decide) ?_
        refine V_lsub (pc := 53) F dX8_bitsOf_53 ?_
        refine V_lstore (L2 := [(4, .long (z4 - 1)), (2, .double (FP.dmul z2 (4611686018427387904)))]) (pc := 54) F dX8_bitsOf_54 (by decide) rfl ?_
        refine V_goto (pc := 56) (tgt := 38) F dX8_bitsOf_56 (by decide) ?_
        refine V.sub [1, 0] rfl ?_
        exact ih (FP.dmul z2 (4611686018427387904)) (z4 - 1) _ hf hk
  unfold fX8_bitsOf at hf
  refine V.eq rfl (show lv_args 0 [.double x0] = [(0, .double x0)] from rfl) rfl ?_
  refine V_dload_n (pc := 0) F dX8_bitsOf_0 rfl 0 rfl ?_
  refine V_dconst0 (pc := 1) F dX8_bitsOf_1 ?_
  refine V_dcmp (pc := 2) F dX8_bitsOf_2 ?_
  refine V_if_ne (pc := 3) (tgt := 8) F dX8_bitsOf_3 (by decide) (fun h1 => ?_) (fun h1 => ?_)
  · replace hf := ite_neg hf h1
    refine V_dload_n (pc := 8) F dX8_bitsOf_8 rfl 0 rfl ?_
    refine V_dstore_n (L2 := [(2, .double x0), (0, .double x0)]) (pc := 9) F dX8_bitsOf_9 rfl (by decide) rfl ?_
    refine V_ldc2 (v := (1023)) (pc := 10) F dX8_bitsOf_10 (mm 1 rfl) ?_
    refine V_lstore (L2 := [(4, .long (1023)), (2, .double x0), (0, .double x0)]) (pc := 13) F dX8_bitsOf_13 (by decide) rfl ?_
    refine V.sub [1, 0] rfl ?_
    obtain ⟨u4, g5, hf⟩ := bind_of hf
    refine K15 N x0 (1023) u4 g5 ?_
    refine V.sub [0, 1] rfl ?_
    obtain ⟨u8, g9, hf⟩ := bind_of hf
    refine K38 N u4.1 u4.2 u8 g9 ?_
    refine V_lload (pc := 59) F dX8_bitsOf_59 1 rfl ?_
    refine V_bipush (v := 52) (pc := 61) F dX8_bitsOf_61 (by decide) ?_
    refine V_lshl (pc := 63) F dX8_bitsOf_63 ?_
    refine V_dload_n (pc := 64) F dX8_bitsOf_64 rfl 0 rfl ?_
    refine V_ldc2d (v := (4841369599423283200)) (pc := 65) F dX8_bitsOf_65 (mm 3 rfl) ?_
    obtain ⟨c10, hf⟩ := must_some hf
    refine V_dmul (pc := 68) F dX8_bitsOf_68 (n64_of c10) ?_
    refine V_d2l (pc := 69) F dX8_bitsOf_69 ?_
    refine V_ladd (pc := 70) F dX8_bitsOf_70 ?_
    refine V_ldc2 (v := (4503599627370496)) (pc := 71) F dX8_bitsOf_71 (mm 4 rfl) ?_
    refine V_lsub (pc := 74) F dX8_bitsOf_74 ?_
    obtain rfl := some_of hf
    exact V_lret F rfl dX8_bitsOf_75 rfl rfl
  · replace hf := ite_pos hf h1
    refine V_lconst (v := 0) (pc := 6) F dX8_bitsOf_6 (by decide) ?_
    obtain rfl := some_of hf
    exact V_lret F rfl dX8_bitsOf_7 rfl rfl
