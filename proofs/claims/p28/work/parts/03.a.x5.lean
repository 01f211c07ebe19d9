abbrev SX5 : Type := (Nat → Int32)
def wX5 (cy : Nat → ClassId) (n : Nat) (a : Nat → Nat) (v : SX5) : va_W := [(a 0, .inr (5, [.ref (a 1)])), (a 1, .inl (cy 0, n, .inl v))]
theorem fstX5 {cy : Nat → ClassId} {n : Nat} {a : Nat → Nat} {v v2 : SX5} : (wX5 cy n a v).map (·.1) = (wX5 cy n a v2).map (·.1) := rfl
abbrev SX4 : Type := Int32 × Int32 × Int32 × Int32 × Int32 × Int32
def wX4 (cy : Nat → ClassId) (a : Nat → Nat) (v : SX4) : va_W := [(a 0, .inr (4, [.int v.1, .int v.2.1, .int v.2.2.1, .int v.2.2.2.1, .int v.2.2.2.2.1, .int v.2.2.2.2.2]))]
theorem fstX4 {cy : Nat → ClassId} {a : Nat → Nat} {v v2 : SX4} : (wX4 cy a v).map (·.1) = (wX4 cy a v2).map (·.1) := rfl
abbrev SX2 : Type := (Nat → Int32) × (Nat → Int32) × (Nat → Int32) × (Nat → Int32) × (Nat → Int32) × (Nat → Int32) × Int32 × Int32
def wX2 (cy : Nat → ClassId) (a : Nat → Nat) (v : SX2) : va_W := [(a 0, .inr (2, [.ref (a 1), .ref (a 3), .ref (a 5), .ref (a 7), .ref (a 9), .ref (a 11), .int v.2.2.2.2.2.2.1, .int v.2.2.2.2.2.2.2]))] ++ (wX5 cy 6 (fun i => a (i + 1)) v.1 ++ (wX5 cy 8 (fun i => a (i + 3)) v.2.1 ++ (wX5 cy 8 (fun i => a (i + 5)) v.2.2.1 ++ (wX5 cy 8 (fun i => a (i + 7)) v.2.2.2.1 ++ (wX5 cy 32 (fun i => a (i + 9)) v.2.2.2.2.1 ++ (wX5 cy 32 (fun i => a (i + 11)) v.2.2.2.2.2.1))))))
theorem fstX2 {cy : Nat → ClassId} {a : Nat → Nat} {v v2 : SX2} : (wX2 cy a v).map (·.1) = (wX2 cy a v2).map (·.1) := fst_app (a := [_]) (c := [_]) rfl (fst_app fstX5 (fst_app fstX5 (fst_app fstX5 (fst_app fstX5 (fst_app fstX5 (fstX5))))))
abbrev SX1 : Type := SX2 × (Nat → Int32) × (Nat → Int32) × (Nat → Int32) × (Nat → Int32) × Int32 × Int32 × Int32 × Int32 × Int32
def wX1 (cy : Nat → ClassId) (a : Nat → Nat) (v : SX1) : va_W := [(a 0, .inr (1, [.ref (a 1), .ref (a 14), .ref (a 16), .ref (a 18), .ref (a 20), .int v.2.2.2.2.2.1, .int v.2.2.2.2.2.2.1, .int v.2.2.2.2.2.2.2.1, .int v.2.2.2.2.2.2.2.2.1, .int v.2.2.2.2.2.2.2.2.2]))] ++ (wX2 cy (fun i => a (i + 1)) v.1 ++ (wX5 cy 6 (fun i => a (i + 14)) v.2.1 ++ (wX5 cy 6 (fun i => a (i + 16)) v.2.2.1 ++ (wX5 cy 6 (fun i => a (i + 18)) v.2.2.2.1 ++ (wX5 cy 8 (fun i => a (i + 20)) v.2.2.2.2.1)))))
theorem fstX1 {cy : Nat → ClassId} {a : Nat → Nat} {v v2 : SX1} : (wX1 cy a v).map (·.1) = (wX1 cy a v2).map (·.1) := fst_app (a := [_]) (c := [_]) rfl (fst_app fstX2 (fst_app fstX5 (fst_app fstX5 (fst_app fstX5 (fstX5)))))
abbrev SX3 : Type := (Nat → Int32) × (Nat → Int32) × (Nat → Int32) × (Nat → Int32) × (Nat → Int32) × Int32
def wX3 (cy : Nat → ClassId) (a : Nat → Nat) (v : SX3) : va_W := [(a 0, .inr (3, [.ref (a 1), .ref (a 3), .ref (a 5), .ref (a 7), .ref (a 9), .int v.2.2.2.2.2]))] ++ (wX5 cy 8 (fun i => a (i + 1)) v.1 ++ (wX5 cy 48 (fun i => a (i + 3)) v.2.1 ++ (wX5 cy 48 (fun i => a (i + 5)) v.2.2.1 ++ (wX5 cy 48 (fun i => a (i + 7)) v.2.2.2.1 ++ (wX5 cy 6 (fun i => a (i + 9)) v.2.2.2.2.1)))))
theorem fstX3 {cy : Nat → ClassId} {a : Nat → Nat} {v v2 : SX3} : (wX3 cy a v).map (·.1) = (wX3 cy a v2).map (·.1) := fst_app (a := [_]) (c := [_]) rfl (fst_app fstX5 (fst_app fstX5 (fst_app fstX5 (fst_app fstX5 (fstX5)))))
abbrev SX6 : Type := (Nat → Int32) × SX4 × Int32
def wX6 (cy : Nat → ClassId) (a : Nat → Nat) (v : SX6) : va_W := [(a 0, .inr (6, [.ref (a 1), .ref (a 3), .int v.2.2]))] ++ (wX5 cy 60 (fun i => a (i + 1)) v.1 ++ (wX4 cy (fun i => a (i + 3)) v.2.1))
theorem fstX6 {cy : Nat → ClassId} {a : Nat → Nat} {v v2 : SX6} : (wX6 cy a v).map (·.1) = (wX6 cy a v2).map (·.1) := fst_app (a := [_]) (c := [_]) rfl (fst_app fstX5 (fstX4))
theorem hd_X5_at : yX5_at.cls = RX5 ∧ yX5_at.cls ≠ "java/lang/invoke/MethodHandle" ∧ yX5_at.cls ≠ "java/lang/invoke/VarHandle" ∧ (parseMethodDescriptor yX5_at.desc).map (fun d => d.parameters.length) = some 1 := by decide +kernel
def fX5_at (N : Nat) (n0 : Nat) (v : SX5) (x1 : Int32) : Option (Int32) :=
  if x1 < 0 then
    some 0
  else
    if (nI n0) ≤ x1 then
      some 0
    else
      chk x1 n0 (
        some (v x1.toNatClampNeg)
      )
set_option maxHeartbeats 8000000 in
set_option maxRecDepth 100000 in
theorem M_X5_at (l : Launch) (D : va_G) (cy : Nat → ClassId) (N : Nat) (a : Nat → Nat) (n0 : Nat) (v : SX5) (x1 : Int32) (o : Int32) (hf : fX5_at N n0 v x1 = some o) : okM l yX5_at wsX5_at (rmz 0 0) D cy [.ref (a 0), .int x1] (wX5 cy n0 a v) (wX5 cy n0 a v) (some (.int o)) := by
  refine okM_of (own := RX5) (nme := "at") (cc := cX5_at) (maxL := 2) (ret := (some .int)) (by decide) rfl rfl rfl (Nat.le_of_ble_eq_true rfl) ?_
  intro p e s m args below meth c A F
  have i_X5 : ∀ w ∈ u_ws RX5 TX5 1, w ∈ wsX5_at := fun _ h => List.mem_cons_of_mem _ (List.mem_append_right _ h)
  unfold fX5_at at hf
  refine V.eq rfl (show lv_args 0 [.ref (a 0), .int x1] = [(0, .ref (a 0)), (1, .int x1)] from rfl) rfl ?_
  refine V_iload_n (pc := 0) F dX5_at_0 rfl 1 rfl ?_
  refine V_if_lt (pc := 1) (tgt := 22) F dX5_at_1 (by decide) (fun h1 => ?_) (fun h1 => ?_)
  · replace hf := ite_pos hf h1
    refine V_iconst (v := 0) (pc := 22) F dX5_at_22 (by decide) ?_
    obtain rfl := some_of hf
    exact V_ret F rfl rfl dX5_at_23 rfl rfl
  · replace hf := ite_neg hf h1
    refine V_iload_n (pc := 4) F dX5_at_4 rfl 1 rfl ?_
    refine V_aload_n (pc := 5) F dX5_at_5 rfl 0 rfl ?_
    refine V_get (pc := 6) F 0 5 0 i_X5 rfl (by decide) rfl (mm 1 rfl) dX5_at_6 rfl rfl ?_
    refine V_alen (v := nI n0) (pc := 9) F 1 rfl rfl dX5_at_9 ?_
    refine V_icmp_ge (pc := 10) (tgt := 22) F dX5_at_10 (by decide) (fun h2 => ?_) (fun h2 => ?_)
    · replace hf := ite_pos hf h2
      refine V_iconst (v := 0) (pc := 22) F dX5_at_22 (by decide) ?_
      obtain rfl := some_of hf
      exact V_ret F rfl rfl dX5_at_23 rfl rfl
    · replace hf := ite_neg hf h2
      refine V_aload_n (pc := 13) F dX5_at_13 rfl 0 rfl ?_
      refine V_get (pc := 14) F 0 5 0 i_X5 rfl (by decide) rfl (mm 1 rfl) dX5_at_14 rfl rfl ?_
      refine V_iload_n (pc := 17) F dX5_at_17 rfl 1 rfl ?_
      obtain ⟨c3, hf⟩ := chk_some hf
      refine V_iald (pc := 18) F 1 rfl c3 dX5_at_18 ?_
      refine V_goto (pc := 19) (tgt := 23) F dX5_at_19 (by decide) ?_
      obtain rfl := some_of hf
      exact V_ret F rfl rfl dX5_at_23 rfl rfl
theorem hd_X5_put : yX5_put.cls = RX5 ∧ yX5_put.cls ≠ "java/lang/invoke/MethodHandle" ∧ yX5_put.cls ≠ "java/lang/invoke/VarHandle" ∧ (parseMethodDescriptor yX5_put.desc).map (fun d => d.parameters.length) = some 2 := by decide +kernel
def fX5_put (N : Nat) (n0 : Nat) (v : SX5) (x1 : Int32) (x2 : Int32) : Option ((Nat → Int32)) :=
  if x1 < 0 then
    some v
  else
    if (nI n0) ≤ x1 then
      some v
    else
      chk x1 n0 (
        nmd (upd v x1.toNatClampNeg x2) fun f4 =>
        some f4
      )
set_option maxHeartbeats 8000000 in
set_option maxRecDepth 100000 in
theorem M_X5_put (l : Launch) (D : va_G) (cy : Nat → ClassId) (N : Nat) (a : Nat → Nat) (n0 : Nat) (v : SX5) (x1 : Int32) (x2 : Int32) (o : (Nat → Int32)) (hf : fX5_put N n0 v x1 x2 = some o) : okM l yX5_put wsX5_put (rmz 0 0) D cy [.ref (a 0), .int x1, .int x2] (wX5 cy n0 a v) (wX5 cy n0 a o) none := by
  refine okM_of (own := RX5) (nme := "put") (cc := cX5_put) (maxL := 3) (ret := none) (by decide) rfl rfl rfl (Nat.le_of_ble_eq_true rfl) ?_
  intro p e s m args below meth c A F
  have i_X5 : ∀ w ∈ u_ws RX5 TX5 1, w ∈ wsX5_put := fun _ h => List.mem_cons_of_mem _ (List.mem_append_right _ h)
  unfold fX5_put at hf
  refine V.eq rfl (show lv_args 0 [.ref (a 0), .int x1, .int x2] = [(0, .ref (a 0)), (1, .int x1), (2, .int x2)] from rfl) rfl ?_
  refine V_iload_n (pc := 0) F dX5_put_0 rfl 1 rfl ?_
  refine V_if_lt (pc := 1) (tgt := 20) F dX5_put_1 (by decide) (fun h1 => ?_) (fun h1 => ?_)
  · replace hf := ite_pos hf h1
    obtain rfl := some_of hf
    exact V_vret F rfl dX5_put_20 rfl
  · replace hf := ite_neg hf h1
    refine V_iload_n (pc := 4) F dX5_put_4 rfl 1 rfl ?_
    refine V_aload_n (pc := 5) F dX5_put_5 rfl 0 rfl ?_
    refine V_get (pc := 6) F 0 5 0 i_X5 rfl (by decide) rfl (mm 1 rfl) dX5_put_6 rfl rfl ?_
    refine V_alen (v := nI n0) (pc := 9) F 1 rfl rfl dX5_put_9 ?_
    refine V_icmp_ge (pc := 10) (tgt := 20) F dX5_put_10 (by decide) (fun h2 => ?_) (fun h2 => ?_)
    · replace hf := ite_pos hf h2
      obtain rfl := some_of hf
      exact V_vret F rfl dX5_put_20 rfl
    · replace hf := ite_neg hf h2
      refine V_aload_n (pc := 13) F dX5_put_13 rfl 0 rfl ?_
      refine V_get (pc := 14) F 0 5 0 i_X5 rfl (by decide) rfl (mm 1 rfl) dX5_put_14 rfl rfl ?_
      refine V_iload_n (pc := 17) F dX5_put_17 rfl 1 rfl ?_
      refine V_iload_n (pc := 18) F dX5_put_18 rfl 2 rfl ?_
      obtain ⟨c3, hf⟩ := chk_some hf
      obtain ⟨f4, e5, hf⟩ := nmd_of hf
      refine V_iast (w2 := wX5 cy n0 a f4) (pc := 19) F 1 rfl c3 e5 dX5_put_19 rfl ?_
      obtain rfl := some_of hf
      exact V_vret F rfl dX5_put_20 rfl
theorem hd_X5_fill : yX5_fill.cls = RX5 ∧ yX5_fill.cls ≠ "java/lang/invoke/MethodHandle" ∧ yX5_fill.cls ≠ "java/lang/invoke/VarHandle" ∧ (parseMethodDescriptor yX5_fill.desc).map (fun d => d.parameters.length) = some 1 := by decide +kernel
def fX5_fill_L2 (N : Nat) (n0 : Nat) (z1 : Int32) : Nat → SX5 → Int32 → Option ((Nat → Int32))
  | 0, _, _ => none
  | n + 1, v, z2 =>
    if (nI n0) ≤ z2 then
      some v
    else
      chk z2 n0 (
        nmd (upd v z2.toNatClampNeg z1) fun f3 =>
        fX5_fill_L2 N n0 z1 n f3 (z2 + 1)
      )
def fX5_fill (N : Nat) (n0 : Nat) (v : SX5) (x1 : Int32) : Option ((Nat → Int32)) :=
  (fX5_fill_L2 N n0 x1 N v 0).bind fun u5 =>
    some u5
set_option maxHeartbeats 8000000 in
set_option maxRecDepth 100000 in
theorem M_X5_fill (l : Launch) (D : va_G) (cy : Nat → ClassId) (N : Nat) (a : Nat → Nat) (n0 : Nat) (v : SX5) (x1 : Int32) (o : (Nat → Int32)) (hf : fX5_fill N n0 v x1 = some o) : okM l yX5_fill wsX5_fill (rmz 0 0) D cy [.ref (a 0), .int x1] (wX5 cy n0 a v) (wX5 cy n0 a o) none := by
  refine okM_of (own := RX5) (nme := "fill") (cc := cX5_fill) (maxL := 3) (ret := none) (by decide) rfl rfl rfl (Nat.le_of_ble_eq_true rfl) ?_
  intro p e s m args below meth c A F
  have i_X5 : ∀ w ∈ u_ws RX5 TX5 1, w ∈ wsX5_fill := fun _ h => List.mem_cons_of_mem _ (List.mem_append_right _ h)
  have K2 : ∀ (n : Nat) (n0 : Nat) (z1 : Int32) (v : SX5) (z2 : Int32) (u : (Nat → Int32)), fX5_fill_L2 N n0 z1 n v z2 = some u → V p l e (rmz 0 0) s m args below meth c 3 D A 0 0 (MQ below (ok_Q D (wX5 cy n0 a o) none A) args s 0 0 A) (wX5 cy n0 a u) [] [] 24 → V p l e (rmz 0 0) s m args below meth c 3 D A 0 0 (MQ below (ok_Q D (wX5 cy n0 a o) none A) args s 0 0 A) (wX5 cy n0 a v) [(0, .ref (a 0)), (1, .int z1), (2, .int z2)] [] 2 := by
    intro n
    induction n with
    | zero =>
      intro n0 z1 v z2 u hf hk
      exact nomatch (show (none : Option ((Nat → Int32))) = some u from hf)
    | succ n ih =>
      intro n0 z1 v z2 u hf hk
      rw [fX5_fill_L2] at hf
      refine V_iload_n (pc := 2) F dX5_fill_2 rfl 2 rfl ?_
      refine V_aload_n (pc := 3) F dX5_fill_3 rfl 0 rfl ?_
      refine V_get (pc := 4) F 0 5 0 i_X5 rfl (by decide) rfl (mm 1 rfl) dX5_fill_4 rfl rfl ?_
      refine V_alen (v := nI n0) (pc := 7) F 1 rfl rfl dX5_fill_7 ?_
      refine V_icmp_ge (pc := 8) (tgt := 24) F dX5_fill_8 (by decide) (fun h1 => ?_) (fun h1 => ?_)
      · replace hf := ite_pos hf h1
        obtain rfl := some_of hf
        exact V.sub [] rfl hk
      · replace hf := ite_neg hf h1
        refine V_aload_n (pc := 11) F dX5_fill_11 rfl 0 rfl ?_
        refine V_get (pc := 12) F 0 5 0 i_X5 rfl (by decide) rfl (mm 1 rfl) dX5_fill_12 rfl rfl ?_
        refine V_iload_n (pc := 15) F dX5_fill_15 rfl 2 rfl ?_
        refine V_iload_n (pc := 16) F dX5_fill_16 rfl 1 rfl ?_
        obtain ⟨c2, hf⟩ := chk_some hf
        obtain ⟨f3, e4, hf⟩ := nmd_of hf
        refine V_iast (w2 := wX5 cy n0 a f3) (pc := 17) F 1 rfl c2 e4 dX5_fill_17 rfl ?_
        refine V_iinc (v := (z2 + 1)) (L2 := [(2, .int (z2 + 1)), (0, .ref (a 0)), (1, .int z1)]) (pc := 18) F dX5_fill_18 2 rfl rfl (by decide) rfl ?_
        refine V_goto (pc := 21) (tgt := 2) F dX5_fill_21 (by decide) ?_
        refine V.sub [1, 2, 0] rfl ?_
        exact ih n0 z1 f3 (z2 + 1) _ hf hk
  unfold fX5_fill at hf
  refine V.eq rfl (show lv_args 0 [.ref (a 0), .int x1] = [(0, .ref (a 0)), (1, .int x1)] from rfl) rfl ?_
  refine V_iconst (v := 0) (pc := 0) F dX5_fill_0 (by decide) ?_
  refine V_istore_n (L2 := [(2, .int 0), (0, .ref (a 0)), (1, .int x1)]) (pc := 1) F dX5_fill_1 rfl (by decide) rfl ?_
  refine V.sub [1, 2, 0] rfl ?_
  obtain ⟨u5, g6, hf⟩ := bind_of hf
  refine K2 N n0 x1 v 0 u5 g6 ?_
  obtain rfl := some_of hf
  exact V_vret F rfl dX5_fill_24 rfl
theorem hd_X5_copyFrom : yX5_copyFrom.cls = RX5 ∧ yX5_copyFrom.cls ≠ "java/lang/invoke/MethodHandle" ∧ yX5_copyFrom.cls ≠ "java/lang/invoke/VarHandle" ∧ (parseMethodDescriptor yX5_copyFrom.desc).map (fun d => d.parameters.length) = some 1 := by decide +kernel
def fX5_copyFrom_L2 (N : Nat) (n0 : Nat) (n1 : Nat) (v1 : SX5) : Nat → SX5 → Int32 → Option ((Nat → Int32))
  | 0, _, _ => none
  | n + 1, v, z2 =>
    if (nI n0) ≤ z2 then
      some v
    else
      (fX5_at N n1 v1 z2).bind fun r2 =>
        chk z2 n0 (
          nmd (upd v z2.toNatClampNeg r2) fun f5 =>
          fX5_copyFrom_L2 N n0 n1 v1 n f5 (z2 + 1)
        )
def fX5_copyFrom (N : Nat) (n0 : Nat) (v : SX5) (n1 : Nat) (v1 : SX5) : Option ((Nat → Int32)) :=
  (fX5_copyFrom_L2 N n0 n1 v1 N v 0).bind fun u7 =>
    some u7
set_option maxHeartbeats 8000000 in
set_option maxRecDepth 100000 in
theorem M_X5_copyFrom (l : Launch) (D : va_G) (cy : Nat → ClassId) (N : Nat) (a : Nat → Nat) (a1 : Nat → Nat) (n0 : Nat) (v : SX5) (n1 : Nat) (v1 : SX5) (o : (Nat → Int32)) (hf : fX5_copyFrom N n0 v n1 v1 = some o) : okM l yX5_copyFrom wsX5_copyFrom (rmz 1 21) D cy [.ref (a 0), .ref (a1 0)] (wX5 cy n0 a v ++ wX5 cy n1 a1 v1) (wX5 cy n0 a o ++ wX5 cy n1 a1 v1) none := by
  refine okM_of (own := RX5) (nme := "copyFrom") (cc := cX5_copyFrom) (maxL := 3) (ret := none) (by decide) rfl rfl rfl (Nat.le_of_ble_eq_true rfl) ?_
  intro p e s m args below meth c A F
  have i_X5 : ∀ w ∈ u_ws RX5 TX5 1, w ∈ wsX5_copyFrom := fun _ h => List.mem_cons_of_mem _ (List.mem_append_right _ h)
  have K2 : ∀ (n : Nat) (n0 : Nat) (n1 : Nat) (v1 : SX5) (v : SX5) (z2 : Int32) (u : (Nat → Int32)), fX5_copyFrom_L2 N n0 n1 v1 n v z2 = some u → V p l e (rmz 1 21) s m args below meth c 3 D A 0 0 (MQ below (ok_Q D (wX5 cy n0 a o ++ wX5 cy n1 a1 v1) none A) args s 0 0 A) (wX5 cy n0 a u ++ wX5 cy n1 a1 v1) [] [] 28 → V p l e (rmz 1 21) s m args below meth c 3 D A 0 0 (MQ below (ok_Q D (wX5 cy n0 a o ++ wX5 cy n1 a1 v1) none A) args s 0 0 A) (wX5 cy n0 a v ++ wX5 cy n1 a1 v1) [(0, .ref (a 0)), (1, .ref (a1 0)), (2, .int z2)] [] 2 := by
    intro n
    induction n with
    | zero =>
      intro n0 n1 v1 v z2 u hf hk
      exact nomatch (show (none : Option ((Nat → Int32))) = some u from hf)
    | succ n ih =>
      intro n0 n1 v1 v z2 u hf hk
      rw [fX5_copyFrom_L2] at hf
      refine V_iload_n (pc := 2) F dX5_copyFrom_2 rfl 2 rfl ?_
      refine V_aload_n (pc := 3) F dX5_copyFrom_3 rfl 0 rfl ?_
      refine V_get (pc := 4) F 0 5 0 i_X5 rfl (by decide) rfl (mm 1 rfl) dX5_copyFrom_4 rfl rfl ?_
      refine V_alen (v := nI n0) (pc := 7) F 1 rfl rfl dX5_copyFrom_7 ?_
      refine V_icmp_ge (pc := 8) (tgt := 28) F dX5_copyFrom_8 (by decide) (fun h1 => ?_) (fun h1 => ?_)
      · replace hf := ite_pos hf h1
        obtain rfl := some_of hf
        exact V.sub [] rfl hk
      · replace hf := ite_neg hf h1
        refine V_aload_n (pc := 11) F dX5_copyFrom_11 rfl 0 rfl ?_
        refine V_get (pc := 12) F 0 5 0 i_X5 rfl (by decide) rfl (mm 1 rfl) dX5_copyFrom_12 rfl rfl ?_
        refine V_iload_n (pc := 15) F dX5_copyFrom_15 rfl 2 rfl ?_
        refine V_aload_n (pc := 16) F dX5_copyFrom_16 rfl 1 rfl ?_
        refine V_iload_n (pc := 17) F dX5_copyFrom_17 rfl 2 rfl ?_
        obtain ⟨r2, g3, hf⟩ := bind_of hf
        refine V_V (w2 := wX5 cy n0 a v ++ wX5 cy n1 a1 v1) (rest := [.int z2, .ref (a 1)]) (st2 := [.int r2, .int z2, .ref (a 1)]) (pc := 18) F 5 (M_X5_at l D cy N a1 n1 v1 z2 r2 g3) (cwV 1 F.ts gX5_copyFrom_X5_at rfl rfl rfl hd_X5_at ⟨Nat.le_of_ble_eq_true rfl, Nat.le_of_ble_eq_true rfl⟩) rfl dX5_copyFrom_18 (Fit.right Fit.whole) rfl rfl rfl (Nat.le_of_ble_eq_true rfl) (Nat.zero_le _) (Nat.zero_le _) rfl rfl rfl ?_
        obtain ⟨c4, hf⟩ := chk_some hf
        obtain ⟨f5, e6, hf⟩ := nmd_of hf
        refine V_iast (w2 := wX5 cy n0 a f5 ++ wX5 cy n1 a1 v1) (pc := 21) F 1 rfl c4 e6 dX5_copyFrom_21 rfl ?_
        refine V_iinc (v := (z2 + 1)) (L2 := [(2, .int (z2 + 1)), (0, .ref (a 0)), (1, .ref (a1 0))]) (pc := 22) F dX5_copyFrom_22 2 rfl rfl (by decide) rfl ?_
        refine V_goto (pc := 25) (tgt := 2) F dX5_copyFrom_25 (by decide) ?_
        refine V.sub [1, 2, 0] rfl ?_
        exact ih n0 n1 v1 f5 (z2 + 1) _ hf hk
  unfold fX5_copyFrom at hf
  refine V.eq rfl (show lv_args 0 [.ref (a 0), .ref (a1 0)] = [(0, .ref (a 0)), (1, .ref (a1 0))] from rfl) rfl ?_
  refine V_iconst (v := 0) (pc := 0) F dX5_copyFrom_0 (by decide) ?_
  refine V_istore_n (L2 := [(2, .int 0), (0, .ref (a 0)), (1, .ref (a1 0))]) (pc := 1) F dX5_copyFrom_1 rfl (by decide) rfl ?_
  refine V.sub [1, 2, 0] rfl ?_
  obtain ⟨u7, g8, hf⟩ := bind_of hf
  refine K2 N n0 n1 v1 v 0 u7 g8 ?_
  obtain rfl := some_of hf
  exact V_vret F rfl dX5_copyFrom_28 rfl
/-! the rows: what they answer, said once -/
def rowAt (n : Nat) (f : Nat → Int32) (i : Int32) : Int32 := if i < 0 ∨ n ≤ i.toNatClampNeg then 0 else f i.toNatClampNeg
def rowPut (n : Nat) (f : Nat → Int32) (i x : Int32) : Nat → Int32 := if i < 0 ∨ n ≤ i.toNatClampNeg then f else upd f i.toNatClampNeg x
theorem ofNat_le_iff {n : Nat} (hn : n < 2 ^ 31) {i : Int32} (h : ¬ i < 0) : nI n ≤ i ↔ n ≤ i.toNatClampNeg := by
  obtain ⟨j, hj, rfl⟩ := nI_of h
  rw [nI_clamp hj]
  exact nI_leI hn hj
theorem X5_at_eq (N : Nat) {n : Nat} (hn : n < 2 ^ 31) (f : Nat → Int32) (i : Int32) : fX5_at N n f i = some (rowAt n f i) := by
  unfold fX5_at rowAt chk
  by_cases h : i < 0
  · rw [if_pos h, if_pos (Or.inl h)]
  · rw [if_neg h]
    by_cases h2 : n ≤ i.toNatClampNeg
    · rw [if_pos ((ofNat_le_iff hn h).mpr h2), if_pos (Or.inr h2)]
    · rw [if_neg (fun q => h2 ((ofNat_le_iff hn h).mp q)), if_neg (fun q => q.elim h h2), if_neg (fun q => q.elim h h2)]
theorem X5_put_eq (N : Nat) {n : Nat} (hn : n < 2 ^ 31) (f : Nat → Int32) (i x : Int32) : fX5_put N n f i x = some (rowPut n f i x) := by
  unfold fX5_put rowPut chk nmd
  by_cases h : i < 0
  · rw [if_pos h, if_pos (Or.inl h)]
  · rw [if_neg h]
    by_cases h2 : n ≤ i.toNatClampNeg
    · rw [if_pos ((ofNat_le_iff hn h).mpr h2), if_pos (Or.inr h2)]
    · rw [if_neg (fun q => h2 ((ofNat_le_iff hn h).mp q)), if_neg (fun q => q.elim h h2), if_neg (fun q => q.elim h h2)]
/-- a row filled from i on -/
def fillF (f g : Nat → Int32) (n i : Nat) : Nat → Int32 := fun j => if i ≤ j ∧ j < n then g j else f j
theorem fillF_step (f g : Nat → Int32) {n i : Nat} (h : i < n) : fillF (upd f i (g i)) g n (i + 1) = fillF f g n i := by
  funext j
  unfold fillF upd
  by_cases h1 : j = i
  · subst h1
    rw [if_neg (by omega), if_pos rfl, if_pos (by omega)]
  · by_cases h2 : i + 1 ≤ j ∧ j < n
    · rw [if_pos h2, if_pos (by omega)]
    · rw [if_neg h2, if_neg h1, if_neg (by omega)]
theorem fillF_end (f g : Nat → Int32) {n i : Nat} (h : n ≤ i) : fillF f g n i = f := by
  funext j
  unfold fillF
  rw [if_neg (by omega)]
theorem X5_fill_L (N : Nat) {n : Nat} (hn : n < 2 ^ 31) (x : Int32) : ∀ (k i : Nat) (f : Nat → Int32), i ≤ n → n < i + k → fX5_fill_L2 N n x k f (nI i) = some (fillF f (fun _ => x) n i) := by
  intro k
  induction k with
  | zero => intro i f h1 h2; omega
  | succ k ih =>
    intro i f h1 h2
    rw [fX5_fill_L2]
    have hi : i < 2 ^ 31 := by omega
    by_cases h : n ≤ i
    · rw [if_pos ((nI_leI hn hi).mpr h), fillF_end _ _ h]
    · rw [if_neg (fun q => h ((nI_leI hn hi).mp q))]
      unfold chk nmd
      rw [if_neg (fun q => by
        rcases q with q | q
        · exact nI_pos hi q
        · rw [nI_clamp hi] at q; exact h q), nI_clamp hi, nI_1]
      exact (ih (i + 1) _ (by omega) (by omega)).trans (congrArg some (fillF_step f (fun _ => x) (by omega)))
theorem X5_copyFrom_L (N : Nat) {n : Nat} (hn : n < 2 ^ 31) (g : Nat → Int32) : ∀ (k i : Nat) (f : Nat → Int32), i ≤ n → n < i + k → fX5_copyFrom_L2 N n n g k f (nI i) = some (fillF f g n i) := by
  intro k
  induction k with
  | zero => intro i f h1 h2; omega
  | succ k ih =>
    intro i f h1 h2
    rw [fX5_copyFrom_L2]
    have hi : i < 2 ^ 31 := by omega
    by_cases h : n ≤ i
    · rw [if_pos ((nI_leI hn hi).mpr h), fillF_end _ _ h]
    · rw [if_neg (fun q => h ((nI_leI hn hi).mp q)), X5_at_eq N hn]
      have hc : ¬ (nI i < 0 ∨ n ≤ (nI i).toNatClampNeg) := fun q => by
        rcases q with q | q
        · exact nI_pos hi q
        · rw [nI_clamp hi] at q; exact h q
      show chk (nI i) n _ = _
      unfold chk rowAt nmd
      rw [if_neg hc, if_neg hc, nI_clamp hi, nI_1]
      exact (ih (i + 1) _ (by omega) (by omega)).trans (congrArg some (fillF_step f g (by omega)))
theorem okM_to {l : Launch} {y : MethodName} {ws : List Cond} {rm : Room} {D : va_G} {cy : Nat → ClassId} {as : List Value} {w w1 w2 : va_W} {out : Option Value} (h : okM l y ws rm D cy as w w1 out) (hw : ∀ H : Heap, va_P D vwCl w1 H → va_P D vwCl w2 H) : okM l y ws rm D cy as w w2 out := fun sz =>
  MetFree.mono (h sz) (fun _ _ h => h) (fun _ _ _ _ _ h => h) (fun _ _ _ _ _ h => ⟨⟨⟨h.1.1.1, hw _ h.1.1.2⟩, h.1.2⟩, h.2⟩)
theorem cell_congr {D : va_G} {c : ClassId} {t n : Nat} {f g : Nat → Int32} {H : Heap} (h : ∀ j, j < n → f j = g j) (hq : va_at D vwCl (t, .inl (c, n, .inl f)) H) : va_at D vwCl (t, .inl (c, n, .inl g)) H := by
  have e : vp_cell c (n, .inl f) = vp_cell c (n, .inl g) := by
    rw [vp_cell_i, vp_cell_i]
    unfold arrV
    congr 2
    funext j
    exact congrArg Value.int (h j.val j.isLt)
  show H[t]? = some (vp_cell c (n, .inl g))
  rw [← e]
  exact hq
theorem row_congr {D : va_G} {cy : Nat → ClassId} {n : Nat} {a : Nat → Nat} {f g : Nat → Int32} {H : Heap} (h : ∀ j, j < n → f j = g j) (hP : va_P D vwCl (wX5 cy n a f) H) : va_P D vwCl (wX5 cy n a g) H := by
  intro k q hk
  match k, hk with
  | 0, hk => exact hP 0 q hk
  | 1, hk =>
    cases hk
    exact cell_congr h (hP 1 _ rfl)
theorem va_P_app {D : va_G} {w1 w2 : va_W} {H : Heap} (h : va_P D vwCl (w1 ++ w2) H) : va_P D vwCl w1 H ∧ va_P D vwCl w2 H := by
  refine ⟨fun k q hk => ?_, fun k q hk => ?_⟩
  · exact h k q (by rw [List.getElem?_append_left (List.getElem?_eq_some_iff.mp hk).1]; exact hk)
  · exact h (w1.length + k) q (by rw [List.getElem?_append_right (by omega)]; rw [show w1.length + k - w1.length = k by omega]; exact hk)
theorem R_at (l : Launch) (D : va_G) (cy : Nat → ClassId) (a : Nat → Nat) (n : Nat) (f : Nat → Int32) (i : Int32) (hn : n < 2 ^ 31) : okM l yX5_at wsX5_at (rmz 0 0) D cy [.ref (a 0), .int i] (wX5 cy n a f) (wX5 cy n a f) (some (.int (rowAt n f i))) := M_X5_at l D cy 0 a n f i _ (X5_at_eq 0 hn f i)
theorem R_put (l : Launch) (D : va_G) (cy : Nat → ClassId) (a : Nat → Nat) (n : Nat) (f : Nat → Int32) (i x : Int32) (hn : n < 2 ^ 31) : okM l yX5_put wsX5_put (rmz 0 0) D cy [.ref (a 0), .int i, .int x] (wX5 cy n a f) (wX5 cy n a (rowPut n f i x)) none := M_X5_put l D cy 0 a n f i x _ (X5_put_eq 0 hn f i x)
theorem R_fill (l : Launch) (D : va_G) (cy : Nat → ClassId) (a : Nat → Nat) (n : Nat) (f : Nat → Int32) (x : Int32) (hn : n < 2 ^ 31) : okM l yX5_fill wsX5_fill (rmz 0 0) D cy [.ref (a 0), .int x] (wX5 cy n a f) (wX5 cy n a (fun _ => x)) none :=
  okM_to (M_X5_fill l D cy (n + 1) a n f x (fillF f (fun _ => x) n 0) (by
    unfold fX5_fill
    rw [show (0 : Int32) = nI 0 from rfl, X5_fill_L (n + 1) hn x (n + 1) 0 f (by omega) (by omega)]
    rfl)) (fun H h => row_congr (fun j hj => by unfold fillF; rw [if_pos ⟨Nat.zero_le _, hj⟩]) h)
theorem R_copyFrom (l : Launch) (D : va_G) (cy : Nat → ClassId) (a a1 : Nat → Nat) (n : Nat) (f g : Nat → Int32) (hn : n < 2 ^ 31) : okM l yX5_copyFrom wsX5_copyFrom (rmz 1 21) D cy [.ref (a 0), .ref (a1 0)] (wX5 cy n a f ++ wX5 cy n a1 g) (wX5 cy n a g ++ wX5 cy n a1 g) none :=
  okM_to (M_X5_copyFrom l D cy (n + 1) a a1 n f n g (fillF f g n 0) (by
    unfold fX5_copyFrom
    rw [show (0 : Int32) = nI 0 from rfl, X5_copyFrom_L (n + 1) hn g (n + 1) 0 f (by omega) (by omega)]
    rfl)) (fun H h => (row_congr (fun j hj => by unfold fillF; rw [if_pos ⟨Nat.zero_le _, hj⟩]) (va_P_app h).1).app (va_P_app h).2)
