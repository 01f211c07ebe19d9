/-! the law's static methods, each where the class returns and where it throws -/
theorem wsV_good {own C : String} {idx : Nat} {y : MethodName} {ws : List Cond} (h : ws.all goodWord = true) : (wsV own idx C y ws).all goodWord = true := by
  unfold wsV
  rw [List.all_append, h]
  rfl
theorem wW_mem {w : Cond} {y : MethodName} {cc : ByteArray} {maxL : Nat} {hh : List (Nat × Nat × Nat × Nat)} (h : w ∈ lw_tbl) (g : goodWord w = true) : w ∈ wW y cc maxL hh := List.mem_cons_of_mem _ (List.mem_filter.mpr ⟨h, g⟩)
theorem gW_clash : GoodIn (wW yL_clash cL_clash 5 [(0, 10, 13, 13)]) (wsV RL 7 RX7 yX7_clash wsX7_clash) := wW_in (wsV_in (show Cond.methodLink RL 7 yX7_clash ∈ lw_tbl from wIn_r6 _ (List.mem_of_getElem? (i := 7) rfl)) (show Cond.instanceMethod yX7_clash ∈ lw_tbl from wIn_r6 _ (List.mem_of_getElem? (i := 8) rfl)) (show Cond.selects RX7 yX7_clash yX7_clash ∈ lw_tbl from wIn_r6 _ (List.mem_of_getElem? (i := 9) rfl)) (show Cond.initialized RX7 ∈ lw_tbl from wIn_r1 _ (List.mem_of_getElem? (i := 2) rfl)) im_wsX7_clash) (wsV_good gw_wsX7_clash)
set_option maxHeartbeats 8000000 in
theorem W_clash (l : Launch) (D : va_G) (cy : Nat → ClassId) (N : Nat) (a : Nat → Nat) (ho : Nat) (f : Nat → Int64) (v : SX7) (x1 : Int32) (x2 : Int32) (r : Int32 × SX7) (hf : fX7_clash N v x1 x2 = some (.inr r)) : okW l yL_clash (wW yL_clash cL_clash 5 [(0, 10, 13, 13)]) (rmx 13 540) D cy [.ref (a 0), .int x1, .int x2, .ref ho] (wX7 cy a v ++ [oc cy ho f]) (wX7 cy a r.2 ++ [oc cy ho (vp_updL f 0 r.1.toInt64)]) (some (.int 0)) := by
  refine okW_of (own := RL) (nme := "clash") (cc := cL_clash) (maxL := 5) (ret := some .int) (hh := [(0, 10, 13, 13)]) (by decide) rfl rfl rfl (Nat.le_of_ble_eq_true rfl) ?_
  intro p e s m args below meth c A F G
  refine V.eq rfl (show lv_args 0 [.ref (a 0), .int x1, .int x2, .ref ho] = [(0, .ref (a 0)), (1, .int x1), (2, .int x2), (3, .ref ho)] from rfl) rfl ?_
  refine V_aload_n (pc := 0) F dL_clash_0 rfl 3 rfl ?_
  refine V_iconst (pc := 1) (v := 0) F dL_clash_1 rfl ?_
  refine V_aload_n (pc := 2) F dL_clash_2 rfl 0 rfl ?_
  refine V_iload_n (pc := 3) F dL_clash_3 rfl 1 rfl ?_
  refine V_iload_n (pc := 4) F dL_clash_4 rfl 2 rfl ?_
  refine V_V (w2 := wX7 cy a r.2 ++ [oc cy ho f]) (rest := [.int 0, .ref ho]) (st2 := [.int r.1, .int 0, .ref ho]) (pc := 5) F 7 (M_X7_clash l D cy N a v x1 x2 r hf) (cwV 2 F.ts gW_clash rfl rfl rfl hd_X7_clash ⟨Nat.le_of_ble_eq_true rfl, Nat.le_of_ble_eq_true rfl⟩) rfl dL_clash_5 (Fit.left Fit.whole) fstX7 rfl rfl (Nat.le_of_ble_eq_true rfl) (Nat.zero_le _) (Nat.zero_le _) rfl rfl rfl ?_
  refine V_i2l (pc := 8) F dL_clash_8 ?_
  refine V_last (f2 := vp_updL f 0 r.1.toInt64) (w2 := wX7 cy a r.2 ++ [oc cy ho (vp_updL f 0 r.1.toInt64)]) (pc := 9) F ((wX7 cy a r.2).length + 0) (at_right (k := 0) rfl) (by unfold vp_in; decide) rfl dL_clash_9 (set_last _ _ _) ?_
  refine V_goto (pc := 10) (tgt := 17) F dL_clash_10 (by decide) ?_
  refine V_iconst (pc := 17) (v := 0) F dL_clash_17 rfl ?_
  refine V_widen (k := 1) (n := 6) (Nat.le_of_ble_eq_true rfl) (Nat.le_of_ble_eq_true rfl) ?_
  exact V_ret (pc := 18) F rfl rfl dL_clash_18 rfl rfl
set_option maxHeartbeats 8000000 in
theorem WT_clash_0 (l : Launch) (hfl : l.stackTraces = false) (D : va_G) (cy : Nat → ClassId) (N : Nat) (a : Nat → Nat) (ho : Nat) (f : Nat → Int64) (v : SX7) (x1 : Int32) (x2 : Int32) (E : String) (v2 : SX7) (hf : fX7_clash N v x1 x2 = some (.inl (E, v2))) (hE : E = IAE) : okW l yL_clash (wW yL_clash cL_clash 5 [(0, 10, 13, 13)]) (rmx 13 540) D cy [.ref (a 0), .int x1, .int x2, .ref ho] (wX7 cy a v ++ [oc cy ho f]) (wX7 cy a v2 ++ [oc cy ho f]) (some (.int 1)) := by
  subst hE
  refine okW_of (own := RL) (nme := "clash") (cc := cL_clash) (maxL := 5) (ret := some .int) (hh := [(0, 10, 13, 13)]) (by decide) rfl rfl rfl (Nat.le_of_ble_eq_true rfl) ?_
  intro p e s m args below meth c A F G
  refine V.eq rfl (show lv_args 0 [.ref (a 0), .int x1, .int x2, .ref ho] = [(0, .ref (a 0)), (1, .int x1), (2, .int x2), (3, .ref ho)] from rfl) rfl ?_
  refine V_aload_n (pc := 0) F dL_clash_0 rfl 3 rfl ?_
  refine V_iconst (pc := 1) (v := 0) F dL_clash_1 rfl ?_
  refine V_aload_n (pc := 2) F dL_clash_2 rfl 0 rfl ?_
  refine V_iload_n (pc := 3) F dL_clash_3 rfl 1 rfl ?_
  refine V_iload_n (pc := 4) F dL_clash_4 rfl 2 rfl ?_
  refine V_caught (hh := [(0, 10, 13, 13)]) (w2 := wX7 cy a v2 ++ [oc cy ho f]) (rest := [.int 0, .ref ho]) (pc := 5) F G 7 (T_X7_clash l hfl D cy N a v x1 x2 (IAE, v2) hf) (cwV 2 F.ts gW_clash rfl rfl rfl hd_X7_clash ⟨Nat.le_of_ble_eq_true rfl, Nat.le_of_ble_eq_true rfl⟩) rfl dL_clash_5 (Fit.left Fit.whole) fstX7 rfl rfl (Nat.le_of_ble_eq_true rfl) (Nat.le_of_ble_eq_true rfl) (Nat.le_of_ble_eq_true rfl) rfl rfl [] ⟨0, 10, 13, 13⟩ [] rfl (fun _ h => absurd h List.not_mem_nil) (by decide) (by decide) (wW_mem (show Cond.classLink RL 13 "java/lang/IllegalArgumentException" ∈ lw_tbl from wIn_r6 _ (List.mem_of_getElem? (i := 6) rfl)) rfl) G.2.2.1.1.1 (fun q => ?_)
  refine V_astore (L2 := [(4, .ref q), (0, .ref (a 0)), (1, .int x1), (2, .int x2), (3, .ref ho)]) (pc := 13) F dL_clash_13 (by decide) rfl ?_
  refine V_iconst (pc := 15) (v := 1) F dL_clash_15 rfl ?_
  exact V_ret (pc := 16) F rfl rfl dL_clash_16 rfl rfl
theorem gW_addPhase : GoodIn (wW yL_addPhase cL_addPhase 5 [(0, 10, 13, 13), (0, 10, 17, 18)]) (wsV RL 15 RX7 yX7_addPhase wsX7_addPhase) := wW_in (wsV_in (show Cond.methodLink RL 15 yX7_addPhase ∈ lw_tbl from wIn_r9 _ (List.mem_of_getElem? (i := 16) rfl)) (show Cond.instanceMethod yX7_addPhase ∈ lw_tbl from wIn_r9 _ (List.mem_of_getElem? (i := 17) rfl)) (show Cond.selects RX7 yX7_addPhase yX7_addPhase ∈ lw_tbl from wIn_r9 _ (List.mem_of_getElem? (i := 18) rfl)) (show Cond.initialized RX7 ∈ lw_tbl from wIn_r1 _ (List.mem_of_getElem? (i := 2) rfl)) im_wsX7_addPhase) (wsV_good gw_wsX7_addPhase)
set_option maxHeartbeats 8000000 in
theorem W_addPhase (l : Launch) (D : va_G) (cy : Nat → ClassId) (N : Nat) (a : Nat → Nat) (ho : Nat) (f : Nat → Int64) (v : SX7) (x1 : Int32) (x2 : Int32) (r : Int32 × SX7) (hf : fX7_addPhase N v x1 x2 = some (.inr r)) : okW l yL_addPhase (wW yL_addPhase cL_addPhase 5 [(0, 10, 13, 13), (0, 10, 17, 18)]) (rmx 13 540) D cy [.ref (a 0), .int x1, .int x2, .ref ho] (wX7 cy a v ++ [oc cy ho f]) (wX7 cy a r.2 ++ [oc cy ho (vp_updL f 0 r.1.toInt64)]) (some (.int 0)) := by
  refine okW_of (own := RL) (nme := "addPhase") (cc := cL_addPhase) (maxL := 5) (ret := some .int) (hh := [(0, 10, 13, 13), (0, 10, 17, 18)]) (by decide) rfl rfl rfl (Nat.le_of_ble_eq_true rfl) ?_
  intro p e s m args below meth c A F G
  refine V.eq rfl (show lv_args 0 [.ref (a 0), .int x1, .int x2, .ref ho] = [(0, .ref (a 0)), (1, .int x1), (2, .int x2), (3, .ref ho)] from rfl) rfl ?_
  refine V_aload_n (pc := 0) F dL_addPhase_0 rfl 3 rfl ?_
  refine V_iconst (pc := 1) (v := 0) F dL_addPhase_1 rfl ?_
  refine V_aload_n (pc := 2) F dL_addPhase_2 rfl 0 rfl ?_
  refine V_iload_n (pc := 3) F dL_addPhase_3 rfl 1 rfl ?_
  refine V_iload_n (pc := 4) F dL_addPhase_4 rfl 2 rfl ?_
  refine V_V (w2 := wX7 cy a r.2 ++ [oc cy ho f]) (rest := [.int 0, .ref ho]) (st2 := [.int r.1, .int 0, .ref ho]) (pc := 5) F 7 (M_X7_addPhase l D cy N a v x1 x2 r hf) (cwV 2 F.ts gW_addPhase rfl rfl rfl hd_X7_addPhase ⟨Nat.le_of_ble_eq_true rfl, Nat.le_of_ble_eq_true rfl⟩) rfl dL_addPhase_5 (Fit.left Fit.whole) fstX7 rfl rfl (Nat.le_of_ble_eq_true rfl) (Nat.zero_le _) (Nat.zero_le _) rfl rfl rfl ?_
  refine V_i2l (pc := 8) F dL_addPhase_8 ?_
  refine V_last (f2 := vp_updL f 0 r.1.toInt64) (w2 := wX7 cy a r.2 ++ [oc cy ho (vp_updL f 0 r.1.toInt64)]) (pc := 9) F ((wX7 cy a r.2).length + 0) (at_right (k := 0) rfl) (by unfold vp_in; decide) rfl dL_addPhase_9 (set_last _ _ _) ?_
  refine V_goto (pc := 10) (tgt := 21) F dL_addPhase_10 (by decide) ?_
  refine V_iconst (pc := 21) (v := 0) F dL_addPhase_21 rfl ?_
  refine V_widen (k := 1) (n := 6) (Nat.le_of_ble_eq_true rfl) (Nat.le_of_ble_eq_true rfl) ?_
  exact V_ret (pc := 22) F rfl rfl dL_addPhase_22 rfl rfl
set_option maxHeartbeats 8000000 in
theorem WT_addPhase_0 (l : Launch) (hfl : l.stackTraces = false) (D : va_G) (cy : Nat → ClassId) (N : Nat) (a : Nat → Nat) (ho : Nat) (f : Nat → Int64) (v : SX7) (x1 : Int32) (x2 : Int32) (E : String) (v2 : SX7) (hf : fX7_addPhase N v x1 x2 = some (.inl (E, v2))) (hE : E = IAE) : okW l yL_addPhase (wW yL_addPhase cL_addPhase 5 [(0, 10, 13, 13), (0, 10, 17, 18)]) (rmx 13 540) D cy [.ref (a 0), .int x1, .int x2, .ref ho] (wX7 cy a v ++ [oc cy ho f]) (wX7 cy a v2 ++ [oc cy ho f]) (some (.int 1)) := by
  subst hE
  refine okW_of (own := RL) (nme := "addPhase") (cc := cL_addPhase) (maxL := 5) (ret := some .int) (hh := [(0, 10, 13, 13), (0, 10, 17, 18)]) (by decide) rfl rfl rfl (Nat.le_of_ble_eq_true rfl) ?_
  intro p e s m args below meth c A F G
  refine V.eq rfl (show lv_args 0 [.ref (a 0), .int x1, .int x2, .ref ho] = [(0, .ref (a 0)), (1, .int x1), (2, .int x2), (3, .ref ho)] from rfl) rfl ?_
  refine V_aload_n (pc := 0) F dL_addPhase_0 rfl 3 rfl ?_
  refine V_iconst (pc := 1) (v := 0) F dL_addPhase_1 rfl ?_
  refine V_aload_n (pc := 2) F dL_addPhase_2 rfl 0 rfl ?_
  refine V_iload_n (pc := 3) F dL_addPhase_3 rfl 1 rfl ?_
  refine V_iload_n (pc := 4) F dL_addPhase_4 rfl 2 rfl ?_
  refine V_caught (hh := [(0, 10, 13, 13), (0, 10, 17, 18)]) (w2 := wX7 cy a v2 ++ [oc cy ho f]) (rest := [.int 0, .ref ho]) (pc := 5) F G 7 (T_X7_addPhase l hfl D cy N a v x1 x2 (IAE, v2) hf) (cwV 2 F.ts gW_addPhase rfl rfl rfl hd_X7_addPhase ⟨Nat.le_of_ble_eq_true rfl, Nat.le_of_ble_eq_true rfl⟩) rfl dL_addPhase_5 (Fit.left Fit.whole) fstX7 rfl rfl (Nat.le_of_ble_eq_true rfl) (Nat.le_of_ble_eq_true rfl) (Nat.le_of_ble_eq_true rfl) rfl rfl [] ⟨0, 10, 13, 13⟩ [⟨0, 10, 17, 18⟩] rfl (fun _ h => absurd h List.not_mem_nil) (by decide) (by decide) (wW_mem (show Cond.classLink RL 13 "java/lang/IllegalArgumentException" ∈ lw_tbl from wIn_r6 _ (List.mem_of_getElem? (i := 6) rfl)) rfl) G.2.2.1.1.1 (fun q => ?_)
  refine V_astore (L2 := [(4, .ref q), (0, .ref (a 0)), (1, .int x1), (2, .int x2), (3, .ref ho)]) (pc := 13) F dL_addPhase_13 (by decide) rfl ?_
  refine V_iconst (pc := 15) (v := 1) F dL_addPhase_15 rfl ?_
  exact V_ret (pc := 16) F rfl rfl dL_addPhase_16 rfl rfl
set_option maxHeartbeats 8000000 in
theorem WT_addPhase_1 (l : Launch) (hfl : l.stackTraces = false) (D : va_G) (cy : Nat → ClassId) (N : Nat) (a : Nat → Nat) (ho : Nat) (f : Nat → Int64) (v : SX7) (x1 : Int32) (x2 : Int32) (E : String) (v2 : SX7) (hf : fX7_addPhase N v x1 x2 = some (.inl (E, v2))) (hE : E = ISE) : okW l yL_addPhase (wW yL_addPhase cL_addPhase 5 [(0, 10, 13, 13), (0, 10, 17, 18)]) (rmx 13 540) D cy [.ref (a 0), .int x1, .int x2, .ref ho] (wX7 cy a v ++ [oc cy ho f]) (wX7 cy a v2 ++ [oc cy ho f]) (some (.int 2)) := by
  subst hE
  refine okW_of (own := RL) (nme := "addPhase") (cc := cL_addPhase) (maxL := 5) (ret := some .int) (hh := [(0, 10, 13, 13), (0, 10, 17, 18)]) (by decide) rfl rfl rfl (Nat.le_of_ble_eq_true rfl) ?_
  intro p e s m args below meth c A F G
  refine V.eq rfl (show lv_args 0 [.ref (a 0), .int x1, .int x2, .ref ho] = [(0, .ref (a 0)), (1, .int x1), (2, .int x2), (3, .ref ho)] from rfl) rfl ?_
  refine V_aload_n (pc := 0) F dL_addPhase_0 rfl 3 rfl ?_
  refine V_iconst (pc := 1) (v := 0) F dL_addPhase_1 rfl ?_
  refine V_aload_n (pc := 2) F dL_addPhase_2 rfl 0 rfl ?_
  refine V_iload_n (pc := 3) F dL_addPhase_3 rfl 1 rfl ?_
  refine V_iload_n (pc := 4) F dL_addPhase_4 rfl 2 rfl ?_
  refine V_caught (hh := [(0, 10, 13, 13), (0, 10, 17, 18)]) (w2 := wX7 cy a v2 ++ [oc cy ho f]) (rest := [.int 0, .ref ho]) (pc := 5) F G 7 (T_X7_addPhase l hfl D cy N a v x1 x2 (ISE, v2) hf) (cwV 2 F.ts gW_addPhase rfl rfl rfl hd_X7_addPhase ⟨Nat.le_of_ble_eq_true rfl, Nat.le_of_ble_eq_true rfl⟩) rfl dL_addPhase_5 (Fit.left Fit.whole) fstX7 rfl rfl (Nat.le_of_ble_eq_true rfl) (Nat.le_of_ble_eq_true rfl) (Nat.le_of_ble_eq_true rfl) rfl rfl [⟨0, 10, 13, 13⟩] ⟨0, 10, 17, 18⟩ [] rfl (List.forall_mem_cons.mpr ⟨Or.inr ⟨by decide, IAE, wW_mem (show Cond.classLink RL 13 "java/lang/IllegalArgumentException" ∈ lw_tbl from wIn_r6 _ (List.mem_of_getElem? (i := 6) rfl)) rfl, G.2.2.1.2.1⟩, fun _ h => absurd h List.not_mem_nil⟩) (by decide) (by decide) (wW_mem (show Cond.classLink RL 18 "java/lang/IllegalStateException" ∈ lw_tbl from wIn_r9 _ (List.mem_of_getElem? (i := 15) rfl)) rfl) G.2.2.1.1.2.1 (fun q => ?_)
  refine V_astore (L2 := [(4, .ref q), (0, .ref (a 0)), (1, .int x1), (2, .int x2), (3, .ref ho)]) (pc := 17) F dL_addPhase_17 (by decide) rfl ?_
  refine V_iconst (pc := 19) (v := 2) F dL_addPhase_19 rfl ?_
  exact V_ret (pc := 20) F rfl rfl dL_addPhase_20 rfl rfl
theorem gW_addRule : GoodIn (wW yL_addRule cL_addRule 6 [(0, 12, 15, 24), (0, 12, 19, 13), (0, 12, 23, 18)]) (wsV RL 20 RX7 yX7_addRule wsX7_addRule) := wW_in (wsV_in (show Cond.methodLink RL 20 yX7_addRule ∈ lw_tbl from wIn_r11 _ (List.mem_of_getElem? (i := 4) rfl)) (show Cond.instanceMethod yX7_addRule ∈ lw_tbl from wIn_r11 _ (List.mem_of_getElem? (i := 5) rfl)) (show Cond.selects RX7 yX7_addRule yX7_addRule ∈ lw_tbl from wIn_r11 _ (List.mem_of_getElem? (i := 6) rfl)) (show Cond.initialized RX7 ∈ lw_tbl from wIn_r1 _ (List.mem_of_getElem? (i := 2) rfl)) im_wsX7_addRule) (wsV_good gw_wsX7_addRule)
set_option maxHeartbeats 8000000 in
theorem W_addRule (l : Launch) (D : va_G) (cy : Nat → ClassId) (N : Nat) (a : Nat → Nat) (ho : Nat) (f : Nat → Int64) (v : SX7) (x1 : Int32) (x2 : Int32) (x3 : Int32) (r : Int32 × SX7) (hf : fX7_addRule N v x1 x2 x3 = some (.inr r)) : okW l yL_addRule (wW yL_addRule cL_addRule 6 [(0, 12, 15, 24), (0, 12, 19, 13), (0, 12, 23, 18)]) (rmx 13 540) D cy [.ref (a 0), .int x1, .int x2, .int x3, .ref ho] (wX7 cy a v ++ [oc cy ho f]) (wX7 cy a r.2 ++ [oc cy ho (vp_updL f 0 r.1.toInt64)]) (some (.int 0)) := by
  refine okW_of (own := RL) (nme := "addRule") (cc := cL_addRule) (maxL := 6) (ret := some .int) (hh := [(0, 12, 15, 24), (0, 12, 19, 13), (0, 12, 23, 18)]) (by decide) rfl rfl rfl (Nat.le_of_ble_eq_true rfl) ?_
  intro p e s m args below meth c A F G
  refine V.eq rfl (show lv_args 0 [.ref (a 0), .int x1, .int x2, .int x3, .ref ho] = [(0, .ref (a 0)), (1, .int x1), (2, .int x2), (3, .int x3), (4, .ref ho)] from rfl) rfl ?_
  refine V_aload (pc := 0) F dL_addRule_0 4 rfl ?_
  refine V_iconst (pc := 2) (v := 0) F dL_addRule_2 rfl ?_
  refine V_aload_n (pc := 3) F dL_addRule_3 rfl 0 rfl ?_
  refine V_iload_n (pc := 4) F dL_addRule_4 rfl 1 rfl ?_
  refine V_iload_n (pc := 5) F dL_addRule_5 rfl 2 rfl ?_
  refine V_iload_n (pc := 6) F dL_addRule_6 rfl 3 rfl ?_
  refine V_V (w2 := wX7 cy a r.2 ++ [oc cy ho f]) (rest := [.int 0, .ref ho]) (st2 := [.int r.1, .int 0, .ref ho]) (pc := 7) F 7 (M_X7_addRule l D cy N a v x1 x2 x3 r hf) (cwV 3 F.ts gW_addRule rfl rfl rfl hd_X7_addRule ⟨Nat.le_of_ble_eq_true rfl, Nat.le_of_ble_eq_true rfl⟩) rfl dL_addRule_7 (Fit.left Fit.whole) fstX7 rfl rfl (Nat.le_of_ble_eq_true rfl) (Nat.zero_le _) (Nat.zero_le _) rfl rfl rfl ?_
  refine V_i2l (pc := 10) F dL_addRule_10 ?_
  refine V_last (f2 := vp_updL f 0 r.1.toInt64) (w2 := wX7 cy a r.2 ++ [oc cy ho (vp_updL f 0 r.1.toInt64)]) (pc := 11) F ((wX7 cy a r.2).length + 0) (at_right (k := 0) rfl) (by unfold vp_in; decide) rfl dL_addRule_11 (set_last _ _ _) ?_
  refine V_goto (pc := 12) (tgt := 27) F dL_addRule_12 (by decide) ?_
  refine V_iconst (pc := 27) (v := 0) F dL_addRule_27 rfl ?_
  refine V_widen (k := 1) (n := 6) (Nat.le_of_ble_eq_true rfl) (Nat.le_of_ble_eq_true rfl) ?_
  exact V_ret (pc := 28) F rfl rfl dL_addRule_28 rfl rfl
set_option maxHeartbeats 8000000 in
theorem WT_addRule_0 (l : Launch) (hfl : l.stackTraces = false) (D : va_G) (cy : Nat → ClassId) (N : Nat) (a : Nat → Nat) (ho : Nat) (f : Nat → Int64) (v : SX7) (x1 : Int32) (x2 : Int32) (x3 : Int32) (E : String) (v2 : SX7) (hf : fX7_addRule N v x1 x2 x3 = some (.inl (E, v2))) (hE : E = IOB) : okW l yL_addRule (wW yL_addRule cL_addRule 6 [(0, 12, 15, 24), (0, 12, 19, 13), (0, 12, 23, 18)]) (rmx 13 540) D cy [.ref (a 0), .int x1, .int x2, .int x3, .ref ho] (wX7 cy a v ++ [oc cy ho f]) (wX7 cy a v2 ++ [oc cy ho f]) (some (.int 1)) := by
  subst hE
  refine okW_of (own := RL) (nme := "addRule") (cc := cL_addRule) (maxL := 6) (ret := some .int) (hh := [(0, 12, 15, 24), (0, 12, 19, 13), (0, 12, 23, 18)]) (by decide) rfl rfl rfl (Nat.le_of_ble_eq_true rfl) ?_
  intro p e s m args below meth c A F G
  refine V.eq rfl (show lv_args 0 [.ref (a 0), .int x1, .int x2, .int x3, .ref ho] = [(0, .ref (a 0)), (1, .int x1), (2, .int x2), (3, .int x3), (4, .ref ho)] from rfl) rfl ?_
  refine V_aload (pc := 0) F dL_addRule_0 4 rfl ?_
  refine V_iconst (pc := 2) (v := 0) F dL_addRule_2 rfl ?_
  refine V_aload_n (pc := 3) F dL_addRule_3 rfl 0 rfl ?_
  refine V_iload_n (pc := 4) F dL_addRule_4 rfl 1 rfl ?_
  refine V_iload_n (pc := 5) F dL_addRule_5 rfl 2 rfl ?_
  refine V_iload_n (pc := 6) F dL_addRule_6 rfl 3 rfl ?_
  refine V_caught (hh := [(0, 12, 15, 24), (0, 12, 19, 13), (0, 12, 23, 18)]) (w2 := wX7 cy a v2 ++ [oc cy ho f]) (rest := [.int 0, .ref ho]) (pc := 7) F G 7 (T_X7_addRule l hfl D cy N a v x1 x2 x3 (IOB, v2) hf) (cwV 3 F.ts gW_addRule rfl rfl rfl hd_X7_addRule ⟨Nat.le_of_ble_eq_true rfl, Nat.le_of_ble_eq_true rfl⟩) rfl dL_addRule_7 (Fit.left Fit.whole) fstX7 rfl rfl (Nat.le_of_ble_eq_true rfl) (Nat.le_of_ble_eq_true rfl) (Nat.le_of_ble_eq_true rfl) rfl rfl [] ⟨0, 12, 15, 24⟩ [⟨0, 12, 19, 13⟩, ⟨0, 12, 23, 18⟩] rfl (fun _ h => absurd h List.not_mem_nil) (by decide) (by decide) (wW_mem (show Cond.classLink RL 24 "java/lang/IndexOutOfBoundsException" ∈ lw_tbl from wIn_r11 _ (List.mem_of_getElem? (i := 3) rfl)) rfl) G.2.2.1.1.2.2 (fun q => ?_)
  refine V_astore (L2 := [(5, .ref q), (0, .ref (a 0)), (1, .int x1), (2, .int x2), (3, .int x3), (4, .ref ho)]) (pc := 15) F dL_addRule_15 (by decide) rfl ?_
  refine V_iconst (pc := 17) (v := 1) F dL_addRule_17 rfl ?_
  exact V_ret (pc := 18) F rfl rfl dL_addRule_18 rfl rfl
set_option maxHeartbeats 8000000 in
theorem WT_addRule_1 (l : Launch) (hfl : l.stackTraces = false) (D : va_G) (cy : Nat → ClassId) (N : Nat) (a : Nat → Nat) (ho : Nat) (f : Nat → Int64) (v : SX7) (x1 : Int32) (x2 : Int32) (x3 : Int32) (E : String) (v2 : SX7) (hf : fX7_addRule N v x1 x2 x3 = some (.inl (E, v2))) (hE : E = IAE) : okW l yL_addRule (wW yL_addRule cL_addRule 6 [(0, 12, 15, 24), (0, 12, 19, 13), (0, 12, 23, 18)]) (rmx 13 540) D cy [.ref (a 0), .int x1, .int x2, .int x3, .ref ho] (wX7 cy a v ++ [oc cy ho f]) (wX7 cy a v2 ++ [oc cy ho f]) (some (.int 2)) := by
  subst hE
  refine okW_of (own := RL) (nme := "addRule") (cc := cL_addRule) (maxL := 6) (ret := some .int) (hh := [(0, 12, 15, 24), (0, 12, 19, 13), (0, 12, 23, 18)]) (by decide) rfl rfl rfl (Nat.le_of_ble_eq_true rfl) ?_
  intro p e s m args below meth c A F G
  refine V.eq rfl (show lv_args 0 [.ref (a 0), .int x1, .int x2, .int x3, .ref ho] = [(0, .ref (a 0)), (1, .int x1), (2, .int x2), (3, .int x3), (4, .ref ho)] from rfl) rfl ?_
  refine V_aload (pc := 0) F dL_addRule_0 4 rfl ?_
  refine V_iconst (pc := 2) (v := 0) F dL_addRule_2 rfl ?_
  refine V_aload_n (pc := 3) F dL_addRule_3 rfl 0 rfl ?_
  refine V_iload_n (pc := 4) F dL_addRule_4 rfl 1 rfl ?_
  refine V_iload_n (pc := 5) F dL_addRule_5 rfl 2 rfl ?_
  refine V_iload_n (pc := 6) F dL_addRule_6 rfl 3 rfl ?_
  refine V_caught (hh := [(0, 12, 15, 24), (0, 12, 19, 13), (0, 12, 23, 18)]) (w2 := wX7 cy a v2 ++ [oc cy ho f]) (rest := [.int 0, .ref ho]) (pc := 7) F G 7 (T_X7_addRule l hfl D cy N a v x1 x2 x3 (IAE, v2) hf) (cwV 3 F.ts gW_addRule rfl rfl rfl hd_X7_addRule ⟨Nat.le_of_ble_eq_true rfl, Nat.le_of_ble_eq_true rfl⟩) rfl dL_addRule_7 (Fit.left Fit.whole) fstX7 rfl rfl (Nat.le_of_ble_eq_true rfl) (Nat.le_of_ble_eq_true rfl) (Nat.le_of_ble_eq_true rfl) rfl rfl [⟨0, 12, 15, 24⟩] ⟨0, 12, 19, 13⟩ [⟨0, 12, 23, 18⟩] rfl (List.forall_mem_cons.mpr ⟨Or.inr ⟨by decide, IOB, wW_mem (show Cond.classLink RL 24 "java/lang/IndexOutOfBoundsException" ∈ lw_tbl from wIn_r11 _ (List.mem_of_getElem? (i := 3) rfl)) rfl, G.2.2.1.2.2.1⟩, fun _ h => absurd h List.not_mem_nil⟩) (by decide) (by decide) (wW_mem (show Cond.classLink RL 13 "java/lang/IllegalArgumentException" ∈ lw_tbl from wIn_r6 _ (List.mem_of_getElem? (i := 6) rfl)) rfl) G.2.2.1.1.1 (fun q => ?_)
  refine V_astore (L2 := [(5, .ref q), (0, .ref (a 0)), (1, .int x1), (2, .int x2), (3, .int x3), (4, .ref ho)]) (pc := 19) F dL_addRule_19 (by decide) rfl ?_
  refine V_iconst (pc := 21) (v := 2) F dL_addRule_21 rfl ?_
  exact V_ret (pc := 22) F rfl rfl dL_addRule_22 rfl rfl
set_option maxHeartbeats 8000000 in
theorem WT_addRule_2 (l : Launch) (hfl : l.stackTraces = false) (D : va_G) (cy : Nat → ClassId) (N : Nat) (a : Nat → Nat) (ho : Nat) (f : Nat → Int64) (v : SX7) (x1 : Int32) (x2 : Int32) (x3 : Int32) (E : String) (v2 : SX7) (hf : fX7_addRule N v x1 x2 x3 = some (.inl (E, v2))) (hE : E = ISE) : okW l yL_addRule (wW yL_addRule cL_addRule 6 [(0, 12, 15, 24), (0, 12, 19, 13), (0, 12, 23, 18)]) (rmx 13 540) D cy [.ref (a 0), .int x1, .int x2, .int x3, .ref ho] (wX7 cy a v ++ [oc cy ho f]) (wX7 cy a v2 ++ [oc cy ho f]) (some (.int 3)) := by
  subst hE
  refine okW_of (own := RL) (nme := "addRule") (cc := cL_addRule) (maxL := 6) (ret := some .int) (hh := [(0, 12, 15, 24), (0, 12, 19, 13), (0, 12, 23, 18)]) (by decide) rfl rfl rfl (Nat.le_of_ble_eq_true rfl) ?_
  intro p e s m args below meth c A F G
  refine V.eq rfl (show lv_args 0 [.ref (a 0), .int x1, .int x2, .int x3, .ref ho] = [(0, .ref (a 0)), (1, .int x1), (2, .int x2), (3, .int x3), (4, .ref ho)] from rfl) rfl ?_
  refine V_aload (pc := 0) F dL_addRule_0 4 rfl ?_
  refine V_iconst (pc := 2) (v := 0) F dL_addRule_2 rfl ?_
  refine V_aload_n (pc := 3) F dL_addRule_3 rfl 0 rfl ?_
  refine V_iload_n (pc := 4) F dL_addRule_4 rfl 1 rfl ?_
  refine V_iload_n (pc := 5) F dL_addRule_5 rfl 2 rfl ?_
  refine V_iload_n (pc := 6) F dL_addRule_6 rfl 3 rfl ?_
  refine V_caught (hh := [(0, 12, 15, 24), (0, 12, 19, 13), (0, 12, 23, 18)]) (w2 := wX7 cy a v2 ++ [oc cy ho f]) (rest := [.int 0, .ref ho]) (pc := 7) F G 7 (T_X7_addRule l hfl D cy N a v x1 x2 x3 (ISE, v2) hf) (cwV 3 F.ts gW_addRule rfl rfl rfl hd_X7_addRule ⟨Nat.le_of_ble_eq_true rfl, Nat.le_of_ble_eq_true rfl⟩) rfl dL_addRule_7 (Fit.left Fit.whole) fstX7 rfl rfl (Nat.le_of_ble_eq_true rfl) (Nat.le_of_ble_eq_true rfl) (Nat.le_of_ble_eq_true rfl) rfl rfl [⟨0, 12, 15, 24⟩, ⟨0, 12, 19, 13⟩] ⟨0, 12, 23, 18⟩ [] rfl (List.forall_mem_cons.mpr ⟨Or.inr ⟨by decide, IOB, wW_mem (show Cond.classLink RL 24 "java/lang/IndexOutOfBoundsException" ∈ lw_tbl from wIn_r11 _ (List.mem_of_getElem? (i := 3) rfl)) rfl, G.2.2.1.2.2.2⟩, List.forall_mem_cons.mpr ⟨Or.inr ⟨by decide, IAE, wW_mem (show Cond.classLink RL 13 "java/lang/IllegalArgumentException" ∈ lw_tbl from wIn_r6 _ (List.mem_of_getElem? (i := 6) rfl)) rfl, G.2.2.1.2.1⟩, fun _ h => absurd h List.not_mem_nil⟩⟩) (by decide) (by decide) (wW_mem (show Cond.classLink RL 18 "java/lang/IllegalStateException" ∈ lw_tbl from wIn_r9 _ (List.mem_of_getElem? (i := 15) rfl)) rfl) G.2.2.1.1.2.1 (fun q => ?_)
  refine V_astore (L2 := [(5, .ref q), (0, .ref (a 0)), (1, .int x1), (2, .int x2), (3, .int x3), (4, .ref ho)]) (pc := 23) F dL_addRule_23 (by decide) rfl ?_
  refine V_iconst (pc := 25) (v := 3) F dL_addRule_25 rfl ?_
  exact V_ret (pc := 26) F rfl rfl dL_addRule_26 rfl rfl
theorem gW_dropRule : GoodIn (wW yL_dropRule cL_dropRule 4 [(0, 9, 12, 24), (0, 9, 15, 18)]) (wsV RL 26 RX7 yX7_dropRule wsX7_dropRule) := wW_in (wsV_in (show Cond.methodLink RL 26 yX7_dropRule ∈ lw_tbl from wIn_r13 _ (List.mem_of_getElem? (i := 5) rfl)) (show Cond.instanceMethod yX7_dropRule ∈ lw_tbl from wIn_r13 _ (List.mem_of_getElem? (i := 6) rfl)) (show Cond.selects RX7 yX7_dropRule yX7_dropRule ∈ lw_tbl from wIn_r13 _ (List.mem_of_getElem? (i := 7) rfl)) (show Cond.initialized RX7 ∈ lw_tbl from wIn_r1 _ (List.mem_of_getElem? (i := 2) rfl)) im_wsX7_dropRule) (wsV_good gw_wsX7_dropRule)
set_option maxHeartbeats 8000000 in
theorem W_dropRule (l : Launch) (D : va_G) (cy : Nat → ClassId) (N : Nat) (a : Nat → Nat) (ho : Nat) (f : Nat → Int64) (v : SX7) (x1 : Int32) (r : Int32 × SX7) (hf : fX7_dropRule N v x1 = some (.inr r)) : okW l yL_dropRule (wW yL_dropRule cL_dropRule 4 [(0, 9, 12, 24), (0, 9, 15, 18)]) (rmx 13 540) D cy [.ref (a 0), .int x1, .ref ho] (wX7 cy a v ++ [oc cy ho f]) (wX7 cy a r.2 ++ [oc cy ho (vp_updL f 0 r.1.toInt64)]) (some (.int 0)) := by
  refine okW_of (own := RL) (nme := "dropRule") (cc := cL_dropRule) (maxL := 4) (ret := some .int) (hh := [(0, 9, 12, 24), (0, 9, 15, 18)]) (by decide) rfl rfl rfl (Nat.le_of_ble_eq_true rfl) ?_
  intro p e s m args below meth c A F G
  refine V.eq rfl (show lv_args 0 [.ref (a 0), .int x1, .ref ho] = [(0, .ref (a 0)), (1, .int x1), (2, .ref ho)] from rfl) rfl ?_
  refine V_aload_n (pc := 0) F dL_dropRule_0 rfl 2 rfl ?_
  refine V_iconst (pc := 1) (v := 0) F dL_dropRule_1 rfl ?_
  refine V_aload_n (pc := 2) F dL_dropRule_2 rfl 0 rfl ?_
  refine V_iload_n (pc := 3) F dL_dropRule_3 rfl 1 rfl ?_
  refine V_V (w2 := wX7 cy a r.2 ++ [oc cy ho f]) (rest := [.int 0, .ref ho]) (st2 := [.int r.1, .int 0, .ref ho]) (pc := 4) F 7 (M_X7_dropRule l D cy N a v x1 r hf) (cwV 1 F.ts gW_dropRule rfl rfl rfl hd_X7_dropRule ⟨Nat.le_of_ble_eq_true rfl, Nat.le_of_ble_eq_true rfl⟩) rfl dL_dropRule_4 (Fit.left Fit.whole) fstX7 rfl rfl (Nat.le_of_ble_eq_true rfl) (Nat.zero_le _) (Nat.zero_le _) rfl rfl rfl ?_
  refine V_i2l (pc := 7) F dL_dropRule_7 ?_
  refine V_last (f2 := vp_updL f 0 r.1.toInt64) (w2 := wX7 cy a r.2 ++ [oc cy ho (vp_updL f 0 r.1.toInt64)]) (pc := 8) F ((wX7 cy a r.2).length + 0) (at_right (k := 0) rfl) (by unfold vp_in; decide) rfl dL_dropRule_8 (set_last _ _ _) ?_
  refine V_goto (pc := 9) (tgt := 18) F dL_dropRule_9 (by decide) ?_
  refine V_iconst (pc := 18) (v := 0) F dL_dropRule_18 rfl ?_
  refine V_widen (k := 1) (n := 6) (Nat.le_of_ble_eq_true rfl) (Nat.le_of_ble_eq_true rfl) ?_
  exact V_ret (pc := 19) F rfl rfl dL_dropRule_19 rfl rfl
set_option maxHeartbeats 8000000 in
theorem WT_dropRule_0 (l : Launch) (hfl : l.stackTraces = false) (D : va_G) (cy : Nat → ClassId) (N : Nat) (a : Nat → Nat) (ho : Nat) (f : Nat → Int64) (v : SX7) (x1 : Int32) (E : String) (v2 : SX7) (hf : fX7_dropRule N v x1 = some (.inl (E, v2))) (hE : E = IOB) : okW l yL_dropRule (wW yL_dropRule cL_dropRule 4 [(0, 9, 12, 24), (0, 9, 15, 18)]) (rmx 13 540) D cy [.ref (a 0), .int x1, .ref ho] (wX7 cy a v ++ [oc cy ho f]) (wX7 cy a v2 ++ [oc cy ho f]) (some (.int 1)) := by
  subst hE
  refine okW_of (own := RL) (nme := "dropRule") (cc := cL_dropRule) (maxL := 4) (ret := some .int) (hh := [(0, 9, 12, 24), (0, 9, 15, 18)]) (by decide) rfl rfl rfl (Nat.le_of_ble_eq_true rfl) ?_
  intro p e s m args below meth c A F G
  refine V.eq rfl (show lv_args 0 [.ref (a 0), .int x1, .ref ho] = [(0, .ref (a 0)), (1, .int x1), (2, .ref ho)] from rfl) rfl ?_
  refine V_aload_n (pc := 0) F dL_dropRule_0 rfl 2 rfl ?_
  refine V_iconst (pc := 1) (v := 0) F dL_dropRule_1 rfl ?_
  refine V_aload_n (pc := 2) F dL_dropRule_2 rfl 0 rfl ?_
  refine V_iload_n (pc := 3) F dL_dropRule_3 rfl 1 rfl ?_
  refine V_caught (hh := [(0, 9, 12, 24), (0, 9, 15, 18)]) (w2 := wX7 cy a v2 ++ [oc cy ho f]) (rest := [.int 0, .ref ho]) (pc := 4) F G 7 (T_X7_dropRule l hfl D cy N a v x1 (IOB, v2) hf) (cwV 1 F.ts gW_dropRule rfl rfl rfl hd_X7_dropRule ⟨Nat.le_of_ble_eq_true rfl, Nat.le_of_ble_eq_true rfl⟩) rfl dL_dropRule_4 (Fit.left Fit.whole) fstX7 rfl rfl (Nat.le_of_ble_eq_true rfl) (Nat.le_of_ble_eq_true rfl) (Nat.le_of_ble_eq_true rfl) rfl rfl [] ⟨0, 9, 12, 24⟩ [⟨0, 9, 15, 18⟩] rfl (fun _ h => absurd h List.not_mem_nil) (by decide) (by decide) (wW_mem (show Cond.classLink RL 24 "java/lang/IndexOutOfBoundsException" ∈ lw_tbl from wIn_r11 _ (List.mem_of_getElem? (i := 3) rfl)) rfl) G.2.2.1.1.2.2 (fun q => ?_)
  refine V_astore_n (L2 := [(3, .ref q), (0, .ref (a 0)), (1, .int x1), (2, .ref ho)]) (pc := 12) F dL_dropRule_12 rfl (by decide) rfl ?_
  refine V_iconst (pc := 13) (v := 1) F dL_dropRule_13 rfl ?_
  exact V_ret (pc := 14) F rfl rfl dL_dropRule_14 rfl rfl
set_option maxHeartbeats 8000000 in
theorem WT_dropRule_1 (l : Launch) (hfl : l.stackTraces = false) (D : va_G) (cy : Nat → ClassId) (N : Nat) (a : Nat → Nat) (ho : Nat) (f : Nat → Int64) (v : SX7) (x1 : Int32) (E : String) (v2 : SX7) (hf : fX7_dropRule N v x1 = some (.inl (E, v2))) (hE : E = ISE) : okW l yL_dropRule (wW yL_dropRule cL_dropRule 4 [(0, 9, 12, 24), (0, 9, 15, 18)]) (rmx 13 540) D cy [.ref (a 0), .int x1, .ref ho] (wX7 cy a v ++ [oc cy ho f]) (wX7 cy a v2 ++ [oc cy ho f]) (some (.int 2)) := by
  subst hE
  refine okW_of (own := RL) (nme := "dropRule") (cc := cL_dropRule) (maxL := 4) (ret := some .int) (hh := [(0, 9, 12, 24), (0, 9, 15, 18)]) (by decide) rfl rfl rfl (Nat.le_of_ble_eq_true rfl) ?_
  intro p e s m args below meth c A F G
  refine V.eq rfl (show lv_args 0 [.ref (a 0), .int x1, .ref ho] = [(0, .ref (a 0)), (1, .int x1), (2, .ref ho)] from rfl) rfl ?_
  refine V_aload_n (pc := 0) F dL_dropRule_0 rfl 2 rfl ?_
  refine V_iconst (pc := 1) (v := 0) F dL_dropRule_1 rfl ?_
  refine V_aload_n (pc := 2) F dL_dropRule_2 rfl 0 rfl ?_
  refine V_iload_n (pc := 3) F dL_dropRule_3 rfl 1 rfl ?_
  refine V_caught (hh := [(0, 9, 12, 24), (0, 9, 15, 18)]) (w2 := wX7 cy a v2 ++ [oc cy ho f]) (rest := [.int 0, .ref ho]) (pc := 4) F G 7 (T_X7_dropRule l hfl D cy N a v x1 (ISE, v2) hf) (cwV 1 F.ts gW_dropRule rfl rfl rfl hd_X7_dropRule ⟨Nat.le_of_ble_eq_true rfl, Nat.le_of_ble_eq_true rfl⟩) rfl dL_dropRule_4 (Fit.left Fit.whole) fstX7 rfl rfl (Nat.le_of_ble_eq_true rfl) (Nat.le_of_ble_eq_true rfl) (Nat.le_of_ble_eq_true rfl) rfl rfl [⟨0, 9, 12, 24⟩] ⟨0, 9, 15, 18⟩ [] rfl (List.forall_mem_cons.mpr ⟨Or.inr ⟨by decide, IOB, wW_mem (show Cond.classLink RL 24 "java/lang/IndexOutOfBoundsException" ∈ lw_tbl from wIn_r11 _ (List.mem_of_getElem? (i := 3) rfl)) rfl, G.2.2.1.2.2.2⟩, fun _ h => absurd h List.not_mem_nil⟩) (by decide) (by decide) (wW_mem (show Cond.classLink RL 18 "java/lang/IllegalStateException" ∈ lw_tbl from wIn_r9 _ (List.mem_of_getElem? (i := 15) rfl)) rfl) G.2.2.1.1.2.1 (fun q => ?_)
  refine V_astore_n (L2 := [(3, .ref q), (0, .ref (a 0)), (1, .int x1), (2, .ref ho)]) (pc := 15) F dL_dropRule_15 rfl (by decide) rfl ?_
  refine V_iconst (pc := 16) (v := 2) F dL_dropRule_16 rfl ?_
  exact V_ret (pc := 17) F rfl rfl dL_dropRule_17 rfl rfl
theorem gW_change : GoodIn (wW yL_change cL_change 6 [(0, 12, 15, 24), (0, 12, 19, 13)]) (wsV RL 30 RX7 yX7_change wsX7_change) := wW_in (wsV_in (show Cond.methodLink RL 30 yX7_change ∈ lw_tbl from wIn_r14 _ (List.mem_of_getElem? (i := 1) rfl)) (show Cond.instanceMethod yX7_change ∈ lw_tbl from wIn_r14 _ (List.mem_of_getElem? (i := 2) rfl)) (show Cond.selects RX7 yX7_change yX7_change ∈ lw_tbl from wIn_r14 _ (List.mem_of_getElem? (i := 3) rfl)) (show Cond.initialized RX7 ∈ lw_tbl from wIn_r1 _ (List.mem_of_getElem? (i := 2) rfl)) im_wsX7_change) (wsV_good gw_wsX7_change)
set_option maxHeartbeats 8000000 in
theorem W_change (l : Launch) (D : va_G) (cy : Nat → ClassId) (N : Nat) (a : Nat → Nat) (ho : Nat) (f : Nat → Int64) (v : SX7) (x1 : Int32) (x2 : Int32) (x3 : Int32) (r : Int32 × SX7) (hf : fX7_change N v x1 x2 x3 = some (.inr r)) : okW l yL_change (wW yL_change cL_change 6 [(0, 12, 15, 24), (0, 12, 19, 13)]) (rmx 13 540) D cy [.ref (a 0), .int x1, .int x2, .int x3, .ref ho] (wX7 cy a v ++ [oc cy ho f]) (wX7 cy a r.2 ++ [oc cy ho (vp_updL f 0 r.1.toInt64)]) (some (.int 0)) := by
  refine okW_of (own := RL) (nme := "change") (cc := cL_change) (maxL := 6) (ret := some .int) (hh := [(0, 12, 15, 24), (0, 12, 19, 13)]) (by decide) rfl rfl rfl (Nat.le_of_ble_eq_true rfl) ?_
  intro p e s m args below meth c A F G
  refine V.eq rfl (show lv_args 0 [.ref (a 0), .int x1, .int x2, .int x3, .ref ho] = [(0, .ref (a 0)), (1, .int x1), (2, .int x2), (3, .int x3), (4, .ref ho)] from rfl) rfl ?_
  refine V_aload (pc := 0) F dL_change_0 4 rfl ?_
  refine V_iconst (pc := 2) (v := 0) F dL_change_2 rfl ?_
  refine V_aload_n (pc := 3) F dL_change_3 rfl 0 rfl ?_
  refine V_iload_n (pc := 4) F dL_change_4 rfl 1 rfl ?_
  refine V_iload_n (pc := 5) F dL_change_5 rfl 2 rfl ?_
  refine V_iload_n (pc := 6) F dL_change_6 rfl 3 rfl ?_
  refine V_V (w2 := wX7 cy a r.2 ++ [oc cy ho f]) (rest := [.int 0, .ref ho]) (st2 := [.int r.1, .int 0, .ref ho]) (pc := 7) F 7 (M_X7_change l D cy N a v x1 x2 x3 r hf) (cwV 3 F.ts gW_change rfl rfl rfl hd_X7_change ⟨Nat.le_of_ble_eq_true rfl, Nat.le_of_ble_eq_true rfl⟩) rfl dL_change_7 (Fit.left Fit.whole) fstX7 rfl rfl (Nat.le_of_ble_eq_true rfl) (Nat.zero_le _) (Nat.zero_le _) rfl rfl rfl ?_
  refine V_i2l (pc := 10) F dL_change_10 ?_
  refine V_last (f2 := vp_updL f 0 r.1.toInt64) (w2 := wX7 cy a r.2 ++ [oc cy ho (vp_updL f 0 r.1.toInt64)]) (pc := 11) F ((wX7 cy a r.2).length + 0) (at_right (k := 0) rfl) (by unfold vp_in; decide) rfl dL_change_11 (set_last _ _ _) ?_
  refine V_goto (pc := 12) (tgt := 23) F dL_change_12 (by decide) ?_
  refine V_iconst (pc := 23) (v := 0) F dL_change_23 rfl ?_
  refine V_widen (k := 1) (n := 6) (Nat.le_of_ble_eq_true rfl) (Nat.le_of_ble_eq_true rfl) ?_
  exact V_ret (pc := 24) F rfl rfl dL_change_24 rfl rfl
set_option maxHeartbeats 8000000 in
theorem WT_change_0 (l : Launch) (hfl : l.stackTraces = false) (D : va_G) (cy : Nat → ClassId) (N : Nat) (a : Nat → Nat) (ho : Nat) (f : Nat → Int64) (v : SX7) (x1 : Int32) (x2 : Int32) (x3 : Int32) (E : String) (v2 : SX7) (hf : fX7_change N v x1 x2 x3 = some (.inl (E, v2))) (hE : E = IOB) : okW l yL_change (wW yL_change cL_change 6 [(0, 12, 15, 24), (0, 12, 19, 13)]) (rmx 13 540) D cy [.ref (a 0), .int x1, .int x2, .int x3, .ref ho] (wX7 cy a v ++ [oc cy ho f]) (wX7 cy a v2 ++ [oc cy ho f]) (some (.int 1)) := by
  subst hE
  refine okW_of (own := RL) (nme := "change") (cc := cL_change) (maxL := 6) (ret := some .int) (hh := [(0, 12, 15, 24), (0, 12, 19, 13)]) (by decide) rfl rfl rfl (Nat.le_of_ble_eq_true rfl) ?_
  intro p e s m args below meth c A F G
  refine V.eq rfl (show lv_args 0 [.ref (a 0), .int x1, .int x2, .int x3, .ref ho] = [(0, .ref (a 0)), (1, .int x1), (2, .int x2), (3, .int x3), (4, .ref ho)] from rfl) rfl ?_
  refine V_aload (pc := 0) F dL_change_0 4 rfl ?_
  refine V_iconst (pc := 2) (v := 0) F dL_change_2 rfl ?_
  refine V_aload_n (pc := 3) F dL_change_3 rfl 0 rfl ?_
  refine V_iload_n (pc := 4) F dL_change_4 rfl 1 rfl ?_
  refine V_iload_n (pc := 5) F dL_change_5 rfl 2 rfl ?_
  refine V_iload_n (pc := 6) F dL_change_6 rfl 3 rfl ?_
  refine V_caught (hh := [(0, 12, 15, 24), (0, 12, 19, 13)]) (w2 := wX7 cy a v2 ++ [oc cy ho f]) (rest := [.int 0, .ref ho]) (pc := 7) F G 7 (T_X7_change l hfl D cy N a v x1 x2 x3 (IOB, v2) hf) (cwV 3 F.ts gW_change rfl rfl rfl hd_X7_change ⟨Nat.le_of_ble_eq_true rfl, Nat.le_of_ble_eq_true rfl⟩) rfl dL_change_7 (Fit.left Fit.whole) fstX7 rfl rfl (Nat.le_of_ble_eq_true rfl) (Nat.le_of_ble_eq_true rfl) (Nat.le_of_ble_eq_true rfl) rfl rfl [] ⟨0, 12, 15, 24⟩ [⟨0, 12, 19, 13⟩] rfl (fun _ h => absurd h List.not_mem_nil) (by decide) (by decide) (wW_mem (show Cond.classLink RL 24 "java/lang/IndexOutOfBoundsException" ∈ lw_tbl from wIn_r11 _ (List.mem_of_getElem? (i := 3) rfl)) rfl) G.2.2.1.1.2.2 (fun q => ?_)
  refine V_astore (L2 := [(5, .ref q), (0, .ref (a 0)), (1, .int x1), (2, .int x2), (3, .int x3), (4, .ref ho)]) (pc := 15) F dL_change_15 (by decide) rfl ?_
  refine V_iconst (pc := 17) (v := 1) F dL_change_17 rfl ?_
  exact V_ret (pc := 18) F rfl rfl dL_change_18 rfl rfl
set_option maxHeartbeats 8000000 in
theorem WT_change_1 (l : Launch) (hfl : l.stackTraces = false) (D : va_G) (cy : Nat → ClassId) (N : Nat) (a : Nat → Nat) (ho : Nat) (f : Nat → Int64) (v : SX7) (x1 : Int32) (x2 : Int32) (x3 : Int32) (E : String) (v2 : SX7) (hf : fX7_change N v x1 x2 x3 = some (.inl (E, v2))) (hE : E = IAE) : okW l yL_change (wW yL_change cL_change 6 [(0, 12, 15, 24), (0, 12, 19, 13)]) (rmx 13 540) D cy [.ref (a 0), .int x1, .int x2, .int x3, .ref ho] (wX7 cy a v ++ [oc cy ho f]) (wX7 cy a v2 ++ [oc cy ho f]) (some (.int 2)) := by
  subst hE
  refine okW_of (own := RL) (nme := "change") (cc := cL_change) (maxL := 6) (ret := some .int) (hh := [(0, 12, 15, 24), (0, 12, 19, 13)]) (by decide) rfl rfl rfl (Nat.le_of_ble_eq_true rfl) ?_
  intro p e s m args below meth c A F G
  refine V.eq rfl (show lv_args 0 [.ref (a 0), .int x1, .int x2, .int x3, .ref ho] = [(0, .ref (a 0)), (1, .int x1), (2, .int x2), (3, .int x3), (4, .ref ho)] from rfl) rfl ?_
  refine V_aload (pc := 0) F dL_change_0 4 rfl ?_
  refine V_iconst (pc := 2) (v := 0) F dL_change_2 rfl ?_
  refine V_aload_n (pc := 3) F dL_change_3 rfl 0 rfl ?_
  refine V_iload_n (pc := 4) F dL_change_4 rfl 1 rfl ?_
  refine V_iload_n (pc := 5) F dL_change_5 rfl 2 rfl ?_
  refine V_iload_n (pc := 6) F dL_change_6 rfl 3 rfl ?_
  refine V_caught (hh := [(0, 12, 15, 24), (0, 12, 19, 13)]) (w2 := wX7 cy a v2 ++ [oc cy ho f]) (rest := [.int 0, .ref ho]) (pc := 7) F G 7 (T_X7_change l hfl D cy N a v x1 x2 x3 (IAE, v2) hf) (cwV 3 F.ts gW_change rfl rfl rfl hd_X7_change ⟨Nat.le_of_ble_eq_true rfl, Nat.le_of_ble_eq_true rfl⟩) rfl dL_change_7 (Fit.left Fit.whole) fstX7 rfl rfl (Nat.le_of_ble_eq_true rfl) (Nat.le_of_ble_eq_true rfl) (Nat.le_of_ble_eq_true rfl) rfl rfl [⟨0, 12, 15, 24⟩] ⟨0, 12, 19, 13⟩ [] rfl (List.forall_mem_cons.mpr ⟨Or.inr ⟨by decide, IOB, wW_mem (show Cond.classLink RL 24 "java/lang/IndexOutOfBoundsException" ∈ lw_tbl from wIn_r11 _ (List.mem_of_getElem? (i := 3) rfl)) rfl, G.2.2.1.2.2.1⟩, fun _ h => absurd h List.not_mem_nil⟩) (by decide) (by decide) (wW_mem (show Cond.classLink RL 13 "java/lang/IllegalArgumentException" ∈ lw_tbl from wIn_r6 _ (List.mem_of_getElem? (i := 6) rfl)) rfl) G.2.2.1.1.1 (fun q => ?_)
  refine V_astore (L2 := [(5, .ref q), (0, .ref (a 0)), (1, .int x1), (2, .int x2), (3, .int x3), (4, .ref ho)]) (pc := 19) F dL_change_19 (by decide) rfl ?_
  refine V_iconst (pc := 21) (v := 2) F dL_change_21 rfl ?_
  exact V_ret (pc := 22) F rfl rfl dL_change_22 rfl rfl
theorem gW_set : GoodIn (wW yL_set cL_set 4 [(0, 9, 12, 13)]) (wsV RL 33 RX7 yX7_set wsX7_set) := wW_in (wsV_in (show Cond.methodLink RL 33 yX7_set ∈ lw_tbl from wIn_r14 _ (List.mem_of_getElem? (i := 19) rfl)) (show Cond.instanceMethod yX7_set ∈ lw_tbl from wIn_r14 _ (List.mem_of_getElem? (i := 20) rfl)) (show Cond.selects RX7 yX7_set yX7_set ∈ lw_tbl from wIn_r14 _ (List.mem_of_getElem? (i := 21) rfl)) (show Cond.initialized RX7 ∈ lw_tbl from wIn_r1 _ (List.mem_of_getElem? (i := 2) rfl)) im_wsX7_set) (wsV_good gw_wsX7_set)
set_option maxHeartbeats 8000000 in
theorem W_set (l : Launch) (D : va_G) (cy : Nat → ClassId) (N : Nat) (a : Nat → Nat) (ho : Nat) (f : Nat → Int64) (v : SX7) (x1 : Int32) (r : Int32 × SX7) (hf : fX7_set N v x1 = some (.inr r)) : okW l yL_set (wW yL_set cL_set 4 [(0, 9, 12, 13)]) (rmx 13 540) D cy [.ref (a 0), .int x1, .ref ho] (wX7 cy a v ++ [oc cy ho f]) (wX7 cy a r.2 ++ [oc cy ho (vp_updL f 0 r.1.toInt64)]) (some (.int 0)) := by
  refine okW_of (own := RL) (nme := "set") (cc := cL_set) (maxL := 4) (ret := some .int) (hh := [(0, 9, 12, 13)]) (by decide) rfl rfl rfl (Nat.le_of_ble_eq_true rfl) ?_
  intro p e s m args below meth c A F G
  refine V.eq rfl (show lv_args 0 [.ref (a 0), .int x1, .ref ho] = [(0, .ref (a 0)), (1, .int x1), (2, .ref ho)] from rfl) rfl ?_
  refine V_aload_n (pc := 0) F dL_set_0 rfl 2 rfl ?_
  refine V_iconst (pc := 1) (v := 0) F dL_set_1 rfl ?_
  refine V_aload_n (pc := 2) F dL_set_2 rfl 0 rfl ?_
  refine V_iload_n (pc := 3) F dL_set_3 rfl 1 rfl ?_
  refine V_V (w2 := wX7 cy a r.2 ++ [oc cy ho f]) (rest := [.int 0, .ref ho]) (st2 := [.int r.1, .int 0, .ref ho]) (pc := 4) F 7 (M_X7_set l D cy N a v x1 r hf) (cwV 1 F.ts gW_set rfl rfl rfl hd_X7_set ⟨Nat.le_of_ble_eq_true rfl, Nat.le_of_ble_eq_true rfl⟩) rfl dL_set_4 (Fit.left Fit.whole) fstX7 rfl rfl (Nat.le_of_ble_eq_true rfl) (Nat.zero_le _) (Nat.zero_le _) rfl rfl rfl ?_
  refine V_i2l (pc := 7) F dL_set_7 ?_
  refine V_last (f2 := vp_updL f 0 r.1.toInt64) (w2 := wX7 cy a r.2 ++ [oc cy ho (vp_updL f 0 r.1.toInt64)]) (pc := 8) F ((wX7 cy a r.2).length + 0) (at_right (k := 0) rfl) (by unfold vp_in; decide) rfl dL_set_8 (set_last _ _ _) ?_
  refine V_goto (pc := 9) (tgt := 15) F dL_set_9 (by decide) ?_
  refine V_iconst (pc := 15) (v := 0) F dL_set_15 rfl ?_
  refine V_widen (k := 1) (n := 6) (Nat.le_of_ble_eq_true rfl) (Nat.le_of_ble_eq_true rfl) ?_
  exact V_ret (pc := 16) F rfl rfl dL_set_16 rfl rfl
set_option maxHeartbeats 8000000 in
theorem WT_set_0 (l : Launch) (hfl : l.stackTraces = false) (D : va_G) (cy : Nat → ClassId) (N : Nat) (a : Nat → Nat) (ho : Nat) (f : Nat → Int64) (v : SX7) (x1 : Int32) (E : String) (v2 : SX7) (hf : fX7_set N v x1 = some (.inl (E, v2))) (hE : E = IAE) : okW l yL_set (wW yL_set cL_set 4 [(0, 9, 12, 13)]) (rmx 13 540) D cy [.ref (a 0), .int x1, .ref ho] (wX7 cy a v ++ [oc cy ho f]) (wX7 cy a v2 ++ [oc cy ho f]) (some (.int 1)) := by
  subst hE
  refine okW_of (own := RL) (nme := "set") (cc := cL_set) (maxL := 4) (ret := some .int) (hh := [(0, 9, 12, 13)]) (by decide) rfl rfl rfl (Nat.le_of_ble_eq_true rfl) ?_
  intro p e s m args below meth c A F G
  refine V.eq rfl (show lv_args 0 [.ref (a 0), .int x1, .ref ho] = [(0, .ref (a 0)), (1, .int x1), (2, .ref ho)] from rfl) rfl ?_
  refine V_aload_n (pc := 0) F dL_set_0 rfl 2 rfl ?_
  refine V_iconst (pc := 1) (v := 0) F dL_set_1 rfl ?_
  refine V_aload_n (pc := 2) F dL_set_2 rfl 0 rfl ?_
  refine V_iload_n (pc := 3) F dL_set_3 rfl 1 rfl ?_
  refine V_caught (hh := [(0, 9, 12, 13)]) (w2 := wX7 cy a v2 ++ [oc cy ho f]) (rest := [.int 0, .ref ho]) (pc := 4) F G 7 (T_X7_set l hfl D cy N a v x1 (IAE, v2) hf) (cwV 1 F.ts gW_set rfl rfl rfl hd_X7_set ⟨Nat.le_of_ble_eq_true rfl, Nat.le_of_ble_eq_true rfl⟩) rfl dL_set_4 (Fit.left Fit.whole) fstX7 rfl rfl (Nat.le_of_ble_eq_true rfl) (Nat.le_of_ble_eq_true rfl) (Nat.le_of_ble_eq_true rfl) rfl rfl [] ⟨0, 9, 12, 13⟩ [] rfl (fun _ h => absurd h List.not_mem_nil) (by decide) (by decide) (wW_mem (show Cond.classLink RL 13 "java/lang/IllegalArgumentException" ∈ lw_tbl from wIn_r6 _ (List.mem_of_getElem? (i := 6) rfl)) rfl) G.2.2.1.1.1 (fun q => ?_)
  refine V_astore_n (L2 := [(3, .ref q), (0, .ref (a 0)), (1, .int x1), (2, .ref ho)]) (pc := 12) F dL_set_12 rfl (by decide) rfl ?_
  refine V_iconst (pc := 13) (v := 1) F dL_set_13 rfl ?_
  exact V_ret (pc := 14) F rfl rfl dL_set_14 rfl rfl
theorem gW_come : GoodIn (wW yL_come cL_come 4 [(0, 9, 12, 13)]) (wsV RL 36 RX7 yX7_come wsX7_come) := wW_in (wsV_in (show Cond.methodLink RL 36 yX7_come ∈ lw_tbl from wIn_r15 _ (List.mem_of_getElem? (i := 7) rfl)) (show Cond.instanceMethod yX7_come ∈ lw_tbl from wIn_r15 _ (List.mem_of_getElem? (i := 8) rfl)) (show Cond.selects RX7 yX7_come yX7_come ∈ lw_tbl from wIn_r15 _ (List.mem_of_getElem? (i := 9) rfl)) (show Cond.initialized RX7 ∈ lw_tbl from wIn_r1 _ (List.mem_of_getElem? (i := 2) rfl)) im_wsX7_come) (wsV_good gw_wsX7_come)
set_option maxHeartbeats 8000000 in
theorem W_come (l : Launch) (D : va_G) (cy : Nat → ClassId) (N : Nat) (a : Nat → Nat) (ho : Nat) (f : Nat → Int64) (v : SX7) (x1 : Int32) (r : Int32 × SX7) (hf : fX7_come N v x1 = some (.inr r)) : okW l yL_come (wW yL_come cL_come 4 [(0, 9, 12, 13)]) (rmx 13 540) D cy [.ref (a 0), .int x1, .ref ho] (wX7 cy a v ++ [oc cy ho f]) (wX7 cy a r.2 ++ [oc cy ho (vp_updL f 0 r.1.toInt64)]) (some (.int 0)) := by
  refine okW_of (own := RL) (nme := "come") (cc := cL_come) (maxL := 4) (ret := some .int) (hh := [(0, 9, 12, 13)]) (by decide) rfl rfl rfl (Nat.le_of_ble_eq_true rfl) ?_
  intro p e s m args below meth c A F G
  refine V.eq rfl (show lv_args 0 [.ref (a 0), .int x1, .ref ho] = [(0, .ref (a 0)), (1, .int x1), (2, .ref ho)] from rfl) rfl ?_
  refine V_aload_n (pc := 0) F dL_come_0 rfl 2 rfl ?_
  refine V_iconst (pc := 1) (v := 0) F dL_come_1 rfl ?_
  refine V_aload_n (pc := 2) F dL_come_2 rfl 0 rfl ?_
  refine V_iload_n (pc := 3) F dL_come_3 rfl 1 rfl ?_
  refine V_V (w2 := wX7 cy a r.2 ++ [oc cy ho f]) (rest := [.int 0, .ref ho]) (st2 := [.int r.1, .int 0, .ref ho]) (pc := 4) F 7 (M_X7_come l D cy N a v x1 r hf) (cwV 1 F.ts gW_come rfl rfl rfl hd_X7_come ⟨Nat.le_of_ble_eq_true rfl, Nat.le_of_ble_eq_true rfl⟩) rfl dL_come_4 (Fit.left Fit.whole) fstX7 rfl rfl (Nat.le_of_ble_eq_true rfl) (Nat.zero_le _) (Nat.zero_le _) rfl rfl rfl ?_
  refine V_i2l (pc := 7) F dL_come_7 ?_
  refine V_last (f2 := vp_updL f 0 r.1.toInt64) (w2 := wX7 cy a r.2 ++ [oc cy ho (vp_updL f 0 r.1.toInt64)]) (pc := 8) F ((wX7 cy a r.2).length + 0) (at_right (k := 0) rfl) (by unfold vp_in; decide) rfl dL_come_8 (set_last _ _ _) ?_
  refine V_goto (pc := 9) (tgt := 15) F dL_come_9 (by decide) ?_
  refine V_iconst (pc := 15) (v := 0) F dL_come_15 rfl ?_
  refine V_widen (k := 1) (n := 6) (Nat.le_of_ble_eq_true rfl) (Nat.le_of_ble_eq_true rfl) ?_
  exact V_ret (pc := 16) F rfl rfl dL_come_16 rfl rfl
set_option maxHeartbeats 8000000 in
theorem WT_come_0 (l : Launch) (hfl : l.stackTraces = false) (D : va_G) (cy : Nat → ClassId) (N : Nat) (a : Nat → Nat) (ho : Nat) (f : Nat → Int64) (v : SX7) (x1 : Int32) (E : String) (v2 : SX7) (hf : fX7_come N v x1 = some (.inl (E, v2))) (hE : E = IAE) : okW l yL_come (wW yL_come cL_come 4 [(0, 9, 12, 13)]) (rmx 13 540) D cy [.ref (a 0), .int x1, .ref ho] (wX7 cy a v ++ [oc cy ho f]) (wX7 cy a v2 ++ [oc cy ho f]) (some (.int 1)) := by
  subst hE
  refine okW_of (own := RL) (nme := "come") (cc := cL_come) (maxL := 4) (ret := some .int) (hh := [(0, 9, 12, 13)]) (by decide) rfl rfl rfl (Nat.le_of_ble_eq_true rfl) ?_
  intro p e s m args below meth c A F G
  refine V.eq rfl (show lv_args 0 [.ref (a 0), .int x1, .ref ho] = [(0, .ref (a 0)), (1, .int x1), (2, .ref ho)] from rfl) rfl ?_
  refine V_aload_n (pc := 0) F dL_come_0 rfl 2 rfl ?_
  refine V_iconst (pc := 1) (v := 0) F dL_come_1 rfl ?_
  refine V_aload_n (pc := 2) F dL_come_2 rfl 0 rfl ?_
  refine V_iload_n (pc := 3) F dL_come_3 rfl 1 rfl ?_
  refine V_caught (hh := [(0, 9, 12, 13)]) (w2 := wX7 cy a v2 ++ [oc cy ho f]) (rest := [.int 0, .ref ho]) (pc := 4) F G 7 (T_X7_come l hfl D cy N a v x1 (IAE, v2) hf) (cwV 1 F.ts gW_come rfl rfl rfl hd_X7_come ⟨Nat.le_of_ble_eq_true rfl, Nat.le_of_ble_eq_true rfl⟩) rfl dL_come_4 (Fit.left Fit.whole) fstX7 rfl rfl (Nat.le_of_ble_eq_true rfl) (Nat.le_of_ble_eq_true rfl) (Nat.le_of_ble_eq_true rfl) rfl rfl [] ⟨0, 9, 12, 13⟩ [] rfl (fun _ h => absurd h List.not_mem_nil) (by decide) (by decide) (wW_mem (show Cond.classLink RL 13 "java/lang/IllegalArgumentException" ∈ lw_tbl from wIn_r6 _ (List.mem_of_getElem? (i := 6) rfl)) rfl) G.2.2.1.1.1 (fun q => ?_)
  refine V_astore_n (L2 := [(3, .ref q), (0, .ref (a 0)), (1, .int x1), (2, .ref ho)]) (pc := 12) F dL_come_12 rfl (by decide) rfl ?_
  refine V_iconst (pc := 13) (v := 1) F dL_come_13 rfl ?_
  exact V_ret (pc := 14) F rfl rfl dL_come_14 rfl rfl
theorem gW_run : GoodIn (wW yL_run cL_run 4 [(0, 9, 12, 13)]) (wsV RL 39 RX7 yX7_run wsX7_run) := wW_in (wsV_in (show Cond.methodLink RL 39 yX7_run ∈ lw_tbl from wIn_r15 _ (List.mem_of_getElem? (i := 19) rfl)) (show Cond.instanceMethod yX7_run ∈ lw_tbl from wIn_r15 _ (List.mem_of_getElem? (i := 20) rfl)) (show Cond.selects RX7 yX7_run yX7_run ∈ lw_tbl from wIn_r15 _ (List.mem_of_getElem? (i := 21) rfl)) (show Cond.initialized RX7 ∈ lw_tbl from wIn_r1 _ (List.mem_of_getElem? (i := 2) rfl)) im_wsX7_run) (wsV_good gw_wsX7_run)
set_option maxHeartbeats 8000000 in
theorem W_run (l : Launch) (D : va_G) (cy : Nat → ClassId) (N : Nat) (a : Nat → Nat) (ho : Nat) (f : Nat → Int64) (v : SX7) (x1 : Int32) (r : Int32 × SX7) (hf : fX7_run N v x1 = some (.inr r)) : okW l yL_run (wW yL_run cL_run 4 [(0, 9, 12, 13)]) (rmx 13 540) D cy [.ref (a 0), .int x1, .ref ho] (wX7 cy a v ++ [oc cy ho f]) (wX7 cy a r.2 ++ [oc cy ho (vp_updL f 0 r.1.toInt64)]) (some (.int 0)) := by
  refine okW_of (own := RL) (nme := "run") (cc := cL_run) (maxL := 4) (ret := some .int) (hh := [(0, 9, 12, 13)]) (by decide) rfl rfl rfl (Nat.le_of_ble_eq_true rfl) ?_
  intro p e s m args below meth c A F G
  refine V.eq rfl (show lv_args 0 [.ref (a 0), .int x1, .ref ho] = [(0, .ref (a 0)), (1, .int x1), (2, .ref ho)] from rfl) rfl ?_
  refine V_aload_n (pc := 0) F dL_run_0 rfl 2 rfl ?_
  refine V_iconst (pc := 1) (v := 0) F dL_run_1 rfl ?_
  refine V_aload_n (pc := 2) F dL_run_2 rfl 0 rfl ?_
  refine V_iload_n (pc := 3) F dL_run_3 rfl 1 rfl ?_
  refine V_V (w2 := wX7 cy a r.2 ++ [oc cy ho f]) (rest := [.int 0, .ref ho]) (st2 := [.int r.1, .int 0, .ref ho]) (pc := 4) F 7 (M_X7_run l D cy N a v x1 r hf) (cwV 1 F.ts gW_run rfl rfl rfl hd_X7_run ⟨Nat.le_of_ble_eq_true rfl, Nat.le_of_ble_eq_true rfl⟩) rfl dL_run_4 (Fit.left Fit.whole) fstX7 rfl rfl (Nat.le_of_ble_eq_true rfl) (Nat.zero_le _) (Nat.zero_le _) rfl rfl rfl ?_
  refine V_i2l (pc := 7) F dL_run_7 ?_
  refine V_last (f2 := vp_updL f 0 r.1.toInt64) (w2 := wX7 cy a r.2 ++ [oc cy ho (vp_updL f 0 r.1.toInt64)]) (pc := 8) F ((wX7 cy a r.2).length + 0) (at_right (k := 0) rfl) (by unfold vp_in; decide) rfl dL_run_8 (set_last _ _ _) ?_
  refine V_goto (pc := 9) (tgt := 15) F dL_run_9 (by decide) ?_
  refine V_iconst (pc := 15) (v := 0) F dL_run_15 rfl ?_
  refine V_widen (k := 1) (n := 6) (Nat.le_of_ble_eq_true rfl) (Nat.le_of_ble_eq_true rfl) ?_
  exact V_ret (pc := 16) F rfl rfl dL_run_16 rfl rfl
set_option maxHeartbeats 8000000 in
theorem WT_run_0 (l : Launch) (hfl : l.stackTraces = false) (D : va_G) (cy : Nat → ClassId) (N : Nat) (a : Nat → Nat) (ho : Nat) (f : Nat → Int64) (v : SX7) (x1 : Int32) (E : String) (v2 : SX7) (hf : fX7_run N v x1 = some (.inl (E, v2))) (hE : E = IAE) : okW l yL_run (wW yL_run cL_run 4 [(0, 9, 12, 13)]) (rmx 13 540) D cy [.ref (a 0), .int x1, .ref ho] (wX7 cy a v ++ [oc cy ho f]) (wX7 cy a v2 ++ [oc cy ho f]) (some (.int 1)) := by
  subst hE
  refine okW_of (own := RL) (nme := "run") (cc := cL_run) (maxL := 4) (ret := some .int) (hh := [(0, 9, 12, 13)]) (by decide) rfl rfl rfl (Nat.le_of_ble_eq_true rfl) ?_
  intro p e s m args below meth c A F G
  refine V.eq rfl (show lv_args 0 [.ref (a 0), .int x1, .ref ho] = [(0, .ref (a 0)), (1, .int x1), (2, .ref ho)] from rfl) rfl ?_
  refine V_aload_n (pc := 0) F dL_run_0 rfl 2 rfl ?_
  refine V_iconst (pc := 1) (v := 0) F dL_run_1 rfl ?_
  refine V_aload_n (pc := 2) F dL_run_2 rfl 0 rfl ?_
  refine V_iload_n (pc := 3) F dL_run_3 rfl 1 rfl ?_
  refine V_caught (hh := [(0, 9, 12, 13)]) (w2 := wX7 cy a v2 ++ [oc cy ho f]) (rest := [.int 0, .ref ho]) (pc := 4) F G 7 (T_X7_run l hfl D cy N a v x1 (IAE, v2) hf) (cwV 1 F.ts gW_run rfl rfl rfl hd_X7_run ⟨Nat.le_of_ble_eq_true rfl, Nat.le_of_ble_eq_true rfl⟩) rfl dL_run_4 (Fit.left Fit.whole) fstX7 rfl rfl (Nat.le_of_ble_eq_true rfl) (Nat.le_of_ble_eq_true rfl) (Nat.le_of_ble_eq_true rfl) rfl rfl [] ⟨0, 9, 12, 13⟩ [] rfl (fun _ h => absurd h List.not_mem_nil) (by decide) (by decide) (wW_mem (show Cond.classLink RL 13 "java/lang/IllegalArgumentException" ∈ lw_tbl from wIn_r6 _ (List.mem_of_getElem? (i := 6) rfl)) rfl) G.2.2.1.1.1 (fun q => ?_)
  refine V_astore_n (L2 := [(3, .ref q), (0, .ref (a 0)), (1, .int x1), (2, .ref ho)]) (pc := 12) F dL_run_12 rfl (by decide) rfl ?_
  refine V_iconst (pc := 13) (v := 1) F dL_run_13 rfl ?_
  exact V_ret (pc := 14) F rfl rfl dL_run_14 rfl rfl
theorem gW_start : GoodIn (wW yL_start cL_start 4 [(0, 9, 12, 24)]) (wsV RL 42 RX7 yX7_start wsX7_start) := wW_in (wsV_in (show Cond.methodLink RL 42 yX7_start ∈ lw_tbl from wIn_r21 _ (List.mem_of_getElem? (i := 0) rfl)) (show Cond.instanceMethod yX7_start ∈ lw_tbl from wIn_r21 _ (List.mem_of_getElem? (i := 1) rfl)) (show Cond.selects RX7 yX7_start yX7_start ∈ lw_tbl from wIn_r21 _ (List.mem_of_getElem? (i := 2) rfl)) (show Cond.initialized RX7 ∈ lw_tbl from wIn_r1 _ (List.mem_of_getElem? (i := 2) rfl)) im_wsX7_start) (wsV_good gw_wsX7_start)
set_option maxHeartbeats 8000000 in
theorem W_start (l : Launch) (D : va_G) (cy : Nat → ClassId) (N : Nat) (a : Nat → Nat) (ho : Nat) (f : Nat → Int64) (v : SX7) (x1 : Int32) (r : Int32 × SX7) (hf : fX7_start N v x1 = some (.inr r)) : okW l yL_start (wW yL_start cL_start 4 [(0, 9, 12, 24)]) (rmx 13 540) D cy [.ref (a 0), .int x1, .ref ho] (wX7 cy a v ++ [oc cy ho f]) (wX7 cy a r.2 ++ [oc cy ho (vp_updL f 0 r.1.toInt64)]) (some (.int 0)) := by
  refine okW_of (own := RL) (nme := "start") (cc := cL_start) (maxL := 4) (ret := some .int) (hh := [(0, 9, 12, 24)]) (by decide) rfl rfl rfl (Nat.le_of_ble_eq_true rfl) ?_
  intro p e s m args below meth c A F G
  refine V.eq rfl (show lv_args 0 [.ref (a 0), .int x1, .ref ho] = [(0, .ref (a 0)), (1, .int x1), (2, .ref ho)] from rfl) rfl ?_
  refine V_aload_n (pc := 0) F dL_start_0 rfl 2 rfl ?_
  refine V_iconst (pc := 1) (v := 0) F dL_start_1 rfl ?_
  refine V_aload_n (pc := 2) F dL_start_2 rfl 0 rfl ?_
  refine V_iload_n (pc := 3) F dL_start_3 rfl 1 rfl ?_
  refine V_V (w2 := wX7 cy a r.2 ++ [oc cy ho f]) (rest := [.int 0, .ref ho]) (st2 := [.int r.1, .int 0, .ref ho]) (pc := 4) F 7 (M_X7_start l D cy N a v x1 r hf) (cwV 1 F.ts gW_start rfl rfl rfl hd_X7_start ⟨Nat.le_of_ble_eq_true rfl, Nat.le_of_ble_eq_true rfl⟩) rfl dL_start_4 (Fit.left Fit.whole) fstX7 rfl rfl (Nat.le_of_ble_eq_true rfl) (Nat.zero_le _) (Nat.zero_le _) rfl rfl rfl ?_
  refine V_i2l (pc := 7) F dL_start_7 ?_
  refine V_last (f2 := vp_updL f 0 r.1.toInt64) (w2 := wX7 cy a r.2 ++ [oc cy ho (vp_updL f 0 r.1.toInt64)]) (pc := 8) F ((wX7 cy a r.2).length + 0) (at_right (k := 0) rfl) (by unfold vp_in; decide) rfl dL_start_8 (set_last _ _ _) ?_
  refine V_goto (pc := 9) (tgt := 15) F dL_start_9 (by decide) ?_
  refine V_iconst (pc := 15) (v := 0) F dL_start_15 rfl ?_
  refine V_widen (k := 1) (n := 6) (Nat.le_of_ble_eq_true rfl) (Nat.le_of_ble_eq_true rfl) ?_
  exact V_ret (pc := 16) F rfl rfl dL_start_16 rfl rfl
set_option maxHeartbeats 8000000 in
theorem WT_start_0 (l : Launch) (hfl : l.stackTraces = false) (D : va_G) (cy : Nat → ClassId) (N : Nat) (a : Nat → Nat) (ho : Nat) (f : Nat → Int64) (v : SX7) (x1 : Int32) (E : String) (v2 : SX7) (hf : fX7_start N v x1 = some (.inl (E, v2))) (hE : E = IOB) : okW l yL_start (wW yL_start cL_start 4 [(0, 9, 12, 24)]) (rmx 13 540) D cy [.ref (a 0), .int x1, .ref ho] (wX7 cy a v ++ [oc cy ho f]) (wX7 cy a v2 ++ [oc cy ho f]) (some (.int 1)) := by
  subst hE
  refine okW_of (own := RL) (nme := "start") (cc := cL_start) (maxL := 4) (ret := some .int) (hh := [(0, 9, 12, 24)]) (by decide) rfl rfl rfl (Nat.le_of_ble_eq_true rfl) ?_
  intro p e s m args below meth c A F G
  refine V.eq rfl (show lv_args 0 [.ref (a 0), .int x1, .ref ho] = [(0, .ref (a 0)), (1, .int x1), (2, .ref ho)] from rfl) rfl ?_
  refine V_aload_n (pc := 0) F dL_start_0 rfl 2 rfl ?_
  refine V_iconst (pc := 1) (v := 0) F dL_start_1 rfl ?_
  refine V_aload_n (pc := 2) F dL_start_2 rfl 0 rfl ?_
  refine V_iload_n (pc := 3) F dL_start_3 rfl 1 rfl ?_
  refine V_caught (hh := [(0, 9, 12, 24)]) (w2 := wX7 cy a v2 ++ [oc cy ho f]) (rest := [.int 0, .ref ho]) (pc := 4) F G 7 (T_X7_start l hfl D cy N a v x1 (IOB, v2) hf) (cwV 1 F.ts gW_start rfl rfl rfl hd_X7_start ⟨Nat.le_of_ble_eq_true rfl, Nat.le_of_ble_eq_true rfl⟩) rfl dL_start_4 (Fit.left Fit.whole) fstX7 rfl rfl (Nat.le_of_ble_eq_true rfl) (Nat.le_of_ble_eq_true rfl) (Nat.le_of_ble_eq_true rfl) rfl rfl [] ⟨0, 9, 12, 24⟩ [] rfl (fun _ h => absurd h List.not_mem_nil) (by decide) (by decide) (wW_mem (show Cond.classLink RL 24 "java/lang/IndexOutOfBoundsException" ∈ lw_tbl from wIn_r11 _ (List.mem_of_getElem? (i := 3) rfl)) rfl) G.2.2.1.1.2.2 (fun q => ?_)
  refine V_astore_n (L2 := [(3, .ref q), (0, .ref (a 0)), (1, .int x1), (2, .ref ho)]) (pc := 12) F dL_start_12 rfl (by decide) rfl ?_
  refine V_iconst (pc := 13) (v := 1) F dL_start_13 rfl ?_
  exact V_ret (pc := 14) F rfl rfl dL_start_14 rfl rfl
theorem gW_append : GoodIn (wW yL_append cL_append 4 [(0, 9, 12, 13), (0, 9, 15, 18)]) (wsV RL 45 RX7 yX7_append wsX7_append) := wW_in (wsV_in (show Cond.methodLink RL 45 yX7_append ∈ lw_tbl from wIn_r21 _ (List.mem_of_getElem? (i := 15) rfl)) (show Cond.instanceMethod yX7_append ∈ lw_tbl from wIn_r21 _ (List.mem_of_getElem? (i := 16) rfl)) (show Cond.selects RX7 yX7_append yX7_append ∈ lw_tbl from wIn_r21 _ (List.mem_of_getElem? (i := 17) rfl)) (show Cond.initialized RX7 ∈ lw_tbl from wIn_r1 _ (List.mem_of_getElem? (i := 2) rfl)) im_wsX7_append) (wsV_good gw_wsX7_append)
set_option maxHeartbeats 8000000 in
theorem W_append (l : Launch) (D : va_G) (cy : Nat → ClassId) (N : Nat) (a : Nat → Nat) (ho : Nat) (f : Nat → Int64) (v : SX7) (x1 : Int32) (r : Int32 × SX7) (hf : fX7_append N v x1 = some (.inr r)) : okW l yL_append (wW yL_append cL_append 4 [(0, 9, 12, 13), (0, 9, 15, 18)]) (rmx 13 540) D cy [.ref (a 0), .int x1, .ref ho] (wX7 cy a v ++ [oc cy ho f]) (wX7 cy a r.2 ++ [oc cy ho (vp_updL f 0 r.1.toInt64)]) (some (.int 0)) := by
  refine okW_of (own := RL) (nme := "append") (cc := cL_append) (maxL := 4) (ret := some .int) (hh := [(0, 9, 12, 13), (0, 9, 15, 18)]) (by decide) rfl rfl rfl (Nat.le_of_ble_eq_true rfl) ?_
  intro p e s m args below meth c A F G
  refine V.eq rfl (show lv_args 0 [.ref (a 0), .int x1, .ref ho] = [(0, .ref (a 0)), (1, .int x1), (2, .ref ho)] from rfl) rfl ?_
  refine V_aload_n (pc := 0) F dL_append_0 rfl 2 rfl ?_
  refine V_iconst (pc := 1) (v := 0) F dL_append_1 rfl ?_
  refine V_aload_n (pc := 2) F dL_append_2 rfl 0 rfl ?_
  refine V_iload_n (pc := 3) F dL_append_3 rfl 1 rfl ?_
  refine V_V (w2 := wX7 cy a r.2 ++ [oc cy ho f]) (rest := [.int 0, .ref ho]) (st2 := [.int r.1, .int 0, .ref ho]) (pc := 4) F 7 (M_X7_append l D cy N a v x1 r hf) (cwV 1 F.ts gW_append rfl rfl rfl hd_X7_append ⟨Nat.le_of_ble_eq_true rfl, Nat.le_of_ble_eq_true rfl⟩) rfl dL_append_4 (Fit.left Fit.whole) fstX7 rfl rfl (Nat.le_of_ble_eq_true rfl) (Nat.zero_le _) (Nat.zero_le _) rfl rfl rfl ?_
  refine V_i2l (pc := 7) F dL_append_7 ?_
  refine V_last (f2 := vp_updL f 0 r.1.toInt64) (w2 := wX7 cy a r.2 ++ [oc cy ho (vp_updL f 0 r.1.toInt64)]) (pc := 8) F ((wX7 cy a r.2).length + 0) (at_right (k := 0) rfl) (by unfold vp_in; decide) rfl dL_append_8 (set_last _ _ _) ?_
  refine V_goto (pc := 9) (tgt := 18) F dL_append_9 (by decide) ?_
  refine V_iconst (pc := 18) (v := 0) F dL_append_18 rfl ?_
  refine V_widen (k := 1) (n := 6) (Nat.le_of_ble_eq_true rfl) (Nat.le_of_ble_eq_true rfl) ?_
  exact V_ret (pc := 19) F rfl rfl dL_append_19 rfl rfl
set_option maxHeartbeats 8000000 in
theorem WT_append_0 (l : Launch) (hfl : l.stackTraces = false) (D : va_G) (cy : Nat → ClassId) (N : Nat) (a : Nat → Nat) (ho : Nat) (f : Nat → Int64) (v : SX7) (x1 : Int32) (E : String) (v2 : SX7) (hf : fX7_append N v x1 = some (.inl (E, v2))) (hE : E = IAE) : okW l yL_append (wW yL_append cL_append 4 [(0, 9, 12, 13), (0, 9, 15, 18)]) (rmx 13 540) D cy [.ref (a 0), .int x1, .ref ho] (wX7 cy a v ++ [oc cy ho f]) (wX7 cy a v2 ++ [oc cy ho f]) (some (.int 1)) := by
  subst hE
  refine okW_of (own := RL) (nme := "append") (cc := cL_append) (maxL := 4) (ret := some .int) (hh := [(0, 9, 12, 13), (0, 9, 15, 18)]) (by decide) rfl rfl rfl (Nat.le_of_ble_eq_true rfl) ?_
  intro p e s m args below meth c A F G
  refine V.eq rfl (show lv_args 0 [.ref (a 0), .int x1, .ref ho] = [(0, .ref (a 0)), (1, .int x1), (2, .ref ho)] from rfl) rfl ?_
  refine V_aload_n (pc := 0) F dL_append_0 rfl 2 rfl ?_
  refine V_iconst (pc := 1) (v := 0) F dL_append_1 rfl ?_
  refine V_aload_n (pc := 2) F dL_append_2 rfl 0 rfl ?_
  refine V_iload_n (pc := 3) F dL_append_3 rfl 1 rfl ?_
  refine V_caught (hh := [(0, 9, 12, 13), (0, 9, 15, 18)]) (w2 := wX7 cy a v2 ++ [oc cy ho f]) (rest := [.int 0, .ref ho]) (pc := 4) F G 7 (T_X7_append l hfl D cy N a v x1 (IAE, v2) hf) (cwV 1 F.ts gW_append rfl rfl rfl hd_X7_append ⟨Nat.le_of_ble_eq_true rfl, Nat.le_of_ble_eq_true rfl⟩) rfl dL_append_4 (Fit.left Fit.whole) fstX7 rfl rfl (Nat.le_of_ble_eq_true rfl) (Nat.le_of_ble_eq_true rfl) (Nat.le_of_ble_eq_true rfl) rfl rfl [] ⟨0, 9, 12, 13⟩ [⟨0, 9, 15, 18⟩] rfl (fun _ h => absurd h List.not_mem_nil) (by decide) (by decide) (wW_mem (show Cond.classLink RL 13 "java/lang/IllegalArgumentException" ∈ lw_tbl from wIn_r6 _ (List.mem_of_getElem? (i := 6) rfl)) rfl) G.2.2.1.1.1 (fun q => ?_)
  refine V_astore_n (L2 := [(3, .ref q), (0, .ref (a 0)), (1, .int x1), (2, .ref ho)]) (pc := 12) F dL_append_12 rfl (by decide) rfl ?_
  refine V_iconst (pc := 13) (v := 1) F dL_append_13 rfl ?_
  exact V_ret (pc := 14) F rfl rfl dL_append_14 rfl rfl
set_option maxHeartbeats 8000000 in
theorem WT_append_1 (l : Launch) (hfl : l.stackTraces = false) (D : va_G) (cy : Nat → ClassId) (N : Nat) (a : Nat → Nat) (ho : Nat) (f : Nat → Int64) (v : SX7) (x1 : Int32) (E : String) (v2 : SX7) (hf : fX7_append N v x1 = some (.inl (E, v2))) (hE : E = ISE) : okW l yL_append (wW yL_append cL_append 4 [(0, 9, 12, 13), (0, 9, 15, 18)]) (rmx 13 540) D cy [.ref (a 0), .int x1, .ref ho] (wX7 cy a v ++ [oc cy ho f]) (wX7 cy a v2 ++ [oc cy ho f]) (some (.int 2)) := by
  subst hE
  refine okW_of (own := RL) (nme := "append") (cc := cL_append) (maxL := 4) (ret := some .int) (hh := [(0, 9, 12, 13), (0, 9, 15, 18)]) (by decide) rfl rfl rfl (Nat.le_of_ble_eq_true rfl) ?_
  intro p e s m args below meth c A F G
  refine V.eq rfl (show lv_args 0 [.ref (a 0), .int x1, .ref ho] = [(0, .ref (a 0)), (1, .int x1), (2, .ref ho)] from rfl) rfl ?_
  refine V_aload_n (pc := 0) F dL_append_0 rfl 2 rfl ?_
  refine V_iconst (pc := 1) (v := 0) F dL_append_1 rfl ?_
  refine V_aload_n (pc := 2) F dL_append_2 rfl 0 rfl ?_
  refine V_iload_n (pc := 3) F dL_append_3 rfl 1 rfl ?_
  refine V_caught (hh := [(0, 9, 12, 13), (0, 9, 15, 18)]) (w2 := wX7 cy a v2 ++ [oc cy ho f]) (rest := [.int 0, .ref ho]) (pc := 4) F G 7 (T_X7_append l hfl D cy N a v x1 (ISE, v2) hf) (cwV 1 F.ts gW_append rfl rfl rfl hd_X7_append ⟨Nat.le_of_ble_eq_true rfl, Nat.le_of_ble_eq_true rfl⟩) rfl dL_append_4 (Fit.left Fit.whole) fstX7 rfl rfl (Nat.le_of_ble_eq_true rfl) (Nat.le_of_ble_eq_true rfl) (Nat.le_of_ble_eq_true rfl) rfl rfl [⟨0, 9, 12, 13⟩] ⟨0, 9, 15, 18⟩ [] rfl (List.forall_mem_cons.mpr ⟨Or.inr ⟨by decide, IAE, wW_mem (show Cond.classLink RL 13 "java/lang/IllegalArgumentException" ∈ lw_tbl from wIn_r6 _ (List.mem_of_getElem? (i := 6) rfl)) rfl, G.2.2.1.2.1⟩, fun _ h => absurd h List.not_mem_nil⟩) (by decide) (by decide) (wW_mem (show Cond.classLink RL 18 "java/lang/IllegalStateException" ∈ lw_tbl from wIn_r9 _ (List.mem_of_getElem? (i := 15) rfl)) rfl) G.2.2.1.1.2.1 (fun q => ?_)
  refine V_astore_n (L2 := [(3, .ref q), (0, .ref (a 0)), (1, .int x1), (2, .ref ho)]) (pc := 15) F dL_append_15 rfl (by decide) rfl ?_
  refine V_iconst (pc := 16) (v := 2) F dL_append_16 rfl ?_
  exact V_ret (pc := 17) F rfl rfl dL_append_17 rfl rfl
theorem gW_build : GoodIn (wW yL_build cL_build 3 [(0, 8, 11, 13)]) (wsV RL 48 RX7 yX7_build wsX7_build) := wW_in (wsV_in (show Cond.methodLink RL 48 yX7_build ∈ lw_tbl from wIn_r26 _ (List.mem_of_getElem? (i := 1) rfl)) (show Cond.instanceMethod yX7_build ∈ lw_tbl from wIn_r26 _ (List.mem_of_getElem? (i := 2) rfl)) (show Cond.selects RX7 yX7_build yX7_build ∈ lw_tbl from wIn_r26 _ (List.mem_of_getElem? (i := 3) rfl)) (show Cond.initialized RX7 ∈ lw_tbl from wIn_r1 _ (List.mem_of_getElem? (i := 2) rfl)) im_wsX7_build) (wsV_good gw_wsX7_build)
set_option maxHeartbeats 8000000 in
theorem W_build (l : Launch) (D : va_G) (cy : Nat → ClassId) (N : Nat) (a : Nat → Nat) (ho : Nat) (f : Nat → Int64) (v : SX7) (r : Int32 × SX7) (hf : fX7_build N v = some (.inr r)) : okW l yL_build (wW yL_build cL_build 3 [(0, 8, 11, 13)]) (rmx 13 540) D cy [.ref (a 0), .ref ho] (wX7 cy a v ++ [oc cy ho f]) (wX7 cy a r.2 ++ [oc cy ho (vp_updL f 0 r.1.toInt64)]) (some (.int 0)) := by
  refine okW_of (own := RL) (nme := "build") (cc := cL_build) (maxL := 3) (ret := some .int) (hh := [(0, 8, 11, 13)]) (by decide) rfl rfl rfl (Nat.le_of_ble_eq_true rfl) ?_
  intro p e s m args below meth c A F G
  refine V.eq rfl (show lv_args 0 [.ref (a 0), .ref ho] = [(0, .ref (a 0)), (1, .ref ho)] from rfl) rfl ?_
  refine V_aload_n (pc := 0) F dL_build_0 rfl 1 rfl ?_
  refine V_iconst (pc := 1) (v := 0) F dL_build_1 rfl ?_
  refine V_aload_n (pc := 2) F dL_build_2 rfl 0 rfl ?_
  refine V_V (w2 := wX7 cy a r.2 ++ [oc cy ho f]) (rest := [.int 0, .ref ho]) (st2 := [.int r.1, .int 0, .ref ho]) (pc := 3) F 7 (M_X7_build l D cy N a v r hf) (cwV 0 F.ts gW_build rfl rfl rfl hd_X7_build ⟨Nat.le_of_ble_eq_true rfl, Nat.le_of_ble_eq_true rfl⟩) rfl dL_build_3 (Fit.left Fit.whole) fstX7 rfl rfl (Nat.le_of_ble_eq_true rfl) (Nat.zero_le _) (Nat.zero_le _) rfl rfl rfl ?_
  refine V_i2l (pc := 6) F dL_build_6 ?_
  refine V_last (f2 := vp_updL f 0 r.1.toInt64) (w2 := wX7 cy a r.2 ++ [oc cy ho (vp_updL f 0 r.1.toInt64)]) (pc := 7) F ((wX7 cy a r.2).length + 0) (at_right (k := 0) rfl) (by unfold vp_in; decide) rfl dL_build_7 (set_last _ _ _) ?_
  refine V_goto (pc := 8) (tgt := 14) F dL_build_8 (by decide) ?_
  refine V_iconst (pc := 14) (v := 0) F dL_build_14 rfl ?_
  refine V_widen (k := 1) (n := 6) (Nat.le_of_ble_eq_true rfl) (Nat.le_of_ble_eq_true rfl) ?_
  exact V_ret (pc := 15) F rfl rfl dL_build_15 rfl rfl
set_option maxHeartbeats 8000000 in
theorem WT_build_0 (l : Launch) (hfl : l.stackTraces = false) (D : va_G) (cy : Nat → ClassId) (N : Nat) (a : Nat → Nat) (ho : Nat) (f : Nat → Int64) (v : SX7) (E : String) (v2 : SX7) (hf : fX7_build N v = some (.inl (E, v2))) (hE : E = IAE) : okW l yL_build (wW yL_build cL_build 3 [(0, 8, 11, 13)]) (rmx 13 540) D cy [.ref (a 0), .ref ho] (wX7 cy a v ++ [oc cy ho f]) (wX7 cy a v2 ++ [oc cy ho f]) (some (.int 1)) := by
  subst hE
  refine okW_of (own := RL) (nme := "build") (cc := cL_build) (maxL := 3) (ret := some .int) (hh := [(0, 8, 11, 13)]) (by decide) rfl rfl rfl (Nat.le_of_ble_eq_true rfl) ?_
  intro p e s m args below meth c A F G
  refine V.eq rfl (show lv_args 0 [.ref (a 0), .ref ho] = [(0, .ref (a 0)), (1, .ref ho)] from rfl) rfl ?_
  refine V_aload_n (pc := 0) F dL_build_0 rfl 1 rfl ?_
  refine V_iconst (pc := 1) (v := 0) F dL_build_1 rfl ?_
  refine V_aload_n (pc := 2) F dL_build_2 rfl 0 rfl ?_
  refine V_caught (hh := [(0, 8, 11, 13)]) (w2 := wX7 cy a v2 ++ [oc cy ho f]) (rest := [.int 0, .ref ho]) (pc := 3) F G 7 (T_X7_build l hfl D cy N a v (IAE, v2) hf) (cwV 0 F.ts gW_build rfl rfl rfl hd_X7_build ⟨Nat.le_of_ble_eq_true rfl, Nat.le_of_ble_eq_true rfl⟩) rfl dL_build_3 (Fit.left Fit.whole) fstX7 rfl rfl (Nat.le_of_ble_eq_true rfl) (Nat.le_of_ble_eq_true rfl) (Nat.le_of_ble_eq_true rfl) rfl rfl [] ⟨0, 8, 11, 13⟩ [] rfl (fun _ h => absurd h List.not_mem_nil) (by decide) (by decide) (wW_mem (show Cond.classLink RL 13 "java/lang/IllegalArgumentException" ∈ lw_tbl from wIn_r6 _ (List.mem_of_getElem? (i := 6) rfl)) rfl) G.2.2.1.1.1 (fun q => ?_)
  refine V_astore_n (L2 := [(2, .ref q), (0, .ref (a 0)), (1, .ref ho)]) (pc := 11) F dL_build_11 rfl (by decide) rfl ?_
  refine V_iconst (pc := 12) (v := 1) F dL_build_12 rfl ?_
  exact V_ret (pc := 13) F rfl rfl dL_build_13 rfl rfl
theorem gW_undo : GoodIn (wW yL_undo cL_undo 3 [(0, 8, 11, 18)]) (wsV RL 52 RX7 yX7_undo wsX7_undo) := wW_in (wsV_in (show Cond.methodLink RL 52 yX7_undo ∈ lw_tbl from wIn_r27 _ (List.mem_of_getElem? (i := 12) rfl)) (show Cond.instanceMethod yX7_undo ∈ lw_tbl from wIn_r27 _ (List.mem_of_getElem? (i := 13) rfl)) (show Cond.selects RX7 yX7_undo yX7_undo ∈ lw_tbl from wIn_r27 _ (List.mem_of_getElem? (i := 14) rfl)) (show Cond.initialized RX7 ∈ lw_tbl from wIn_r1 _ (List.mem_of_getElem? (i := 2) rfl)) im_wsX7_undo) (wsV_good gw_wsX7_undo)
set_option maxHeartbeats 8000000 in
theorem W_undo (l : Launch) (D : va_G) (cy : Nat → ClassId) (N : Nat) (a : Nat → Nat) (ho : Nat) (f : Nat → Int64) (v : SX7) (r : Int32 × SX7) (hf : fX7_undo N v = some (.inr r)) : okW l yL_undo (wW yL_undo cL_undo 3 [(0, 8, 11, 18)]) (rmx 13 540) D cy [.ref (a 0), .ref ho] (wX7 cy a v ++ [oc cy ho f]) (wX7 cy a r.2 ++ [oc cy ho (vp_updL f 0 r.1.toInt64)]) (some (.int 0)) := by
  refine okW_of (own := RL) (nme := "undo") (cc := cL_undo) (maxL := 3) (ret := some .int) (hh := [(0, 8, 11, 18)]) (by decide) rfl rfl rfl (Nat.le_of_ble_eq_true rfl) ?_
  intro p e s m args below meth c A F G
  refine V.eq rfl (show lv_args 0 [.ref (a 0), .ref ho] = [(0, .ref (a 0)), (1, .ref ho)] from rfl) rfl ?_
  refine V_aload_n (pc := 0) F dL_undo_0 rfl 1 rfl ?_
  refine V_iconst (pc := 1) (v := 0) F dL_undo_1 rfl ?_
  refine V_aload_n (pc := 2) F dL_undo_2 rfl 0 rfl ?_
  refine V_V (w2 := wX7 cy a r.2 ++ [oc cy ho f]) (rest := [.int 0, .ref ho]) (st2 := [.int r.1, .int 0, .ref ho]) (pc := 3) F 7 (M_X7_undo l D cy N a v r hf) (cwV 0 F.ts gW_undo rfl rfl rfl hd_X7_undo ⟨Nat.le_of_ble_eq_true rfl, Nat.le_of_ble_eq_true rfl⟩) rfl dL_undo_3 (Fit.left Fit.whole) fstX7 rfl rfl (Nat.le_of_ble_eq_true rfl) (Nat.zero_le _) (Nat.zero_le _) rfl rfl rfl ?_
  refine V_i2l (pc := 6) F dL_undo_6 ?_
  refine V_last (f2 := vp_updL f 0 r.1.toInt64) (w2 := wX7 cy a r.2 ++ [oc cy ho (vp_updL f 0 r.1.toInt64)]) (pc := 7) F ((wX7 cy a r.2).length + 0) (at_right (k := 0) rfl) (by unfold vp_in; decide) rfl dL_undo_7 (set_last _ _ _) ?_
  refine V_goto (pc := 8) (tgt := 14) F dL_undo_8 (by decide) ?_
  refine V_iconst (pc := 14) (v := 0) F dL_undo_14 rfl ?_
  refine V_widen (k := 1) (n := 6) (Nat.le_of_ble_eq_true rfl) (Nat.le_of_ble_eq_true rfl) ?_
  exact V_ret (pc := 15) F rfl rfl dL_undo_15 rfl rfl
set_option maxHeartbeats 8000000 in
theorem WT_undo_0 (l : Launch) (hfl : l.stackTraces = false) (D : va_G) (cy : Nat → ClassId) (N : Nat) (a : Nat → Nat) (ho : Nat) (f : Nat → Int64) (v : SX7) (E : String) (v2 : SX7) (hf : fX7_undo N v = some (.inl (E, v2))) (hE : E = ISE) : okW l yL_undo (wW yL_undo cL_undo 3 [(0, 8, 11, 18)]) (rmx 13 540) D cy [.ref (a 0), .ref ho] (wX7 cy a v ++ [oc cy ho f]) (wX7 cy a v2 ++ [oc cy ho f]) (some (.int 1)) := by
  subst hE
  refine okW_of (own := RL) (nme := "undo") (cc := cL_undo) (maxL := 3) (ret := some .int) (hh := [(0, 8, 11, 18)]) (by decide) rfl rfl rfl (Nat.le_of_ble_eq_true rfl) ?_
  intro p e s m args below meth c A F G
  refine V.eq rfl (show lv_args 0 [.ref (a 0), .ref ho] = [(0, .ref (a 0)), (1, .ref ho)] from rfl) rfl ?_
  refine V_aload_n (pc := 0) F dL_undo_0 rfl 1 rfl ?_
  refine V_iconst (pc := 1) (v := 0) F dL_undo_1 rfl ?_
  refine V_aload_n (pc := 2) F dL_undo_2 rfl 0 rfl ?_
  refine V_caught (hh := [(0, 8, 11, 18)]) (w2 := wX7 cy a v2 ++ [oc cy ho f]) (rest := [.int 0, .ref ho]) (pc := 3) F G 7 (T_X7_undo l hfl D cy N a v (ISE, v2) hf) (cwV 0 F.ts gW_undo rfl rfl rfl hd_X7_undo ⟨Nat.le_of_ble_eq_true rfl, Nat.le_of_ble_eq_true rfl⟩) rfl dL_undo_3 (Fit.left Fit.whole) fstX7 rfl rfl (Nat.le_of_ble_eq_true rfl) (Nat.le_of_ble_eq_true rfl) (Nat.le_of_ble_eq_true rfl) rfl rfl [] ⟨0, 8, 11, 18⟩ [] rfl (fun _ h => absurd h List.not_mem_nil) (by decide) (by decide) (wW_mem (show Cond.classLink RL 18 "java/lang/IllegalStateException" ∈ lw_tbl from wIn_r9 _ (List.mem_of_getElem? (i := 15) rfl)) rfl) G.2.2.1.1.2.1 (fun q => ?_)
  refine V_astore_n (L2 := [(2, .ref q), (0, .ref (a 0)), (1, .ref ho)]) (pc := 11) F dL_undo_11 rfl (by decide) rfl ?_
  refine V_iconst (pc := 12) (v := 1) F dL_undo_12 rfl ?_
  exact V_ret (pc := 13) F rfl rfl dL_undo_13 rfl rfl
theorem gW_phase : GoodIn (wW yL_phase cL_phase 5 [(0, 10, 13, 24), (0, 10, 17, 13)]) (wsV RL 55 RX7 yX7_phase wsX7_phase) := wW_in (wsV_in (show Cond.methodLink RL 55 yX7_phase ∈ lw_tbl from wIn_r28 _ (List.mem_of_getElem? (i := 4) rfl)) (show Cond.instanceMethod yX7_phase ∈ lw_tbl from wIn_r28 _ (List.mem_of_getElem? (i := 5) rfl)) (show Cond.selects RX7 yX7_phase yX7_phase ∈ lw_tbl from wIn_r28 _ (List.mem_of_getElem? (i := 6) rfl)) (show Cond.initialized RX7 ∈ lw_tbl from wIn_r1 _ (List.mem_of_getElem? (i := 2) rfl)) im_wsX7_phase) (wsV_good gw_wsX7_phase)
set_option maxHeartbeats 8000000 in
theorem W_phase (l : Launch) (D : va_G) (cy : Nat → ClassId) (N : Nat) (a : Nat → Nat) (ho : Nat) (f : Nat → Int64) (v : SX7) (x1 : Int32) (x2 : Int32) (r : Int32 × SX7) (hf : fX7_phase N v x1 x2 = some (.inr r)) : okW l yL_phase (wW yL_phase cL_phase 5 [(0, 10, 13, 24), (0, 10, 17, 13)]) (rmx 13 540) D cy [.ref (a 0), .int x1, .int x2, .ref ho] (wX7 cy a v ++ [oc cy ho f]) (wX7 cy a r.2 ++ [oc cy ho (vp_updL f 0 r.1.toInt64)]) (some (.int 0)) := by
  refine okW_of (own := RL) (nme := "phase") (cc := cL_phase) (maxL := 5) (ret := some .int) (hh := [(0, 10, 13, 24), (0, 10, 17, 13)]) (by decide) rfl rfl rfl (Nat.le_of_ble_eq_true rfl) ?_
  intro p e s m args below meth c A F G
  refine V.eq rfl (show lv_args 0 [.ref (a 0), .int x1, .int x2, .ref ho] = [(0, .ref (a 0)), (1, .int x1), (2, .int x2), (3, .ref ho)] from rfl) rfl ?_
  refine V_aload_n (pc := 0) F dL_phase_0 rfl 3 rfl ?_
  refine V_iconst (pc := 1) (v := 0) F dL_phase_1 rfl ?_
  refine V_aload_n (pc := 2) F dL_phase_2 rfl 0 rfl ?_
  refine V_iload_n (pc := 3) F dL_phase_3 rfl 1 rfl ?_
  refine V_iload_n (pc := 4) F dL_phase_4 rfl 2 rfl ?_
  refine V_V (w2 := wX7 cy a r.2 ++ [oc cy ho f]) (rest := [.int 0, .ref ho]) (st2 := [.int r.1, .int 0, .ref ho]) (pc := 5) F 7 (M_X7_phase l D cy N a v x1 x2 r hf) (cwV 2 F.ts gW_phase rfl rfl rfl hd_X7_phase ⟨Nat.le_of_ble_eq_true rfl, Nat.le_of_ble_eq_true rfl⟩) rfl dL_phase_5 (Fit.left Fit.whole) fstX7 rfl rfl (Nat.le_of_ble_eq_true rfl) (Nat.zero_le _) (Nat.zero_le _) rfl rfl rfl ?_
  refine V_i2l (pc := 8) F dL_phase_8 ?_
  refine V_last (f2 := vp_updL f 0 r.1.toInt64) (w2 := wX7 cy a r.2 ++ [oc cy ho (vp_updL f 0 r.1.toInt64)]) (pc := 9) F ((wX7 cy a r.2).length + 0) (at_right (k := 0) rfl) (by unfold vp_in; decide) rfl dL_phase_9 (set_last _ _ _) ?_
  refine V_goto (pc := 10) (tgt := 21) F dL_phase_10 (by decide) ?_
  refine V_iconst (pc := 21) (v := 0) F dL_phase_21 rfl ?_
  refine V_widen (k := 1) (n := 6) (Nat.le_of_ble_eq_true rfl) (Nat.le_of_ble_eq_true rfl) ?_
  exact V_ret (pc := 22) F rfl rfl dL_phase_22 rfl rfl
set_option maxHeartbeats 8000000 in
theorem WT_phase_0 (l : Launch) (hfl : l.stackTraces = false) (D : va_G) (cy : Nat → ClassId) (N : Nat) (a : Nat → Nat) (ho : Nat) (f : Nat → Int64) (v : SX7) (x1 : Int32) (x2 : Int32) (E : String) (v2 : SX7) (hf : fX7_phase N v x1 x2 = some (.inl (E, v2))) (hE : E = IOB) : okW l yL_phase (wW yL_phase cL_phase 5 [(0, 10, 13, 24), (0, 10, 17, 13)]) (rmx 13 540) D cy [.ref (a 0), .int x1, .int x2, .ref ho] (wX7 cy a v ++ [oc cy ho f]) (wX7 cy a v2 ++ [oc cy ho f]) (some (.int 1)) := by
  subst hE
  refine okW_of (own := RL) (nme := "phase") (cc := cL_phase) (maxL := 5) (ret := some .int) (hh := [(0, 10, 13, 24), (0, 10, 17, 13)]) (by decide) rfl rfl rfl (Nat.le_of_ble_eq_true rfl) ?_
  intro p e s m args below meth c A F G
  refine V.eq rfl (show lv_args 0 [.ref (a 0), .int x1, .int x2, .ref ho] = [(0, .ref (a 0)), (1, .int x1), (2, .int x2), (3, .ref ho)] from rfl) rfl ?_
  refine V_aload_n (pc := 0) F dL_phase_0 rfl 3 rfl ?_
  refine V_iconst (pc := 1) (v := 0) F dL_phase_1 rfl ?_
  refine V_aload_n (pc := 2) F dL_phase_2 rfl 0 rfl ?_
  refine V_iload_n (pc := 3) F dL_phase_3 rfl 1 rfl ?_
  refine V_iload_n (pc := 4) F dL_phase_4 rfl 2 rfl ?_
  refine V_caught (hh := [(0, 10, 13, 24), (0, 10, 17, 13)]) (w2 := wX7 cy a v2 ++ [oc cy ho f]) (rest := [.int 0, .ref ho]) (pc := 5) F G 7 (T_X7_phase l hfl D cy N a v x1 x2 (IOB, v2) hf) (cwV 2 F.ts gW_phase rfl rfl rfl hd_X7_phase ⟨Nat.le_of_ble_eq_true rfl, Nat.le_of_ble_eq_true rfl⟩) rfl dL_phase_5 (Fit.left Fit.whole) fstX7 rfl rfl (Nat.le_of_ble_eq_true rfl) (Nat.le_of_ble_eq_true rfl) (Nat.le_of_ble_eq_true rfl) rfl rfl [] ⟨0, 10, 13, 24⟩ [⟨0, 10, 17, 13⟩] rfl (fun _ h => absurd h List.not_mem_nil) (by decide) (by decide) (wW_mem (show Cond.classLink RL 24 "java/lang/IndexOutOfBoundsException" ∈ lw_tbl from wIn_r11 _ (List.mem_of_getElem? (i := 3) rfl)) rfl) G.2.2.1.1.2.2 (fun q => ?_)
  refine V_astore (L2 := [(4, .ref q), (0, .ref (a 0)), (1, .int x1), (2, .int x2), (3, .ref ho)]) (pc := 13) F dL_phase_13 (by decide) rfl ?_
  refine V_iconst (pc := 15) (v := 1) F dL_phase_15 rfl ?_
  exact V_ret (pc := 16) F rfl rfl dL_phase_16 rfl rfl
set_option maxHeartbeats 8000000 in
theorem WT_phase_1 (l : Launch) (hfl : l.stackTraces = false) (D : va_G) (cy : Nat → ClassId) (N : Nat) (a : Nat → Nat) (ho : Nat) (f : Nat → Int64) (v : SX7) (x1 : Int32) (x2 : Int32) (E : String) (v2 : SX7) (hf : fX7_phase N v x1 x2 = some (.inl (E, v2))) (hE : E = IAE) : okW l yL_phase (wW yL_phase cL_phase 5 [(0, 10, 13, 24), (0, 10, 17, 13)]) (rmx 13 540) D cy [.ref (a 0), .int x1, .int x2, .ref ho] (wX7 cy a v ++ [oc cy ho f]) (wX7 cy a v2 ++ [oc cy ho f]) (some (.int 2)) := by
  subst hE
  refine okW_of (own := RL) (nme := "phase") (cc := cL_phase) (maxL := 5) (ret := some .int) (hh := [(0, 10, 13, 24), (0, 10, 17, 13)]) (by decide) rfl rfl rfl (Nat.le_of_ble_eq_true rfl) ?_
  intro p e s m args below meth c A F G
  refine V.eq rfl (show lv_args 0 [.ref (a 0), .int x1, .int x2, .ref ho] = [(0, .ref (a 0)), (1, .int x1), (2, .int x2), (3, .ref ho)] from rfl) rfl ?_
  refine V_aload_n (pc := 0) F dL_phase_0 rfl 3 rfl ?_
  refine V_iconst (pc := 1) (v := 0) F dL_phase_1 rfl ?_
  refine V_aload_n (pc := 2) F dL_phase_2 rfl 0 rfl ?_
  refine V_iload_n (pc := 3) F dL_phase_3 rfl 1 rfl ?_
  refine V_iload_n (pc := 4) F dL_phase_4 rfl 2 rfl ?_
  refine V_caught (hh := [(0, 10, 13, 24), (0, 10, 17, 13)]) (w2 := wX7 cy a v2 ++ [oc cy ho f]) (rest := [.int 0, .ref ho]) (pc := 5) F G 7 (T_X7_phase l hfl D cy N a v x1 x2 (IAE, v2) hf) (cwV 2 F.ts gW_phase rfl rfl rfl hd_X7_phase ⟨Nat.le_of_ble_eq_true rfl, Nat.le_of_ble_eq_true rfl⟩) rfl dL_phase_5 (Fit.left Fit.whole) fstX7 rfl rfl (Nat.le_of_ble_eq_true rfl) (Nat.le_of_ble_eq_true rfl) (Nat.le_of_ble_eq_true rfl) rfl rfl [⟨0, 10, 13, 24⟩] ⟨0, 10, 17, 13⟩ [] rfl (List.forall_mem_cons.mpr ⟨Or.inr ⟨by decide, IOB, wW_mem (show Cond.classLink RL 24 "java/lang/IndexOutOfBoundsException" ∈ lw_tbl from wIn_r11 _ (List.mem_of_getElem? (i := 3) rfl)) rfl, G.2.2.1.2.2.1⟩, fun _ h => absurd h List.not_mem_nil⟩) (by decide) (by decide) (wW_mem (show Cond.classLink RL 13 "java/lang/IllegalArgumentException" ∈ lw_tbl from wIn_r6 _ (List.mem_of_getElem? (i := 6) rfl)) rfl) G.2.2.1.1.1 (fun q => ?_)
  refine V_astore (L2 := [(4, .ref q), (0, .ref (a 0)), (1, .int x1), (2, .int x2), (3, .ref ho)]) (pc := 17) F dL_phase_17 (by decide) rfl ?_
  refine V_iconst (pc := 19) (v := 2) F dL_phase_19 rfl ?_
  exact V_ret (pc := 20) F rfl rfl dL_phase_20 rfl rfl
theorem gW_rule : GoodIn (wW yL_rule cL_rule 6 [(0, 12, 15, 24), (0, 12, 19, 13)]) (wsV RL 58 RX7 yX7_rule wsX7_rule) := wW_in (wsV_in (show Cond.methodLink RL 58 yX7_rule ∈ lw_tbl from wIn_r30 _ (List.mem_of_getElem? (i := 8) rfl)) (show Cond.instanceMethod yX7_rule ∈ lw_tbl from wIn_r30 _ (List.mem_of_getElem? (i := 9) rfl)) (show Cond.selects RX7 yX7_rule yX7_rule ∈ lw_tbl from wIn_r30 _ (List.mem_of_getElem? (i := 10) rfl)) (show Cond.initialized RX7 ∈ lw_tbl from wIn_r1 _ (List.mem_of_getElem? (i := 2) rfl)) im_wsX7_rule) (wsV_good gw_wsX7_rule)
set_option maxHeartbeats 8000000 in
theorem W_rule (l : Launch) (D : va_G) (cy : Nat → ClassId) (N : Nat) (a : Nat → Nat) (ho : Nat) (f : Nat → Int64) (v : SX7) (x1 : Int32) (x2 : Int32) (x3 : Int32) (r : Int32) (hf : fX7_rule N v x1 x2 x3 = some (.inr r)) : okW l yL_rule (wW yL_rule cL_rule 6 [(0, 12, 15, 24), (0, 12, 19, 13)]) (rmx 13 540) D cy [.ref (a 0), .int x1, .int x2, .int x3, .ref ho] (wX7 cy a v ++ [oc cy ho f]) (wX7 cy a v ++ [oc cy ho (vp_updL f 0 r.toInt64)]) (some (.int 0)) := by
  refine okW_of (own := RL) (nme := "rule") (cc := cL_rule) (maxL := 6) (ret := some .int) (hh := [(0, 12, 15, 24), (0, 12, 19, 13)]) (by decide) rfl rfl rfl (Nat.le_of_ble_eq_true rfl) ?_
  intro p e s m args below meth c A F G
  refine V.eq rfl (show lv_args 0 [.ref (a 0), .int x1, .int x2, .int x3, .ref ho] = [(0, .ref (a 0)), (1, .int x1), (2, .int x2), (3, .int x3), (4, .ref ho)] from rfl) rfl ?_
  refine V_aload (pc := 0) F dL_rule_0 4 rfl ?_
  refine V_iconst (pc := 2) (v := 0) F dL_rule_2 rfl ?_
  refine V_aload_n (pc := 3) F dL_rule_3 rfl 0 rfl ?_
  refine V_iload_n (pc := 4) F dL_rule_4 rfl 1 rfl ?_
  refine V_iload_n (pc := 5) F dL_rule_5 rfl 2 rfl ?_
  refine V_iload_n (pc := 6) F dL_rule_6 rfl 3 rfl ?_
  refine V_V (w2 := wX7 cy a v ++ [oc cy ho f]) (rest := [.int 0, .ref ho]) (st2 := [.int r, .int 0, .ref ho]) (pc := 7) F 7 (M_X7_rule l D cy N a v x1 x2 x3 r hf) (cwV 3 F.ts gW_rule rfl rfl rfl hd_X7_rule ⟨Nat.le_of_ble_eq_true rfl, Nat.le_of_ble_eq_true rfl⟩) rfl dL_rule_7 (Fit.left Fit.whole) fstX7 rfl rfl (Nat.le_of_ble_eq_true rfl) (Nat.zero_le _) (Nat.zero_le _) rfl rfl rfl ?_
  refine V_i2l (pc := 10) F dL_rule_10 ?_
  refine V_last (f2 := vp_updL f 0 r.toInt64) (w2 := wX7 cy a v ++ [oc cy ho (vp_updL f 0 r.toInt64)]) (pc := 11) F ((wX7 cy a v).length + 0) (at_right (k := 0) rfl) (by unfold vp_in; decide) rfl dL_rule_11 (set_last _ _ _) ?_
  refine V_goto (pc := 12) (tgt := 23) F dL_rule_12 (by decide) ?_
  refine V_iconst (pc := 23) (v := 0) F dL_rule_23 rfl ?_
  refine V_widen (k := 1) (n := 6) (Nat.le_of_ble_eq_true rfl) (Nat.le_of_ble_eq_true rfl) ?_
  exact V_ret (pc := 24) F rfl rfl dL_rule_24 rfl rfl
set_option maxHeartbeats 8000000 in
theorem WT_rule_0 (l : Launch) (hfl : l.stackTraces = false) (D : va_G) (cy : Nat → ClassId) (N : Nat) (a : Nat → Nat) (ho : Nat) (f : Nat → Int64) (v : SX7) (x1 : Int32) (x2 : Int32) (x3 : Int32) (E : String) (hf : fX7_rule N v x1 x2 x3 = some (.inl E)) (hE : E = IOB) : okW l yL_rule (wW yL_rule cL_rule 6 [(0, 12, 15, 24), (0, 12, 19, 13)]) (rmx 13 540) D cy [.ref (a 0), .int x1, .int x2, .int x3, .ref ho] (wX7 cy a v ++ [oc cy ho f]) (wX7 cy a v ++ [oc cy ho f]) (some (.int 1)) := by
  subst hE
  refine okW_of (own := RL) (nme := "rule") (cc := cL_rule) (maxL := 6) (ret := some .int) (hh := [(0, 12, 15, 24), (0, 12, 19, 13)]) (by decide) rfl rfl rfl (Nat.le_of_ble_eq_true rfl) ?_
  intro p e s m args below meth c A F G
  refine V.eq rfl (show lv_args 0 [.ref (a 0), .int x1, .int x2, .int x3, .ref ho] = [(0, .ref (a 0)), (1, .int x1), (2, .int x2), (3, .int x3), (4, .ref ho)] from rfl) rfl ?_
  refine V_aload (pc := 0) F dL_rule_0 4 rfl ?_
  refine V_iconst (pc := 2) (v := 0) F dL_rule_2 rfl ?_
  refine V_aload_n (pc := 3) F dL_rule_3 rfl 0 rfl ?_
  refine V_iload_n (pc := 4) F dL_rule_4 rfl 1 rfl ?_
  refine V_iload_n (pc := 5) F dL_rule_5 rfl 2 rfl ?_
  refine V_iload_n (pc := 6) F dL_rule_6 rfl 3 rfl ?_
  refine V_caught (hh := [(0, 12, 15, 24), (0, 12, 19, 13)]) (w2 := wX7 cy a v ++ [oc cy ho f]) (rest := [.int 0, .ref ho]) (pc := 7) F G 7 (T_X7_rule l hfl D cy N a v x1 x2 x3 IOB hf) (cwV 3 F.ts gW_rule rfl rfl rfl hd_X7_rule ⟨Nat.le_of_ble_eq_true rfl, Nat.le_of_ble_eq_true rfl⟩) rfl dL_rule_7 (Fit.left Fit.whole) fstX7 rfl rfl (Nat.le_of_ble_eq_true rfl) (Nat.le_of_ble_eq_true rfl) (Nat.le_of_ble_eq_true rfl) rfl rfl [] ⟨0, 12, 15, 24⟩ [⟨0, 12, 19, 13⟩] rfl (fun _ h => absurd h List.not_mem_nil) (by decide) (by decide) (wW_mem (show Cond.classLink RL 24 "java/lang/IndexOutOfBoundsException" ∈ lw_tbl from wIn_r11 _ (List.mem_of_getElem? (i := 3) rfl)) rfl) G.2.2.1.1.2.2 (fun q => ?_)
  refine V_astore (L2 := [(5, .ref q), (0, .ref (a 0)), (1, .int x1), (2, .int x2), (3, .int x3), (4, .ref ho)]) (pc := 15) F dL_rule_15 (by decide) rfl ?_
  refine V_iconst (pc := 17) (v := 1) F dL_rule_17 rfl ?_
  exact V_ret (pc := 18) F rfl rfl dL_rule_18 rfl rfl
set_option maxHeartbeats 8000000 in
theorem WT_rule_1 (l : Launch) (hfl : l.stackTraces = false) (D : va_G) (cy : Nat → ClassId) (N : Nat) (a : Nat → Nat) (ho : Nat) (f : Nat → Int64) (v : SX7) (x1 : Int32) (x2 : Int32) (x3 : Int32) (E : String) (hf : fX7_rule N v x1 x2 x3 = some (.inl E)) (hE : E = IAE) : okW l yL_rule (wW yL_rule cL_rule 6 [(0, 12, 15, 24), (0, 12, 19, 13)]) (rmx 13 540) D cy [.ref (a 0), .int x1, .int x2, .int x3, .ref ho] (wX7 cy a v ++ [oc cy ho f]) (wX7 cy a v ++ [oc cy ho f]) (some (.int 2)) := by
  subst hE
  refine okW_of (own := RL) (nme := "rule") (cc := cL_rule) (maxL := 6) (ret := some .int) (hh := [(0, 12, 15, 24), (0, 12, 19, 13)]) (by decide) rfl rfl rfl (Nat.le_of_ble_eq_true rfl) ?_
  intro p e s m args below meth c A F G
  refine V.eq rfl (show lv_args 0 [.ref (a 0), .int x1, .int x2, .int x3, .ref ho] = [(0, .ref (a 0)), (1, .int x1), (2, .int x2), (3, .int x3), (4, .ref ho)] from rfl) rfl ?_
  refine V_aload (pc := 0) F dL_rule_0 4 rfl ?_
  refine V_iconst (pc := 2) (v := 0) F dL_rule_2 rfl ?_
  refine V_aload_n (pc := 3) F dL_rule_3 rfl 0 rfl ?_
  refine V_iload_n (pc := 4) F dL_rule_4 rfl 1 rfl ?_
  refine V_iload_n (pc := 5) F dL_rule_5 rfl 2 rfl ?_
  refine V_iload_n (pc := 6) F dL_rule_6 rfl 3 rfl ?_
  refine V_caught (hh := [(0, 12, 15, 24), (0, 12, 19, 13)]) (w2 := wX7 cy a v ++ [oc cy ho f]) (rest := [.int 0, .ref ho]) (pc := 7) F G 7 (T_X7_rule l hfl D cy N a v x1 x2 x3 IAE hf) (cwV 3 F.ts gW_rule rfl rfl rfl hd_X7_rule ⟨Nat.le_of_ble_eq_true rfl, Nat.le_of_ble_eq_true rfl⟩) rfl dL_rule_7 (Fit.left Fit.whole) fstX7 rfl rfl (Nat.le_of_ble_eq_true rfl) (Nat.le_of_ble_eq_true rfl) (Nat.le_of_ble_eq_true rfl) rfl rfl [⟨0, 12, 15, 24⟩] ⟨0, 12, 19, 13⟩ [] rfl (List.forall_mem_cons.mpr ⟨Or.inr ⟨by decide, IOB, wW_mem (show Cond.classLink RL 24 "java/lang/IndexOutOfBoundsException" ∈ lw_tbl from wIn_r11 _ (List.mem_of_getElem? (i := 3) rfl)) rfl, G.2.2.1.2.2.1⟩, fun _ h => absurd h List.not_mem_nil⟩) (by decide) (by decide) (wW_mem (show Cond.classLink RL 13 "java/lang/IllegalArgumentException" ∈ lw_tbl from wIn_r6 _ (List.mem_of_getElem? (i := 6) rfl)) rfl) G.2.2.1.1.1 (fun q => ?_)
  refine V_astore (L2 := [(5, .ref q), (0, .ref (a 0)), (1, .int x1), (2, .int x2), (3, .int x3), (4, .ref ho)]) (pc := 19) F dL_rule_19 (by decide) rfl ?_
  refine V_iconst (pc := 21) (v := 2) F dL_rule_21 rfl ?_
  exact V_ret (pc := 22) F rfl rfl dL_rule_22 rfl rfl
theorem gW_direction : GoodIn (wW yL_direction cL_direction 5 [(0, 10, 13, 13)]) (wsV RL 61 RX7 yX7_direction wsX7_direction) := wW_in (wsV_in (show Cond.methodLink RL 61 yX7_direction ∈ lw_tbl from wIn_r31 _ (List.mem_of_getElem? (i := 2) rfl)) (show Cond.instanceMethod yX7_direction ∈ lw_tbl from wIn_r31 _ (List.mem_of_getElem? (i := 3) rfl)) (show Cond.selects RX7 yX7_direction yX7_direction ∈ lw_tbl from wIn_r31 _ (List.mem_of_getElem? (i := 4) rfl)) (show Cond.initialized RX7 ∈ lw_tbl from wIn_r1 _ (List.mem_of_getElem? (i := 2) rfl)) im_wsX7_direction) (wsV_good gw_wsX7_direction)
set_option maxHeartbeats 8000000 in
theorem W_direction (l : Launch) (D : va_G) (cy : Nat → ClassId) (N : Nat) (a : Nat → Nat) (ho : Nat) (f : Nat → Int64) (v : SX7) (x1 : Int32) (x2 : Int32) (r : Int32) (hf : fX7_direction N v x1 x2 = some (.inr r)) : okW l yL_direction (wW yL_direction cL_direction 5 [(0, 10, 13, 13)]) (rmx 13 540) D cy [.ref (a 0), .int x1, .int x2, .ref ho] (wX7 cy a v ++ [oc cy ho f]) (wX7 cy a v ++ [oc cy ho (vp_updL f 0 r.toInt64)]) (some (.int 0)) := by
  refine okW_of (own := RL) (nme := "direction") (cc := cL_direction) (maxL := 5) (ret := some .int) (hh := [(0, 10, 13, 13)]) (by decide) rfl rfl rfl (Nat.le_of_ble_eq_true rfl) ?_
  intro p e s m args below meth c A F G
  refine V.eq rfl (show lv_args 0 [.ref (a 0), .int x1, .int x2, .ref ho] = [(0, .ref (a 0)), (1, .int x1), (2, .int x2), (3, .ref ho)] from rfl) rfl ?_
  refine V_aload_n (pc := 0) F dL_direction_0 rfl 3 rfl ?_
  refine V_iconst (pc := 1) (v := 0) F dL_direction_1 rfl ?_
  refine V_aload_n (pc := 2) F dL_direction_2 rfl 0 rfl ?_
  refine V_iload_n (pc := 3) F dL_direction_3 rfl 1 rfl ?_
  refine V_iload_n (pc := 4) F dL_direction_4 rfl 2 rfl ?_
  refine V_V (w2 := wX7 cy a v ++ [oc cy ho f]) (rest := [.int 0, .ref ho]) (st2 := [.int r, .int 0, .ref ho]) (pc := 5) F 7 (M_X7_direction l D cy N a v x1 x2 r hf) (cwV 2 F.ts gW_direction rfl rfl rfl hd_X7_direction ⟨Nat.le_of_ble_eq_true rfl, Nat.le_of_ble_eq_true rfl⟩) rfl dL_direction_5 (Fit.left Fit.whole) fstX7 rfl rfl (Nat.le_of_ble_eq_true rfl) (Nat.zero_le _) (Nat.zero_le _) rfl rfl rfl ?_
  refine V_i2l (pc := 8) F dL_direction_8 ?_
  refine V_last (f2 := vp_updL f 0 r.toInt64) (w2 := wX7 cy a v ++ [oc cy ho (vp_updL f 0 r.toInt64)]) (pc := 9) F ((wX7 cy a v).length + 0) (at_right (k := 0) rfl) (by unfold vp_in; decide) rfl dL_direction_9 (set_last _ _ _) ?_
  refine V_goto (pc := 10) (tgt := 17) F dL_direction_10 (by decide) ?_
  refine V_iconst (pc := 17) (v := 0) F dL_direction_17 rfl ?_
  refine V_widen (k := 1) (n := 6) (Nat.le_of_ble_eq_true rfl) (Nat.le_of_ble_eq_true rfl) ?_
  exact V_ret (pc := 18) F rfl rfl dL_direction_18 rfl rfl
set_option maxHeartbeats 8000000 in
theorem WT_direction_0 (l : Launch) (hfl : l.stackTraces = false) (D : va_G) (cy : Nat → ClassId) (N : Nat) (a : Nat → Nat) (ho : Nat) (f : Nat → Int64) (v : SX7) (x1 : Int32) (x2 : Int32) (E : String) (hf : fX7_direction N v x1 x2 = some (.inl E)) (hE : E = IAE) : okW l yL_direction (wW yL_direction cL_direction 5 [(0, 10, 13, 13)]) (rmx 13 540) D cy [.ref (a 0), .int x1, .int x2, .ref ho] (wX7 cy a v ++ [oc cy ho f]) (wX7 cy a v ++ [oc cy ho f]) (some (.int 1)) := by
  subst hE
  refine okW_of (own := RL) (nme := "direction") (cc := cL_direction) (maxL := 5) (ret := some .int) (hh := [(0, 10, 13, 13)]) (by decide) rfl rfl rfl (Nat.le_of_ble_eq_true rfl) ?_
  intro p e s m args below meth c A F G
  refine V.eq rfl (show lv_args 0 [.ref (a 0), .int x1, .int x2, .ref ho] = [(0, .ref (a 0)), (1, .int x1), (2, .int x2), (3, .ref ho)] from rfl) rfl ?_
  refine V_aload_n (pc := 0) F dL_direction_0 rfl 3 rfl ?_
  refine V_iconst (pc := 1) (v := 0) F dL_direction_1 rfl ?_
  refine V_aload_n (pc := 2) F dL_direction_2 rfl 0 rfl ?_
  refine V_iload_n (pc := 3) F dL_direction_3 rfl 1 rfl ?_
  refine V_iload_n (pc := 4) F dL_direction_4 rfl 2 rfl ?_
  refine V_caught (hh := [(0, 10, 13, 13)]) (w2 := wX7 cy a v ++ [oc cy ho f]) (rest := [.int 0, .ref ho]) (pc := 5) F G 7 (T_X7_direction l hfl D cy N a v x1 x2 IAE hf) (cwV 2 F.ts gW_direction rfl rfl rfl hd_X7_direction ⟨Nat.le_of_ble_eq_true rfl, Nat.le_of_ble_eq_true rfl⟩) rfl dL_direction_5 (Fit.left Fit.whole) fstX7 rfl rfl (Nat.le_of_ble_eq_true rfl) (Nat.le_of_ble_eq_true rfl) (Nat.le_of_ble_eq_true rfl) rfl rfl [] ⟨0, 10, 13, 13⟩ [] rfl (fun _ h => absurd h List.not_mem_nil) (by decide) (by decide) (wW_mem (show Cond.classLink RL 13 "java/lang/IllegalArgumentException" ∈ lw_tbl from wIn_r6 _ (List.mem_of_getElem? (i := 6) rfl)) rfl) G.2.2.1.1.1 (fun q => ?_)
  refine V_astore (L2 := [(4, .ref q), (0, .ref (a 0)), (1, .int x1), (2, .int x2), (3, .ref ho)]) (pc := 13) F dL_direction_13 (by decide) rfl ?_
  refine V_iconst (pc := 15) (v := 1) F dL_direction_15 rfl ?_
  exact V_ret (pc := 16) F rfl rfl dL_direction_16 rfl rfl
theorem gW_count : GoodIn (wW yL_count cL_count 4 [(0, 9, 12, 13)]) (wsV RL 64 RX7 yX7_count wsX7_count) := wW_in (wsV_in (show Cond.methodLink RL 64 yX7_count ∈ lw_tbl from wIn_r32 _ (List.mem_of_getElem? (i := 4) rfl)) (show Cond.instanceMethod yX7_count ∈ lw_tbl from wIn_r32 _ (List.mem_of_getElem? (i := 5) rfl)) (show Cond.selects RX7 yX7_count yX7_count ∈ lw_tbl from wIn_r32 _ (List.mem_of_getElem? (i := 6) rfl)) (show Cond.initialized RX7 ∈ lw_tbl from wIn_r1 _ (List.mem_of_getElem? (i := 2) rfl)) im_wsX7_count) (wsV_good gw_wsX7_count)
set_option maxHeartbeats 8000000 in
theorem W_count (l : Launch) (D : va_G) (cy : Nat → ClassId) (N : Nat) (a : Nat → Nat) (ho : Nat) (f : Nat → Int64) (v : SX7) (x1 : Int32) (r : Int32 × SX7) (hf : fX7_count N v x1 = some (.inr r)) : okW l yL_count (wW yL_count cL_count 4 [(0, 9, 12, 13)]) (rmx 13 540) D cy [.ref (a 0), .int x1, .ref ho] (wX7 cy a v ++ [oc cy ho f]) (wX7 cy a r.2 ++ [oc cy ho (vp_updL f 0 r.1.toInt64)]) (some (.int 0)) := by
  refine okW_of (own := RL) (nme := "count") (cc := cL_count) (maxL := 4) (ret := some .int) (hh := [(0, 9, 12, 13)]) (by decide) rfl rfl rfl (Nat.le_of_ble_eq_true rfl) ?_
  intro p e s m args below meth c A F G
  refine V.eq rfl (show lv_args 0 [.ref (a 0), .int x1, .ref ho] = [(0, .ref (a 0)), (1, .int x1), (2, .ref ho)] from rfl) rfl ?_
  refine V_aload_n (pc := 0) F dL_count_0 rfl 2 rfl ?_
  refine V_iconst (pc := 1) (v := 0) F dL_count_1 rfl ?_
  refine V_aload_n (pc := 2) F dL_count_2 rfl 0 rfl ?_
  refine V_iload_n (pc := 3) F dL_count_3 rfl 1 rfl ?_
  refine V_V (w2 := wX7 cy a r.2 ++ [oc cy ho f]) (rest := [.int 0, .ref ho]) (st2 := [.int r.1, .int 0, .ref ho]) (pc := 4) F 7 (M_X7_count l D cy N a v x1 r hf) (cwV 1 F.ts gW_count rfl rfl rfl hd_X7_count ⟨Nat.le_of_ble_eq_true rfl, Nat.le_of_ble_eq_true rfl⟩) rfl dL_count_4 (Fit.left Fit.whole) fstX7 rfl rfl (Nat.le_of_ble_eq_true rfl) (Nat.zero_le _) (Nat.zero_le _) rfl rfl rfl ?_
  refine V_i2l (pc := 7) F dL_count_7 ?_
  refine V_last (f2 := vp_updL f 0 r.1.toInt64) (w2 := wX7 cy a r.2 ++ [oc cy ho (vp_updL f 0 r.1.toInt64)]) (pc := 8) F ((wX7 cy a r.2).length + 0) (at_right (k := 0) rfl) (by unfold vp_in; decide) rfl dL_count_8 (set_last _ _ _) ?_
  refine V_goto (pc := 9) (tgt := 15) F dL_count_9 (by decide) ?_
  refine V_iconst (pc := 15) (v := 0) F dL_count_15 rfl ?_
  refine V_widen (k := 1) (n := 6) (Nat.le_of_ble_eq_true rfl) (Nat.le_of_ble_eq_true rfl) ?_
  exact V_ret (pc := 16) F rfl rfl dL_count_16 rfl rfl
set_option maxHeartbeats 8000000 in
theorem WT_count_0 (l : Launch) (hfl : l.stackTraces = false) (D : va_G) (cy : Nat → ClassId) (N : Nat) (a : Nat → Nat) (ho : Nat) (f : Nat → Int64) (v : SX7) (x1 : Int32) (E : String) (v2 : SX7) (hf : fX7_count N v x1 = some (.inl (E, v2))) (hE : E = IAE) : okW l yL_count (wW yL_count cL_count 4 [(0, 9, 12, 13)]) (rmx 13 540) D cy [.ref (a 0), .int x1, .ref ho] (wX7 cy a v ++ [oc cy ho f]) (wX7 cy a v2 ++ [oc cy ho f]) (some (.int 1)) := by
  subst hE
  refine okW_of (own := RL) (nme := "count") (cc := cL_count) (maxL := 4) (ret := some .int) (hh := [(0, 9, 12, 13)]) (by decide) rfl rfl rfl (Nat.le_of_ble_eq_true rfl) ?_
  intro p e s m args below meth c A F G
  refine V.eq rfl (show lv_args 0 [.ref (a 0), .int x1, .ref ho] = [(0, .ref (a 0)), (1, .int x1), (2, .ref ho)] from rfl) rfl ?_
  refine V_aload_n (pc := 0) F dL_count_0 rfl 2 rfl ?_
  refine V_iconst (pc := 1) (v := 0) F dL_count_1 rfl ?_
  refine V_aload_n (pc := 2) F dL_count_2 rfl 0 rfl ?_
  refine V_iload_n (pc := 3) F dL_count_3 rfl 1 rfl ?_
  refine V_caught (hh := [(0, 9, 12, 13)]) (w2 := wX7 cy a v2 ++ [oc cy ho f]) (rest := [.int 0, .ref ho]) (pc := 4) F G 7 (T_X7_count l hfl D cy N a v x1 (IAE, v2) hf) (cwV 1 F.ts gW_count rfl rfl rfl hd_X7_count ⟨Nat.le_of_ble_eq_true rfl, Nat.le_of_ble_eq_true rfl⟩) rfl dL_count_4 (Fit.left Fit.whole) fstX7 rfl rfl (Nat.le_of_ble_eq_true rfl) (Nat.le_of_ble_eq_true rfl) (Nat.le_of_ble_eq_true rfl) rfl rfl [] ⟨0, 9, 12, 13⟩ [] rfl (fun _ h => absurd h List.not_mem_nil) (by decide) (by decide) (wW_mem (show Cond.classLink RL 13 "java/lang/IllegalArgumentException" ∈ lw_tbl from wIn_r6 _ (List.mem_of_getElem? (i := 6) rfl)) rfl) G.2.2.1.1.1 (fun q => ?_)
  refine V_astore_n (L2 := [(3, .ref q), (0, .ref (a 0)), (1, .int x1), (2, .ref ho)]) (pc := 12) F dL_count_12 rfl (by decide) rfl ?_
  refine V_iconst (pc := 13) (v := 1) F dL_count_13 rfl ?_
  exact V_ret (pc := 14) F rfl rfl dL_count_14 rfl rfl
theorem gW_starves : GoodIn (wW yL_starves cL_starves 5 [(0, 10, 13, 24), (0, 10, 17, 13)]) (wsV RL 67 RX7 yX7_starves wsX7_starves) := wW_in (wsV_in (show Cond.methodLink RL 67 yX7_starves ∈ lw_tbl from wIn_r36 _ (List.mem_of_getElem? (i := 12) rfl)) (show Cond.instanceMethod yX7_starves ∈ lw_tbl from wIn_r36 _ (List.mem_of_getElem? (i := 13) rfl)) (show Cond.selects RX7 yX7_starves yX7_starves ∈ lw_tbl from wIn_r36 _ (List.mem_of_getElem? (i := 14) rfl)) (show Cond.initialized RX7 ∈ lw_tbl from wIn_r1 _ (List.mem_of_getElem? (i := 2) rfl)) im_wsX7_starves) (wsV_good gw_wsX7_starves)
set_option maxHeartbeats 8000000 in
theorem W_starves (l : Launch) (D : va_G) (cy : Nat → ClassId) (N : Nat) (a : Nat → Nat) (ho : Nat) (f : Nat → Int64) (v : SX7) (x1 : Int32) (x2 : Int32) (r : Int32 × SX7) (hf : fX7_starves N v x1 x2 = some (.inr r)) : okW l yL_starves (wW yL_starves cL_starves 5 [(0, 10, 13, 24), (0, 10, 17, 13)]) (rmx 13 540) D cy [.ref (a 0), .int x1, .int x2, .ref ho] (wX7 cy a v ++ [oc cy ho f]) (wX7 cy a r.2 ++ [oc cy ho (vp_updL f 0 r.1.toInt64)]) (some (.int 0)) := by
  refine okW_of (own := RL) (nme := "starves") (cc := cL_starves) (maxL := 5) (ret := some .int) (hh := [(0, 10, 13, 24), (0, 10, 17, 13)]) (by decide) rfl rfl rfl (Nat.le_of_ble_eq_true rfl) ?_
  intro p e s m args below meth c A F G
  refine V.eq rfl (show lv_args 0 [.ref (a 0), .int x1, .int x2, .ref ho] = [(0, .ref (a 0)), (1, .int x1), (2, .int x2), (3, .ref ho)] from rfl) rfl ?_
  refine V_aload_n (pc := 0) F dL_starves_0 rfl 3 rfl ?_
  refine V_iconst (pc := 1) (v := 0) F dL_starves_1 rfl ?_
  refine V_aload_n (pc := 2) F dL_starves_2 rfl 0 rfl ?_
  refine V_iload_n (pc := 3) F dL_starves_3 rfl 1 rfl ?_
  refine V_iload_n (pc := 4) F dL_starves_4 rfl 2 rfl ?_
  refine V_V (w2 := wX7 cy a r.2 ++ [oc cy ho f]) (rest := [.int 0, .ref ho]) (st2 := [.int r.1, .int 0, .ref ho]) (pc := 5) F 7 (M_X7_starves l D cy N a v x1 x2 r hf) (cwV 2 F.ts gW_starves rfl rfl rfl hd_X7_starves ⟨Nat.le_of_ble_eq_true rfl, Nat.le_of_ble_eq_true rfl⟩) rfl dL_starves_5 (Fit.left Fit.whole) fstX7 rfl rfl (Nat.le_of_ble_eq_true rfl) (Nat.zero_le _) (Nat.zero_le _) rfl rfl rfl ?_
  refine V_i2l (pc := 8) F dL_starves_8 ?_
  refine V_last (f2 := vp_updL f 0 r.1.toInt64) (w2 := wX7 cy a r.2 ++ [oc cy ho (vp_updL f 0 r.1.toInt64)]) (pc := 9) F ((wX7 cy a r.2).length + 0) (at_right (k := 0) rfl) (by unfold vp_in; decide) rfl dL_starves_9 (set_last _ _ _) ?_
  refine V_goto (pc := 10) (tgt := 21) F dL_starves_10 (by decide) ?_
  refine V_iconst (pc := 21) (v := 0) F dL_starves_21 rfl ?_
  refine V_widen (k := 1) (n := 6) (Nat.le_of_ble_eq_true rfl) (Nat.le_of_ble_eq_true rfl) ?_
  exact V_ret (pc := 22) F rfl rfl dL_starves_22 rfl rfl
set_option maxHeartbeats 8000000 in
theorem WT_starves_0 (l : Launch) (hfl : l.stackTraces = false) (D : va_G) (cy : Nat → ClassId) (N : Nat) (a : Nat → Nat) (ho : Nat) (f : Nat → Int64) (v : SX7) (x1 : Int32) (x2 : Int32) (E : String) (v2 : SX7) (hf : fX7_starves N v x1 x2 = some (.inl (E, v2))) (hE : E = IOB) : okW l yL_starves (wW yL_starves cL_starves 5 [(0, 10, 13, 24), (0, 10, 17, 13)]) (rmx 13 540) D cy [.ref (a 0), .int x1, .int x2, .ref ho] (wX7 cy a v ++ [oc cy ho f]) (wX7 cy a v2 ++ [oc cy ho f]) (some (.int 1)) := by
  subst hE
  refine okW_of (own := RL) (nme := "starves") (cc := cL_starves) (maxL := 5) (ret := some .int) (hh := [(0, 10, 13, 24), (0, 10, 17, 13)]) (by decide) rfl rfl rfl (Nat.le_of_ble_eq_true rfl) ?_
  intro p e s m args below meth c A F G
  refine V.eq rfl (show lv_args 0 [.ref (a 0), .int x1, .int x2, .ref ho] = [(0, .ref (a 0)), (1, .int x1), (2, .int x2), (3, .ref ho)] from rfl) rfl ?_
  refine V_aload_n (pc := 0) F dL_starves_0 rfl 3 rfl ?_
  refine V_iconst (pc := 1) (v := 0) F dL_starves_1 rfl ?_
  refine V_aload_n (pc := 2) F dL_starves_2 rfl 0 rfl ?_
  refine V_iload_n (pc := 3) F dL_starves_3 rfl 1 rfl ?_
  refine V_iload_n (pc := 4) F dL_starves_4 rfl 2 rfl ?_
  refine V_caught (hh := [(0, 10, 13, 24), (0, 10, 17, 13)]) (w2 := wX7 cy a v2 ++ [oc cy ho f]) (rest := [.int 0, .ref ho]) (pc := 5) F G 7 (T_X7_starves l hfl D cy N a v x1 x2 (IOB, v2) hf) (cwV 2 F.ts gW_starves rfl rfl rfl hd_X7_starves ⟨Nat.le_of_ble_eq_true rfl, Nat.le_of_ble_eq_true rfl⟩) rfl dL_starves_5 (Fit.left Fit.whole) fstX7 rfl rfl (Nat.le_of_ble_eq_true rfl) (Nat.le_of_ble_eq_true rfl) (Nat.le_of_ble_eq_true rfl) rfl rfl [] ⟨0, 10, 13, 24⟩ [⟨0, 10, 17, 13⟩] rfl (fun _ h => absurd h List.not_mem_nil) (by decide) (by decide) (wW_mem (show Cond.classLink RL 24 "java/lang/IndexOutOfBoundsException" ∈ lw_tbl from wIn_r11 _ (List.mem_of_getElem? (i := 3) rfl)) rfl) G.2.2.1.1.2.2 (fun q => ?_)
  refine V_astore (L2 := [(4, .ref q), (0, .ref (a 0)), (1, .int x1), (2, .int x2), (3, .ref ho)]) (pc := 13) F dL_starves_13 (by decide) rfl ?_
  refine V_iconst (pc := 15) (v := 1) F dL_starves_15 rfl ?_
  exact V_ret (pc := 16) F rfl rfl dL_starves_16 rfl rfl
set_option maxHeartbeats 8000000 in
theorem WT_starves_1 (l : Launch) (hfl : l.stackTraces = false) (D : va_G) (cy : Nat → ClassId) (N : Nat) (a : Nat → Nat) (ho : Nat) (f : Nat → Int64) (v : SX7) (x1 : Int32) (x2 : Int32) (E : String) (v2 : SX7) (hf : fX7_starves N v x1 x2 = some (.inl (E, v2))) (hE : E = IAE) : okW l yL_starves (wW yL_starves cL_starves 5 [(0, 10, 13, 24), (0, 10, 17, 13)]) (rmx 13 540) D cy [.ref (a 0), .int x1, .int x2, .ref ho] (wX7 cy a v ++ [oc cy ho f]) (wX7 cy a v2 ++ [oc cy ho f]) (some (.int 2)) := by
  subst hE
  refine okW_of (own := RL) (nme := "starves") (cc := cL_starves) (maxL := 5) (ret := some .int) (hh := [(0, 10, 13, 24), (0, 10, 17, 13)]) (by decide) rfl rfl rfl (Nat.le_of_ble_eq_true rfl) ?_
  intro p e s m args below meth c A F G
  refine V.eq rfl (show lv_args 0 [.ref (a 0), .int x1, .int x2, .ref ho] = [(0, .ref (a 0)), (1, .int x1), (2, .int x2), (3, .ref ho)] from rfl) rfl ?_
  refine V_aload_n (pc := 0) F dL_starves_0 rfl 3 rfl ?_
  refine V_iconst (pc := 1) (v := 0) F dL_starves_1 rfl ?_
  refine V_aload_n (pc := 2) F dL_starves_2 rfl 0 rfl ?_
  refine V_iload_n (pc := 3) F dL_starves_3 rfl 1 rfl ?_
  refine V_iload_n (pc := 4) F dL_starves_4 rfl 2 rfl ?_
  refine V_caught (hh := [(0, 10, 13, 24), (0, 10, 17, 13)]) (w2 := wX7 cy a v2 ++ [oc cy ho f]) (rest := [.int 0, .ref ho]) (pc := 5) F G 7 (T_X7_starves l hfl D cy N a v x1 x2 (IAE, v2) hf) (cwV 2 F.ts gW_starves rfl rfl rfl hd_X7_starves ⟨Nat.le_of_ble_eq_true rfl, Nat.le_of_ble_eq_true rfl⟩) rfl dL_starves_5 (Fit.left Fit.whole) fstX7 rfl rfl (Nat.le_of_ble_eq_true rfl) (Nat.le_of_ble_eq_true rfl) (Nat.le_of_ble_eq_true rfl) rfl rfl [⟨0, 10, 13, 24⟩] ⟨0, 10, 17, 13⟩ [] rfl (List.forall_mem_cons.mpr ⟨Or.inr ⟨by decide, IOB, wW_mem (show Cond.classLink RL 24 "java/lang/IndexOutOfBoundsException" ∈ lw_tbl from wIn_r11 _ (List.mem_of_getElem? (i := 3) rfl)) rfl, G.2.2.1.2.2.1⟩, fun _ h => absurd h List.not_mem_nil⟩) (by decide) (by decide) (wW_mem (show Cond.classLink RL 13 "java/lang/IllegalArgumentException" ∈ lw_tbl from wIn_r6 _ (List.mem_of_getElem? (i := 6) rfl)) rfl) G.2.2.1.1.1 (fun q => ?_)
  refine V_astore (L2 := [(4, .ref q), (0, .ref (a 0)), (1, .int x1), (2, .int x2), (3, .ref ho)]) (pc := 17) F dL_starves_17 (by decide) rfl ?_
  refine V_iconst (pc := 19) (v := 2) F dL_starves_19 rfl ?_
  exact V_ret (pc := 20) F rfl rfl dL_starves_20 rfl rfl
theorem gW_rounds : GoodIn (wW yL_rounds cL_rounds 4 [(0, 9, 12, 13)]) (wsV RL 70 RX7 yX7_rounds wsX7_rounds) := wW_in (wsV_in (show Cond.methodLink RL 70 yX7_rounds ∈ lw_tbl from wIn_r37 _ (List.mem_of_getElem? (i := 7) rfl)) (show Cond.instanceMethod yX7_rounds ∈ lw_tbl from wIn_r37 _ (List.mem_of_getElem? (i := 8) rfl)) (show Cond.selects RX7 yX7_rounds yX7_rounds ∈ lw_tbl from wIn_r37 _ (List.mem_of_getElem? (i := 9) rfl)) (show Cond.initialized RX7 ∈ lw_tbl from wIn_r1 _ (List.mem_of_getElem? (i := 2) rfl)) im_wsX7_rounds) (wsV_good gw_wsX7_rounds)
set_option maxHeartbeats 8000000 in
theorem W_rounds (l : Launch) (D : va_G) (cy : Nat → ClassId) (N : Nat) (a : Nat → Nat) (ho : Nat) (f : Nat → Int64) (v : SX7) (x1 : Int32) (r : Int32 × SX7) (hf : fX7_rounds N v x1 = some (.inr r)) : okW l yL_rounds (wW yL_rounds cL_rounds 4 [(0, 9, 12, 13)]) (rmx 13 540) D cy [.ref (a 0), .int x1, .ref ho] (wX7 cy a v ++ [oc cy ho f]) (wX7 cy a r.2 ++ [oc cy ho (vp_updL f 0 r.1.toInt64)]) (some (.int 0)) := by
  refine okW_of (own := RL) (nme := "rounds") (cc := cL_rounds) (maxL := 4) (ret := some .int) (hh := [(0, 9, 12, 13)]) (by decide) rfl rfl rfl (Nat.le_of_ble_eq_true rfl) ?_
  intro p e s m args below meth c A F G
  refine V.eq rfl (show lv_args 0 [.ref (a 0), .int x1, .ref ho] = [(0, .ref (a 0)), (1, .int x1), (2, .ref ho)] from rfl) rfl ?_
  refine V_aload_n (pc := 0) F dL_rounds_0 rfl 2 rfl ?_
  refine V_iconst (pc := 1) (v := 0) F dL_rounds_1 rfl ?_
  refine V_aload_n (pc := 2) F dL_rounds_2 rfl 0 rfl ?_
  refine V_iload_n (pc := 3) F dL_rounds_3 rfl 1 rfl ?_
  refine V_V (w2 := wX7 cy a r.2 ++ [oc cy ho f]) (rest := [.int 0, .ref ho]) (st2 := [.int r.1, .int 0, .ref ho]) (pc := 4) F 7 (M_X7_rounds l D cy N a v x1 r hf) (cwV 1 F.ts gW_rounds rfl rfl rfl hd_X7_rounds ⟨Nat.le_of_ble_eq_true rfl, Nat.le_of_ble_eq_true rfl⟩) rfl dL_rounds_4 (Fit.left Fit.whole) fstX7 rfl rfl (Nat.le_of_ble_eq_true rfl) (Nat.zero_le _) (Nat.zero_le _) rfl rfl rfl ?_
  refine V_i2l (pc := 7) F dL_rounds_7 ?_
  refine V_last (f2 := vp_updL f 0 r.1.toInt64) (w2 := wX7 cy a r.2 ++ [oc cy ho (vp_updL f 0 r.1.toInt64)]) (pc := 8) F ((wX7 cy a r.2).length + 0) (at_right (k := 0) rfl) (by unfold vp_in; decide) rfl dL_rounds_8 (set_last _ _ _) ?_
  refine V_goto (pc := 9) (tgt := 15) F dL_rounds_9 (by decide) ?_
  refine V_iconst (pc := 15) (v := 0) F dL_rounds_15 rfl ?_
  refine V_widen (k := 1) (n := 6) (Nat.le_of_ble_eq_true rfl) (Nat.le_of_ble_eq_true rfl) ?_
  exact V_ret (pc := 16) F rfl rfl dL_rounds_16 rfl rfl
set_option maxHeartbeats 8000000 in
theorem WT_rounds_0 (l : Launch) (hfl : l.stackTraces = false) (D : va_G) (cy : Nat → ClassId) (N : Nat) (a : Nat → Nat) (ho : Nat) (f : Nat → Int64) (v : SX7) (x1 : Int32) (E : String) (v2 : SX7) (hf : fX7_rounds N v x1 = some (.inl (E, v2))) (hE : E = IAE) : okW l yL_rounds (wW yL_rounds cL_rounds 4 [(0, 9, 12, 13)]) (rmx 13 540) D cy [.ref (a 0), .int x1, .ref ho] (wX7 cy a v ++ [oc cy ho f]) (wX7 cy a v2 ++ [oc cy ho f]) (some (.int 1)) := by
  subst hE
  refine okW_of (own := RL) (nme := "rounds") (cc := cL_rounds) (maxL := 4) (ret := some .int) (hh := [(0, 9, 12, 13)]) (by decide) rfl rfl rfl (Nat.le_of_ble_eq_true rfl) ?_
  intro p e s m args below meth c A F G
  refine V.eq rfl (show lv_args 0 [.ref (a 0), .int x1, .ref ho] = [(0, .ref (a 0)), (1, .int x1), (2, .ref ho)] from rfl) rfl ?_
  refine V_aload_n (pc := 0) F dL_rounds_0 rfl 2 rfl ?_
  refine V_iconst (pc := 1) (v := 0) F dL_rounds_1 rfl ?_
  refine V_aload_n (pc := 2) F dL_rounds_2 rfl 0 rfl ?_
  refine V_iload_n (pc := 3) F dL_rounds_3 rfl 1 rfl ?_
  refine V_caught (hh := [(0, 9, 12, 13)]) (w2 := wX7 cy a v2 ++ [oc cy ho f]) (rest := [.int 0, .ref ho]) (pc := 4) F G 7 (T_X7_rounds l hfl D cy N a v x1 (IAE, v2) hf) (cwV 1 F.ts gW_rounds rfl rfl rfl hd_X7_rounds ⟨Nat.le_of_ble_eq_true rfl, Nat.le_of_ble_eq_true rfl⟩) rfl dL_rounds_4 (Fit.left Fit.whole) fstX7 rfl rfl (Nat.le_of_ble_eq_true rfl) (Nat.le_of_ble_eq_true rfl) (Nat.le_of_ble_eq_true rfl) rfl rfl [] ⟨0, 9, 12, 13⟩ [] rfl (fun _ h => absurd h List.not_mem_nil) (by decide) (by decide) (wW_mem (show Cond.classLink RL 13 "java/lang/IllegalArgumentException" ∈ lw_tbl from wIn_r6 _ (List.mem_of_getElem? (i := 6) rfl)) rfl) G.2.2.1.1.1 (fun q => ?_)
  refine V_astore_n (L2 := [(3, .ref q), (0, .ref (a 0)), (1, .int x1), (2, .ref ho)]) (pc := 12) F dL_rounds_12 rfl (by decide) rfl ?_
  refine V_iconst (pc := 13) (v := 1) F dL_rounds_13 rfl ?_
  exact V_ret (pc := 14) F rfl rfl dL_rounds_14 rfl rfl
theorem gW_waitFor : GoodIn (wW yL_waitFor cL_waitFor 6 [(0, 12, 15, 24), (0, 12, 19, 13)]) (wsV RL 73 RX7 yX7_waitFor wsX7_waitFor) := wW_in (wsV_in (show Cond.methodLink RL 73 yX7_waitFor ∈ lw_tbl from wIn_r38 _ (List.mem_of_getElem? (i := 11) rfl)) (show Cond.instanceMethod yX7_waitFor ∈ lw_tbl from wIn_r38 _ (List.mem_of_getElem? (i := 12) rfl)) (show Cond.selects RX7 yX7_waitFor yX7_waitFor ∈ lw_tbl from wIn_r38 _ (List.mem_of_getElem? (i := 13) rfl)) (show Cond.initialized RX7 ∈ lw_tbl from wIn_r1 _ (List.mem_of_getElem? (i := 2) rfl)) im_wsX7_waitFor) (wsV_good gw_wsX7_waitFor)
set_option maxHeartbeats 8000000 in
theorem W_waitFor (l : Launch) (D : va_G) (cy : Nat → ClassId) (N : Nat) (a : Nat → Nat) (ho : Nat) (f : Nat → Int64) (v : SX7) (x1 : Int32) (x2 : Int32) (x3 : Int32) (r : Int32 × SX7) (hf : fX7_waitFor N v x1 x2 x3 = some (.inr r)) : okW l yL_waitFor (wW yL_waitFor cL_waitFor 6 [(0, 12, 15, 24), (0, 12, 19, 13)]) (rmx 13 540) D cy [.ref (a 0), .int x1, .int x2, .int x3, .ref ho] (wX7 cy a v ++ [oc cy ho f]) (wX7 cy a r.2 ++ [oc cy ho (vp_updL f 0 r.1.toInt64)]) (some (.int 0)) := by
  refine okW_of (own := RL) (nme := "waitFor") (cc := cL_waitFor) (maxL := 6) (ret := some .int) (hh := [(0, 12, 15, 24), (0, 12, 19, 13)]) (by decide) rfl rfl rfl (Nat.le_of_ble_eq_true rfl) ?_
  intro p e s m args below meth c A F G
  refine V.eq rfl (show lv_args 0 [.ref (a 0), .int x1, .int x2, .int x3, .ref ho] = [(0, .ref (a 0)), (1, .int x1), (2, .int x2), (3, .int x3), (4, .ref ho)] from rfl) rfl ?_
  refine V_aload (pc := 0) F dL_waitFor_0 4 rfl ?_
  refine V_iconst (pc := 2) (v := 0) F dL_waitFor_2 rfl ?_
  refine V_aload_n (pc := 3) F dL_waitFor_3 rfl 0 rfl ?_
  refine V_iload_n (pc := 4) F dL_waitFor_4 rfl 1 rfl ?_
  refine V_iload_n (pc := 5) F dL_waitFor_5 rfl 2 rfl ?_
  refine V_iload_n (pc := 6) F dL_waitFor_6 rfl 3 rfl ?_
  refine V_V (w2 := wX7 cy a r.2 ++ [oc cy ho f]) (rest := [.int 0, .ref ho]) (st2 := [.int r.1, .int 0, .ref ho]) (pc := 7) F 7 (M_X7_waitFor l D cy N a v x1 x2 x3 r hf) (cwV 3 F.ts gW_waitFor rfl rfl rfl hd_X7_waitFor ⟨Nat.le_of_ble_eq_true rfl, Nat.le_of_ble_eq_true rfl⟩) rfl dL_waitFor_7 (Fit.left Fit.whole) fstX7 rfl rfl (Nat.le_of_ble_eq_true rfl) (Nat.zero_le _) (Nat.zero_le _) rfl rfl rfl ?_
  refine V_i2l (pc := 10) F dL_waitFor_10 ?_
  refine V_last (f2 := vp_updL f 0 r.1.toInt64) (w2 := wX7 cy a r.2 ++ [oc cy ho (vp_updL f 0 r.1.toInt64)]) (pc := 11) F ((wX7 cy a r.2).length + 0) (at_right (k := 0) rfl) (by unfold vp_in; decide) rfl dL_waitFor_11 (set_last _ _ _) ?_
  refine V_goto (pc := 12) (tgt := 23) F dL_waitFor_12 (by decide) ?_
  refine V_iconst (pc := 23) (v := 0) F dL_waitFor_23 rfl ?_
  refine V_widen (k := 1) (n := 6) (Nat.le_of_ble_eq_true rfl) (Nat.le_of_ble_eq_true rfl) ?_
  exact V_ret (pc := 24) F rfl rfl dL_waitFor_24 rfl rfl
set_option maxHeartbeats 8000000 in
theorem WT_waitFor_0 (l : Launch) (hfl : l.stackTraces = false) (D : va_G) (cy : Nat → ClassId) (N : Nat) (a : Nat → Nat) (ho : Nat) (f : Nat → Int64) (v : SX7) (x1 : Int32) (x2 : Int32) (x3 : Int32) (E : String) (v2 : SX7) (hf : fX7_waitFor N v x1 x2 x3 = some (.inl (E, v2))) (hE : E = IOB) : okW l yL_waitFor (wW yL_waitFor cL_waitFor 6 [(0, 12, 15, 24), (0, 12, 19, 13)]) (rmx 13 540) D cy [.ref (a 0), .int x1, .int x2, .int x3, .ref ho] (wX7 cy a v ++ [oc cy ho f]) (wX7 cy a v2 ++ [oc cy ho f]) (some (.int 1)) := by
  subst hE
  refine okW_of (own := RL) (nme := "waitFor") (cc := cL_waitFor) (maxL := 6) (ret := some .int) (hh := [(0, 12, 15, 24), (0, 12, 19, 13)]) (by decide) rfl rfl rfl (Nat.le_of_ble_eq_true rfl) ?_
  intro p e s m args below meth c A F G
  refine V.eq rfl (show lv_args 0 [.ref (a 0), .int x1, .int x2, .int x3, .ref ho] = [(0, .ref (a 0)), (1, .int x1), (2, .int x2), (3, .int x3), (4, .ref ho)] from rfl) rfl ?_
  refine V_aload (pc := 0) F dL_waitFor_0 4 rfl ?_
  refine V_iconst (pc := 2) (v := 0) F dL_waitFor_2 rfl ?_
  refine V_aload_n (pc := 3) F dL_waitFor_3 rfl 0 rfl ?_
  refine V_iload_n (pc := 4) F dL_waitFor_4 rfl 1 rfl ?_
  refine V_iload_n (pc := 5) F dL_waitFor_5 rfl 2 rfl ?_
  refine V_iload_n (pc := 6) F dL_waitFor_6 rfl 3 rfl ?_
  refine V_caught (hh := [(0, 12, 15, 24), (0, 12, 19, 13)]) (w2 := wX7 cy a v2 ++ [oc cy ho f]) (rest := [.int 0, .ref ho]) (pc := 7) F G 7 (T_X7_waitFor l hfl D cy N a v x1 x2 x3 (IOB, v2) hf) (cwV 3 F.ts gW_waitFor rfl rfl rfl hd_X7_waitFor ⟨Nat.le_of_ble_eq_true rfl, Nat.le_of_ble_eq_true rfl⟩) rfl dL_waitFor_7 (Fit.left Fit.whole) fstX7 rfl rfl (Nat.le_of_ble_eq_true rfl) (Nat.le_of_ble_eq_true rfl) (Nat.le_of_ble_eq_true rfl) rfl rfl [] ⟨0, 12, 15, 24⟩ [⟨0, 12, 19, 13⟩] rfl (fun _ h => absurd h List.not_mem_nil) (by decide) (by decide) (wW_mem (show Cond.classLink RL 24 "java/lang/IndexOutOfBoundsException" ∈ lw_tbl from wIn_r11 _ (List.mem_of_getElem? (i := 3) rfl)) rfl) G.2.2.1.1.2.2 (fun q => ?_)
  refine V_astore (L2 := [(5, .ref q), (0, .ref (a 0)), (1, .int x1), (2, .int x2), (3, .int x3), (4, .ref ho)]) (pc := 15) F dL_waitFor_15 (by decide) rfl ?_
  refine V_iconst (pc := 17) (v := 1) F dL_waitFor_17 rfl ?_
  exact V_ret (pc := 18) F rfl rfl dL_waitFor_18 rfl rfl
set_option maxHeartbeats 8000000 in
theorem WT_waitFor_1 (l : Launch) (hfl : l.stackTraces = false) (D : va_G) (cy : Nat → ClassId) (N : Nat) (a : Nat → Nat) (ho : Nat) (f : Nat → Int64) (v : SX7) (x1 : Int32) (x2 : Int32) (x3 : Int32) (E : String) (v2 : SX7) (hf : fX7_waitFor N v x1 x2 x3 = some (.inl (E, v2))) (hE : E = IAE) : okW l yL_waitFor (wW yL_waitFor cL_waitFor 6 [(0, 12, 15, 24), (0, 12, 19, 13)]) (rmx 13 540) D cy [.ref (a 0), .int x1, .int x2, .int x3, .ref ho] (wX7 cy a v ++ [oc cy ho f]) (wX7 cy a v2 ++ [oc cy ho f]) (some (.int 2)) := by
  subst hE
  refine okW_of (own := RL) (nme := "waitFor") (cc := cL_waitFor) (maxL := 6) (ret := some .int) (hh := [(0, 12, 15, 24), (0, 12, 19, 13)]) (by decide) rfl rfl rfl (Nat.le_of_ble_eq_true rfl) ?_
  intro p e s m args below meth c A F G
  refine V.eq rfl (show lv_args 0 [.ref (a 0), .int x1, .int x2, .int x3, .ref ho] = [(0, .ref (a 0)), (1, .int x1), (2, .int x2), (3, .int x3), (4, .ref ho)] from rfl) rfl ?_
  refine V_aload (pc := 0) F dL_waitFor_0 4 rfl ?_
  refine V_iconst (pc := 2) (v := 0) F dL_waitFor_2 rfl ?_
  refine V_aload_n (pc := 3) F dL_waitFor_3 rfl 0 rfl ?_
  refine V_iload_n (pc := 4) F dL_waitFor_4 rfl 1 rfl ?_
  refine V_iload_n (pc := 5) F dL_waitFor_5 rfl 2 rfl ?_
  refine V_iload_n (pc := 6) F dL_waitFor_6 rfl 3 rfl ?_
  refine V_caught (hh := [(0, 12, 15, 24), (0, 12, 19, 13)]) (w2 := wX7 cy a v2 ++ [oc cy ho f]) (rest := [.int 0, .ref ho]) (pc := 7) F G 7 (T_X7_waitFor l hfl D cy N a v x1 x2 x3 (IAE, v2) hf) (cwV 3 F.ts gW_waitFor rfl rfl rfl hd_X7_waitFor ⟨Nat.le_of_ble_eq_true rfl, Nat.le_of_ble_eq_true rfl⟩) rfl dL_waitFor_7 (Fit.left Fit.whole) fstX7 rfl rfl (Nat.le_of_ble_eq_true rfl) (Nat.le_of_ble_eq_true rfl) (Nat.le_of_ble_eq_true rfl) rfl rfl [⟨0, 12, 15, 24⟩] ⟨0, 12, 19, 13⟩ [] rfl (List.forall_mem_cons.mpr ⟨Or.inr ⟨by decide, IOB, wW_mem (show Cond.classLink RL 24 "java/lang/IndexOutOfBoundsException" ∈ lw_tbl from wIn_r11 _ (List.mem_of_getElem? (i := 3) rfl)) rfl, G.2.2.1.2.2.1⟩, fun _ h => absurd h List.not_mem_nil⟩) (by decide) (by decide) (wW_mem (show Cond.classLink RL 13 "java/lang/IllegalArgumentException" ∈ lw_tbl from wIn_r6 _ (List.mem_of_getElem? (i := 6) rfl)) rfl) G.2.2.1.1.1 (fun q => ?_)
  refine V_astore (L2 := [(5, .ref q), (0, .ref (a 0)), (1, .int x1), (2, .int x2), (3, .int x3), (4, .ref ho)]) (pc := 19) F dL_waitFor_19 (by decide) rfl ?_
  refine V_iconst (pc := 21) (v := 2) F dL_waitFor_21 rfl ?_
  exact V_ret (pc := 22) F rfl rfl dL_waitFor_22 rfl rfl
theorem gW_remedy : GoodIn (wW yL_remedy cL_remedy 5 [(0, 10, 13, 24), (0, 10, 17, 13)]) (wsV RL 77 RX7 yX7_remedy wsX7_remedy) := wW_in (wsV_in (show Cond.methodLink RL 77 yX7_remedy ∈ lw_tbl from wIn_r40 _ (List.mem_of_getElem? (i := 23) rfl)) (show Cond.instanceMethod yX7_remedy ∈ lw_tbl from wIn_r41 _ (List.mem_of_getElem? (i := 0) rfl)) (show Cond.selects RX7 yX7_remedy yX7_remedy ∈ lw_tbl from wIn_r41 _ (List.mem_of_getElem? (i := 1) rfl)) (show Cond.initialized RX7 ∈ lw_tbl from wIn_r1 _ (List.mem_of_getElem? (i := 2) rfl)) im_wsX7_remedy) (wsV_good gw_wsX7_remedy)
set_option maxHeartbeats 8000000 in
theorem W_remedy (l : Launch) (D : va_G) (cy : Nat → ClassId) (N : Nat) (a : Nat → Nat) (ho : Nat) (f : Nat → Int64) (v : SX7) (x1 : Int32) (x2 : Int32) (r : Int32 × SX7) (hf : fX7_remedy N v x1 x2 = some (.inr r)) : okW l yL_remedy (wW yL_remedy cL_remedy 5 [(0, 10, 13, 24), (0, 10, 17, 13)]) (rmx 13 540) D cy [.ref (a 0), .int x1, .int x2, .ref ho] (wX7 cy a v ++ [oc cy ho f]) (wX7 cy a r.2 ++ [oc cy ho (vp_updL f 0 r.1.toInt64)]) (some (.int 0)) := by
  refine okW_of (own := RL) (nme := "remedy") (cc := cL_remedy) (maxL := 5) (ret := some .int) (hh := [(0, 10, 13, 24), (0, 10, 17, 13)]) (by decide) rfl rfl rfl (Nat.le_of_ble_eq_true rfl) ?_
  intro p e s m args below meth c A F G
  refine V.eq rfl (show lv_args 0 [.ref (a 0), .int x1, .int x2, .ref ho] = [(0, .ref (a 0)), (1, .int x1), (2, .int x2), (3, .ref ho)] from rfl) rfl ?_
  refine V_aload_n (pc := 0) F dL_remedy_0 rfl 3 rfl ?_
  refine V_iconst (pc := 1) (v := 0) F dL_remedy_1 rfl ?_
  refine V_aload_n (pc := 2) F dL_remedy_2 rfl 0 rfl ?_
  refine V_iload_n (pc := 3) F dL_remedy_3 rfl 1 rfl ?_
  refine V_iload_n (pc := 4) F dL_remedy_4 rfl 2 rfl ?_
  refine V_V (w2 := wX7 cy a r.2 ++ [oc cy ho f]) (rest := [.int 0, .ref ho]) (st2 := [.int r.1, .int 0, .ref ho]) (pc := 5) F 7 (M_X7_remedy l D cy N a v x1 x2 r hf) (cwV 2 F.ts gW_remedy rfl rfl rfl hd_X7_remedy ⟨Nat.le_of_ble_eq_true rfl, Nat.le_of_ble_eq_true rfl⟩) rfl dL_remedy_5 (Fit.left Fit.whole) fstX7 rfl rfl (Nat.le_of_ble_eq_true rfl) (Nat.zero_le _) (Nat.zero_le _) rfl rfl rfl ?_
  refine V_i2l (pc := 8) F dL_remedy_8 ?_
  refine V_last (f2 := vp_updL f 0 r.1.toInt64) (w2 := wX7 cy a r.2 ++ [oc cy ho (vp_updL f 0 r.1.toInt64)]) (pc := 9) F ((wX7 cy a r.2).length + 0) (at_right (k := 0) rfl) (by unfold vp_in; decide) rfl dL_remedy_9 (set_last _ _ _) ?_
  refine V_goto (pc := 10) (tgt := 21) F dL_remedy_10 (by decide) ?_
  refine V_iconst (pc := 21) (v := 0) F dL_remedy_21 rfl ?_
  refine V_widen (k := 1) (n := 6) (Nat.le_of_ble_eq_true rfl) (Nat.le_of_ble_eq_true rfl) ?_
  exact V_ret (pc := 22) F rfl rfl dL_remedy_22 rfl rfl
set_option maxHeartbeats 8000000 in
theorem WT_remedy_0 (l : Launch) (hfl : l.stackTraces = false) (D : va_G) (cy : Nat → ClassId) (N : Nat) (a : Nat → Nat) (ho : Nat) (f : Nat → Int64) (v : SX7) (x1 : Int32) (x2 : Int32) (E : String) (v2 : SX7) (hf : fX7_remedy N v x1 x2 = some (.inl (E, v2))) (hE : E = IOB) : okW l yL_remedy (wW yL_remedy cL_remedy 5 [(0, 10, 13, 24), (0, 10, 17, 13)]) (rmx 13 540) D cy [.ref (a 0), .int x1, .int x2, .ref ho] (wX7 cy a v ++ [oc cy ho f]) (wX7 cy a v2 ++ [oc cy ho f]) (some (.int 1)) := by
  subst hE
  refine okW_of (own := RL) (nme := "remedy") (cc := cL_remedy) (maxL := 5) (ret := some .int) (hh := [(0, 10, 13, 24), (0, 10, 17, 13)]) (by decide) rfl rfl rfl (Nat.le_of_ble_eq_true rfl) ?_
  intro p e s m args below meth c A F G
  refine V.eq rfl (show lv_args 0 [.ref (a 0), .int x1, .int x2, .ref ho] = [(0, .ref (a 0)), (1, .int x1), (2, .int x2), (3, .ref ho)] from rfl) rfl ?_
  refine V_aload_n (pc := 0) F dL_remedy_0 rfl 3 rfl ?_
  refine V_iconst (pc := 1) (v := 0) F dL_remedy_1 rfl ?_
  refine V_aload_n (pc := 2) F dL_remedy_2 rfl 0 rfl ?_
  refine V_iload_n (pc := 3) F dL_remedy_3 rfl 1 rfl ?_
  refine V_iload_n (pc := 4) F dL_remedy_4 rfl 2 rfl ?_
  refine V_caught (hh := [(0, 10, 13, 24), (0, 10, 17, 13)]) (w2 := wX7 cy a v2 ++ [oc cy ho f]) (rest := [.int 0, .ref ho]) (pc := 5) F G 7 (T_X7_remedy l hfl D cy N a v x1 x2 (IOB, v2) hf) (cwV 2 F.ts gW_remedy rfl rfl rfl hd_X7_remedy ⟨Nat.le_of_ble_eq_true rfl, Nat.le_of_ble_eq_true rfl⟩) rfl dL_remedy_5 (Fit.left Fit.whole) fstX7 rfl rfl (Nat.le_of_ble_eq_true rfl) (Nat.le_of_ble_eq_true rfl) (Nat.le_of_ble_eq_true rfl) rfl rfl [] ⟨0, 10, 13, 24⟩ [⟨0, 10, 17, 13⟩] rfl (fun _ h => absurd h List.not_mem_nil) (by decide) (by decide) (wW_mem (show Cond.classLink RL 24 "java/lang/IndexOutOfBoundsException" ∈ lw_tbl from wIn_r11 _ (List.mem_of_getElem? (i := 3) rfl)) rfl) G.2.2.1.1.2.2 (fun q => ?_)
  refine V_astore (L2 := [(4, .ref q), (0, .ref (a 0)), (1, .int x1), (2, .int x2), (3, .ref ho)]) (pc := 13) F dL_remedy_13 (by decide) rfl ?_
  refine V_iconst (pc := 15) (v := 1) F dL_remedy_15 rfl ?_
  exact V_ret (pc := 16) F rfl rfl dL_remedy_16 rfl rfl
set_option maxHeartbeats 8000000 in
theorem WT_remedy_1 (l : Launch) (hfl : l.stackTraces = false) (D : va_G) (cy : Nat → ClassId) (N : Nat) (a : Nat → Nat) (ho : Nat) (f : Nat → Int64) (v : SX7) (x1 : Int32) (x2 : Int32) (E : String) (v2 : SX7) (hf : fX7_remedy N v x1 x2 = some (.inl (E, v2))) (hE : E = IAE) : okW l yL_remedy (wW yL_remedy cL_remedy 5 [(0, 10, 13, 24), (0, 10, 17, 13)]) (rmx 13 540) D cy [.ref (a 0), .int x1, .int x2, .ref ho] (wX7 cy a v ++ [oc cy ho f]) (wX7 cy a v2 ++ [oc cy ho f]) (some (.int 2)) := by
  subst hE
  refine okW_of (own := RL) (nme := "remedy") (cc := cL_remedy) (maxL := 5) (ret := some .int) (hh := [(0, 10, 13, 24), (0, 10, 17, 13)]) (by decide) rfl rfl rfl (Nat.le_of_ble_eq_true rfl) ?_
  intro p e s m args below meth c A F G
  refine V.eq rfl (show lv_args 0 [.ref (a 0), .int x1, .int x2, .ref ho] = [(0, .ref (a 0)), (1, .int x1), (2, .int x2), (3, .ref ho)] from rfl) rfl ?_
  refine V_aload_n (pc := 0) F dL_remedy_0 rfl 3 rfl ?_
  refine V_iconst (pc := 1) (v := 0) F dL_remedy_1 rfl ?_
  refine V_aload_n (pc := 2) F dL_remedy_2 rfl 0 rfl ?_
  refine V_iload_n (pc := 3) F dL_remedy_3 rfl 1 rfl ?_
  refine V_iload_n (pc := 4) F dL_remedy_4 rfl 2 rfl ?_
  refine V_caught (hh := [(0, 10, 13, 24), (0, 10, 17, 13)]) (w2 := wX7 cy a v2 ++ [oc cy ho f]) (rest := [.int 0, .ref ho]) (pc := 5) F G 7 (T_X7_remedy l hfl D cy N a v x1 x2 (IAE, v2) hf) (cwV 2 F.ts gW_remedy rfl rfl rfl hd_X7_remedy ⟨Nat.le_of_ble_eq_true rfl, Nat.le_of_ble_eq_true rfl⟩) rfl dL_remedy_5 (Fit.left Fit.whole) fstX7 rfl rfl (Nat.le_of_ble_eq_true rfl) (Nat.le_of_ble_eq_true rfl) (Nat.le_of_ble_eq_true rfl) rfl rfl [⟨0, 10, 13, 24⟩] ⟨0, 10, 17, 13⟩ [] rfl (List.forall_mem_cons.mpr ⟨Or.inr ⟨by decide, IOB, wW_mem (show Cond.classLink RL 24 "java/lang/IndexOutOfBoundsException" ∈ lw_tbl from wIn_r11 _ (List.mem_of_getElem? (i := 3) rfl)) rfl, G.2.2.1.2.2.1⟩, fun _ h => absurd h List.not_mem_nil⟩) (by decide) (by decide) (wW_mem (show Cond.classLink RL 13 "java/lang/IllegalArgumentException" ∈ lw_tbl from wIn_r6 _ (List.mem_of_getElem? (i := 6) rfl)) rfl) G.2.2.1.1.1 (fun q => ?_)
  refine V_astore (L2 := [(4, .ref q), (0, .ref (a 0)), (1, .int x1), (2, .int x2), (3, .ref ho)]) (pc := 17) F dL_remedy_17 (by decide) rfl ?_
  refine V_iconst (pc := 19) (v := 2) F dL_remedy_19 rfl ?_
  exact V_ret (pc := 20) F rfl rfl dL_remedy_20 rfl rfl
