/-! the law from its entry -/
theorem gLi7 : GoodIn lw_tbl wsX7_init := goodIn_sub im_wsX7_init gw_wsX7_init
theorem gLi8 : GoodIn lw_tbl wsX8_init := goodIn_sub im_wsX8_init gw_wsX8_init
set_option maxHeartbeats 8000000 in
theorem whole_start {p : Program} {e : Env} {s : State} {m : MethodId} {below : List Frame} {meth : Method} {c : Code} (l : Launch) (hflags : l.flags = flags0) {b L : Nat} {xs : Nat → Int32} (hL : L ≤ 2048) (C0 : lw_At p s m meth c b L xs) : W p l e room_1 s m #[Value.ref b] below meth c s.heap [] 0 0 (lw_Z below #[Value.ref b] s) (entryFrame m ([Value.ref b] : List Value).toArray 9) := by
  obtain ⟨hx, hb, hr, hml, hown, hts, hX, hbl, hlocks, hgv⟩ := id C0
  obtain ⟨D, cy, hK⟩ := st_K hts
  have hNc := st_nestC hts
  have hfl : l.stackTraces = false := by
    unfold Launch.stackTraces
    rw [hflags]
    rfl
  have G : FxL s b L xs := ⟨st_thrW hts hgv, st_thrH hts hgv, st_catW hts hgv, hX, hbl⟩
  have F : Fx p s m #[.ref b] meth c cL_law 9 RL meth.name lw_tbl ret D cy (aL s) := ⟨hx, hb, hml, hown, hts, hr, hlocks, hK, fun _ h => h, rfl, st_nestG hts⟩
  rw [lg_entry_eq]
  have key : V p l e room_1 s m #[.ref b] below meth c 9 D (aL s) 0 0 (lw_Z below #[.ref b] s) [] (lv_args 0 [.ref b]) [] 0 := by
    refine V.eq rfl (show lv_args 0 [Value.ref b] = [(0, .ref b)] from rfl) rfl ?_
    refine V_newo (C := RX7) (T := TX7) (N := 4) (ci := 7) (fs := [.null, .null, .null, .null]) (pc := 0) F inX7 tyX7 tyX7_ok rfl (show Cond.classLink RL 8 RX7 ∈ lw_tbl from wt_1 _ (List.mem_of_getElem? (i := 18) rfl)) (show Cond.instantiable RX7 4 ∈ lw_tbl from wt_1 _ (List.mem_of_getElem? (i := 19) rfl)) (show Cond.initialized RX7 ∈ lw_tbl from wt_1 _ (List.mem_of_getElem? (i := 1) rfl)) df_X7 (Nat.le_of_ble_eq_true rfl) (Nat.le_of_ble_eq_true rfl) dL_law_0 (fun h1 => ?_)
    refine V_dup (pc := 3) F dL_law_3 rfl ?_
    refine V_I (As := []) (rest := [.ref h1]) (pc := 4) F hNc (N_X7_init l D cy h1) (cwI 0 F.ts gLi7 rfl rfl rfl (F.ts _ (show Cond.initialized RX7 ∈ lw_tbl from wt_1 _ (List.mem_of_getElem? (i := 1) rfl))) (F.ts _ (show Cond.methodLink RL 80 yX7_init ∈ lw_tbl from wt_1 _ (List.mem_of_getElem? (i := 20) rfl))) (F.ts _ (show Cond.instanceMethod yX7_init ∈ lw_tbl from wt_1 _ (List.mem_of_getElem? (i := 21) rfl))) rfl hdi_X7 ⟨(Nat.le_of_ble_eq_true rfl), (Nat.le_of_ble_eq_true rfl)⟩) rfl dL_law_4 (Nat.le_of_ble_eq_true rfl) (Nat.le_of_ble_eq_true rfl) (Nat.le_of_ble_eq_true rfl) rfl (fun a ea => ?_)
    subst ea
    refine V_astore_n (L2 := [(1, .ref (a 0)), (0, .ref b)]) (pc := 7) F dL_law_7 rfl (by decide) rfl ?_
    refine V_newo (C := RX8) (T := TX8) (N := 13) (ci := 8) (fs := [.int 0, .null, .null, .int 0, .null, .int 0, .null, .int 0, .int 0, .int 0, .null, .null, .long 0]) (pc := 8) F inX8 tyX8 tyX8_ok rfl (show Cond.classLink RL 81 RX8 ∈ lw_tbl from wt_4 _ (List.mem_of_getElem? (i := 160) rfl)) (show Cond.instantiable RX8 13 ∈ lw_tbl from wt_4 _ (List.mem_of_getElem? (i := 161) rfl)) (show Cond.initialized RX8 ∈ lw_tbl from wt_1 _ (List.mem_of_getElem? (i := 9) rfl)) df_X8 (Nat.le_of_ble_eq_true rfl) (Nat.le_of_ble_eq_true rfl) dL_law_8 (fun h2 => ?_)
    refine V_dup (pc := 11) F dL_law_11 rfl ?_
    refine V_I (As := []) (rest := [.ref h2]) (pc := 12) F hNc (N_X8_init l D cy h2) (cwI 0 F.ts gLi8 rfl rfl rfl (F.ts _ (show Cond.initialized RX8 ∈ lw_tbl from wt_1 _ (List.mem_of_getElem? (i := 9) rfl))) (F.ts _ (show Cond.methodLink RL 83 yX8_init ∈ lw_tbl from wt_4 _ (List.mem_of_getElem? (i := 162) rfl))) (F.ts _ (show Cond.instanceMethod yX8_init ∈ lw_tbl from wt_4 _ (List.mem_of_getElem? (i := 163) rfl))) rfl hdi_X8 ⟨(Nat.le_of_ble_eq_true rfl), (Nat.le_of_ble_eq_true rfl)⟩) rfl dL_law_12 (Nat.le_of_ble_eq_true rfl) (Nat.le_of_ble_eq_true rfl) (Nat.le_of_ble_eq_true rfl) rfl (fun a' ea' => ?_)
    subst ea'
    refine V_astore_n (L2 := [(2, .ref (a' 0)), (1, .ref (a 0)), (0, .ref b)]) (pc := 15) F dL_law_15 rfl (by decide) rfl ?_
    refine V_iconst (pc := 16) (v := 1) F dL_law_16 rfl ?_
    refine V_newl (n := 1) (N := 1) (pc := 17) F (show Cond.arrayClass .long ∈ lw_tbl from wt_6 _ (List.mem_of_getElem? (i := 92) rfl)) (by decide) (by decide) (Nat.le_of_ble_eq_true rfl) (Nat.le_of_ble_eq_true rfl) (Nat.le_of_ble_eq_true rfl) dL_law_17 (fun ho => ?_)
    refine V_astore_n (L2 := [(3, .ref ho), (2, .ref (a' 0)), (1, .ref (a 0)), (0, .ref b)]) (pc := 19) F dL_law_19 rfl (by decide) rfl ?_
    refine V_iconst (pc := 20) (v := 0) F dL_law_20 rfl ?_
    refine V_istore (L2 := [(4, .int (nI (4 * 0))), (3, .ref ho), (2, .ref (a' 0)), (1, .ref (a 0)), (0, .ref b)]) (pc := 21) F dL_law_21 (by decide) rfl ?_
    exact law_loop hfl F G hL 512 0 _ _ iG iZ (fun _ => 0) (by omega) (by omega) (Nat.le_of_ble_eq_true rfl) (Nat.le_of_ble_eq_true rfl) SR_start
  exact key s.heap [] _ (fun k q h => by simp at h) ⟨fun i j p q h => by simp at h, fun k q h => by simp at h⟩ va_S.rf (lv_entry [.ref b] (Nat.le_of_ble_eq_true rfl))
