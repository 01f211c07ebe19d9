/-! the law from its entry -/
theorem V.perm {p : Program} {l : Launch} {e : Env} {R : Room} {s : State} {m : MethodId} {args : Array Value} {below : List Frame} {meth : Method} {c : Code} {nL : Nat} {D : va_G} {A : Nat → Prop} {cells slots : Nat} {Q : State → Prop} {w w2 : va_W} {L : List (Nat × Value)} {st : List Value} {pc : Nat} (h : w.Perm w2) (k : V p l e R s m args below meth c nL D A cells slots Q w2 L st pc) : V p l e R s m args below meth c nL D A cells slots Q w L st pc := fun H locs ls hP hD hS hl => k H locs ls (hP.perm h) (hD.perm h) hS hl
theorem perm4 (X A B C : va_W) : (((X ++ A) ++ B) ++ C).Perm (B ++ (C ++ (A ++ X))) := by
  refine (List.Perm.append_right C (List.perm_append_comm (l₁ := X ++ A) (l₂ := B))).trans ?_
  rw [List.append_assoc]
  refine List.Perm.append_left B ?_
  refine (List.perm_append_comm (l₁ := X ++ A) (l₂ := C)).trans ?_
  exact List.Perm.append_left C List.perm_append_comm
set_option maxHeartbeats 8000000 in
set_option maxRecDepth 100000 in
theorem whole_start {p : Program} {e : Env} {s : State} {m : MethodId} {below : List Frame} {meth : Method} {c : Code} (l : Launch) (hflags : l.flags = flags0) {b L : Nat} {xs : Nat → Int32} (hL : L ≤ 260) (C0 : lw_At p s m meth c b L xs) : W p l e room_1 s m #[Value.ref b] below meth c s.heap [] 0 0 (lw_Z below #[Value.ref b] s) (entryFrame m ([Value.ref b] : List Value).toArray 13) := by
  obtain ⟨hx, hb, hr, hml, hown, hts, hX, hbl, hlocks, hgv⟩ := id C0
  obtain ⟨D, cy, hK⟩ := st_K hts
  have hNc := st_nestC hts
  have G : FxS s (aL s) b L xs := ⟨hX, hbl, Nat.not_le.mpr hbl⟩
  have F : Fx p s m #[.ref b] meth c cL_law 13 RL meth.name wsL_law ret D cy (aL s) := ⟨hx, hb, hml, hown, fun w hw => hts w (wsL_law_in w hw), hr, hlocks, hK, fun _ h => h, rfl, st_nestG hts⟩
  obtain ⟨N, v', z2, q1, q2⟩ := law_holds L hL xs
  rw [lg_entry_eq]
  have key : V p l e room_1 s m #[.ref b] below meth c 13 D (aL s) 0 0 (lw_Z below #[.ref b] s) [] (lv_args 0 [.ref b]) [] 0 := by
    refine V.eq rfl (show lv_args 0 [Value.ref b] = [(0, .ref b)] from rfl) rfl ?_
    refine V_newo (C := RX7) (T := TX7) (N := 4) (ci := 7) (fs := [.null, .null, .null, .null]) (pc := 0) F inlX7 tyX7 tyX7_ok rfl (mm 0 rfl) (mm 1 rfl) (mm 2 rfl) df_X7 (Nat.le_of_ble_eq_true rfl) (Nat.le_of_ble_eq_true rfl) dL_law_0 (fun h1 => ?_)
    refine V_dup (pc := 3) F dL_law_3 rfl ?_
    refine V_I (As := []) (rest := [.ref h1]) (pc := 4) F hNc (N_X7_init l D cy h1) (cwI 0 F.ts gL_law_X7_init rfl rfl rfl (F.ts _ (mm 2 rfl)) (F.ts _ (mm 4 rfl)) (F.ts _ (mm 5 rfl)) rfl hdi_X7 ⟨(Nat.le_of_ble_eq_true rfl), (Nat.le_of_ble_eq_true rfl)⟩) rfl dL_law_4 (Nat.le_of_ble_eq_true rfl) (Nat.le_of_ble_eq_true rfl) (Nat.le_of_ble_eq_true rfl) rfl (fun a ea => ?_)
    subst ea
    refine V_astore_n (L2 := [(1, .ref (a 0)), (0, .ref b)]) (pc := 7) F dL_law_7 rfl (by decide) rfl ?_
    refine S_law_A F G a N iG (v', z2) q1 ?_
    refine V_iconst (pc := 128) (v := 5) F dL_law_128 rfl ?_
    refine V_newi (n := 5) (N := 5) (pc := 129) F (mm 3 rfl) (by decide) rfl (by decide) (Nat.le_of_ble_eq_true rfl) (Nat.le_of_ble_eq_true rfl) dL_law_129 (fun h2 => ?_)
    refine V_astore_n (L2 := [(3, .ref h2), (2, .int z2), (1, .ref (a 0)), (0, .ref b)]) (pc := 131) F dL_law_131 rfl (by decide) rfl ?_
    refine V_bipush (pc := 132) (v := 18) F dL_law_132 rfl ?_
    refine V_newi (n := 18) (N := 18) (pc := 134) F (mm 3 rfl) (by decide) rfl (by decide) (Nat.le_of_ble_eq_true rfl) (Nat.le_of_ble_eq_true rfl) dL_law_134 (fun h3 => ?_)
    refine V_astore (L2 := [(4, .ref h3), (3, .ref h2), (2, .int z2), (1, .ref (a 0)), (0, .ref b)]) (pc := 136) F dL_law_136 (by decide) rfl ?_
    refine V_bipush (pc := 138) (v := 8) F dL_law_138 rfl ?_
    refine V_newi (n := 8) (N := 8) (pc := 140) F (mm 3 rfl) (by decide) rfl (by decide) (Nat.le_of_ble_eq_true rfl) (Nat.le_of_ble_eq_true rfl) dL_law_140 (fun h4 => ?_)
    refine V_astore (L2 := [(5, .ref h4), (4, .ref h3), (3, .ref h2), (2, .int z2), (1, .ref (a 0)), (0, .ref b)]) (pc := 142) F dL_law_142 (by decide) rfl ?_
    refine V.perm (perm4 _ _ _ _) ?_
    exact S_law_B F G a (fun _ => h2) (fun _ => h3) (fun _ => h4) N v' (fun _ => 0) (fun _ => 0) (fun _ => 0) z2 () q2
  exact key s.heap [] _ (fun k q h => by simp at h) ⟨fun i j p q h => by simp at h, fun k q h => by simp at h⟩ va_S.rf (lv_entry [.ref b] (Nat.le_of_ble_eq_true rfl))
