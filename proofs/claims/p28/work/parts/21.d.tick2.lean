/-! what a tick of the class comes to -/
theorem ar_put {f : Nat → Int32} {q : Nat} (hq : q < 8) (p : Nat) : rowPut 8 f (nI q) (rowAt 8 f (nI q) + 1) p = if p = q then f p + 1 else f p := by
  rw [rowPut_nI hq (by decide), rowAt_nI hq (by decide)]
  by_cases z : p = q
  · rw [if_pos z, z, upd_same]
  · rw [if_neg z, upd_ne z]
theorem tick_eq {m : SX1} {g : Gr} {ho : Nat → Nat} {ct s l f : Nat} (hI : PI m.1 g ho ct) (hN : Now m g s l f) {N : Nat} (hN9 : 11 ≤ N) : ∃ m' s' l' f', fX1_passTick N m = some m' ∧ TK m m' g ho ct s l f s' l' f' := by
  obtain ⟨hP, hH, hB⟩ := hI
  obtain ⟨hs, e1, hl, e2, e3⟩ := hN
  have h8 := hP.1
  obtain ⟨M, a1, a2, a3, -, a5⟩ := pass_L N (gnow m) 6 0 N (m.1, m.2.1, m.2.2.1, m.2.2.2.1, m.2.2.2.2.1, m.2.2.2.2.2.1, m.2.2.2.2.2.2.1, m.2.2.2.2.2.2.2.1, m.2.2.2.2.2.2.2.2.1, (m.2.2.2.2.2.2.2.2.2 + 1)) rfl (by omega)
  obtain ⟨u, w', s1, l1, rr⟩ := M
  dsimp only at a2 a3 a5
  subst a2
  subst a3
  have a5' : ∀ d, d < 6 → w' d = pwW (gnow m) m.2.1 d ∧ s1 d = pwS (gnow m) m.2.1 m.2.2.1 d ∧ l1 d = pwL (gnow m) m.2.1 m.2.2.2.1 d := fun d hd => a5 d (Nat.zero_le _) hd
  have a1' : fX1_passWaits_L7 N (gnow m) N (m.1, m.2.1, m.2.2.1, m.2.2.2.1, m.2.2.2.2.1, m.2.2.2.2.2.1, m.2.2.2.2.2.2.1, m.2.2.2.2.2.2.2.1, m.2.2.2.2.2.2.2.2.1, (m.2.2.2.2.2.2.2.2.2 + 1)) 0 = _ := a1
  unfold fX1_passTick fX1_passWaits
  rw [gnow_eq, Option.bind_some, show gnow (m.1, m.2.1, m.2.2.1, m.2.2.2.1, m.2.2.2.2.1, m.2.2.2.2.2.1, m.2.2.2.2.2.2.1, m.2.2.2.2.2.2.2.1, m.2.2.2.2.2.2.2.2.1, (m.2.2.2.2.2.2.2.2.2 + 1)) = gnow m from rfl, a1', Option.bind_some, Option.bind_some]
  dsimp only
  rw [if_neg (pl_ne hP (by omega))]
  unfold fX1_isClearing
  dsimp only
  rw [e1, e2]
  by_cases hl0 : l = 0
  · subst hl0
    rw [if_pos (by decide), Option.bind_some, if_pos rfl, rowAt_nI (by omega) (by decide), (hH.1 s hs).1]
    by_cases hst : m.2.2.2.2.2.2.2.1 + 1 < nI (ho s)
    · rw [if_pos hst]
      exact ⟨_, s, 0, f, rfl, rfl, rfl, a5', ⟨hs, rfl, by omega, rfl, fun z => absurd z (by omega)⟩, Or.inr (Or.inr (Or.inl ⟨rfl, rfl, rfl, rfl, fun p _ => rfl, Or.inl hst⟩))⟩
    · rw [if_neg hst]
      obtain ⟨x, x1, x2⟩ := wait_eq (m.1, w', s1, l1, m.2.2.2.2.1, nI s, m.2.2.2.2.2.2.1, m.2.2.2.2.2.2.2.1 + 1, nI 0, m.2.2.2.2.2.2.2.2.2 + 1) (show 9 ≤ N by omega)
      unfold fX1_followRule
      rw [x1, Option.bind_some]
      dsimp only
      rw [plan_rc hP hs]
      have x3 := fun r => hd_iff (g := g) (w := w') (x := x) x2 s r
      rcases follow_L (m := (m.1, w', s1, l1, m.2.2.2.2.1, nI s, m.2.2.2.2.2.2.1, m.2.2.2.2.2.2.2.1 + 1, nI 0, m.2.2.2.2.2.2.2.2.2 + 1)) hP N hs rfl x (gR g s) 0 N (by omega) (by have := (hP.2.2 s hs).2.2.1; omega) (fun r hr => absurd hr (by omega)) with ⟨r, r1, r2, r3, r4⟩ | ⟨r1, r2⟩
      · have hq : gO g s r < gN g := ((hP.2.2 s hs).2.2.2 r r1).2.1
        have r4' : fX1_followRule_L22 N x (nI (gR g s)) N (m.1, w', s1, l1, m.2.2.2.2.1, nI s, m.2.2.2.2.2.2.1, m.2.2.2.2.2.2.2.1 + 1, nI 0, m.2.2.2.2.2.2.2.2.2 + 1) 0 = _ := r4
        rw [r4']
        unfold fX1_leaveFor
        dsimp only
        rw [X2_clearingBetween_eq hP hH N hs hq, Option.bind_some]
        have r2' := (x3 r).mp r2
        have r3' : ∀ j, j < r → ¬ Hd g w' s j := fun j hj z => r3 j hj ((x3 j).mpr z)
        by_cases hg : gG g s = gG g (gO g s r)
        · rw [if_pos hg, if_pos (by decide)]
          unfold fX1_arrive
          refine ⟨_, gO g s r, 0, s, rfl, rfl, rfl, a5', ⟨hq, rfl, by omega, rfl, fun z => absurd z (by omega)⟩, Or.inr (Or.inr (Or.inr ⟨rfl, hst, r, r1, r2', r3', rfl, by unfold cb; rw [if_pos hg], rfl, fun _ => ⟨rfl, fun p _ => ar_put (by omega) p⟩, fun z => absurd z (by omega)⟩))⟩
        · rw [if_neg hg]
          have hcb : ct = cb g ct s (gO g s r) := by unfold cb; rw [if_neg hg]
          by_cases hc0 : ct = 0
          · rw [hc0, if_pos (by decide)]
            unfold fX1_arrive
            refine ⟨_, gO g s r, 0, s, rfl, rfl, rfl, a5', ⟨hq, rfl, by omega, rfl, fun z => absurd z (by omega)⟩, Or.inr (Or.inr (Or.inr ⟨rfl, hst, r, r1, r2', r3', rfl, by unfold cb; split <;> rfl, rfl, fun _ => ⟨rfl, fun p _ => ar_put (by omega) p⟩, fun z => absurd z (by omega)⟩))⟩
          · have hc5 := hH.2.2
            rw [if_neg (fun z => by
              have z2 : nI ct = nI 0 := z
              rw [nI_eq (by omega) (by omega)] at z2; omega)]
            refine ⟨_, gO g s r, ct, s, rfl, rfl, rfl, a5', ⟨hq, rfl, hc5, rfl, fun _ => ⟨hs, rfl⟩⟩, Or.inr (Or.inr (Or.inr ⟨rfl, hst, r, r1, r2', r3', rfl, hcb, rfl, fun z => absurd z hc0, fun _ p _ => rfl⟩))⟩
      · have r2' : fX1_followRule_L22 N x (nI (gR g s)) N (m.1, w', s1, l1, m.2.2.2.2.1, nI s, m.2.2.2.2.2.2.1, m.2.2.2.2.2.2.2.1 + 1, nI 0, m.2.2.2.2.2.2.2.2.2 + 1) 0 = _ := r2
        rw [r2']
        exact ⟨_, s, 0, f, rfl, rfl, rfl, a5', ⟨hs, rfl, by omega, rfl, fun z => absurd z (by omega)⟩, Or.inr (Or.inr (Or.inl ⟨rfl, rfl, rfl, rfl, fun p _ => rfl, Or.inr ⟨hst, fun r hr z => r1 r hr ((x3 r).mpr z)⟩⟩))⟩
  · have hle : ¬ nI l ≤ 0 := fun z => by
      have z2 : nI l ≤ nI 0 := z
      rw [nI_leI (by omega) (by omega)] at z2; omega
    have hm1 : nI l - 1 = nI (l - 1) := by
      rw [show nI l = nI (l - 1) + 1 by rw [nI_1, show l - 1 + 1 = l by omega], Int32.add_sub_cancel]
    rw [if_neg hle, Option.bind_some, if_neg (by decide), hm1]
    by_cases hl1 : l = 1
    · subst hl1
      rw [if_pos (by decide)]
      unfold fX1_arrive
      exact ⟨_, s, 0, f, rfl, rfl, rfl, a5', ⟨hs, rfl, by omega, rfl, fun z => absurd z (by omega)⟩, Or.inr (Or.inl ⟨rfl, rfl, rfl, rfl, fun p _ => ar_put (by omega) p⟩)⟩
    · rw [if_neg (fun z => by
        have z2 : nI (l - 1) = nI 0 := z
        rw [nI_eq (by omega) (by omega)] at z2; omega)]
      exact ⟨_, s, l - 1, f, rfl, rfl, rfl, a5', ⟨hs, rfl, by omega, rfl, fun _ => e3 (by omega)⟩, Or.inl ⟨by omega, rfl, rfl, rfl, fun p _ => rfl⟩⟩
