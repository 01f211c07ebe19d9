/-! ticks, and the calls that run both machines -/
theorem rules_L {m : SX1} {z : Nat → Int32} {n s rc : Nat} (t : Int32) (u : U8) (rest : SX0 × SX6 × SX3) {ho : Nat → Nat} {ct at0 : Nat} (R : RG (m, rest) z (Gz z n) ho ct at0) (X : RX m z (Gz z n)) {N : Nat} (hN : 11 ≤ N) (hs : s < n) (hrc : gR (Gz z n) s = rc) (h4 : rc ≤ 4) (hat : m.2.2.2.2.2.1 = nI s) {x : Int32} (hx : fX8_waiting N (t, z, u) = some x) : ∀ (j i fuel : Nat), i + j = rc → j < fuel → (fX8_holding_L2 N (t, z, u) (nI s) fuel (nI i) = some (.inr ()) ∧ fX1_followRule_L22 N x (nI rc) fuel m (nI i) = some (.inr m)) ∨ ∃ r, r < rc ∧ fX8_holding_L2 N (t, z, u) (nI s) fuel (nI i) = some (.inl (nI r)) ∧ fX1_followRule_L22 N x (nI rc) fuel m (nI i) = (fX2_goalOf N m.1 (nI s) (nI r)).bind fun r7 => (fX1_leaveFor N m r7).bind fun r9 => some (.inl r9) := by
  intro j
  induction j with
  | zero =>
    intro i fuel e1 e2
    obtain ⟨f, rfl⟩ : ∃ f, fuel = f + 1 := ⟨fuel - 1, by omega⟩
    have hi : i = rc := by omega
    subst hi
    refine Or.inl ⟨?_, ?_⟩
    · rw [fX8_holding_L2, X8_rules_eq (v := (t, z, u)) R.2.2.1 N hs, Option.bind_some, hrc, if_pos (Int32.le_refl _)]
    · rw [fX1_followRule_L22, if_pos (Int32.le_refl _)]
  | succ j ih =>
    intro i fuel e1 e2
    obtain ⟨f, rfl⟩ : ∃ f, fuel = f + 1 := ⟨fuel - 1, by omega⟩
    have hi : i < rc := by omega
    have hle : ¬ nI rc ≤ nI i := fun q => by rw [nI_leI (by omega) (by omega)] at q; omega
    obtain ⟨b, b1, b2⟩ := holds_same (γ := (m, rest)) (v := (t, z, u)) R X (N := N) (by omega) hs (show i < gR (Gz z n) s by omega) hx
    have b1' : fX1_ruleHolds N m (nI s) (nI i) x = some (b2i b) := b1
    rw [fX8_holding_L2, X8_rules_eq (v := (t, z, u)) R.2.2.1 N hs, Option.bind_some, hrc, if_neg hle, b2, Option.bind_some, fX1_followRule_L22, if_neg hle, hat, b1', Option.bind_some, nI_1]
    cases b
    · rw [if_pos b2i_f, if_pos b2i_f]
      exact ih (i + 1) f (by omega) (by omega)
    · rw [if_neg b2i_t, if_neg b2i_t]
      exact Or.inr ⟨i, hi, rfl, rfl⟩
theorem tick_mach {m : SX1} {z : Nat → Int32} {n : Nat} (M : MR m z n) {N : Nat} (hN : 11 ≤ N) (t : Int32) (u : U8) (rest : SX0 × SX6 × SX3) : ∃ m' z', fX1_passTick N m = some m' ∧ fX8_tick N (t, z, u) = some (t, z', u) ∧ MR m' z' n := by
  have M0 := M.gone
  obtain ⟨ho, ct, s0, R0, X0⟩ := M0.graph rest
  obtain ⟨G, g1, g2⟩ := greensNow_same (γ := ((m.1, m.2.1, m.2.2.1, m.2.2.2.1, m.2.2.2.2.1, m.2.2.2.2.2.1, m.2.2.2.2.2.2.1, m.2.2.2.2.2.2.2.1, m.2.2.2.2.2.2.2.2.1, m.2.2.2.2.2.2.2.2.2 + 1), rest)) (v := (t, upd z 6 (z 6 + 1), u)) R0 X0 N
  have g1' : fX1_greensNow N (m.1, m.2.1, m.2.2.1, m.2.2.2.1, m.2.2.2.2.1, m.2.2.2.2.2.1, m.2.2.2.2.2.2.1, m.2.2.2.2.2.2.2.1, m.2.2.2.2.2.2.2.2.1, m.2.2.2.2.2.2.2.2.2 + 1) = some G := g1
  obtain ⟨m1, z1, p1, p2, M1, q1, q2, q3⟩ := passWaits_L N G n t u 6 0 N _ _ (by omega) (by omega) M0
  have p1' : fX1_passWaits_L7 N G N (m.1, m.2.1, m.2.2.1, m.2.2.2.1, m.2.2.2.2.1, m.2.2.2.2.2.1, m.2.2.2.2.2.2.1, m.2.2.2.2.2.2.2.1, m.2.2.2.2.2.2.2.2.1, m.2.2.2.2.2.2.2.2.2 + 1) 0 = some m1 := p1
  have p2' : fX8_serve_L7 N G N (t, upd z 6 (z 6 + 1), u) 0 = some (t, z1, u) := p2
  have a7 : fX1_passTick N m = (if m1.1.2.2.2.2.2.2.1 = 0 then some m1 else (fX1_isClearing N m1).bind fun r4 => if r4 = 0 then (if (m1.2.2.2.2.2.2.2.1 + 1) < (rowAt 8 m1.1.2.2.1 m1.2.2.2.2.2.1) then some (m1.1, m1.2.1, m1.2.2.1, m1.2.2.2.1, m1.2.2.2.2.1, m1.2.2.2.2.2.1, m1.2.2.2.2.2.2.1, (m1.2.2.2.2.2.2.2.1 + 1), m1.2.2.2.2.2.2.2.2) else (fX1_followRule N (m1.1, m1.2.1, m1.2.2.1, m1.2.2.2.1, m1.2.2.2.2.1, m1.2.2.2.2.2.1, m1.2.2.2.2.2.2.1, (m1.2.2.2.2.2.2.2.1 + 1), m1.2.2.2.2.2.2.2.2)).bind fun r8 => some r8) else (if (m1.2.2.2.2.2.2.2.2.1 - 1) = 0 then (fX1_arrive N (m1.1, m1.2.1, m1.2.2.1, m1.2.2.2.1, m1.2.2.2.2.1, m1.2.2.2.2.2.1, m1.2.2.2.2.2.2.1, m1.2.2.2.2.2.2.2.1, (m1.2.2.2.2.2.2.2.2.1 - 1), m1.2.2.2.2.2.2.2.2.2)).bind fun r11 => some r11 else some (m1.1, m1.2.1, m1.2.2.1, m1.2.2.2.1, m1.2.2.2.2.1, m1.2.2.2.2.2.1, m1.2.2.2.2.2.2.1, m1.2.2.2.2.2.2.2.1, (m1.2.2.2.2.2.2.2.2.1 - 1), m1.2.2.2.2.2.2.2.2.2))) := by
    unfold fX1_passTick fX1_passWaits
    rw [g1', Option.bind_some, p1', Option.bind_some, Option.bind_some]
  have a8 : fX8_tick N (t, z, u) = (if z1 2 = -1 then some (t, z1, u) else (fX8_isClearing N (t, z1, u)).bind fun r9 => if r9 = 0 then ((fX8_of N (t, upd z1 3 (z1 3 + 1), u) (z1 2) 1).bind fun r17 => if z1 3 + 1 < r17 then some (t, upd z1 3 (z1 3 + 1), u) else (fX8_holding N (t, upd z1 3 (z1 3 + 1), u) (z1 2)).bind fun r21 => if r21 = (-1) then some (t, upd z1 3 (z1 3 + 1), u) else (fX8_goal N (t, upd z1 3 (z1 3 + 1), u) (z1 2) r21).bind fun r24 => (fX8_follow N (t, upd z1 3 (z1 3 + 1), u) (z1 2) r24).bind fun r26 => some r26) else (if z1 4 - 1 = 0 then (fX8_arrive N (t, upd z1 4 (z1 4 - 1), u) (z1 2)).bind fun r34 => some r34 else some (t, upd z1 4 (z1 4 - 1), u))) := by
    unfold fX8_tick fX8_serve
    rw [chk6, chk6, tn6]
    unfold nmd
    dsimp only
    rw [g2, Option.bind_some, p2', Option.bind_some, Option.bind_some, chk2, tn2]
    dsimp only
    simp only [chk3, chk4, tn3, tn4, upd_same]
  rw [a7, a8]
  obtain ⟨ho1, ct1, s1, R1, X1⟩ := M1.graph rest
  obtain ⟨⟨n8, n1, n2, ctt, n3, n4, n5⟩, ⟨w1, w2, w3, w4⟩, -⟩ := id M1
  rcases w1 with ⟨c1, c2, c3⟩ | ⟨s, c1, c2, c3⟩
  · rw [n1, if_pos (show nI n = 0 by rw [c1]; decide), if_pos c2]
    exact ⟨m1, z1, rfl, rfl, M1⟩
  · have hs8 : s < 8 := by omega
    rw [n1, if_neg (nI_ne0 (by omega) (by omega)), c2, if_neg (show ¬ nI s = -1 from fun q => nI_pos (show s < 2 ^ 31 by omega) (by rw [q]; decide))]
    obtain ⟨b, b1, b2, b3⟩ := clear_same (γ := (m1, rest)) (v := (t, z1, u)) X1 N
    have b1' : fX1_isClearing N m1 = some (b2i b) := b1
    rw [b1', b2, Option.bind_some, Option.bind_some]
    rcases b3 with ⟨rfl, d1, d2⟩ | ⟨rfl, l, l1, l2, l3, p, l4, l5, l6⟩
    · rw [if_pos b2i_f, if_pos b2i_f]
      have d1' : z1 4 = 0 := d1
      have d2' : m1.2.2.2.2.2.2.2.1 = z1 3 := d2
      have M2 := M1.stay d1'
      obtain ⟨-, -, ⟨hh, h1, h2, h3, h5⟩, -⟩ := M1.2.2.2.1 s c1
      have hof : fX8_of N (t, upd z1 3 (z1 3 + 1), u) (nI s) 1 = some (nI hh) := by
        rw [show (1 : Int32) = nI 1 from rfl, X8_of_eq N _ hs8 (by omega), show 31 + 14 * s + 1 = 32 + 14 * s by omega]
        exact congrArg some ((upd_ne (by omega)).trans h5)
      rw [hof, Option.bind_some, d2', c3, rowAt_nI hs8 (by decide), h3]
      by_cases hlt : z1 3 + 1 < nI hh
      · rw [if_pos hlt, if_pos hlt]
        rw [c3] at M2
        exact ⟨_, _, rfl, rfl, M2⟩
      · rw [if_neg hlt, if_neg hlt]
        rw [c3] at M2
        obtain ⟨ho2, ct2, s2, R2, X2⟩ := M2.graph rest
        obtain ⟨x, x1, x2, -⟩ := waiting_same (γ := ((m1.1, m1.2.1, m1.2.2.1, m1.2.2.2.1, m1.2.2.2.2.1, nI s, m1.2.2.2.2.2.2.1, z1 3 + 1, m1.2.2.2.2.2.2.2.2.1, m1.2.2.2.2.2.2.2.2.2), rest)) (v := (t, upd z1 3 (z1 3 + 1), u)) X2 (N := N) (by omega)
        obtain ⟨rc, r1, r2, r3⟩ := M2.rules c1
        have hgR : gR (Gz (upd z1 3 (z1 3 + 1)) n) s = rc := by
          show (upd z1 3 (z1 3 + 1) (34 + 14 * s)).toNatClampNeg = rc
          rw [r3, nI_clamp (by omega)]
        have r2' : m1.1.2.2.2.1 s = nI rc := r2
        have x1' : fX1_waiting N (m1.1, m1.2.1, m1.2.2.1, m1.2.2.2.1, m1.2.2.2.2.1, nI s, m1.2.2.2.2.2.2.1, z1 3 + 1, m1.2.2.2.2.2.2.2.2) = some x := x1
        have f7 : fX1_followRule N (m1.1, m1.2.1, m1.2.2.1, m1.2.2.2.1, m1.2.2.2.2.1, nI s, m1.2.2.2.2.2.2.1, z1 3 + 1, m1.2.2.2.2.2.2.2.2) = (fX1_followRule_L22 N x (nI rc) N (m1.1, m1.2.1, m1.2.2.1, m1.2.2.2.1, m1.2.2.2.2.1, nI s, m1.2.2.2.2.2.2.1, z1 3 + 1, m1.2.2.2.2.2.2.2.2.1, m1.2.2.2.2.2.2.2.2.2) (nI 0)).bind fun u11 => onS u11 (fun r => some r) fun q13 => some q13 := by
          unfold fX1_followRule
          rw [x1', Option.bind_some]
          dsimp only
          rw [rowAt_nI hs8 (by decide), r2']
          rfl
        rw [f7]
        have hold8 : fX8_holding N (t, upd z1 3 (z1 3 + 1), u) (nI s) = (fX8_holding_L2 N (t, upd z1 3 (z1 3 + 1), u) (nI s) N (nI 0)).bind fun u7 => onS u7 (fun r => some r) fun q9 => some (-1) := rfl
        rw [hold8]
        rcases rules_L t u rest R2 X2 hN c1 hgR r1 rfl x2 rc 0 N (by omega) (by omega) with ⟨y1, y2⟩ | ⟨r, y0, y1, y2⟩
        · rw [y1, y2]
          refine ⟨_, _, rfl, ?_, M2⟩
          rw [Option.bind_some, onS_r, Option.bind_some, if_pos rfl]
        · rw [y1, y2]
          have hr : r < gR (Gz (upd z1 3 (z1 3 + 1)) n) s := by omega
          have gl7 := X2_goalOf_eq R2.1 N c1 hr
          have gl7' : fX2_goalOf N m1.1 (nI s) (nI r) = some (nI (gO (Gz (upd z1 3 (z1 3 + 1)) n) s r)) := gl7
          have gl8 := X8_goal_eq (v := (t, upd z1 3 (z1 3 + 1), u)) R2.2.2.1 N c1 hr
          have hq : gO (Gz (upd z1 3 (z1 3 + 1)) n) s r < n := ((R2.2.2.1.2.2 s c1).2.2.2 r hr).2.1
          generalize gO (Gz (upd z1 3 (z1 3 + 1)) n) s r = q at gl7' gl8 hq
          have cl8 := X8_clearingTo_eq (v := (t, upd z1 3 (z1 3 + 1), u)) R2.2.2.1 R2.2.2.2.1 N (p := s) (q := q) c1 hq
          have gs := plan_gr R2.1 (p := s) c1
          have gq := plan_gr R2.1 (p := q) hq
          have hct := R2.2.1.2
          have gs' : rowAt 8 m1.1.2.1 (nI s) = gG (Gz (upd z1 3 (z1 3 + 1)) n) s := gs
          have gq' : rowAt 8 m1.1.2.1 (nI q) = gG (Gz (upd z1 3 (z1 3 + 1)) n) q := gq
          have ct' : m1.1.2.2.2.2.2.2.2 = nI ct2 := hct.1
          have fin : ∃ m' z', fX1_leaveFor N (m1.1, m1.2.1, m1.2.2.1, m1.2.2.2.1, m1.2.2.2.2.1, nI s, m1.2.2.2.2.2.2.1, z1 3 + 1, m1.2.2.2.2.2.2.2.2.1, m1.2.2.2.2.2.2.2.2.2) (nI q) = some m' ∧ fX8_follow N (t, upd z1 3 (z1 3 + 1), u) (nI s) (nI q) = some (t, z', u) ∧ MR m' z' n := by
            have arr : fX1_arrive N (m1.1, m1.2.1, m1.2.2.1, m1.2.2.2.1, m1.2.2.2.2.1, nI q, nI s, z1 3 + 1, 0, m1.2.2.2.2.2.2.2.2.2) = some (m1.1, m1.2.1, m1.2.2.1, m1.2.2.2.1, upd m1.2.2.2.2.1 q (m1.2.2.2.2.1 q + 1), nI q, nI s, 0, 0, m1.2.2.2.2.2.2.2.2.2) := by
              unfold fX1_arrive
              dsimp only
              rw [rowPut_nI (by omega) (by decide), rowAt_nI (by omega) (by decide)]
            unfold fX8_follow fX1_leaveFor fX2_clearingBetween
            rw [cl8, Option.bind_some]
            dsimp only
            rw [gs', gq', ct']
            by_cases hg : gG (Gz (upd z1 3 (z1 3 + 1)) n) s = gG (Gz (upd z1 3 (z1 3 + 1)) n) q
            · refine ⟨_, _, ?_, ?_, M2.arrive hq (nI s)⟩
              · rw [if_pos hg, Option.bind_some, if_pos rfl, arr]; rfl
              · rw [if_pos hg, if_pos (by decide), X8_arrive_eq N t _ u (by omega)]; rfl
            · by_cases hc0 : ct2 = 0
              · subst hc0
                have arr' : fX1_arrive N (m1.1, m1.2.1, m1.2.2.1, m1.2.2.2.1, m1.2.2.2.2.1, nI q, nI s, z1 3 + 1, nI 0, m1.2.2.2.2.2.2.2.2.2) = _ := arr
                refine ⟨_, _, ?_, ?_, M2.arrive hq (nI s)⟩
                · rw [if_neg hg, Option.bind_some, if_pos (by decide), arr']; rfl
                · rw [if_neg hg, if_pos (by decide), X8_arrive_eq N t _ u (by omega)]; rfl
              · have hne : ¬ nI ct2 = 0 := nI_ne0 (by omega) (by omega)
                refine ⟨_, _, ?_, ?_, M2.leave c1 hq (by omega) hct.2 (z1 3 + 1)⟩
                · rw [if_neg hg, Option.bind_some, if_neg hne]
                · rw [if_neg hg, if_neg hne]
                  unfold nmd
                  dsimp only
                  rw [chk2, chk5, chk3, chk4, tn2, tn5, tn3, tn4]
          obtain ⟨m', z', v1, v2, v3⟩ := fin
          refine ⟨m', z', ?_, ?_, v3⟩
          · rw [gl7', Option.bind_some, v1]; rfl
          · rw [Option.bind_some, onS_l, Option.bind_some, if_neg (show ¬ nI r = -1 from fun q => nI_pos (show r < 2 ^ 31 by omega) (by rw [q]; decide)), gl8, Option.bind_some, v2]; rfl
    · rw [if_neg b2i_t, if_neg b2i_t]
      have l3' : z1 4 = nI l := l3
      have l6' : z1 5 = nI p := l6
      have l5' : m1.2.2.2.2.2.2.1 = nI p := l5
      rw [w2, l3']
      obtain ⟨k, rfl⟩ : ∃ k, l = k + 1 := ⟨l - 1, by omega⟩
      rw [nI_pred]
      by_cases hk : k = 0
      · subst hk
        rw [if_pos (by decide), if_pos (by decide), c3]
        refine ⟨_, _, ?_, ?_, M1.arrive c1 m1.2.2.2.2.2.2.1⟩
        · unfold fX1_arrive
          dsimp only
          rw [rowPut_nI hs8 (by decide), rowAt_nI hs8 (by decide), Option.bind_some]
          rfl
        · rw [X8_arrive_eq N t _ u hs8, Option.bind_some, arrv_4]
      · have hne : ¬ nI k = 0 := nI_ne0 (by omega) (by omega)
        rw [if_neg hne, if_neg hne]
        exact ⟨_, _, rfl, rfl, M1.less (by omega) (by omega) l4 l5' l6'⟩
theorem run_L {N : Nat} (hN : 11 ≤ N) {k n : Nat} (hk : k < 2 ^ 31) (t : Int32) (u : U8) (rest : SX0 × SX6 × SX3) : ∀ (j i fuel : Nat) (m : SX1) (z : Nat → Int32), i + j = k → j < fuel → MR m z n → ∃ m' z', fX7_run_L34 N (nI k) fuel (m, rest) (nI i) = some (m', rest) ∧ fX8_run_L34 N (nI k) fuel (t, z, u) (nI i) = some (t, z', u) ∧ MR m' z' n := by
  intro j
  induction j with
  | zero =>
    intro i fuel m z e1 e2 M
    obtain ⟨f, rfl⟩ : ∃ f, fuel = f + 1 := ⟨fuel - 1, by omega⟩
    have hi : i = k := by omega
    subst hi
    refine ⟨m, z, ?_, ?_, M⟩
    · rw [fX7_run_L34, if_pos (Int32.le_refl _)]
    · rw [fX8_run_L34, if_pos (Int32.le_refl _)]
  | succ j ih =>
    intro i fuel m z e1 e2 M
    obtain ⟨f, rfl⟩ : ∃ f, fuel = f + 1 := ⟨fuel - 1, by omega⟩
    have hle : ¬ nI k ≤ nI i := fun q => by rw [nI_leI (by omega) (by omega)] at q; omega
    obtain ⟨m1, z1, a1, a2, M1⟩ := tick_mach M hN t u rest
    obtain ⟨m', z', b1, b2, M2⟩ := ih (i + 1) f m1 z1 (by omega) (by omega) M1
    refine ⟨m', z', ?_, ?_, M2⟩
    · rw [fX7_run_L34, if_neg hle, a1, Option.bind_some, nI_1]
      exact b1
    · rw [fX8_run_L34, if_neg hle, a2, Option.bind_some, nI_1]
      exact b2
section MC
variable {m : SX1} {h : SX0} {tx : SX6} {pf : SX3} {t kk : Int32} {z S' : Nat → Int32} {u : U5}
theorem run_call (S : SR (m, h, tx, pf) (t, z, S', kk, u)) {N : Nat} (hN : 900 ≤ N) (x1 : Int32) : CSame [IAE] (fX7_run N (m, h, tx, pf) x1) (fX8_run N (t, z, S', kk, u) x1) := by
  obtain ⟨n, M, H, T⟩ := SR.parts S
  rcases in_lh N (a := 1) (b := 99) (by decide) (by decide) x1 with ⟨j, j1, j2, rfl, e1, e2, e3⟩ | ⟨e1, e2⟩
  · obtain ⟨h', S2, kk', k1, k2, k3⟩ := keep_save (t := 0) (u := u) H M hN
    have e1' : fX8_in N (nI j) 1 99 = some 1 := e1
    obtain ⟨m', z', a1, a2, M'⟩ := run_L (N := N) (by omega) (show j < 2 ^ 31 by omega) 0 (S2, kk', u) (h', tx, pf) j 0 N m z (by omega) (by omega) M
    have a1' : fX7_run_L34 N (nI j) N (m, h', tx, pf) 0 = some (m', h', tx, pf) := a1
    have a2' : fX8_run_L34 N (nI j) N (0, z, S2, kk', u) 0 = some (0, z', S2, kk', u) := a2
    obtain ⟨ho, ct, s, R, X⟩ := M'.graph (h', tx, pf)
    obtain ⟨x, y1, y2, y3⟩ := waiting_same (γ := (m', h', tx, pf)) (v := (0, z', S2, kk', u)) X (N := N) (by omega)
    have y1' : fX1_waiting N m' = some x := y1
    have hb : ∀ q, bt x q = true → q < 8 := fun q hq => by have := ((y3 q).mp hq).1; omega
    refine CSame.of (x := nI (cnt (bt x) 8)) (ρ' := (0, z', S2, kk', u)) (γ' := (m', h', tx, pf)) ?_ rfl ?_ (SR.mk pf 0 M' k3 T)
    · unfold fX8_run
      rw [e1', Option.bind_some, if_neg (by decide)]
      dsimp only
      rw [k2, Option.bind_some, a2', Option.bind_some, y2, Option.bind_some, X8_bits_eq (by omega) hb]
      rfl
    · unfold fX7_run
      dsimp only
      rw [if_neg (show ¬ nI j < 1 from e2), if_pos (show nI j ≤ 99 from e3), k1, Option.bind_some, a1', Option.bind_some, y1', Option.bind_some, bitC_eq N hb]
      rfl
  · have e1' : fX8_in N x1 1 99 = some 0 := e1
    refine CSame.thr 0 rfl (x := 0) (ρ' := (1, z, S', kk, u)) (γ' := (m, h, tx, pf)) ?_ rfl ?_ (SR.mk pf 1 M H T)
    · unfold fX8_run
      rw [e1', Option.bind_some, if_pos rfl]
    · unfold fX7_run
      rcases e2 with e2 | ⟨e2, e3⟩
      · rw [if_pos (show x1 < 1 from e2)]
      · rw [if_neg (show ¬ x1 < 1 from e2), if_neg (show ¬ x1 ≤ 99 from e3)]
theorem come_call (S : SR (m, h, tx, pf) (t, z, S', kk, u)) {N : Nat} (hN : 900 ≤ N) (x1 : Int32) : CSame [IAE] (fX7_come N (m, h, tx, pf) x1) (fX8_come N (t, z, S', kk, u) x1) := by
  obtain ⟨n, M, H, T⟩ := SR.parts S
  rcases dir_cases N x1 with ⟨d, hd, rfl, e1, e2⟩ | ⟨e1, e2⟩
  · obtain ⟨h', S2, kk', k1, k2, k3⟩ := keep_save (t := 0) (u := u) H M hN
    obtain ⟨-, -, c1, -⟩ := M.2.2.1 d hd
    have c13 : ∀ {α : Type} (k : Option α), chk ((13 : Int32) + nI d) 143 k = k := fun k => by rw [ix13, chk_nI (by omega) (by decide)]
    by_cases hw : z (13 + d) = -1
    · refine CSame.of (x := 0) (ρ' := (0, _, S2, kk', u)) (γ' := (_, h', tx, pf)) ?_ rfl ?_ (SR.mk pf 0 (M.wait hd 0) k3 T)
      · unfold fX8_come
        rw [e2, Option.bind_some, if_neg (by decide)]
        dsimp only
        rw [k2, Option.bind_some, c13, c13, c13, ix13, nI_clamp (by omega), if_pos hw]
        unfold nmd
        dsimp only
        rw [upd_same, chk_nI (by omega) (by decide)]
      · unfold fX7_come
        dsimp only
        rw [e1, Option.bind_some, onS_r, k1, Option.bind_some, rowAt_nI hd (by decide), c1, if_pos hw, rowPut_nI hd (by decide), rowAt_nI hd (by decide), upd_same]
    · refine CSame.of (x := z (13 + d)) (ρ' := (0, z, S2, kk', u)) (γ' := (m, h', tx, pf)) ?_ rfl ?_ (SR.mk pf 0 M k3 T)
      · unfold fX8_come
        rw [e2, Option.bind_some, if_neg (by decide)]
        dsimp only
        rw [k2, Option.bind_some, c13, c13, c13, c13, ix13, nI_clamp (by omega), if_neg hw]
        unfold nmd
        dsimp only
        rw [upd_id, chk_nI (by omega) (by decide)]
      · unfold fX7_come
        dsimp only
        rw [e1, Option.bind_some, onS_r, k1, Option.bind_some, rowAt_nI hd (by decide), c1, if_neg hw]
  · refine CSame.thr 0 rfl (x := 0) (ρ' := (1, z, S', kk, u)) (γ' := (m, h, tx, pf)) ?_ rfl ?_ (SR.mk pf 1 M H T)
    · unfold fX8_come
      rw [e2, Option.bind_some, if_pos rfl]
    · unfold fX7_come
      rw [e1, Option.bind_some, onS_l]
def wclr (z : Nat → Int32) (i : Nat) : Nat → Int32 := fun x => if 13 + i ≤ x ∧ x < 19 then -1 else z x
theorem start_L60 (N : Nat) (y : Int32) (t : Int32) (u : U8) : ∀ (j i fuel : Nat) (z : Nat → Int32), i + j = 6 → j < fuel → fX8_start_L60 N y fuel (t, z, u) (nI i) = some (t, wclr z i, u) := by
  intro j
  induction j with
  | zero =>
    intro i fuel z e1 e2
    obtain ⟨f, rfl⟩ : ∃ f, fuel = f + 1 := ⟨fuel - 1, by omega⟩
    have hi : i = 6 := by omega
    subst hi
    rw [fX8_start_L60, if_pos (by decide)]
    refine congrArg some (Prod.ext rfl (Prod.ext ?_ rfl))
    funext x
    show z x = wclr z 6 x
    unfold wclr
    rw [if_neg (by omega)]
  | succ j ih =>
    intro i fuel z e1 e2
    obtain ⟨f, rfl⟩ : ∃ f, fuel = f + 1 := ⟨fuel - 1, by omega⟩
    have hi : i < 6 := by omega
    rw [fX8_start_L60, if_neg (le6 hi), ix13, chk_nI (by omega) (by decide), nI_clamp (by omega)]
    unfold nmd
    dsimp only
    rw [nI_1, ih (i + 1) f _ (by omega) (by omega)]
    refine congrArg some (Prod.ext rfl (Prod.ext ?_ rfl))
    funext x
    show wclr (upd z (13 + i) (-1)) (i + 1) x = wclr z i x
    unfold wclr
    by_cases h1 : x = 13 + i
    · subst h1
      rw [if_neg (by omega), if_pos (by omega), upd_same]
    · by_cases h2 : 13 + (i + 1) ≤ x ∧ x < 19
      · rw [if_pos h2, if_pos (by omega)]
      · rw [if_neg h2, if_neg (by omega), upd_ne h1]
theorem MR.put {m : SX1} {z : Nat → Int32} {n p : Nat} (M : MR m z n) (hp0 : p < n) : MR (m.1, (fun _ => (-1)), m.2.2.1, m.2.2.2.1, m.2.2.2.2.1, nI p, m.2.2.2.2.2.2.1, 0, 0, m.2.2.2.2.2.2.2.2.2) (wclr (upd (upd (upd (upd z 2 (nI p)) 3 0) 4 0) 5 (-1)) 0) n := by
  obtain ⟨⟨n8, n1, n2, ct, n3, n4, n5⟩, ⟨a1, a2, a3, a4⟩, hd, hp, har, h0⟩ := M
  have zz : ∀ x, (x < 2 ∨ 6 ≤ x) → (x < 13 ∨ 19 ≤ x) → wclr (upd (upd (upd (upd z 2 (nI p)) 3 0) 4 0) 5 (-1)) 0 x = z x := fun x h1 h2 => by
    unfold wclr
    rw [if_neg (by omega), upd_ne (by omega), upd_ne (by omega), upd_ne (by omega), upd_ne (by omega)]
  have zs : ∀ x, x < 13 → wclr (upd (upd (upd (upd z 2 (nI p)) 3 0) 4 0) 5 (-1)) 0 x = upd (upd (upd (upd z 2 (nI p)) 3 0) 4 0) 5 (-1) x := fun x h1 => by
    unfold wclr
    rw [if_neg (by omega)]
  have e2 : wclr (upd (upd (upd (upd z 2 (nI p)) 3 0) 4 0) 5 (-1)) 0 2 = nI p := by rw [zs 2 (by omega), upd_ne (by omega), upd_ne (by omega), upd_ne (by omega), upd_same]
  have e3 : wclr (upd (upd (upd (upd z 2 (nI p)) 3 0) 4 0) 5 (-1)) 0 3 = 0 := by rw [zs 3 (by omega), upd_ne (by omega), upd_ne (by omega), upd_same]
  have e4 : wclr (upd (upd (upd (upd z 2 (nI p)) 3 0) 4 0) 5 (-1)) 0 4 = 0 := by rw [zs 4 (by omega), upd_ne (by omega), upd_same]
  refine ⟨⟨n8, n1, by rw [zz 0 (by omega) (by omega), n2], ct, n3, n4, by rw [zz 1 (by omega) (by omega), n5]⟩, ⟨Or.inr ⟨p, hp0, e2, rfl⟩, e4.symm, by rw [zz 6 (by omega) (by omega)]; exact a3, Or.inl ⟨e4, e3.symm⟩⟩, fun d h => ⟨?_, ?_, ?_, ?_, ?_⟩, fun q hqn => (hp q hqn).congr (Nat.le_refl _) ⟨rfl, rfl, rfl, fun _ _ => ⟨rfl, rfl⟩⟩ rfl (fun w hw => zz _ (by omega) (by omega)), har, h0⟩
  · rw [zz _ (by omega) (by omega)]; exact (hd d h).1
  · rw [zz _ (by omega) (by omega)]; exact (hd d h).2.1
  · unfold wclr
    rw [if_pos (by omega)]
  · rw [zz _ (by omega) (by omega)]; exact (hd d h).2.2.2.1
  · rw [zz _ (by omega) (by omega)]; exact (hd d h).2.2.2.2
theorem start_call (S : SR (m, h, tx, pf) (t, z, S', kk, u)) {N : Nat} (hN : 900 ≤ N) (x1 : Int32) : CSame [IOB] (fX7_start N (m, h, tx, pf) x1) (fX8_start N (t, z, S', kk, u) x1) := by
  obtain ⟨n, M, H, T⟩ := SR.parts S
  rcases ph2 M N (h, tx, pf) t (S', kk, u) x1 with ⟨p, hp, rfl, e1, e2⟩ | ⟨e1, e2⟩
  · have h8 : p < 8 := by have := M.1.1; omega
    obtain ⟨h', S2, kk', k1, k2, k3⟩ := keep_save (t := 0) (u := u) H M hN
    have M' := M.put hp
    have hg := (M'.2.2.2.1 p hp).1
    have hl : fX8_start_L60 N (nI p) N (0, upd (upd (upd (upd z 2 (nI p)) 3 0) 4 0) 5 (-1), S2, kk', u) 0 = _ := start_L60 N (nI p) 0 (S2, kk', u) 6 0 N (upd (upd (upd (upd z 2 (nI p)) 3 0) 4 0) 5 (-1)) (by omega) (by omega)
    refine CSame.of (x := wclr (upd (upd (upd (upd z 2 (nI p)) 3 0) 4 0) 5 (-1)) 0 (31 + 14 * p)) (ρ' := (0, _, S2, kk', u)) (γ' := (_, h', tx, pf)) ?_ rfl ?_ (SR.mk pf 0 M' k3 T)
    · unfold fX8_start
      rw [e2, Option.bind_some, if_neg (by decide)]
      dsimp only
      rw [k2, Option.bind_some]
      unfold nmd
      dsimp only
      rw [chk2, chk3, chk4, chk5, tn2, tn3, tn4, tn5, hl, Option.bind_some]
      unfold fX8_greens
      rw [show (0 : Int32) = nI 0 from rfl, X8_of_eq N _ h8 (by omega)]
      rfl
    · unfold fX7_start fX1_putInto
      dsimp only
      rw [e1, Option.bind_some, onS_r, k1, Option.bind_some, Option.bind_some]
      dsimp only
      rw [rowAt_nI h8 (by decide)]
      exact congrArg some (congrArg Sum.inr (Prod.ext hg rfl))
  · refine CSame.thr 0 rfl (x := 0) (ρ' := (1, z, S', kk, u)) (γ' := (m, h, tx, pf)) ?_ rfl ?_ (SR.mk pf 1 M H T)
    · unfold fX8_start
      rw [e2, Option.bind_some, if_pos rfl]
    · unfold fX7_start
      rw [e1, Option.bind_some, onS_l]
def unsv (z S : Nat → Int32) (b i : Nat) : Nat → Int32 := fun x => if i ≤ x ∧ x < 143 then S (b + x) else z x
theorem undo_L37 (N : Nat) (S : Nat → Int32) {k : Nat} (hk : k ≤ 5) (t : Int32) (u : U5) : ∀ (j i fuel : Nat) (z : Nat → Int32), i + j = 143 → j < fuel → fX8_undo_L37 N fuel (t, z, S, nI k, u) (nI i) = some (t, unsv z S (143 * k) i, S, nI k, u) := by
  intro j
  induction j with
  | zero =>
    intro i fuel z e1 e2
    obtain ⟨f, rfl⟩ : ∃ f, fuel = f + 1 := ⟨fuel - 1, by omega⟩
    have hi : i = 143 := by omega
    subst hi
    rw [fX8_undo_L37, if_pos (by decide)]
    refine congrArg some (Prod.ext rfl (Prod.ext ?_ rfl))
    funext x
    show z x = unsv z S (143 * k) 143 x
    unfold unsv
    rw [if_neg (by omega)]
  | succ j ih =>
    intro i fuel z e1 e2
    obtain ⟨f, rfl⟩ : ∃ f, fuel = f + 1 := ⟨fuel - 1, by omega⟩
    have hi : i < 143 := by omega
    rw [fX8_undo_L37, if_neg (show ¬ (143 : Int32) ≤ nI i from fun q => by
      have q2 : nI 143 ≤ nI i := q
      rw [nI_leI (by omega) (by omega)] at q2; omega)]
    dsimp only
    rw [show (143 : Int32) = nI 143 from rfl, nI_mul, nI_add, chk_nI (by omega) (by omega), chk_nI (by omega) (by omega), nI_clamp (show k * 143 + i < 2 ^ 31 by omega), nI_clamp (show i < 2 ^ 31 by omega)]
    unfold nmd
    dsimp only
    rw [nI_1, ih (i + 1) f _ (by omega) (by omega)]
    refine congrArg some (Prod.ext rfl (Prod.ext ?_ rfl))
    funext x
    show unsv (upd z i (S (k * 143 + i))) S (143 * k) (i + 1) x = unsv z S (143 * k) i x
    unfold unsv
    by_cases h1 : x = i
    · subst h1
      rw [if_neg (by omega), if_pos (by omega), upd_same, Nat.mul_comm]
    · by_cases h2 : i + 1 ≤ x ∧ x < 143
      · rw [if_pos h2, if_pos (by omega)]
      · rw [if_neg h2, if_neg (by omega), upd_ne h1]
theorem undo_call (S : SR (m, h, tx, pf) (t, z, S', kk, u)) {N : Nat} (hN : 900 ≤ N) : CSame [ISE] (fX7_undo N (m, h, tx, pf)) (fX8_undo N (t, z, S', kk, u)) := by
  obtain ⟨n, M, H, T⟩ := SR.parts S
  obtain ⟨o, k, ho, hk, e1, e2, rfl, hj⟩ := id H
  unfold fX7_undo fX8_undo
  dsimp only
  rw [e2]
  cases k with
  | zero =>
    rw [if_pos (by decide), if_pos (by decide)]
    exact CSame.thr 0 rfl rfl rfl rfl (SR.mk pf 1 M H T)
  | succ k =>
    have hne : ¬ nI (k + 1) = 0 := nI_ne0 (by omega) (by omega)
    have hsl : slotI h.2.1 (nI k) = nI ((o + k) % 6) := by
      rw [e1]; exact slot_eq ⟨o, ho⟩ ⟨k, by omega⟩
    have hmod : (o + k) % 6 < 6 := Nat.mod_lt _ (by decide)
    obtain ⟨n', M'⟩ := hj k (by omega)
    have hl : fX8_undo_L37 N N (0, z, S', nI k, u) 0 = _ := undo_L37 N S' (show k ≤ 5 by omega) 0 u 143 0 N z (by omega) (by omega)
    rw [if_neg hne, if_neg hne, nI_pred, hl, Option.bind_some]
    unfold fX0_restore
    rw [e2, if_neg hne, nI_pred, hsl, chk_nI hmod (by decide), nI_clamp (by omega), Option.bind_some]
    refine CSame.of (x := nI k) rfl rfl rfl (SR.mk pf 0 (n := n') (M'.row (fun x hx => ?_)) ⟨o, k, ho, by omega, e1, rfl, rfl, fun j hjk => hj j (by omega)⟩ T)
    unfold unsv
    rw [if_pos (by omega)]
end MC
