/-! the digest alike: what a study of all directions leaves -/
def WAll (w : SX3) (g : Gr) (ho : Nat → Nat) (ct s : Nat) : Prop := LeadS w g ∧ ComS w g s ∧ ∀ e, e < 6 → WayS w g e ∧ StaS w g e ∧ WaiS w g ho ct e
section DA
variable {v : SX7} {g : Gr} {ho : Nat → Nat} {ct s : Nat}
theorem all2_L23 (h : PG v.1.1 g) (hh : HG v.1.1 g ho ct) {N : Nat} (hN : 9 ≤ N) : ∀ (k i fuel : Nat) (w : SX3), i + k = 6 → k < fuel → LeadS w g → ComS w g s → (∀ e, e < i → WayS w g e ∧ StaS w g e ∧ WaiS w g ho ct e) → ∃ w', fX7_studyAll_L23 N fuel (v.1, v.2.1, v.2.2.1, w) (nI i) = some (v.1, v.2.1, v.2.2.1, w') ∧ WAll w' g ho ct s := by
  have h8 := h.1
  intro k
  induction k with
  | zero =>
    intro i fuel w e1 e2 e3 e4 e5
    obtain ⟨f, rfl⟩ : ∃ f, fuel = f + 1 := ⟨fuel - 1, by omega⟩
    have hi : i = 6 := by omega
    subst hi
    rw [fX7_studyAll_L23, if_pos (by decide)]
    exact ⟨w, rfl, e3, e4, e5⟩
  | succ k ih =>
    intro i fuel w e1 e2 e3 e4 e5
    obtain ⟨f, rfl⟩ : ∃ f, fuel = f + 1 := ⟨fuel - 1, by omega⟩
    have hi : i < 6 := by omega
    obtain ⟨ws, m, b1, b2, b3, b4⟩ := X3_noteStarving_eq h hN w hi
    obtain ⟨lo, sh, c1, c2, c3⟩ := X3_noteWaits_eq h hh hN hi (w.1, ws, w.2.2.1, w.2.2.2.1, upd w.2.2.2.2.1 i m, w.2.2.2.2.2) b2
    obtain ⟨w', d1, d2⟩ := ih (i + 1) f (w.1, ws, lo, sh, upd w.2.2.2.2.1 i m, w.2.2.2.2.2) (by omega) (by omega) e3 e4 (fun e he => by
      by_cases hei : e = i
      · subst hei; exact ⟨b2, b3, c2⟩
      · obtain ⟨f0, f1, f2⟩ := e5 e (by omega)
        refine ⟨?_, ?_, ?_⟩
        · intro p hp q
          show bt (ws (8 * e + p)) q = true ↔ _
          rw [b4 (8 * e + p) (by omega)]
          exact f0 p hp q
        · intro q
          show bt (upd w.2.2.2.2.1 i m e) q = true ↔ _
          rw [upd_ne hei]
          exact f1 q
        · intro q hq
          obtain ⟨g1, g2⟩ := c3 (8 * e + q) (by omega)
          have f3 := f2 q hq
          dsimp only at g1 g2 ⊢
          rw [g1, g2]
          exact f3)
    refine ⟨w', ?_, d2⟩
    rw [fX7_studyAll_L23, if_neg (le6 hi), b1, Option.bind_some, c1, Option.bind_some, nI_1]
    exact d1
theorem studyAll2_eq (h : PG v.1.1 g) (hh : HG v.1.1 g ho ct) {N : Nat} (hN : 9 ≤ N) (hs : v.1.2.2.2.2.2.1 = nI s) (hs2 : s < 2 ^ 31) : ∃ w, fX7_studyAll N v = some (v.1, v.2.1, v.2.2.1, w) ∧ WAll w g ho ct s := by
  obtain ⟨l, c, a1, a2, a3⟩ := X3_noteComing_eq h hN v.2.2.2 hs2
  obtain ⟨w', b1, b2⟩ := all2_L23 h hh hN 6 0 N _ (by omega) (by omega) a2 a3 (fun e he => by omega)
  have b1' : fX7_studyAll_L23 N N (v.1, v.2.1, v.2.2.1, (l, v.2.2.2.2.1, v.2.2.2.2.2.1, v.2.2.2.2.2.2.1, v.2.2.2.2.2.2.2.1, c)) 0 = some (v.1, v.2.1, v.2.2.1, w') := b1
  refine ⟨w', ?_, b2⟩
  unfold fX7_studyAll
  rw [hs, a1, Option.bind_some, b1', Option.bind_some]
theorem coming_w (h : PG v.1.1 g) {N : Nat} (hN : 9 ≤ N) (hs : v.1.2.2.2.2.2.1 = nI s) (hs2 : s < 2 ^ 31) {r : Int32 × SX7} (hr : fX7_comingPhases N v = some r) (hw : WAll v.2.2.2 g ho ct s) : r.2.1 = v.1 ∧ WAll r.2.2.2.2 g ho ct s := by
  obtain ⟨l, c, a1, a2, a3⟩ := X3_noteComing_eq h hN v.2.2.2 hs2
  unfold fX7_comingPhases at hr
  rw [hs, a1, Option.bind_some] at hr
  cases hr
  exact ⟨rfl, a2, a3, hw.2.2⟩
theorem count_w (h : PG v.1.1 g) (hh : HG v.1.1 g ho ct) {N : Nat} (hN : 9 ≤ N) (hs : v.1.2.2.2.2.2.1 = nI s) (hs2 : s < 2 ^ 31) {x1 x : Int32} {γ' : SX7} (hr : fX7_count N v x1 = some (.inr (x, γ'))) (hw : WAll v.2.2.2 g ho ct s) : WAll γ'.2.2.2 g ho ct s := by
  unfold fX7_count at hr
  by_cases c0 : x1 = 0
  · rw [if_pos c0] at hr; cases hr; exact hw
  rw [if_neg c0] at hr
  by_cases c1 : x1 = 1
  · rw [if_pos c1] at hr
    split at hr
    · cases hr; exact hw
    · cases hr; exact hw
  rw [if_neg c1] at hr
  by_cases c2 : x1 = 2
  · rw [if_pos c2] at hr
    split at hr
    · cases hr; exact hw
    · obtain ⟨r, -, hr⟩ := bind_of hr
      split at hr
      · cases hr; exact hw
      · cases hr; exact hw
  rw [if_neg c2] at hr
  by_cases c3 : x1 = 3
  · rw [if_pos c3] at hr; cases hr; exact hw
  rw [if_neg c3] at hr
  by_cases c4 : x1 = 4
  · rw [if_pos c4] at hr
    obtain ⟨r, -, hr⟩ := bind_of hr
    cases hr; exact hw
  rw [if_neg c4] at hr
  by_cases c5 : x1 = 5
  · rw [if_pos c5] at hr
    obtain ⟨r, -, hr⟩ := bind_of hr
    cases hr; exact hw
  rw [if_neg c5] at hr
  by_cases c6 : x1 = 6
  · rw [if_pos c6] at hr
    obtain ⟨r, -, hr⟩ := bind_of hr
    obtain ⟨r2, -, hr⟩ := bind_of hr
    cases hr; exact hw
  rw [if_neg c6] at hr
  by_cases c7 : x1 = 7
  · rw [if_pos c7] at hr
    obtain ⟨r, h1, hr⟩ := bind_of hr
    obtain ⟨r2, -, hr⟩ := bind_of hr
    have := (coming_w h hN hs hs2 h1 hw).2
    cases hr; exact this
  rw [if_neg c7] at hr
  by_cases c8 : x1 = 8
  · rw [if_pos c8] at hr
    obtain ⟨r, h1, hr⟩ := bind_of hr
    obtain ⟨r2, -, hr⟩ := bind_of hr
    obtain ⟨r3, -, hr⟩ := bind_of hr
    have := (coming_w h hN hs hs2 h1 hw).2
    cases hr; exact this
  rw [if_neg c8] at hr
  by_cases c9 : x1 = 9
  · rw [if_pos c9] at hr; cases hr; exact hw
  rw [if_neg c9] at hr
  by_cases c10 : x1 = 10
  · rw [if_pos c10] at hr
    obtain ⟨r, h1, hr⟩ := bind_of hr
    obtain ⟨r2, -, hr⟩ := bind_of hr
    obtain ⟨w, a1, a2⟩ := studyAll2_eq h hh hN hs hs2
    rw [a1] at h1
    cases h1
    cases hr; exact a2
  rw [if_neg c10] at hr
  by_cases c11 : x1 = 11
  · rw [if_pos c11] at hr; cases hr; exact hw
  rw [if_neg c11] at hr
  cases hr
theorem phase_w (h : PG v.1.1 g) {N : Nat} (hN : 9 ≤ N) (hs : v.1.2.2.2.2.2.1 = nI s) (hs2 : s < 2 ^ 31) {x1 x2 x : Int32} {γ' : SX7} (hr : fX7_phase N v x1 x2 = some (.inr (x, γ'))) (hw : WAll v.2.2.2 g ho ct s) : WAll γ'.2.2.2 g ho ct s := by
  unfold fX7_phase at hr
  obtain ⟨r0, -, hr⟩ := bind_of hr
  cases r0 with
  | inl E => cases hr
  | inr q =>
    rw [onS_r] at hr
    by_cases c0 : x2 = 0
    · rw [if_pos c0] at hr; cases hr; exact hw
    rw [if_neg c0] at hr
    by_cases c1 : x2 = 1
    · rw [if_pos c1] at hr; cases hr; exact hw
    rw [if_neg c1] at hr
    by_cases c2 : x2 = 2
    · rw [if_pos c2] at hr; cases hr; exact hw
    rw [if_neg c2] at hr
    by_cases c3 : x2 = 3
    · rw [if_pos c3] at hr
      obtain ⟨r, -, hr⟩ := bind_of hr
      split at hr
      · cases hr; exact hw
      · cases hr; exact hw
    rw [if_neg c3] at hr
    by_cases c4 : x2 = 4
    · rw [if_pos c4] at hr
      obtain ⟨r, h1, hr⟩ := bind_of hr
      obtain ⟨r2, -, hr⟩ := bind_of hr
      have := (coming_w h hN hs hs2 h1 hw).2
      split at hr
      · cases hr; exact this
      · cases hr; exact this
    rw [if_neg c4] at hr
    by_cases c5 : x2 = 5
    · rw [if_pos c5] at hr; cases hr; exact hw
    rw [if_neg c5] at hr
    cases hr
end DA
/-- the reference's state in a digest -/
abbrev DV (z S : Nat → Int32) (kk : Int32) (bu : Nat → Int32) (ty : Int32) (o : Nat → Int32) (om sp w : Int32) (W B : Nat → Int32) (h : Int64) : SX8 := (0, z, S, kk, bu, ty, o, om, sp, w, W, B, h)
section DB
variable {m : SX1} {h : SX0} {tx : SX6} {z S bu o : Nat → Int32} {kk ty om sp w : Int32} {g : Gr} {ho : Nat → Nat} {ct s : Nat}
theorem count_val {pf : SX3} {W B : Nat → Int32} {hs : Int64} (R : RG (m, h, tx, pf) z g ho ct s) (X : RX m z g) (hk : h.2.2 = kk) (hw : WAll pf g ho ct s) {N : Nat} (hN : 11 ≤ N) {j : Nat} (hj : j ≤ 11) : ∃ x pf', fX7_count N (m, h, tx, pf) (nI j) = some (.inr (x, (m, h, tx, pf'))) ∧ WAll pf' g ho ct s ∧ fX8_counted N (DV z S kk bu ty o om sp w W B hs) (nI j) = some x := by
  obtain ⟨x, t, a, b, w', q1, q2⟩ := count_same (γ := (m, h, tx, pf)) (ρ := DV z S kk bu ty o om sp w W B hs) R X hk hN (nI j)
  have hin : fX8_in N (nI j) 0 11 = some 1 := by
    rcases in_cases N (k := 11) (by decide) (nI j) with ⟨i, hi, e, e1⟩ | ⟨e1, e2⟩
    · exact e1
    · exact absurd rfl (e2 j hj)
  unfold fX8_count at q1
  rw [hin, Option.bind_some, if_neg (by decide)] at q1
  obtain ⟨x', k1, k2⟩ := bind_of q1
  have k3 := some_of k2
  have kx : x' = x := congrArg Prod.fst k3
  have kt : (0 : Int32) = t := congrArg (fun p : Int32 × SX8 => p.2.1) k3
  subst kx
  subst kt
  rcases q2 with ⟨-, q2⟩ | ⟨q2, -⟩ | ⟨q2, -⟩
  · exact ⟨x', w', q2, count_w (v := (m, h, tx, pf)) R.1 R.2.1 (by omega) R.2.2.2.2.2.2.2.1 (by have := R.2.2.2.2.2.2.2.2; omega) q2 hw, k1⟩
  · exact absurd q2 (by decide)
  · exact absurd q2 (by decide)
theorem phase_val {pf : SX3} {W B : Nat → Int32} {hs : Int64} (R : RG (m, h, tx, pf) z g ho ct s) (X : RX m z g) (hw : WAll pf g ho ct s) {N : Nat} (hN : 11 ≤ N) {p j : Nat} (hp : p < gN g) (hj : j ≤ 5) : ∃ x pf', fX7_phase N (m, h, tx, pf) (nI p) (nI j) = some (.inr (x, (m, h, tx, pf'))) ∧ WAll pf' g ho ct s ∧ fX8_toldPhase N (DV z S kk bu ty o om sp w W B hs) (nI p) (nI j) = some x := by
  obtain ⟨x, t, a, b, w', q1, q2⟩ := phase_same (γ := (m, h, tx, pf)) (ρ := DV z S kk bu ty o om sp w W B hs) R X hN (nI p) (nI j)
  have h8 := R.1.1
  have hin : fX8_in N (nI j) 0 5 = some 1 := by
    rcases in_cases N (k := 5) (by decide) (nI j) with ⟨i, hi, e, e1⟩ | ⟨e1, e2⟩
    · exact e1
    · exact absurd rfl (e2 j hj)
  have hph : fX8_isPhase N (DV z S kk bu ty o om sp w W B hs) (nI p) = some 1 := by
    rcases ph_cases (γ := (m, h, tx, pf)) (ρ := DV z S kk bu ty o om sp w W B hs) R N (nI p) with ⟨p', hp', e, -, e2⟩ | ⟨e1, -⟩
    · exact e2
    · exfalso
      have := X2_hasPhase_eq R.1 N (nI p)
      rw [if_pos ⟨p, hp, rfl⟩] at this
      unfold fX7_checkPhase at e1
      rw [this, Option.bind_some, if_neg (by decide)] at e1
      cases e1
  unfold fX8_phase at q1
  rw [hph, Option.bind_some, if_neg (by decide), hin, Option.bind_some, if_neg (by decide)] at q1
  obtain ⟨x', k1, k2⟩ := bind_of q1
  have k3 := some_of k2
  have kx : x' = x := congrArg Prod.fst k3
  have kt : (0 : Int32) = t := congrArg (fun p : Int32 × SX8 => p.2.1) k3
  subst kx
  subst kt
  rcases q2 with ⟨-, q2⟩ | ⟨q2, -⟩ | ⟨q2, -⟩
  · exact ⟨x', w', q2, phase_w (v := (m, h, tx, pf)) R.1 (by omega) R.2.2.2.2.2.2.2.1 (by have := R.2.2.2.2.2.2.2.2; omega) q2 hw, k1⟩
  · exact absurd q2 (by decide)
  · exact absurd q2 (by decide)
theorem dir_val {pf : SX3} {W B : Nat → Int32} {hs : Int64} (R : RG (m, h, tx, pf) z g ho ct s) (X : RX m z g) {N : Nat} (hN : 11 ≤ N) {d j : Nat} (hd : d < 6) (hj : j ≤ 5) : ∃ x, fX7_direction N (m, h, tx, pf) (nI d) (nI j) = some (.inr x) ∧ fX8_toldDirection N (DV z S kk bu ty o om sp w W B hs) (nI d) (nI j) = some x := by
  obtain ⟨x, t, q1, q2⟩ := direction_same (γ := (m, h, tx, pf)) (ρ := DV z S kk bu ty o om sp w W B hs) R X hN (nI d) (nI j)
  have hin : fX8_in N (nI j) 0 5 = some 1 := by
    rcases in_cases N (k := 5) (by decide) (nI j) with ⟨i, hi, e, e1⟩ | ⟨e1, e2⟩
    · exact e1
    · exact absurd rfl (e2 j hj)
  have hdir : fX8_isDirection N (nI d) = some 1 := by
    rcases dir_cases N (nI d) with ⟨d', hd', e, -, e2⟩ | ⟨e1, -⟩
    · exact e2
    · exfalso
      unfold fX7_checkDirection at e1
      rw [if_neg (nI_pos (by omega)), if_pos (show nI d < (6 : Int32) from nI_lt (b := 6) hd (by omega))] at e1
      cases e1
  unfold fX8_direction at q1
  rw [hdir, Option.bind_some, if_neg (by decide), hin, Option.bind_some, if_neg (by decide)] at q1
  obtain ⟨x', k1, k2⟩ := bind_of q1
  have k3 := some_of k2
  have kx : x' = x := congrArg Prod.fst k3
  have kt : (0 : Int32) = t := congrArg (fun p : Int32 × SX8 => p.2.1) k3
  subst kx
  subst kt
  rcases q2 with ⟨-, q2⟩ | ⟨q2, -⟩ | ⟨q2, -⟩
  · exact ⟨x', q2, k1⟩
  · exact absurd q2 (by decide)
  · exact absurd q2 (by decide)
theorem rule_val {pf : SX3} {W B : Nat → Int32} {hs : Int64} (R : RG (m, h, tx, pf) z g ho ct s) (X : RX m z g) {N : Nat} (hN : 11 ≤ N) {p r j : Nat} (hp : p < gN g) (hr : r < gR g p) (hj : j ≤ 2) : ∃ x, fX7_rule N (m, h, tx, pf) (nI p) (nI r) (nI j) = some (.inr x) ∧ fX8_toldRule N (DV z S kk bu ty o om sp w W B hs) (nI p) (nI r) (nI j) = some x := by
  obtain ⟨x, t, q1, q2⟩ := rule_same (γ := (m, h, tx, pf)) (ρ := DV z S kk bu ty o om sp w W B hs) R X hN (nI p) (nI r) (nI j)
  have h8 := R.1.1
  have hin : fX8_in N (nI j) 0 2 = some 1 := by
    rcases in_cases N (k := 2) (by decide) (nI j) with ⟨i, hi, e, e1⟩ | ⟨e1, e2⟩
    · exact e1
    · exact absurd rfl (e2 j hj)
  have hph : fX8_isPhase N (DV z S kk bu ty o om sp w W B hs) (nI p) = some 1 := by
    rcases ph_cases (γ := (m, h, tx, pf)) (ρ := DV z S kk bu ty o om sp w W B hs) R N (nI p) with ⟨p', hp', e, -, e2⟩ | ⟨e1, -⟩
    · exact e2
    · exfalso
      have := X2_hasPhase_eq R.1 N (nI p)
      rw [if_pos ⟨p, hp, rfl⟩] at this
      unfold fX7_checkPhase at e1
      rw [this, Option.bind_some, if_neg (by decide)] at e1
      cases e1
  have h4 := R.2.2.2.2.1 p hp
  have hri : fX8_in N (nI r) 0 (nI (gR g p) - 1) = some 1 := by
    rcases rules_in N (show gR g p ≤ 8 by omega) (nI r) with ⟨r', hr', e, e1⟩ | ⟨e1, e2⟩
    · exact e1
    · rcases e2 with e2 | ⟨-, e2⟩
      · exact absurd e2 (nI_pos (show r < 2 ^ 31 by omega))
      · exact absurd (nI_lt hr (by omega)) e2
  unfold fX8_rule at q1
  rw [hph, Option.bind_some, if_neg (by decide), X8_rules_eq (v := DV z S kk bu ty o om sp w W B hs) R.2.2.1 N hp, Option.bind_some, hri, Option.bind_some, if_neg (by decide), hin, Option.bind_some, if_neg (by decide)] at q1
  obtain ⟨x', k1, k2⟩ := bind_of q1
  have k3 := some_of k2
  have kx : x' = x := congrArg Prod.fst k3
  have kt : (0 : Int32) = t := congrArg (fun p : Int32 × SX8 => p.2.1) k3
  subst kx
  subst kt
  rcases q2 with ⟨-, q2⟩ | ⟨q2, -⟩ | ⟨q2, -⟩
  · exact ⟨x', q2, k1⟩
  · exact absurd q2 (by decide)
  · exact absurd q2 (by decide)
end DB
