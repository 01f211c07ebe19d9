/-! the questions: class and reference answer alike -/
/-- the two plans and the phase that is on now -/
def RG (γ : SX7) (z : Nat → Int32) (g : Gr) (ho : Nat → Nat) (ct s : Nat) : Prop := PG γ.1.1 g ∧ HG γ.1.1 g ho ct ∧ ZG z g ∧ ZH z g ho ct ∧ (∀ p, p < gN g → gR g p ≤ 4) ∧ (∀ d, d < 6 → γ.1.1.1 d = z (7 + d)) ∧ AtS z g s ∧ γ.1.2.2.2.2.2.1 = nI s ∧ s < 8
abbrev IAE : String := "java/lang/IllegalArgumentException"
abbrev IOB : String := "java/lang/IndexOutOfBoundsException"
theorem dir_cases (N : Nat) (x : Int32) : (∃ d, d < 6 ∧ x = nI d ∧ fX7_checkDirection N x = some (.inr ()) ∧ fX8_isDirection N x = some 1) ∨ (fX7_checkDirection N x = some (.inl IAE) ∧ fX8_isDirection N x = some 0) := by
  unfold fX7_checkDirection fX8_isDirection fX8_in
  by_cases h0 : x < 0
  · rw [if_pos h0, if_pos h0]
    exact Or.inr ⟨rfl, rfl⟩
  rw [if_neg h0, if_neg h0]
  by_cases h6 : x < 6
  · rw [if_pos h6]
    obtain ⟨d, d1, rfl⟩ := nI_of h0
    have hd : d < 6 := by
      have z : nI d < nI 6 := h6
      rw [nI_ltI (by omega) (by omega)] at z
      exact z
    refine Or.inl ⟨d, hd, rfl, rfl, ?_⟩
    rw [if_neg (fun z => by have z2 : nI 5 < nI d := z; rw [nI_ltI (by omega) (by omega)] at z2; omega)]
    rfl
  · rw [if_neg h6]
    obtain ⟨d, d1, rfl⟩ := nI_of h0
    have hd : ¬ d < 6 := fun z => h6 (nI_lt (b := 6) z (by omega))
    refine Or.inr ⟨rfl, ?_⟩
    rw [if_pos (show (5 : Int32) < nI d from nI_lt (a := 5) (b := d) (by omega) (by omega))]
    rfl
theorem ph_cases {γ : SX7} {ρ : SX8} {g : Gr} {ho : Nat → Nat} {ct s : Nat} (R : RG γ ρ.2.1 g ho ct s) (N : Nat) (x : Int32) : (∃ p, p < gN g ∧ x = nI p ∧ fX7_checkPhase N γ x = some (.inr ()) ∧ fX8_isPhase N ρ x = some 1) ∨ (fX7_checkPhase N γ x = some (.inl IOB) ∧ fX8_isPhase N ρ x = some 0) := by
  obtain ⟨hP, -, hZ, -⟩ := R
  have h8 := hP.1
  unfold fX7_checkPhase fX8_isPhase
  rw [chk0, tn0, hZ.2.1]
  by_cases h : ∃ p, p < gN g ∧ x = nI p
  · obtain ⟨p, hp, rfl⟩ := h
    have e1 : fX2_hasPhase N γ.1.1 (nI p) = some 1 := by rw [X2_hasPhase_eq hP N (nI p), if_pos ⟨p, hp, rfl⟩]
    rw [e1, Option.bind_some, if_neg (show ¬ (1 : Int32) = 0 by decide), if_neg (nI_pos (by omega)), if_neg (fun z => by rw [nI_leI (by omega) (by omega)] at z; omega)]
    exact Or.inl ⟨p, hp, rfl, rfl, rfl⟩
  · have e1 : fX2_hasPhase N γ.1.1 x = some 0 := by rw [X2_hasPhase_eq hP N x, if_neg h]
    rw [e1, Option.bind_some, if_pos rfl]
    refine Or.inr ⟨rfl, ?_⟩
    by_cases h0 : x < 0
    · rw [if_pos h0]
    · rw [if_neg h0]
      obtain ⟨j, hj, rfl⟩ := nI_of h0
      rw [if_pos (nI_le (Nat.le_of_not_lt (fun z => h ⟨j, z, rfl⟩)) hj)]
abbrev qR (ρ : SX8) (t : Int32) (a b : Nat → Int32) : SX8 := sB (sW (t, ρ.2) a) b
/-- a question that both answer alike: a value, or the reference's code for what the class throws -/
def QSame (γ : SX7) (ρ : SX8) (E1 E2 : String) (o7 : Option ((String × SX7) ⊕ (Int32 × SX7))) (o8 : Option (Int32 × SX8)) : Prop := ∃ x t a b w, o8 = some (x, qR ρ t a b) ∧ ((t = 0 ∧ o7 = some (.inr (x, (γ.1, γ.2.1, γ.2.2.1, w)))) ∨ (t = 1 ∧ x = 0 ∧ o7 = some (.inl (E1, (γ.1, γ.2.1, γ.2.2.1, w)))) ∨ (t = 2 ∧ x = 0 ∧ o7 = some (.inl (E2, (γ.1, γ.2.1, γ.2.2.1, w)))))
section QS
variable {γ : SX7} {ρ : SX8} {g : Gr} {ho : Nat → Nat} {ct s : Nat}
theorem b2i_eq {a b : Bool} {P : Prop} (ha : a = true ↔ P) (hb : b = true ↔ P) : a = b := by
  cases a <;> cases b
  · rfl
  · have := ha.mpr (hb.mp rfl); cases this
  · have := hb.mpr (ha.mp rfl); cases this
  · rfl
theorem starves_same (R : RG γ ρ.2.1 g ho ct s) {N : Nat} (hN : 11 ≤ N) (x1 x2 : Int32) : QSame γ ρ IOB IAE (fX7_starves N γ x1 x2) (fX8_starves N ρ x1 x2) := by
  unfold fX7_starves fX8_starves
  rcases ph_cases R N x2 with ⟨p, hp, rfl, c1, c2⟩ | ⟨c1, c2⟩
  · rcases dir_cases N x1 with ⟨d, hd, rfl, e1, e2⟩ | ⟨e1, e2⟩
    · obtain ⟨hP, hH, hZ, hZH, h4, hC, hA, hs, hs8⟩ := R
      obtain ⟨w, w1, w2⟩ := X7_study_eq hP hH (N := N) (by omega) hs (by omega) hd
      obtain ⟨b, b1, b2⟩ := X3_starvesFrom_eq (w := w) hP.1 N hd hp w2.2.2.2.1
      obtain ⟨b', b1', b2'⟩ := X8_canStarve_eq (v := ((0 : Int32), ρ.2)) hZ hN (show d < 32 by omega) hp
      have hbb := b2i_eq b2' b2
      subst hbb
      rw [c1, c2, e1, e2]
      refine ⟨b2i b', 0, gW ρ, gB ρ, w, ?_, Or.inl ⟨rfl, ?_⟩⟩
      · rw [Option.bind_some, if_neg (by decide), Option.bind_some, if_neg (by decide), b1', Option.bind_some]
        cases b'
        · rw [if_pos b2i_f]; rfl
        · rw [if_neg b2i_t]; rfl
      · show (fX7_study N γ (nI d)).bind _ = _
        rw [w1, Option.bind_some, b1, Option.bind_some]
        cases b'
        · rw [if_pos b2i_f]; rfl
        · rw [if_neg b2i_t]; rfl
    · rw [c1, c2, e1, e2]
      exact ⟨0, 2, gW ρ, gB ρ, γ.2.2.2, rfl, Or.inr (Or.inr ⟨rfl, rfl, rfl⟩)⟩
  · rw [c1, c2]
    exact ⟨0, 1, gW ρ, gB ρ, γ.2.2.2, rfl, Or.inr (Or.inl ⟨rfl, rfl, rfl⟩)⟩
theorem rounds_same (R : RG γ ρ.2.1 g ho ct s) {N : Nat} (hN : 11 ≤ N) (x1 : Int32) : QSame γ ρ IAE IAE (fX7_rounds N γ x1) (fX8_rounds N ρ x1) := by
  unfold fX7_rounds fX8_rounds
  rcases dir_cases N x1 with ⟨d, hd, rfl, e1, e2⟩ | ⟨e1, e2⟩
  · obtain ⟨hP, hH, hZ, hZH, h4, hC, hA, hs, hs8⟩ := R
    obtain ⟨w, w1, w2⟩ := X7_study_eq hP hH (N := N) (by omega) hs (by omega) hd
    obtain ⟨M, m1, m2⟩ := X3_roundPhases_eq (w := w) hP (N := N) (by omega) hd w2.2.1 w2.2.2.1
    obtain ⟨M', m1', m2'⟩ := X8_roundsOf_eq (v := ((0 : Int32), ρ.2)) hZ hN hA (show d < 32 by omega)
    have hM : M' = M := bt_ext (fun k _ => b2i_eq (m2' k) (m2 k))
    subst hM
    rw [e1, e2]
    refine ⟨M', 0, gW ρ, gB ρ, w, ?_, Or.inl ⟨rfl, ?_⟩⟩
    · rw [Option.bind_some, if_neg (by decide), m1']; rfl
    · show (fX7_study N γ (nI d)).bind _ = _
      rw [w1, Option.bind_some, m1]; rfl
  · rw [e1, e2]
    exact ⟨0, 1, gW ρ, gB ρ, γ.2.2.2, rfl, Or.inr (Or.inl ⟨rfl, rfl, rfl⟩)⟩
theorem waitFor_same (R : RG γ ρ.2.1 g ho ct s) {N : Nat} (hN : 11 ≤ N) (x1 x2 x3 : Int32) : QSame γ ρ IOB IAE (fX7_waitFor N γ x1 x2 x3) (fX8_waitFor N ρ x1 x2 x3) := by
  unfold fX7_waitFor fX8_waitFor
  rcases ph_cases R N x2 with ⟨p, hp, rfl, c1, c2⟩ | ⟨c1, c2⟩
  · rcases dir_cases N x1 with ⟨d, hd, rfl, e1, e2⟩ | ⟨e1, e2⟩
    · obtain ⟨hP, hH, hZ, hZH, h4, hC, hA, hs, hs8⟩ := R
      obtain ⟨w, w1, w2⟩ := X7_study_eq hP hH (N := N) (by omega) hs (by omega) hd
      obtain ⟨x, a1, a2, a3⟩ := X3_shortestFrom_eq (w := w) hP.1 N hd hp w2.2.2.2.2
      obtain ⟨x', w8, a1', a2', a3'⟩ := X8_shortest_eq (v := ((0 : Int32), ρ.2)) hZ hZH (N := N) (by omega) (show d < 32 by omega) hp
      obtain ⟨y, b1, b2, b3⟩ := X3_longestFrom_eq (w := w) hP.1 N hd hp w2.2.2.2.1 w2.2.2.2.2
      obtain ⟨y', w9, b1', b2', b3'⟩ := X8_longest_eq (v := ((0 : Int32), ρ.2)) hZ hZH hN (show d < 32 by omega) hp
      rw [c1, c2, e1, e2]
      have hx : x' = x := by
        rcases (w2.2.2.2.2 p hp).1 with ⟨L, -, -, l3⟩ | ⟨-, l2⟩
        · rw [a2 L l3, a2' L l3]
        · rw [a3 l2, a3' l2]
      have hy : y' = y := by
        by_cases hsv : Sv g d p
        · rw [b2 hsv, b2' hsv]
        · obtain ⟨L, -, l2, l3⟩ := b3 hsv
          obtain ⟨L', -, l2', l3'⟩ := b3' hsv
          rw [l2, l2', IsLg.uniq l3 l3']
      subst hx
      subst hy
      by_cases h3 : x3 = 0
      · refine ⟨x', 0, w8, gB ρ, w, ?_, Or.inl ⟨rfl, ?_⟩⟩
        · rw [Option.bind_some, if_neg (by decide), Option.bind_some, if_neg (by decide), if_pos h3, a1']; rfl
        · show (fX7_study N γ (nI d)).bind _ = _
          rw [w1, Option.bind_some, if_pos h3, a1]; rfl
      · refine ⟨y', 0, w9, gB ρ, w, ?_, Or.inl ⟨rfl, ?_⟩⟩
        · rw [Option.bind_some, if_neg (by decide), Option.bind_some, if_neg (by decide), if_neg h3, b1']; rfl
        · show (fX7_study N γ (nI d)).bind _ = _
          rw [w1, Option.bind_some, if_neg h3, b1]; rfl
    · rw [c1, c2, e1, e2]
      exact ⟨0, 2, gW ρ, gB ρ, γ.2.2.2, rfl, Or.inr (Or.inr ⟨rfl, rfl, rfl⟩)⟩
  · rw [c1, c2]
    exact ⟨0, 1, gW ρ, gB ρ, γ.2.2.2, rfl, Or.inr (Or.inl ⟨rfl, rfl, rfl⟩)⟩
theorem remedy_same (R : RG γ ρ.2.1 g ho ct s) {N : Nat} (hN : 11 ≤ N) (x1 x2 : Int32) : QSame γ ρ IOB IAE (fX7_remedy N γ x1 x2) (fX8_remedy N ρ x1 x2) := by
  unfold fX7_remedy fX8_remedy
  rcases ph_cases R N x2 with ⟨p, hp, rfl, c1, c2⟩ | ⟨c1, c2⟩
  · rcases dir_cases N x1 with ⟨d, hd, rfl, e1, e2⟩ | ⟨e1, e2⟩
    · obtain ⟨hP, hH, hZ, hZH, h4, hC, hA, hs, hs8⟩ := R
      obtain ⟨w, w1, w2⟩ := X7_study_eq hP hH (N := N) (by omega) hs (by omega) hd
      obtain ⟨x, a1, a2⟩ := X3_remedyAt_eq (w := w) hP (N := N) (by omega) hd hp (show s < 2 ^ 31 by omega) w2.1 w2.2.1 w2.2.2.1 w2.2.2.2.1
      obtain ⟨x', B, a1', a2'⟩ := X8_remedyFor_eq (v := ((0 : Int32), ρ.2)) hZ hN hA (show d < 32 by omega) hp (h4 p hp)
      have hx := RemS.uniq a2' a2
      subst hx
      rw [c1, c2, e1, e2]
      refine ⟨x', 0, gW ρ, B, w, ?_, Or.inl ⟨rfl, ?_⟩⟩
      · rw [Option.bind_some, if_neg (by decide), Option.bind_some, if_neg (by decide), a1']; rfl
      · show (fX7_study N γ (nI d)).bind _ = _
        rw [w1, Option.bind_some]
        dsimp only
        rw [hs, a1]; rfl
    · rw [c1, c2, e1, e2]
      exact ⟨0, 2, gW ρ, gB ρ, γ.2.2.2, rfl, Or.inr (Or.inr ⟨rfl, rfl, rfl⟩)⟩
  · rw [c1, c2]
    exact ⟨0, 1, gW ρ, gB ρ, γ.2.2.2, rfl, Or.inr (Or.inl ⟨rfl, rfl, rfl⟩)⟩
theorem slowest_same (R : RG γ ρ.2.1 g ho ct s) {N : Nat} (hN : 11 ≤ N) : ∃ x a w, fX8_slowest N ρ = some (x, qR ρ 0 a (gB ρ)) ∧ fX7_slowest N γ = some (x, (γ.1, γ.2.1, γ.2.2.1, w)) := by
  obtain ⟨hP, hH, hZ, hZH, h4, hC, hA, hs, hs8⟩ := R
  obtain ⟨x, y, w, a1, a2⟩ := X7_slowest_eq hP hH (N := N) (by omega) hs (by omega)
  obtain ⟨x', w8, y', b1, b2⟩ := X8_slowestOne_eq (v := ((0 : Int32), ρ.2)) hZ hZH hN hA
  obtain ⟨hx, -⟩ := Slw.uniq 6 _ _ _ _ b2 a2
  subst hx
  exact ⟨x', w8, w, by unfold fX8_slowest; rw [b1]; rfl, a1⟩
end QS
