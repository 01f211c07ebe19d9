/-! the reference: reached, isRound, canStarve and on -/
section RG
variable {v : SX8} {g : Gr}
theorem zedg_lt (h : ZG v.2.1 g) {d p q : Nat} (hp : p < gN g) (he : Edg g d p q) : q < gN g := by
  obtain ⟨r, r1, -, r3⟩ := he
  rw [← r3]
  exact ((h.2.2 p hp).2.2.2 r r1).2.1
theorem X8_rea_L32 (h : ZG v.2.1 g) {N : Nat} (hN : 9 ≤ N) {d : Nat} (hd : d < 32) (a nx : Int32) {p : Nat} (hp : p < gN g) : ∀ (k i fuel : Nat) (m : Int32), i + k = gR g p → k < fuel → ∃ m', fX8_reached_L32 N v (nI d) a nx (nI p) fuel m (nI i) = some m' ∧ ∀ q, bt m' q = true ↔ (bt m q = true ∨ (bt nx p = true ∧ ∃ r, i ≤ r ∧ r < gR g p ∧ fol g d p r = true ∧ gO g p r = q ∧ ¬ GN g d q)) := by
  have h8 := h.1
  obtain ⟨-, -, h5, h7⟩ := h.2.2 p hp
  intro k
  induction k with
  | zero =>
    intro i fuel m e1 e2
    obtain ⟨f, rfl⟩ : ∃ f, fuel = f + 1 := ⟨fuel - 1, by omega⟩
    rw [fX8_reached_L32, X8_rules_eq h N hp, Option.bind_some, if_pos (nI_le (by omega) (by omega))]
    refine ⟨m, rfl, fun q => ⟨Or.inl, ?_⟩⟩
    rintro (z | ⟨-, r, r1, r2, -⟩)
    · exact z
    · omega
  | succ k ih =>
    intro i fuel m e1 e2
    obtain ⟨f, rfl⟩ : ∃ f, fuel = f + 1 := ⟨fuel - 1, by omega⟩
    have hi : i < gR g p := by omega
    obtain ⟨-, hlt, -⟩ := h7 i hi
    rw [fX8_reached_L32, X8_rules_eq h N hp, Option.bind_some, if_neg (fun z => by rw [nI_leI (by omega) (by omega)] at z; omega), ite_bit _ (by omega)]
    cases hb : bt nx p
    · rw [if_neg (by decide)]
      refine ⟨m, rfl, fun q => ⟨Or.inl, ?_⟩⟩
      rintro (z | ⟨z, -⟩)
      · exact z
      · cases z
    · rw [if_pos rfl, X8_canFollow_eq h hN hp hi hd, Option.bind_some, X8_goal_eq h N hp hi, Option.bind_some, X8_hasGreen_eq h N hlt hd]
      simp only [Option.bind_some, nI_1]
      have skip : (fol g d p i = true → GN g d (gO g p i)) → ∃ m', fX8_reached_L32 N v (nI d) a nx (nI p) f (m ||| 0) (nI (i + 1)) = some m' ∧ ∀ q, bt m' q = true ↔ (bt m q = true ∨ (True ∧ ∃ r, i ≤ r ∧ r < gR g p ∧ fol g d p r = true ∧ gO g p r = q ∧ ¬ GN g d q)) := by
        intro hs
        obtain ⟨m', a1, a2⟩ := ih (i + 1) f (m ||| 0) (by omega) (by omega)
        refine ⟨m', a1, fun q => ?_⟩
        rw [a2 q, Int32.or_zero]
        constructor
        · rintro (z | ⟨-, r, r1, r2⟩)
          · exact Or.inl z
          · exact Or.inr ⟨trivial, r, by omega, r2⟩
        · rintro (z | ⟨-, r, r1, r2, r3, r4, r5⟩)
          · exact Or.inl z
          · by_cases hr : r = i
            · subst hr; rw [← r4] at r5; exact absurd (hs r3) r5
            · exact Or.inr ⟨hb, r, by omega, r2, r3, r4, r5⟩
      cases hf : fol g d p i
      · rw [if_pos b2i_f]
        exact skip (fun z => by rw [hf] at z; cases z)
      · rw [if_neg b2i_t]
        cases hg : grn g d (gO g p i)
        · rw [if_pos b2i_f]
          obtain ⟨m', a1, a2⟩ := ih (i + 1) f (m ||| ((1 : Int32) <<< (nI (gO g p i) &&& 31))) (by omega) (by omega)
          refine ⟨m', a1, fun q => ?_⟩
          have hng : ¬ GN g d (gO g p i) := fun z => by have z2 : grn g d (gO g p i) = true := z; rw [hg] at z2; cases z2
          rw [a2 q, bt_setk (by omega), Bool.or_eq_true, decide_eq_true_eq]
          constructor
          · rintro ((z | rfl) | ⟨-, r, r1, r2⟩)
            · exact Or.inl z
            · exact Or.inr ⟨trivial, i, Nat.le_refl _, hi, hf, rfl, hng⟩
            · exact Or.inr ⟨trivial, r, by omega, r2⟩
          · rintro (z | ⟨-, r, r1, r2, r3, r4, r5⟩)
            · exact Or.inl (Or.inl z)
            · by_cases hr : r = i
              · subst hr; exact Or.inl (Or.inr r4.symm)
              · exact Or.inr ⟨hb, r, by omega, r2, r3, r4, r5⟩
        · rw [if_neg b2i_t]
          exact skip (fun _ => hg)
theorem X8_rea_L18 (h : ZG v.2.1 g) {N : Nat} (hN : 9 ≤ N) {d : Nat} (hd : d < 32) (a nx : Int32) : ∀ (k i fuel : Nat) (m : Int32), i + k = gN g → k < fuel → ∃ m', fX8_reached_L18 N v (nI d) a nx fuel m (nI i) = some m' ∧ ∀ q, bt m' q = true ↔ (bt m q = true ∨ ∃ p, i ≤ p ∧ p < gN g ∧ bt nx p = true ∧ E0 g d p q ∧ ¬ GN g d q) := by
  have h8 := h.1
  intro k
  induction k with
  | zero =>
    intro i fuel m e1 e2
    obtain ⟨f, rfl⟩ : ∃ f, fuel = f + 1 := ⟨fuel - 1, by omega⟩
    rw [fX8_reached_L18, chk0, tn0, h.2.1, if_pos (nI_le (by omega) (by omega))]
    refine ⟨m, rfl, fun q => ⟨Or.inl, ?_⟩⟩
    rintro (z | ⟨p, p1, p2, -⟩)
    · exact z
    · omega
  | succ k ih =>
    intro i fuel m e1 e2
    obtain ⟨f, rfl⟩ : ∃ f, fuel = f + 1 := ⟨fuel - 1, by omega⟩
    have hi : i < gN g := by omega
    have h5 := (h.2.2 i hi).2.2.1
    rw [fX8_reached_L18, chk0, tn0, h.2.1, if_neg (fun z => by rw [nI_leI (by omega) (by omega)] at z; omega)]
    obtain ⟨m1, a1, a2⟩ := X8_rea_L32 h hN hd a nx hi (gR g i) 0 N m (by omega) (by omega)
    have a1' : fX8_reached_L32 N v (nI d) a nx (nI i) N m 0 = some m1 := a1
    rw [a1', Option.bind_some, nI_1]
    obtain ⟨m', b1, b2⟩ := ih (i + 1) f m1 (by omega) (by omega)
    refine ⟨m', b1, fun q => ?_⟩
    rw [b2 q, a2 q]
    constructor
    · rintro ((z | ⟨z, r, -, r2, r3, r4, r5⟩) | ⟨p, p1, p2⟩)
      · exact Or.inl z
      · exact Or.inr ⟨i, Nat.le_refl _, hi, z, ⟨r, r2, r3, r4⟩, r5⟩
      · exact Or.inr ⟨p, by omega, p2⟩
    · rintro (z | ⟨p, p1, p2, p3, ⟨r, r2, r3, r4⟩, r5⟩)
      · exact Or.inl (Or.inl z)
      · by_cases hpi : p = i
        · subst hpi; exact Or.inl (Or.inr ⟨p3, r, Nat.zero_le _, r2, r3, r4, r5⟩)
        · exact Or.inr ⟨p, by omega, p2, p3, ⟨r, r2, r3, r4⟩, r5⟩
/-- what the search of reached() keeps -/
def BI (g : Gr) (d s : Nat) (S X : Int32) : Prop := (∀ q, bt S q = true → q < gN g ∧ Rch1 (gN g) (E0 g d) (GN g d) s q) ∧ (∀ q, bt X q = true → q = s ∨ bt S q = true) ∧ ∀ p q, p < gN g → (p = s ∨ bt S p = true) → ¬ bt X p = true → q < gN g → E0 g d p q → ¬ GN g d q → bt S q = true
theorem BI_end {d s : Nat} {S : Int32} (hs : s < gN g) (hB : BI g d s S 0) : ∀ q, bt S q = true ↔ Rch1 (gN g) (E0 g d) (GN g d) s q := by
  intro q
  refine ⟨fun hq => (hB.1 q hq).2, ?_⟩
  rintro ⟨k, hk⟩
  have key : ∀ k p, p < gN g → (p = s ∨ bt S p = true) → Way (gN g) (E0 g d) (GN g d) (k + 1) p q → bt S q = true := by
    intro k
    induction k with
    | zero =>
      rintro p hp hps ⟨r, r1, r2, r3, r4⟩
      cases r4
      exact hB.2.2 p _ hp hps (by rw [bt_0]; decide) r1 r2 r3
    | succ k ih =>
      rintro p hp hps ⟨r, r1, r2, r3, r4⟩
      exact ih r r1 (Or.inr (hB.2.2 p r hp hps (by rw [bt_0]; decide) r1 r2 r3)) r4
  exact key k s hs (Or.inl rfl) hk
theorem X8_rea_L7 (h : ZG v.2.1 g) {N : Nat} (hN : 9 ≤ N) {d s : Nat} (hd : d < 32) (hs : s < gN g) : ∀ (k fuel : Nat) (S X : Int32), gN g ≤ cnt (bt S) (gN g) + k → k + 2 ≤ fuel → BI g d s S X → ∃ M, fX8_reached_L7 N v (nI d) fuel S X = some M ∧ ∀ q, bt M q = true ↔ Rch1 (gN g) (E0 g d) (GN g d) s q := by
  have h8 := h.1
  intro k
  induction k with
  | zero =>
    intro fuel S X e1 e2 hB
    obtain ⟨f, rfl⟩ : ∃ f, fuel = f + 1 + 1 := ⟨fuel - 2, by omega⟩
    rw [fX8_reached_L7]
    by_cases hX : X = 0
    · subst hX
      rw [if_pos rfl]
      exact ⟨S, rfl, BI_end hs hB⟩
    rw [if_neg hX]
    obtain ⟨m, a1, a2⟩ := X8_rea_L18 h hN hd S X (gN g) 0 N 0 (by omega) (by omega)
    have a1' : fX8_reached_L18 N v (nI d) S X N 0 0 = some m := a1
    have hfull : ∀ q, q < gN g → bt S q = true := fun q hq => cnt_full (P := bt S) (gN g) (by omega) q hq
    have hm : ∀ q, bt m q = true → bt S q = true := fun q hq => by
      rcases (a2 q).mp hq with z | ⟨p, -, p2, -, p4, -⟩
      · rw [bt_0] at z; cases z
      · exact hfull q (zedg_lt h p2 p4)
    have hX2 : m &&& (S ^^^ (-1)) = 0 := (andn_iff m S).mpr hm
    rw [a1', Option.bind_some, hX2, fX8_reached_L7, if_pos rfl]
    have hB2 : BI g d s (S ||| m) 0 := by
      refine ⟨fun q hq => ?_, fun q hq => ?_, fun p q _ _ _ hq _ _ => ?_⟩
      · rw [bt_or, Bool.or_eq_true] at hq
        exact hB.1 q (hq.elim id (hm q))
      · rw [bt_0] at hq; cases hq
      · rw [bt_or, hfull q hq]; rfl
    exact ⟨_, rfl, BI_end hs hB2⟩
  | succ k ih =>
    intro fuel S X e1 e2 hB
    obtain ⟨f, rfl⟩ : ∃ f, fuel = f + 1 := ⟨fuel - 1, by omega⟩
    rw [fX8_reached_L7]
    by_cases hX : X = 0
    · subst hX
      rw [if_pos rfl]
      exact ⟨S, rfl, BI_end hs hB⟩
    rw [if_neg hX]
    obtain ⟨m, a1, a2⟩ := X8_rea_L18 h hN hd S X (gN g) 0 N 0 (by omega) (by omega)
    have a1' : fX8_reached_L18 N v (nI d) S X N 0 0 = some m := a1
    have a3 : ∀ q, bt m q = true ↔ ∃ p, p < gN g ∧ bt X p = true ∧ E0 g d p q ∧ ¬ GN g d q := fun q => by
      rw [a2 q, bt_0]
      constructor
      · rintro (z | ⟨p, -, z⟩)
        · cases z
        · exact ⟨p, z⟩
      · rintro ⟨p, z⟩
        exact Or.inr ⟨p, Nat.zero_le _, z⟩
    rw [a1', Option.bind_some]
    have hB2 : BI g d s (S ||| m) (m &&& (S ^^^ (-1))) := by
      refine ⟨fun q hq => ?_, fun q hq => ?_, fun p q hp hps hnx hq he hg => ?_⟩
      · rw [bt_or, Bool.or_eq_true] at hq
        rcases hq with hq | hq
        · exact hB.1 q hq
        · obtain ⟨p, p1, p2, p3, p4⟩ := (a3 q).mp hq
          refine ⟨zedg_lt h p1 p3, ?_⟩
          rcases hB.2.1 p p2 with rfl | z
          · exact ⟨0, q, zedg_lt h p1 p3, p3, p4, rfl⟩
          · obtain ⟨j, hj⟩ := (hB.1 p z).2
            exact ⟨j + 1, hj.snoc (zedg_lt h p1 p3) p3 p4⟩
      · rw [bt_and, Bool.and_eq_true] at hq
        exact Or.inr (by rw [bt_or, hq.1, Bool.or_true])
      · rw [bt_or, Bool.or_eq_true]
        by_cases hXp : bt X p = true
        · exact Or.inr ((a3 q).mpr ⟨p, hp, hXp, he, hg⟩)
        · by_cases hSp : p = s ∨ bt S p = true
          · exact Or.inl (hB.2.2 p q hp hSp hXp hq he hg)
          · exfalso
            rcases hps with z | z
            · exact hSp (Or.inl z)
            · rw [bt_or, Bool.or_eq_true] at z
              rcases z with z | z
              · exact hSp (Or.inr z)
              · apply hnx
                rw [bt_and, z, bt_not _ (by omega)]
                cases hS2 : bt S p
                · rfl
                · exact absurd (Or.inr hS2) hSp
    by_cases hm : ∀ q, bt m q = true → bt S q = true
    · have hX2 : m &&& (S ^^^ (-1)) = 0 := (andn_iff m S).mpr hm
      rw [hX2] at hB2 ⊢
      obtain ⟨f2, rfl⟩ : ∃ f2, f = f2 + 1 := ⟨f - 1, by omega⟩
      rw [fX8_reached_L7, if_pos rfl]
      exact ⟨_, rfl, BI_end hs hB2⟩
    · have hgrow : cnt (bt S) (gN g) < cnt (bt (S ||| m)) (gN g) := by
        apply cnt_grow (fun q hq => (hB2.1 q hq).1) (fun q hq => by rw [bt_or, hq]; rfl)
        intro he
        apply hm
        intro q hq
        rw [← he, bt_or, hq, Bool.or_true]
      exact ih f (S ||| m) (m &&& (S ^^^ (-1))) (by omega) (by omega) hB2
theorem X8_reached_eq (h : ZG v.2.1 g) {N : Nat} (hN : 11 ≤ N) {d s : Nat} (hd : d < 32) (hs : s < gN g) : ∃ M, fX8_reached N v (nI s) (nI d) = some M ∧ ∀ q, bt M q = true ↔ Rch1 (gN g) (E0 g d) (GN g d) s q := by
  have h8 := h.1
  have hB : BI g d s 0 ((1 : Int32) <<< (nI s &&& 31)) := by
    refine ⟨fun q hq => ?_, fun q hq => ?_, fun p q _ hps hn _ _ _ => ?_⟩
    · rw [bt_0] at hq; cases hq
    · rw [bt_shl1 (by omega), decide_eq_true_eq] at hq
      exact Or.inl hq
    · rcases hps with rfl | z
      · exact absurd (by rw [bt_shl1 (by omega)]; exact decide_eq_true rfl) hn
      · rw [bt_0] at z; cases z
  obtain ⟨M, h1, h2⟩ := X8_rea_L7 h (N := N) (by omega) hd hs (gN g) N 0 ((1 : Int32) <<< (nI s &&& 31)) (by omega) (by omega) hB
  exact ⟨M, by unfold fX8_reached; rw [h1]; rfl, h2⟩
/-- p is a round for d, or d can stay there -/
def Rd (g : Gr) (d p : Nat) : Prop := Rnd (gN g) (E0 g d) (S0 g d) (GN g d) p
theorem X8_isRound_eq (h : ZG v.2.1 g) {N : Nat} (hN : 11 ≤ N) {d p : Nat} (hd : d < 32) (hp : p < gN g) : ∃ b : Bool, fX8_isRound N v (nI p) (nI d) = some (b2i b) ∧ (b = true ↔ Rd g d p) := by
  have h8 := h.1
  unfold fX8_isRound
  rw [X8_hasGreen_eq h N hp hd, Option.bind_some]
  cases hg : grn g d p
  · have hng : ¬ GN g d p := fun z => by have z2 : grn g d p = true := z; rw [hg] at z2; cases z2
    rw [if_pos b2i_f, X8_canStay_eq h (by omega) hp hd, Option.bind_some]
    cases hs : sty g d p
    · rw [if_pos b2i_f]
      obtain ⟨M, m1, m2⟩ := X8_reached_eq h hN hd hp
      rw [m1, Option.bind_some, ite_bit _ (by omega)]
      refine ⟨bt M p, by cases bt M p <;> rfl, ?_⟩
      rw [m2 p]
      constructor
      · intro z; exact ⟨hng, Or.inr z⟩
      · rintro ⟨-, z | z⟩
        · have z2 : sty g d p = true := z
          rw [hs] at z2; cases z2
        · exact z
    · rw [if_neg b2i_t]
      exact ⟨true, rfl, fun _ => ⟨hng, Or.inl hs⟩, fun _ => rfl⟩
  · rw [if_neg b2i_t]
    exact ⟨false, rfl, (fun z => absurd z (by decide)), fun z => absurd hg z.1⟩
theorem X8_starve_L28 (h : ZG v.2.1 g) {N : Nat} (hN : 11 ≤ N) {d : Nat} (hd : d < 32) (ws : Int32) : ∀ (k i fuel : Nat) (b : Bool), i + k = gN g → k < fuel → ∃ b' : Bool, fX8_canStarve_L28 N v (nI d) ws fuel (b2i b) (nI i) = some (b2i b') ∧ (b' = true ↔ (b = true ∨ ∃ q, i ≤ q ∧ q < gN g ∧ bt ws q = true ∧ Rd g d q)) := by
  have h8 := h.1
  intro k
  induction k with
  | zero =>
    intro i fuel b e1 e2
    obtain ⟨f, rfl⟩ : ∃ f, fuel = f + 1 := ⟨fuel - 1, by omega⟩
    rw [fX8_canStarve_L28, chk0, tn0, h.2.1, if_pos (nI_le (by omega) (by omega))]
    refine ⟨b, rfl, Or.inl, ?_⟩
    rintro (z | ⟨q, q1, q2, -⟩)
    · exact z
    · omega
  | succ k ih =>
    intro i fuel b e1 e2
    obtain ⟨f, rfl⟩ : ∃ f, fuel = f + 1 := ⟨fuel - 1, by omega⟩
    have hi : i < gN g := by omega
    rw [fX8_canStarve_L28, chk0, tn0, h.2.1, if_neg (fun z => by rw [nI_leI (by omega) (by omega)] at z; omega)]
    simp only [nI_1]
    cases b
    · rw [if_pos b2i_f, ite_bit _ (by omega)]
      cases hw : bt ws i
      · rw [if_neg (by decide)]
        obtain ⟨b', a1, a2⟩ := ih (i + 1) f false (by omega) (by omega)
        refine ⟨b', a1, ?_⟩
        rw [a2]
        constructor
        · rintro (z | ⟨q, q1, q2⟩)
          · exact Or.inl z
          · exact Or.inr ⟨q, by omega, q2⟩
        · rintro (z | ⟨q, q1, q2, q3, q4⟩)
          · exact Or.inl z
          · by_cases hq : q = i
            · subst hq; rw [hw] at q3; cases q3
            · exact Or.inr ⟨q, by omega, q2, q3, q4⟩
      · rw [if_pos rfl]
        obtain ⟨c, c1, c2⟩ := X8_isRound_eq h hN hd hi
        rw [c1, Option.bind_some]
        cases c
        · rw [if_pos b2i_f]
          obtain ⟨b', a1, a2⟩ := ih (i + 1) f false (by omega) (by omega)
          refine ⟨b', a1, ?_⟩
          rw [a2]
          constructor
          · rintro (z | ⟨q, q1, q2⟩)
            · exact Or.inl z
            · exact Or.inr ⟨q, by omega, q2⟩
          · rintro (z | ⟨q, q1, q2, q3, q4⟩)
            · exact Or.inl z
            · by_cases hq : q = i
              · subst hq; have := c2.mpr q4; cases this
              · exact Or.inr ⟨q, by omega, q2, q3, q4⟩
        · rw [if_neg b2i_t]
          obtain ⟨b', a1, a2⟩ := ih (i + 1) f true (by omega) (by omega)
          refine ⟨b', a1, ?_⟩
          rw [a2]
          constructor
          · intro _; exact Or.inr ⟨i, Nat.le_refl _, hi, hw, c2.mp rfl⟩
          · intro _; exact Or.inl rfl
    · rw [if_neg b2i_t]
      obtain ⟨b', a1, a2⟩ := ih (i + 1) f true (by omega) (by omega)
      refine ⟨b', a1, ?_⟩
      rw [a2]
      constructor
      · intro _; exact Or.inl rfl
      · intro _; exact Or.inl rfl
theorem Way_end {n : Nat} {E : Nat → Nat → Prop} {gn : Nat → Prop} : ∀ (k p q : Nat), Way n E gn (k + 1) p q → ¬ gn q := by
  intro k
  induction k with
  | zero => rintro p q ⟨r, -, -, r3, r4⟩; cases r4; exact r3
  | succ k ih => rintro p q ⟨r, -, -, -, r4⟩; exact ih r q r4
theorem X8_canStarve_eq (h : ZG v.2.1 g) {N : Nat} (hN : 11 ≤ N) {d p : Nat} (hd : d < 32) (hp : p < gN g) : ∃ b : Bool, fX8_canStarve N v (nI p) (nI d) = some (b2i b) ∧ (b = true ↔ Sv g d p) := by
  have h8 := h.1
  unfold fX8_canStarve
  rw [X8_hasGreen_eq h N hp hd, Option.bind_some]
  cases hg : grn g d p
  · have hng : ¬ GN g d p := fun z => by have z2 : grn g d p = true := z; rw [hg] at z2; cases z2
    rw [if_pos b2i_f]
    obtain ⟨M, m1, m2⟩ := X8_reached_eq h hN hd hp
    rw [m1, Option.bind_some]
    obtain ⟨b', a1, a2⟩ := X8_starve_L28 h hN hd (M ||| ((1 : Int32) <<< (nI p &&& 31))) (gN g) 0 N false (by omega) (by omega)
    have a1' : fX8_canStarve_L28 N v (nI d) (M ||| ((1 : Int32) <<< (nI p &&& 31))) N 0 0 = some (b2i b') := a1
    rw [a1', Option.bind_some, must_b2i]
    refine ⟨b', rfl, ?_⟩
    rw [a2]
    constructor
    · rintro (z | ⟨q, -, q2, q3, q4⟩)
      · cases z
      · rw [bt_setk (by omega), Bool.or_eq_true, decide_eq_true_eq, m2 q] at q3
        refine ⟨hng, q, ?_, q4.2⟩
        rcases q3 with ⟨k, hk⟩ | rfl
        · exact ⟨k + 1, hk⟩
        · exact ⟨0, rfl⟩
    · rintro ⟨-, q, ⟨k, hk⟩, hq⟩
      have hql := Way_lt k p q hp hk
      refine Or.inr ⟨q, Nat.zero_le _, hql, ?_, ?_, hq⟩
      · rw [bt_setk (by omega), Bool.or_eq_true, decide_eq_true_eq, m2 q]
        cases k with
        | zero => cases hk; exact Or.inr rfl
        | succ k => exact Or.inl ⟨k, hk⟩
      · cases k with
        | zero => cases hk; exact hng
        | succ k => exact Way_end k p q hk
  · rw [if_neg b2i_t]
    exact ⟨false, rfl, (fun z => absurd z (by decide)), fun z => absurd hg z.1⟩
/-- d can starve from some phase that can come -/
def SvA (g : Gr) (s d : Nat) : Prop := ∃ p, p < gN g ∧ Cmg g (-1) 0 s p ∧ Sv g d p
theorem X8_any_L10 (h : ZG v.2.1 g) {N : Nat} (hN : 11 ≤ N) {d : Nat} (hd : d < 32) (cm : Int32) : ∀ (k i fuel : Nat) (b : Bool), i + k = gN g → k < fuel → ∃ b' : Bool, fX8_canStarveAnywhere_L10 N v (nI d) cm fuel (b2i b) (nI i) = some (b2i b') ∧ (b' = true ↔ (b = true ∨ ∃ q, i ≤ q ∧ q < gN g ∧ bt cm q = true ∧ Sv g d q)) := by
  have h8 := h.1
  intro k
  induction k with
  | zero =>
    intro i fuel b e1 e2
    obtain ⟨f, rfl⟩ : ∃ f, fuel = f + 1 := ⟨fuel - 1, by omega⟩
    rw [fX8_canStarveAnywhere_L10, chk0, tn0, h.2.1, if_pos (nI_le (by omega) (by omega))]
    refine ⟨b, rfl, Or.inl, ?_⟩
    rintro (z | ⟨q, q1, q2, -⟩)
    · exact z
    · omega
  | succ k ih =>
    intro i fuel b e1 e2
    obtain ⟨f, rfl⟩ : ∃ f, fuel = f + 1 := ⟨fuel - 1, by omega⟩
    have hi : i < gN g := by omega
    rw [fX8_canStarveAnywhere_L10, chk0, tn0, h.2.1, if_neg (fun z => by rw [nI_leI (by omega) (by omega)] at z; omega)]
    simp only [nI_1]
    cases b
    · rw [if_pos b2i_f, ite_bit _ (by omega)]
      cases hw : bt cm i
      · rw [if_neg (by decide)]
        obtain ⟨b', a1, a2⟩ := ih (i + 1) f false (by omega) (by omega)
        refine ⟨b', a1, ?_⟩
        rw [a2]
        constructor
        · rintro (z | ⟨q, q1, q2⟩)
          · exact Or.inl z
          · exact Or.inr ⟨q, by omega, q2⟩
        · rintro (z | ⟨q, q1, q2, q3, q4⟩)
          · exact Or.inl z
          · by_cases hq : q = i
            · subst hq; rw [hw] at q3; cases q3
            · exact Or.inr ⟨q, by omega, q2, q3, q4⟩
      · rw [if_pos rfl]
        obtain ⟨c, c1, c2⟩ := X8_canStarve_eq h hN hd hi
        rw [c1, Option.bind_some]
        cases c
        · rw [if_pos b2i_f]
          obtain ⟨b', a1, a2⟩ := ih (i + 1) f false (by omega) (by omega)
          refine ⟨b', a1, ?_⟩
          rw [a2]
          constructor
          · rintro (z | ⟨q, q1, q2⟩)
            · exact Or.inl z
            · exact Or.inr ⟨q, by omega, q2⟩
          · rintro (z | ⟨q, q1, q2, q3, q4⟩)
            · exact Or.inl z
            · by_cases hq : q = i
              · subst hq; have := c2.mpr q4; cases this
              · exact Or.inr ⟨q, by omega, q2, q3, q4⟩
        · rw [if_neg b2i_t]
          obtain ⟨b', a1, a2⟩ := ih (i + 1) f true (by omega) (by omega)
          refine ⟨b', a1, ?_⟩
          rw [a2]
          constructor
          · intro _; exact Or.inr ⟨i, Nat.le_refl _, hi, hw, c2.mp rfl⟩
          · intro _; exact Or.inl rfl
    · rw [if_neg b2i_t]
      obtain ⟨b', a1, a2⟩ := ih (i + 1) f true (by omega) (by omega)
      refine ⟨b', a1, ?_⟩
      rw [a2]
      constructor
      · intro _; exact Or.inl rfl
      · intro _; exact Or.inl rfl
theorem X8_anywhere_eq (h : ZG v.2.1 g) {N : Nat} (hN : 11 ≤ N) {s d : Nat} (hs : AtS v.2.1 g s) (hd : d < 32) : ∃ b : Bool, fX8_canStarveAnywhere N v (nI d) = some (b2i b) ∧ (b = true ↔ SvA g s d) := by
  have h8 := h.1
  obtain ⟨cm, m1, m2⟩ := X8_comers_eq h (N := N) (by omega) hs
  obtain ⟨b', a1, a2⟩ := X8_any_L10 h hN hd cm (gN g) 0 N false (by omega) (by omega)
  have a1' : fX8_canStarveAnywhere_L10 N v (nI d) cm N 0 0 = some (b2i b') := a1
  unfold fX8_canStarveAnywhere
  rw [m1, Option.bind_some, a1', Option.bind_some, must_b2i]
  refine ⟨b', rfl, ?_⟩
  rw [a2]
  constructor
  · rintro (z | ⟨q, -, q2, q3, q4⟩)
    · cases z
    · exact ⟨q, q2, (m2 q).mp q3, q4⟩
  · rintro ⟨q, q2, q3, q4⟩
    exact Or.inr ⟨q, Nat.zero_le _, q2, (m2 q).mpr q3, q4⟩
end RG
