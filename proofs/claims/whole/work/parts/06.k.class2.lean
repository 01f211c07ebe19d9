/-! the class's rounds, slowest and remedy -/
theorem wv_wv {a y : Nat} (ha : a ≤ 1001) (hy : y ≤ 1001) : wv a ≤ wv y ↔ a ≤ y := by
  cases a with
  | zero => exact ⟨fun _ => Nat.zero_le _, fun _ => by
      cases y with
      | zero => decide
      | succ y => exact Int32.le_trans (show (-1 : Int32) ≤ 0 by decide) (nI_le (a := 0) (by omega) (by omega))⟩
  | succ a =>
    cases y with
    | zero =>
      constructor
      · intro z
        have z2 : (0 : Int32) ≤ nI a := nI_le (a := 0) (by omega) (by omega)
        have z3 : nI a ≤ -1 := z
        exact absurd (Int32.le_trans z2 z3) (by decide)
      · intro z; omega
    | succ y =>
      show nI a ≤ nI y ↔ _
      rw [nI_leI (by omega) (by omega)]
      omega
theorem imax_wv {y L : Nat} (hy : y ≤ 1001) (hL : L ≤ 1000) : imax (wv y) (nI L) = wv (max y (L + 1)) := by
  unfold imax
  by_cases h : L + 1 ≤ y
  · have h1 : nI L ≤ wv y := (wv_wv (a := L + 1) (by omega) hy).mpr h
    rw [if_neg (fun z => Int32.lt_irrefl (Int32.lt_of_lt_of_le z h1)), Nat.max_eq_left h]
  · have h1 : ¬ nI L ≤ wv y := fun z => h ((wv_wv (a := L + 1) (by omega) hy).mp z)
    rw [if_pos (Int32.not_le.mp h1), Nat.max_eq_right (by omega)]
    rfl
section CK
variable {w : SX3} {v1 : SX2} {g : Gr} {ho : Nat → Nat} {ct s : Nat}
theorem pn_le (h : PG v1 g) {i : Nat} (hi : i < gN g) : ¬ v1.2.2.2.2.2.2.1 ≤ nI i := fun z => by
  have h8 := h.1
  rw [h.2.1, nI_leI (by omega) (by omega)] at z; omega
theorem pn_self (h : PG v1 g) : v1.2.2.2.2.2.2.1 ≤ nI (gN g) := by
  have h8 := h.1
  rw [h.2.1]; exact nI_le (Nat.le_refl _) (by omega)
theorem X3_roundPhases_eq (h : PG v1 g) {N : Nat} (hN : 9 ≤ N) {d : Nat} (hd : d < 6) (hC : ComS w g s) (hW : WayS w g d) : ∃ M, fX3_roundPhases N w v1 (nI d) = some M ∧ ∀ q, bt M q = true ↔ (q < gN g ∧ Cmg g (-1) 0 s q ∧ Rd g d q) := by
  have h8 := h.1
  obtain ⟨wo, o1, o2⟩ := X2_phasesWithout_eq h hN (show d < 32 by omega)
  obtain ⟨M, a1, a2⟩ := fill_eq (F := fX3_roundPhases_L12 N w v1 (nI d) wo) (n := gN g) (P := fun q => Cmg g (-1) 0 s q ∧ Rd g d q) (by omega) (fun f m => by rw [fX3_roundPhases_L12, if_pos (pn_self h)]) (fun i f m hi => by
    rw [fX3_roundPhases_L12, if_neg (pn_le h hi), X7_has_eq N _ (by omega), Option.bind_some, bt_and]
    cases hb : (bt w.2.2.2.2.2 i && bt wo i)
    · rw [if_pos b2i_f]
      refine ⟨false, ⟨fun z => (by cases z), fun z => ?_⟩, by rw [if_neg (by decide), nI_1, Int32.or_zero]⟩
      rw [(hC i).mpr z.1, (o2 i).mpr ⟨hi, z.2.1⟩] at hb
      cases hb
    · rw [if_neg b2i_t]
      rw [Bool.and_eq_true] at hb
      obtain ⟨b, b1, b2⟩ := X3_goesOn_eq h hN hd hW o2 hi
      refine ⟨b, ⟨fun z => ⟨(hC i).mp hb.1, ((o2 i).mp hb.2).2, b2.mp z⟩, fun z => b2.mpr z.2.2⟩, ?_⟩
      rw [b1, Option.bind_some]
      cases b
      · rw [if_pos b2i_f, if_neg (by decide), nI_1, Int32.or_zero]
      · rw [if_neg b2i_t, if_pos rfl, nI_1]) (fuel := N) (by omega)
  exact ⟨M, by unfold fX3_roundPhases; rw [o1, Option.bind_some, a1]; rfl, a2⟩
theorem X3_worst_L28 (h : PG v1 g) (N : Nat) {d : Nat} (hd : d < 6) (hC : ComS w g s) (hW : WaiS w g ho ct d) (hns : ∀ q, q < gN g → Cmg g (-1) 0 s q → ¬ Sv g d q) : ∀ (k i fuel y : Nat), i + k = gN g → k < fuel → y ≤ 1001 → ∃ y', fX3_worstWait_L28 N w v1 (nI d) fuel (wv y) (nI i) = some (wv y') ∧ y' ≤ 1001 ∧ y ≤ y' ∧ (∀ q, i ≤ q → q < gN g → Cmg g (-1) 0 s q → ∀ L, IsLg (gN g) (E0 g d) (GN g d) (cc g ho ct) q L → L + 1 ≤ y') ∧ (y' = y ∨ ∃ q, q < gN g ∧ Cmg g (-1) 0 s q ∧ ∃ L, IsLg (gN g) (E0 g d) (GN g d) (cc g ho ct) q L ∧ y' = L + 1) := by
  have h8 := h.1
  intro k
  induction k with
  | zero =>
    intro i fuel y e1 e2 e3
    obtain ⟨f, rfl⟩ : ∃ f, fuel = f + 1 := ⟨fuel - 1, by omega⟩
    have hi : i = gN g := by omega
    subst hi
    rw [fX3_worstWait_L28, if_pos (pn_self h)]
    exact ⟨y, rfl, e3, Nat.le_refl _, fun q q1 q2 => by omega, Or.inl rfl⟩
  | succ k ih =>
    intro i fuel y e1 e2 e3
    obtain ⟨f, rfl⟩ : ∃ f, fuel = f + 1 := ⟨fuel - 1, by omega⟩
    have hi : i < gN g := by omega
    rw [fX3_worstWait_L28, if_neg (pn_le h hi), X7_has_eq N _ (by omega), Option.bind_some]
    cases hb : bt w.2.2.2.2.2 i
    · rw [if_pos b2i_f, nI_1]
      obtain ⟨y', a1, a2, a3, a4, a5⟩ := ih (i + 1) f y (by omega) (by omega) e3
      refine ⟨y', a1, a2, a3, fun q q1 q2 q3 => ?_, a5⟩
      by_cases hq : q = i
      · subst hq; rw [(hC q).mpr q3] at hb; cases hb
      · exact a4 q (by omega) q2 q3
    · have hcm := (hC i).mp hb
      obtain ⟨L, l1, l2, l3⟩ := (hW i hi).2 (hns i hi hcm)
      rw [if_neg b2i_t, X3_cell_eq, Option.bind_some, rowAt_nI (by omega) (by decide), l1, imax_wv e3 l2, nI_1]
      obtain ⟨y', a1, a2, a3, a4, a5⟩ := ih (i + 1) f (max y (L + 1)) (by omega) (by omega) (by omega)
      refine ⟨y', a1, a2, by omega, fun q q1 q2 q3 z hz => ?_, ?_⟩
      · by_cases hq : q = i
        · subst hq; have := IsLg.uniq l3 hz; omega
        · exact a4 q (by omega) q2 q3 z hz
      · rcases a5 with a5 | a5
        · by_cases hle : L + 1 ≤ y
          · exact Or.inl (by omega)
          · exact Or.inr ⟨i, hi, hcm, L, l3, by omega⟩
        · exact Or.inr a5
theorem X3_worstWait_eq (h : PG v1 g) {N : Nat} (hN : 9 ≤ N) {d : Nat} (hd : d < 6) (hC : ComS w g s) (hS : StaS w g d) (hW : WaiS w g ho ct d) : ∃ y, fX3_worstWait N w v1 (nI d) = some (wv y) ∧ y ≤ 1001 ∧ (¬ Rtd g s d → y = 0) ∧ (Rtd g s d → ∃ L, y = L + 1 ∧ (∃ p, p < gN g ∧ Cmg g (-1) 0 s p ∧ IsLg (gN g) (E0 g d) (GN g d) (cc g ho ct) p L) ∧ ∀ p, p < gN g → Cmg g (-1) 0 s p → ∀ z, IsLg (gN g) (E0 g d) (GN g d) (cc g ho ct) p z → z ≤ L) := by
  have h8 := h.1
  obtain ⟨b, b1, b2⟩ := X3_canStarve_eq N hd hC hS
  unfold fX3_worstWait
  rw [b1, Option.bind_some]
  cases b
  · have hns : ¬ SvA g s d := fun z => by have := b2.mpr z; cases this
    obtain ⟨m, m1, m2⟩ := X2_phasesWith_eq h hN (show d < 32 by omega)
    rw [if_pos b2i_f, m1, Option.bind_some]
    by_cases hx : m &&& w.2.2.2.2.2 = 0
    · rw [if_pos hx]
      have hn := (and0_iff _ _).mp hx
      refine ⟨0, rfl, by omega, fun _ => rfl, fun z => ?_⟩
      obtain ⟨p, p1, p2, p3⟩ := z.1
      exact absurd ⟨p, (m2 p).mpr ⟨p1, p3⟩, (hC p).mpr p2⟩ hn
    · rw [if_neg hx]
      obtain ⟨p, p1, p2⟩ := Classical.byContradiction fun z => hx ((and0_iff _ _).mpr z)
      obtain ⟨p3, p4⟩ := (m2 p).mp p1
      have p5 := (hC p).mp p2
      have hR : Rtd g s d := ⟨⟨p, p3, p5, p4⟩, hns⟩
      have hns2 : ∀ q, q < gN g → Cmg g (-1) 0 s q → ¬ Sv g d q := fun q q1 q2 q3 => hns ⟨q, q1, q2, q3⟩
      obtain ⟨y, a1, a2, a3, a4, a5⟩ := X3_worst_L28 h N hd hC hW hns2 (gN g) 0 N 0 (by omega) (by omega) (by omega)
      have a1' : fX3_worstWait_L28 N w v1 (nI d) N (-1) 0 = some (wv y) := a1
      rw [a1', Option.bind_some]
      refine ⟨y, rfl, a2, fun z => absurd hR z, fun _ => ?_⟩
      obtain ⟨L0, -, -, l3⟩ := (hW p p3).2 (hns2 p p3 p5)
      have l4 := a4 p (Nat.zero_le _) p3 p5 L0 l3
      rcases a5 with a5 | ⟨q, q1, q2, L, q3, q4⟩
      · omega
      · exact ⟨L, q4, ⟨q, q1, q2, q3⟩, fun r r1 r2 z hz => by have := a4 r (Nat.zero_le _) r1 r2 z hz; omega⟩
  · rw [if_neg b2i_t]
    exact ⟨0, rfl, by omega, fun _ => rfl, fun z => absurd (b2.mp rfl) z.2⟩
theorem X7_slow_L10 {v : SX7} (h : PG v.1.1 g) {N : Nat} (hN : 9 ≤ N) (hC : ComS v.2.2.2 g s) (hA : ∀ e, e < 6 → StaS v.2.2.2 g e ∧ WaiS v.2.2.2 g ho ct e) : ∀ (k i fuel : Nat) (b : Int32) (y : Nat), i + k = 6 → k < fuel → y ≤ 1001 → Slw g ho ct s i b y → ∃ b' y', fX7_slowest_L10 N v fuel b (wv y) (nI i) = some b' ∧ Slw g ho ct s 6 b' y' := by
  intro k
  induction k with
  | zero =>
    intro i fuel b y e1 e2 e3 e4
    obtain ⟨f, rfl⟩ : ∃ f, fuel = f + 1 := ⟨fuel - 1, by omega⟩
    have hi : i = 6 := by omega
    subst hi
    rw [fX7_slowest_L10, if_pos (by decide)]
    exact ⟨b, y, rfl, e4⟩
  | succ k ih =>
    intro i fuel b y e1 e2 e3 e4
    obtain ⟨f, rfl⟩ : ∃ f, fuel = f + 1 := ⟨fuel - 1, by omega⟩
    have hi : i < 6 := by omega
    obtain ⟨y2, a1, a2, a3, a4⟩ := X3_worstWait_eq h hN hi hC (hA i hi).1 (hA i hi).2
    rw [fX7_slowest_L10, if_neg (le6 hi), a1, Option.bind_some, nI_1]
    by_cases hle : y2 ≤ y
    · rw [if_pos ((wv_wv a2 e3).mpr hle)]
      refine ih (i + 1) f b y (by omega) (by omega) e3 ⟨b, y, e4, ?_⟩
      by_cases hR : Rtd g s i
      · obtain ⟨L, l1, l2, l3⟩ := a4 hR
        exact Or.inr ⟨hR, Or.inl ⟨fun p p1 p2 z hz => by have := l3 p p1 p2 z hz; omega, rfl, rfl⟩⟩
      · exact Or.inl ⟨hR, rfl, rfl⟩
    · rw [if_neg (fun z => hle ((wv_wv a2 e3).mp z))]
      have hR : Rtd g s i := Classical.byContradiction fun z => by have := a3 z; omega
      obtain ⟨L, l1, l2, l3⟩ := a4 hR
      exact ih (i + 1) f (nI i) y2 (by omega) (by omega) a2 ⟨b, y, e4, Or.inr ⟨hR, Or.inr ⟨L, l2, l3, by omega, rfl, l1⟩⟩⟩
theorem X7_slowest_eq {v : SX7} (h : PG v.1.1 g) (hh : HG v.1.1 g ho ct) {N : Nat} (hN : 9 ≤ N) (hs : v.1.2.2.2.2.2.1 = nI s) (hs2 : s < 2 ^ 31) : ∃ b y w, fX7_slowest N v = some (b, (v.1, v.2.1, v.2.2.1, w)) ∧ Slw g ho ct s 6 b y := by
  obtain ⟨w, a1, a2, a3, a4⟩ := X7_studyAll_eq h hh hN hs hs2
  obtain ⟨b, y, b1, b2⟩ := X7_slow_L10 (v := (v.1, v.2.1, v.2.2.1, w)) h hN a3 a4 6 0 N (-1) 0 (by omega) (by omega) (by omega) ⟨rfl, rfl⟩
  have b1' : fX7_slowest_L10 N (v.1, v.2.1, v.2.2.1, w) N (-1) (-1) 0 = some b := b1
  exact ⟨b, y, w, by unfold fX7_slowest; rw [a1, Option.bind_some, b1', Option.bind_some], b2⟩
theorem X3_rem_L13 (h : PG v1 g) {N : Nat} (hN : 9 ≤ N) {d p : Nat} (hd : d < 6) (hp : p < gN g) (hs2 : s < 2 ^ 31) (hL : LeadS w g) (hW : WayS w g d) : ∀ (k i fuel : Nat), i + k = gN g → k < fuel → (∀ u, u < i → ¬ u = p → ¬ HlpS g s d p u) → (∃ t, fX3_remedyAt_L13 N w v1 (nI s) (nI d) (nI p) fuel (nI i) = some (.inl (nI t)) ∧ t < gN g ∧ ¬ t = p ∧ HlpS g s d p t ∧ ∀ u, u < t → ¬ u = p → ¬ HlpS g s d p u) ∨ (fX3_remedyAt_L13 N w v1 (nI s) (nI d) (nI p) fuel (nI i) = some (.inr ()) ∧ ∀ u, u < gN g → ¬ u = p → ¬ HlpS g s d p u) := by
  have h8 := h.1
  intro k
  induction k with
  | zero =>
    intro i fuel e1 e2 e3
    obtain ⟨f, rfl⟩ : ∃ f, fuel = f + 1 := ⟨fuel - 1, by omega⟩
    have hi : i = gN g := by omega
    subst hi
    rw [fX3_remedyAt_L13, if_pos (pn_self h)]
    exact Or.inr ⟨rfl, e3⟩
  | succ k ih =>
    intro i fuel e1 e2 e3
    obtain ⟨f, rfl⟩ : ∃ f, fuel = f + 1 := ⟨fuel - 1, by omega⟩
    have hi : i < gN g := by omega
    rw [fX3_remedyAt_L13, if_neg (pn_le h hi), nI_1]
    by_cases hip : i = p
    · rw [if_pos (by rw [hip])]
      exact ih (i + 1) f (by omega) (by omega) (fun u u1 u2 => e3 u (by omega) u2)
    · rw [if_neg (fun z => hip ((nI_eq (by omega) (by omega)).mp z))]
      obtain ⟨m, m1, m2⟩ := X3_starvingWith_eq h hN hd hW (x3 := nI p) (t := i) (Or.inr hi) (nI i) (Or.inr rfl)
      obtain ⟨c, c1, c2⟩ := X3_comingWith_eq h hL hN hs2 (x3 := nI p) (t := i) (Or.inr hi) (nI i) (Or.inr rfl)
      rw [m1, Option.bind_some, c1, Option.bind_some]
      have hk : (∃ q, bt m q = true ∧ bt c q = true) ↔ ¬ HlpS g s d p i := by
        unfold HlpS
        rw [Classical.not_not]
        constructor
        · rintro ⟨q, q1, q2⟩
          obtain ⟨q3, q4⟩ := (m2 q).mp q1
          exact ⟨q, q3, (c2 q).mp q2, q4⟩
        · rintro ⟨q, q1, q2, q3⟩
          exact ⟨q, (m2 q).mpr ⟨q1, q3⟩, (c2 q).mpr q2⟩
      by_cases hx : m &&& c = 0
      · rw [if_pos hx]
        have hH : HlpS g s d p i := Classical.byContradiction fun z => (and0_iff _ _).mp hx (hk.mpr z)
        exact Or.inl ⟨i, rfl, hi, hip, hH, e3⟩
      · rw [if_neg hx]
        have hn : ¬ HlpS g s d p i := hk.mp (Classical.byContradiction fun z => hx ((and0_iff _ _).mpr z))
        exact ih (i + 1) f (by omega) (by omega) (fun u u1 u2 => by
          by_cases hu : u = i
          · subst hu; exact hn
          · exact e3 u (by omega) u2)
theorem X3_remedyAt_eq (h : PG v1 g) {N : Nat} (hN : 9 ≤ N) {d p : Nat} (hd : d < 6) (hp : p < gN g) (hs2 : s < 2 ^ 31) (hL : LeadS w g) (hC : ComS w g s) (hW : WayS w g d) (hS : StaS w g d) : ∃ x, fX3_remedyAt N w v1 (nI s) (nI d) (nI p) = some x ∧ RemS g s d p x := by
  have h8 := h.1
  obtain ⟨b, b1, b2⟩ := X3_canStarve_eq N hd hC hS
  unfold fX3_remedyAt
  rw [b1, Option.bind_some]
  cases b
  · rw [if_pos b2i_f]
    exact ⟨-1, rfl, Or.inl ⟨(fun z => by have := b2.mpr z; cases this), rfl⟩⟩
  · rw [if_neg b2i_t]
    rcases X3_rem_L13 h hN hd hp hs2 hL hW (gN g) 0 N (by omega) (by omega) (fun u u1 => by omega) with ⟨t, a1, a2, a3, a4, a5⟩ | ⟨a1, a2⟩
    · have a1' : fX3_remedyAt_L13 N w v1 (nI s) (nI d) (nI p) N 0 = some (.inl (nI t)) := a1
      exact ⟨nI t, by rw [a1', Option.bind_some]; rfl, Or.inr ⟨b2.mp rfl, Or.inl ⟨t, a2, a3, a4, a5, rfl⟩⟩⟩
    · have a1' : fX3_remedyAt_L13 N w v1 (nI s) (nI d) (nI p) N 0 = some (.inr ()) := a1
      exact ⟨-1, by rw [a1', Option.bind_some]; rfl, Or.inr ⟨b2.mp rfl, Or.inr ⟨a2, rfl⟩⟩⟩
end CK
