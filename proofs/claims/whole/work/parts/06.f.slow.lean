/-! the reference: the direction with the longest wait -/
/-- what counts for the slowest -/
def Rtd (g : Gr) (s d : Nat) : Prop := (∃ p, p < gN g ∧ Cmg g (-1) 0 s p ∧ GN g d p) ∧ ¬ SvA g s d
/-- the slowest of the first directions, and one more than its wait -/
def Slw (g : Gr) (ho : Nat → Nat) (ct s : Nat) : Nat → Int32 → Nat → Prop
  | 0, b, y => b = -1 ∧ y = 0
  | i + 1, b', y' => ∃ b y, Slw g ho ct s i b y ∧ ((¬ Rtd g s i ∧ b' = b ∧ y' = y) ∨ (Rtd g s i ∧ (((∀ p, p < gN g → Cmg g (-1) 0 s p → ∀ z, IsLg (gN g) (E0 g i) (GN g i) (cc g ho ct) p z → z + 1 ≤ y) ∧ b' = b ∧ y' = y) ∨ ∃ L, (∃ p, p < gN g ∧ Cmg g (-1) 0 s p ∧ IsLg (gN g) (E0 g i) (GN g i) (cc g ho ct) p L) ∧ (∀ p, p < gN g → Cmg g (-1) 0 s p → ∀ z, IsLg (gN g) (E0 g i) (GN g i) (cc g ho ct) p z → z ≤ L) ∧ y < L + 1 ∧ b' = nI i ∧ y' = L + 1)))
theorem Slw.uniq {g : Gr} {ho : Nat → Nat} {ct s : Nat} : ∀ i b y b' y', Slw g ho ct s i b y → Slw g ho ct s i b' y' → b = b' ∧ y = y' := by
  intro i
  induction i with
  | zero => rintro b y b' y' ⟨rfl, rfl⟩ ⟨rfl, rfl⟩; exact ⟨rfl, rfl⟩
  | succ i ih =>
    rintro b y b' y' ⟨c, z, h1, h2⟩ ⟨c', z', h1', h2'⟩
    obtain ⟨rfl, rfl⟩ := ih _ _ _ _ h1 h1'
    rcases h2 with ⟨hr, rfl, rfl⟩ | ⟨hr, h2⟩
    · rcases h2' with ⟨-, rfl, rfl⟩ | ⟨hr', -⟩
      · exact ⟨rfl, rfl⟩
      · exact absurd hr' hr
    · rcases h2' with ⟨hr', -⟩ | ⟨-, h2'⟩
      · exact absurd hr hr'
      · rcases h2 with ⟨ha, rfl, rfl⟩ | ⟨L, ⟨p, p1, p2, p3⟩, hL, hlt, rfl, rfl⟩
        · rcases h2' with ⟨-, rfl, rfl⟩ | ⟨L', ⟨p', q1, q2, q3⟩, hL', hlt', rfl, rfl⟩
          · exact ⟨rfl, rfl⟩
          · have := ha p' q1 q2 _ q3; omega
        · rcases h2' with ⟨ha', rfl, rfl⟩ | ⟨L', ⟨p', q1, q2, q3⟩, hL', hlt', rfl, rfl⟩
          · have := ha' p p1 p2 _ p3; omega
          · have a1 := hL p' q1 q2 _ q3
            have a2 := hL' p p1 p2 _ p3
            exact ⟨rfl, by omega⟩
def wv : Nat → Int32
  | 0 => -1
  | y + 1 => nI y
theorem wv_le {a y : Nat} (ha : a ≤ 1000) (hy : y ≤ 1000) : nI a ≤ wv y ↔ a + 1 ≤ y := by
  cases y with
  | zero =>
    constructor
    · intro z
      have z2 : (0 : Int32) ≤ nI a := nI_le (a := 0) (by omega) (by omega)
      exact absurd (Int32.le_trans z2 z) (by decide)
    · intro z; omega
  | succ y =>
    show nI a ≤ nI y ↔ _
    rw [nI_leI (by omega) (by omega)]
    omega
theorem wv_neg {y : Nat} (hy : y ≤ 1000) : (-1 : Int32) ≤ wv y := by
  cases y with
  | zero => decide
  | succ y => exact Int32.le_trans (show (-1 : Int32) ≤ 0 by decide) (nI_le (a := 0) (by omega) (by omega))
section SL
variable {v : SX8} {g : Gr} {ho : Nat → Nat} {ct : Nat}
theorem X8_gof_L (h : ZG v.2.1 g) (N : Nat) (z : Int32) : ∀ (k i fuel : Nat) (m : Int32), i + k = gN g → k < fuel → ∃ M, fX8_greensOf_L4 N v z fuel m (nI i) = some M ∧ ∀ d, d < 32 → (bt M d = true ↔ (bt m d = true ∨ ∃ p, i ≤ p ∧ p < gN g ∧ bt z p = true ∧ GN g d p)) := by
  have h8 := h.1
  intro k
  induction k with
  | zero =>
    intro i fuel m e1 e2
    obtain ⟨f, rfl⟩ : ∃ f, fuel = f + 1 := ⟨fuel - 1, by omega⟩
    have hi : i = gN g := by omega
    subst hi
    rw [fX8_greensOf_L4, chk0, tn0, if_pos (zn_self h)]
    refine ⟨m, rfl, fun d hd => ⟨Or.inl, ?_⟩⟩
    rintro (z | ⟨p, p1, p2, -⟩)
    · exact z
    · omega
  | succ k ih =>
    intro i fuel m e1 e2
    obtain ⟨f, rfl⟩ : ∃ f, fuel = f + 1 := ⟨fuel - 1, by omega⟩
    have hi : i < gN g := by omega
    rw [fX8_greensOf_L4, chk0, tn0, if_neg (zn_le h hi), ite_bit _ (by omega)]
    cases hz : bt z i
    · rw [if_neg (by decide), nI_1]
      obtain ⟨M, a1, a2⟩ := ih (i + 1) f (m ||| 0) (by omega) (by omega)
      refine ⟨M, a1, fun d hd => ?_⟩
      rw [a2 d hd, Int32.or_zero]
      constructor
      · rintro (y | ⟨p, p1, p2⟩)
        · exact Or.inl y
        · exact Or.inr ⟨p, by omega, p2⟩
      · rintro (y | ⟨p, p1, p2, p3, p4⟩)
        · exact Or.inl y
        · by_cases hp : p = i
          · subst hp; rw [hz] at p3; cases p3
          · exact Or.inr ⟨p, by omega, p2, p3, p4⟩
    · rw [if_pos rfl, X8_greens_eq h N hi, Option.bind_some, nI_1]
      obtain ⟨M, a1, a2⟩ := ih (i + 1) f (m ||| gG g i) (by omega) (by omega)
      refine ⟨M, a1, fun d hd => ?_⟩
      rw [a2 d hd, bt_or, Bool.or_eq_true]
      constructor
      · rintro ((y | y) | ⟨p, p1, p2⟩)
        · exact Or.inl y
        · exact Or.inr ⟨i, Nat.le_refl _, hi, hz, y⟩
        · exact Or.inr ⟨p, by omega, p2⟩
      · rintro (y | ⟨p, p1, p2, p3, p4⟩)
        · exact Or.inl (Or.inl y)
        · by_cases hp : p = i
          · subst hp; exact Or.inl (Or.inr p4)
          · exact Or.inr ⟨p, by omega, p2, p3, p4⟩
theorem X8_greensOf_eq (h : ZG v.2.1 g) {N : Nat} (hN : 9 ≤ N) (z : Int32) : ∃ M, fX8_greensOf N v z = some M ∧ ∀ d, d < 32 → (bt M d = true ↔ ∃ p, p < gN g ∧ bt z p = true ∧ GN g d p) := by
  have h8 := h.1
  obtain ⟨M, a1, a2⟩ := X8_gof_L h N z (gN g) 0 N 0 (by omega) (by omega)
  have a1' : fX8_greensOf_L4 N v z N 0 0 = some M := a1
  refine ⟨M, by unfold fX8_greensOf; rw [a1']; rfl, fun d hd => ?_⟩
  rw [a2 d hd, bt_0]
  constructor
  · rintro (y | ⟨p, -, y⟩)
    · cases y
    · exact ⟨p, y⟩
  · rintro ⟨p, y⟩; exact Or.inr ⟨p, Nat.zero_le _, y⟩
theorem X8_slow_L52 (h : ZG v.2.1 g) (hh : ZH v.2.1 g ho ct) {N : Nat} (hN : 11 ≤ N) (cm : Int32) {d : Nat} (hd : d < 32) (hns : ∀ q, q < gN g → bt cm q = true → ¬ Sv g d q) : ∀ (k i fuel : Nat) (w : Nat → Int32) (b : Int32) (y : Nat), i + k = gN g → k < fuel → y ≤ 113 → ∃ w' b' y', fX8_slowestOne_L52 N cm (nI d) 1 fuel (sW v w) b (wv y) (nI i) = some (sW v w', b', wv y') ∧ y' ≤ 113 ∧ (∀ q, i ≤ q → q < gN g → bt cm q = true → ∀ L, IsLg (gN g) (E0 g d) (GN g d) (cc g ho ct) q L → L + 1 ≤ y') ∧ y ≤ y' ∧ ((y' = y ∧ b' = b) ∨ (y < y' ∧ b' = nI d ∧ ∃ q, q < gN g ∧ bt cm q = true ∧ ∃ L, IsLg (gN g) (E0 g d) (GN g d) (cc g ho ct) q L ∧ y' = L + 1)) := by
  have h8 := h.1
  intro k
  induction k with
  | zero =>
    intro i fuel w b y e1 e2 e3
    obtain ⟨f, rfl⟩ : ∃ f, fuel = f + 1 := ⟨fuel - 1, by omega⟩
    have hi : i = gN g := by omega
    subst hi
    rw [fX8_slowestOne_L52, chk0, tn0, if_pos (zn_self (v := sW v w) h)]
    exact ⟨w, b, y, rfl, e3, fun q q1 q2 => by omega, Nat.le_refl _, Or.inl ⟨rfl, rfl⟩⟩
  | succ k ih =>
    intro i fuel w b y e1 e2 e3
    obtain ⟨f, rfl⟩ : ∃ f, fuel = f + 1 := ⟨fuel - 1, by omega⟩
    have hi : i < gN g := by omega
    rw [fX8_slowestOne_L52, chk0, tn0, if_neg (zn_le (v := sW v w) h hi), if_neg (by decide), ite_bit _ (by omega)]
    cases hz : bt cm i
    · rw [if_neg (by decide), if_pos (wv_neg (by omega)), if_pos (wv_neg (by omega)), nI_1]
      obtain ⟨w', b', y', a1, a2, a3, a4, a5⟩ := ih (i + 1) f w b y (by omega) (by omega) e3
      refine ⟨w', b', y', a1, a2, fun q q1 q2 q3 => ?_, a4, a5⟩
      by_cases hq : q = i
      · subst hq; rw [hz] at q3; cases q3
      · exact a3 q (by omega) q2 q3
    · obtain ⟨x, w1, c1, -, c3⟩ := X8_longest_eq (v := sW v w) h hh hN hd hi
      obtain ⟨L, l1, rfl, l3⟩ := c3 (hns i hi hz)
      rw [if_pos rfl, c1, Option.bind_some]
      dsimp only
      by_cases hle : L + 1 ≤ y
      · rw [if_pos ((wv_le (by omega) (by omega)).mpr hle), if_pos ((wv_le (by omega) (by omega)).mpr hle), nI_1]
        obtain ⟨w', b', y', a1, a2, a3, a4, a5⟩ := ih (i + 1) f w1 b y (by omega) (by omega) e3
        refine ⟨w', b', y', a1, a2, fun q q1 q2 q3 z hz2 => ?_, a4, a5⟩
        by_cases hq : q = i
        · subst hq; have := IsLg.uniq l3 hz2; omega
        · exact a3 q (by omega) q2 q3 z hz2
      · rw [if_neg (fun z => hle ((wv_le (by omega) (by omega)).mp z)), if_neg (fun z => hle ((wv_le (by omega) (by omega)).mp z)), nI_1]
        obtain ⟨w', b', y', a1, a2, a3, a4, a5⟩ := ih (i + 1) f w1 (nI d) (L + 1) (by omega) (by omega) (by omega)
        refine ⟨w', b', y', a1, a2, fun q q1 q2 q3 z hz2 => ?_, by omega, Or.inr ⟨by omega, ?_, ?_⟩⟩
        · by_cases hq : q = i
          · subst hq; have := IsLg.uniq l3 hz2; omega
          · exact a3 q (by omega) q2 q3 z hz2
        · rcases a5 with ⟨-, rfl⟩ | ⟨-, rfl, -⟩
          · rfl
          · rfl
        · rcases a5 with ⟨rfl, -⟩ | ⟨-, -, q, q1, q2, q3⟩
          · exact ⟨i, hi, hz, L, l3, rfl⟩
          · exact ⟨q, q1, q2, q3⟩
theorem X8_slow_L52_0 (h : ZG v.2.1 g) {N : Nat} (hN : 9 ≤ N) (cm e : Int32) (b x : Int32) : fX8_slowestOne_L52 N cm e 0 N v b x 0 = some (v, b, x) := by
  obtain ⟨f, rfl⟩ : ∃ f, N = f + 1 := ⟨N - 1, by omega⟩
  rw [fX8_slowestOne_L52, chk0, tn0]
  by_cases h0 : v.2.1 0 ≤ 0
  · rw [if_pos h0]
  · rw [if_neg h0, if_pos rfl]
theorem X8_slow_L12 (h : ZG v.2.1 g) (hh : ZH v.2.1 g ho ct) {N : Nat} (hN : 11 ≤ N) {s : Nat} (hs : AtS v.2.1 g s) {cm : Int32} (hcm : ∀ q, bt cm q = true ↔ Cmg g (-1) 0 s q) : ∀ (k i fuel : Nat) (w : Nat → Int32) (b : Int32) (y : Nat), i + k = 6 → k < fuel → y ≤ 113 → Slw g ho ct s i b y → ∃ w' b' y', fX8_slowestOne_L12 N cm fuel (sW v w) b (wv y) (nI i) = some (sW v w', b') ∧ Slw g ho ct s 6 b' y' := by
  have h8 := h.1
  intro k
  induction k with
  | zero =>
    intro i fuel w b y e1 e2 e3 e4
    obtain ⟨f, rfl⟩ : ∃ f, fuel = f + 1 := ⟨fuel - 1, by omega⟩
    have hi : i = 6 := by omega
    subst hi
    rw [fX8_slowestOne_L12, if_pos (by decide)]
    exact ⟨w, b, y, rfl, e4⟩
  | succ k ih =>
    intro i fuel w b y e1 e2 e3 e4
    obtain ⟨f, rfl⟩ : ∃ f, fuel = f + 1 := ⟨fuel - 1, by omega⟩
    obtain ⟨M, g1, g2⟩ := X8_greensOf_eq (v := sW v w) h (N := N) (by omega) cm
    have hM : bt M i = true ↔ ∃ p, p < gN g ∧ Cmg g (-1) 0 s p ∧ GN g i p := by
      rw [g2 i (by omega)]
      constructor
      · rintro ⟨p, p1, p2, p3⟩; exact ⟨p, p1, (hcm p).mp p2, p3⟩
      · rintro ⟨p, p1, p2, p3⟩; exact ⟨p, p1, (hcm p).mpr p2, p3⟩
    have skip : ¬ Rtd g s i → ∃ w' b' y', ((fX8_slowestOne_L52 N cm (nI i) 0 N (sW v w) b (wv y) 0).bind fun u => fX8_slowestOne_L12 N cm f u.1 u.2.1 u.2.2 (nI i + 1)) = some (sW v w', b') ∧ Slw g ho ct s 6 b' y' := by
      intro hr
      rw [X8_slow_L52_0 (v := sW v w) h (by omega), Option.bind_some, nI_1]
      exact ih (i + 1) f w b y (by omega) (by omega) e3 ⟨b, y, e4, Or.inl ⟨hr, rfl, rfl⟩⟩
    rw [fX8_slowestOne_L12, if_neg (le6 (by omega)), g1, Option.bind_some, ite_bit _ (by omega)]
    cases hb : bt M i
    · rw [if_neg (by decide)]
      exact skip (fun z => by have := hM.mpr z.1; rw [hb] at this; cases this)
    · rw [if_pos rfl]
      obtain ⟨c, c1, c2⟩ := X8_anywhere_eq (v := sW v w) h hN hs (d := i) (by omega)
      rw [c1, Option.bind_some]
      cases c
      · rw [if_pos b2i_f]
        have hns : ¬ SvA g s i := fun z => by have := c2.mpr z; cases this
        have hrt : Rtd g s i := ⟨hM.mp hb, hns⟩
        obtain ⟨w', b', y', a1, a2, a3, a4, a5⟩ := X8_slow_L52 h hh hN cm (d := i) (by omega) (fun q q1 q2 q3 => hns ⟨q, q1, (hcm q).mp q2, q3⟩) (gN g) 0 N w b y (by omega) (by omega) e3
        have a1' : fX8_slowestOne_L52 N cm (nI i) 1 N (sW v w) b (wv y) 0 = some (sW v w', b', wv y') := a1
        rw [a1', Option.bind_some, nI_1]
        refine ih (i + 1) f w' b' y' (by omega) (by omega) a2 ⟨b, y, e4, Or.inr ⟨hrt, ?_⟩⟩
        rcases a5 with ⟨rfl, rfl⟩ | ⟨hlt, rfl, q, q1, q2, L, q3, rfl⟩
        · exact Or.inl ⟨fun p p1 p2 z hz => a3 p (Nat.zero_le _) p1 ((hcm p).mpr p2) z hz, rfl, rfl⟩
        · refine Or.inr ⟨L, ⟨q, q1, (hcm q).mp q2, q3⟩, fun p p1 p2 z hz => ?_, hlt, rfl, rfl⟩
          have := a3 p (Nat.zero_le _) p1 ((hcm p).mpr p2) z hz
          omega
      · rw [if_neg b2i_t]
        exact skip (fun z => z.2 (c2.mp rfl))
theorem X8_slowestOne_eq (h : ZG v.2.1 g) (hh : ZH v.2.1 g ho ct) {N : Nat} (hN : 11 ≤ N) {s : Nat} (hs : AtS v.2.1 g s) : ∃ b w' y, fX8_slowestOne N v = some (b, sW v w') ∧ Slw g ho ct s 6 b y := by
  obtain ⟨cm, m1, m2⟩ := X8_comers_eq h (N := N) (by omega) hs
  obtain ⟨w', b', y', a1, a2⟩ := X8_slow_L12 h hh hN hs m2 6 0 N (gW v) (-1) 0 (by omega) (by omega) (by omega) ⟨rfl, rfl⟩
  have a1' : fX8_slowestOne_L12 N cm N v (-1) (-1) 0 = some (sW v w', b') := a1
  exact ⟨b', w', y', by unfold fX8_slowestOne; rw [m1, Option.bind_some, a1', Option.bind_some], a2⟩
end SL
