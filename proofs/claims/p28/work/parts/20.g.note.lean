/-! noteComing, noteStarving -/
theorem X3_note_L26 {v : SX3} {v1 : SX2} {g : Gr} (h : PG v1 g) (N : Nat) (x2 : Int32) {p : Nat} (hp : p < gN g) : ∀ (k r fuel : Nat) (m : Int32), r + k = gR g p → k < fuel → ∃ m', fX3_noteComing_L26 N v v1 x2 (nI p) (nI (gR g p)) fuel m (nI r) = some m' ∧ ∀ q, bt m' q = true ↔ (bt m q = true ∨ ∃ j, r ≤ j ∧ j < gR g p ∧ gO g p j = q) := by
  have h8 := h.1
  obtain ⟨h4, h5, h6, h7⟩ := h.2.2 p hp
  intro k
  induction k with
  | zero =>
    intro r fuel m e1 e2
    obtain ⟨f, rfl⟩ : ∃ f, fuel = f + 1 := ⟨fuel - 1, by omega⟩
    rw [fX3_noteComing_L26, if_pos (nI_le (by omega) (by omega))]
    refine ⟨m, rfl, fun q => ⟨Or.inl, ?_⟩⟩
    rintro (z | ⟨j, j1, j2, -⟩)
    · exact z
    · omega
  | succ k ih =>
    intro r fuel m e1 e2
    obtain ⟨f, rfl⟩ : ∃ f, fuel = f + 1 := ⟨fuel - 1, by omega⟩
    have hr : r < gR g p := by omega
    rw [fX3_noteComing_L26, if_neg (fun z => by rw [nI_leI (by omega) (by omega)] at z; omega), X2_goalOf_eq h N hp hr, Option.bind_some, nI_1]
    obtain ⟨m', a1, a2⟩ := ih (r + 1) f (m ||| ((1 : Int32) <<< (nI (gO g p r) &&& 31))) (by omega) (by omega)
    refine ⟨m', a1, fun q => ?_⟩
    have hlt := (h7 r hr).2.1
    rw [a2 q, bt_setk (by omega), Bool.or_eq_true, decide_eq_true_eq]
    constructor
    · rintro ((z | rfl) | ⟨j, j1, j2, j3⟩)
      · exact Or.inl z
      · exact Or.inr ⟨r, Nat.le_refl _, hr, rfl⟩
      · exact Or.inr ⟨j, by omega, j2, j3⟩
    · rintro (z | ⟨j, j1, j2, j3⟩)
      · exact Or.inl (Or.inl z)
      · by_cases hj : j = r
        · subst hj; exact Or.inl (Or.inr j3.symm)
        · exact Or.inr ⟨j, by omega, j2, j3⟩
theorem X3_note_L2 {v1 : SX2} {g : Gr} (h : PG v1 g) {N : Nat} (hN : 9 ≤ N) (x2 : Int32) : ∀ (k i fuel : Nat) (v : SX3), i + k = gN g → k < fuel → (∀ p, p < i → ∀ q, bt (v.1 p) q = true ↔ ∃ r, r < gR g p ∧ gO g p r = q) →
    ∃ l, fX3_noteComing_L2 N v1 x2 fuel v (nI i) = some (l, v.2) ∧ ∀ p, p < gN g → ∀ q, bt (l p) q = true ↔ ∃ r, r < gR g p ∧ gO g p r = q := by
  have h8 := h.1
  intro k
  induction k with
  | zero =>
    intro i fuel v e1 e2 e3
    obtain ⟨f, rfl⟩ : ∃ f, fuel = f + 1 := ⟨fuel - 1, by omega⟩
    rw [fX3_noteComing_L2, h.2.1, if_pos (nI_le (by omega) (by omega))]
    exact ⟨v.1, rfl, fun p hp => e3 p (by omega)⟩
  | succ k ih =>
    intro i fuel v e1 e2 e3
    obtain ⟨f, rfl⟩ : ∃ f, fuel = f + 1 := ⟨fuel - 1, by omega⟩
    have hi : i < gN g := by omega
    have h6 := (h.2.2 i hi).2.2.1
    rw [fX3_noteComing_L2, h.2.1, if_neg (fun z => by rw [nI_leI (by omega) (by omega)] at z; omega), plan_rc h hi]
    obtain ⟨m, a1, a2⟩ := X3_note_L26 (v := v) h N x2 hi (gR g i) 0 N 0 (by omega) (by omega)
    have a1' : fX3_noteComing_L26 N v v1 x2 (nI i) (nI (gR g i)) N 0 0 = some m := a1
    rw [a1', Option.bind_some, nI_1, rowPut_nI (by omega) (by decide)]
    refine ih (i + 1) f (upd v.1 i m, v.2) (by omega) (by omega) ?_
    intro p hp q
    show bt (upd v.1 i m p) q = true ↔ _
    unfold upd
    by_cases hpi : p = i
    · rw [if_pos hpi, a2 q, bt_0, hpi]
      constructor
      · rintro (z | ⟨j, -, j2, j3⟩)
        · cases z
        · exact ⟨j, j2, j3⟩
      · rintro ⟨j, j2, j3⟩
        exact Or.inr ⟨j, Nat.zero_le _, j2, j3⟩
    · rw [if_neg hpi]
      exact e3 p (by omega) q
/-- which phases can come -/
def ComS (v : SX3) (g : Gr) (s : Nat) : Prop := ∀ q, bt v.2.2.2.2.2 q = true ↔ Cmg g (-1) 0 s q
theorem X3_noteComing_eq {v1 : SX2} {g : Gr} (h : PG v1 g) {N : Nat} (hN : 9 ≤ N) (v : SX3) {s : Nat} (hs : s < 2 ^ 31) : ∃ l c, fX3_noteComing N v v1 (nI s) = some (l, v.2.1, v.2.2.1, v.2.2.2.1, v.2.2.2.2.1, c) ∧ LeadS (l, v.2.1, v.2.2.1, v.2.2.2.1, v.2.2.2.2.1, c) g ∧ ComS (l, v.2.1, v.2.2.1, v.2.2.2.1, v.2.2.2.2.1, c) g s := by
  have h8 := h.1
  obtain ⟨l, h1, h2⟩ := X3_note_L2 h hN (nI s) (gN g) 0 N v (by omega) (by omega) (fun p hp => absurd hp (Nat.not_lt_zero p))
  have h1' : fX3_noteComing_L2 N v1 (nI s) N v 0 = some (l, v.2) := h1
  obtain ⟨c, h3, h4⟩ := X3_comingWith_eq (v := (l, v.2)) h h2 hN hs (x3 := -1) (t := 0) (Or.inl rfl) (-1) (Or.inl rfl)
  refine ⟨l, c, ?_, h2, h4⟩
  unfold fX3_noteComing
  rw [h1', Option.bind_some, h3, Option.bind_some]
theorem X3_starve_L2 {v1 : SX2} {g : Gr} (h : PG v1 g) {N : Nat} (hN : 9 ≤ N) {d : Nat} (hd : d < 6) : ∀ (k i fuel : Nat) (v : SX3), i + k = gN g → k < fuel → (∀ p, p < i → ∀ q, bt (v.2.1 (8 * d + p)) q = true ↔ (Edg g d p q ∨ (q = 8 ∧ sty g d p = true))) →
    ∃ w, fX3_noteStarving_L2 N v1 (nI d) fuel v (nI i) = some (v.1, w, v.2.2) ∧ (∀ p, p < gN g → ∀ q, bt (w (8 * d + p)) q = true ↔ (Edg g d p q ∨ (q = 8 ∧ sty g d p = true))) ∧ ∀ j, (j < 8 * d ∨ 8 * d + 8 ≤ j) → w j = v.2.1 j := by
  have h8 := h.1
  intro k
  induction k with
  | zero =>
    intro i fuel v e1 e2 e3
    obtain ⟨f, rfl⟩ : ∃ f, fuel = f + 1 := ⟨fuel - 1, by omega⟩
    rw [fX3_noteStarving_L2, h.2.1, if_pos (nI_le (by omega) (by omega))]
    exact ⟨v.2.1, rfl, fun p hp => e3 p (by omega), fun _ _ => rfl⟩
  | succ k ih =>
    intro i fuel v e1 e2 e3
    obtain ⟨f, rfl⟩ : ∃ f, fuel = f + 1 := ⟨fuel - 1, by omega⟩
    have hi : i < gN g := by omega
    rw [fX3_noteStarving_L2, h.2.1, if_neg (fun z => by rw [nI_leI (by omega) (by omega)] at z; omega), X3_cell_eq, Option.bind_some]
    obtain ⟨m, a1, a2⟩ := X3_waysFrom_eq (v := v) h (show 5 ≤ N by omega) hd hi
    rw [a1, Option.bind_some, nI_1, rowPut_nI (by omega) (by decide)]
    obtain ⟨w, b1, b2, b3⟩ := ih (i + 1) f (v.1, upd v.2.1 (8 * d + i) m, v.2.2) (by omega) (by omega) (by
      intro p hp q
      show bt (upd v.2.1 (8 * d + i) m (8 * d + p)) q = true ↔ _
      unfold upd
      by_cases hpi : p = i
      · rw [if_pos (by omega), a2 q, hpi]
      · rw [if_neg (by omega)]
        exact e3 p (by omega) q)
    refine ⟨w, b1, b2, fun j hj => ?_⟩
    rw [b3 j hj]
    show upd v.2.1 (8 * d + i) m j = v.2.1 j
    unfold upd
    rw [if_neg (by omega)]
theorem Way_congr {n : Nat} {E E' : Nat → Nat → Prop} {gn : Nat → Prop} (hE : ∀ p, p < n → ∀ q, E p q ↔ E' p q) : ∀ (k p q : Nat), p < n → (Way n E gn k p q ↔ Way n E' gn k p q) := by
  intro k
  induction k with
  | zero => intro p q _; exact Iff.rfl
  | succ k ih =>
    intro p q hp
    constructor
    · rintro ⟨r, r1, r2, r3, r4⟩
      exact ⟨r, r1, (hE p hp r).mp r2, r3, (ih r q r1).mp r4⟩
    · rintro ⟨r, r1, r2, r3, r4⟩
      exact ⟨r, r1, (hE p hp r).mpr r2, r3, (ih r q r1).mpr r4⟩
theorem Way_lt {n : Nat} {E : Nat → Nat → Prop} {gn : Nat → Prop} : ∀ (k p q : Nat), p < n → Way n E gn k p q → q < n := by
  intro k
  induction k with
  | zero => intro p q hp h; cases h; exact hp
  | succ k ih =>
    rintro p q hp ⟨r, r1, -, -, r4⟩
    exact ih r q r1 r4
theorem Stv_congr {n : Nat} {E E' : Nat → Nat → Prop} {st st' gn : Nat → Prop} (hE : ∀ p, p < n → ∀ q, E p q ↔ E' p q) (hS : ∀ p, p < n → (st p ↔ st' p)) {p : Nat} (hp : p < n) : Stv n E st gn p ↔ Stv n E' st' gn p := by
  unfold Stv Rch1
  constructor
  · rintro ⟨h1, q, ⟨k, hk⟩, h2⟩
    have hq := Way_lt k p q hp hk
    refine ⟨h1, q, ⟨k, (Way_congr hE k p q hp).mp hk⟩, ?_⟩
    rcases h2 with h2 | ⟨j, hj⟩
    · exact Or.inl ((hS q hq).mp h2)
    · exact Or.inr ⟨j, (Way_congr hE _ q q hq).mp hj⟩
  · rintro ⟨h1, q, ⟨k, hk⟩, h2⟩
    have hq := Way_lt k p q hp hk
    refine ⟨h1, q, ⟨k, (Way_congr hE k p q hp).mpr hk⟩, ?_⟩
    rcases h2 with h2 | ⟨j, hj⟩
    · exact Or.inl ((hS q hq).mpr h2)
    · exact Or.inr ⟨j, (Way_congr hE _ q q hq).mpr hj⟩
/-- d can starve from q -/
def Sv (g : Gr) (d q : Nat) : Prop := Stv (gN g) (E0 g d) (S0 g d) (GN g d) q
def StaS (v : SX3) (g : Gr) (d : Nat) : Prop := ∀ q, bt (v.2.2.2.2.1 d) q = true ↔ (q < gN g ∧ Sv g d q)
theorem HE_m1 {g : Gr} (h8 : gN g ≤ 8) (d t : Nat) {p : Nat} (hp : p < gN g) (q : Nat) : HE g d (-1) t p q ↔ E0 g d p q := by
  have hne : ¬ nI p = -1 := fun z => nI_pos (show p < 2 ^ 31 by omega) (by rw [z]; decide)
  unfold HE E0
  constructor
  · rintro (⟨z, -⟩ | ⟨-, z⟩)
    · exact absurd z hne
    · exact z
  · intro z; exact Or.inr ⟨hne, z⟩
theorem HS_m1 {g : Gr} (h8 : gN g ≤ 8) (d : Nat) {p : Nat} (hp : p < gN g) : HS g d (-1) p ↔ S0 g d p := by
  have hne : ¬ nI p = -1 := fun z => nI_pos (show p < 2 ^ 31 by omega) (by rw [z]; decide)
  unfold HS S0
  exact ⟨fun z => z.2, fun z => ⟨hne, z⟩⟩
theorem X3_noteStarving_eq {v1 : SX2} {g : Gr} (h : PG v1 g) {N : Nat} (hN : 9 ≤ N) (v : SX3) {d : Nat} (hd : d < 6) : ∃ w m, fX3_noteStarving N v v1 (nI d) = some (v.1, w, v.2.2.1, v.2.2.2.1, upd v.2.2.2.2.1 d m, v.2.2.2.2.2) ∧ WayS (v.1, w, v.2.2.1, v.2.2.2.1, upd v.2.2.2.2.1 d m, v.2.2.2.2.2) g d ∧ StaS (v.1, w, v.2.2.1, v.2.2.2.1, upd v.2.2.2.2.1 d m, v.2.2.2.2.2) g d ∧ ∀ j, (j < 8 * d ∨ 8 * d + 8 ≤ j) → w j = v.2.1 j := by
  have h8 := h.1
  obtain ⟨w, h1, h2, h3⟩ := X3_starve_L2 h hN hd (gN g) 0 N v (by omega) (by omega) (fun p hp => absurd hp (Nat.not_lt_zero p))
  have h1' : fX3_noteStarving_L2 N v1 (nI d) N v 0 = some (v.1, w, v.2.2) := h1
  obtain ⟨m, h4, h5⟩ := X3_starvingWith_eq (v := (v.1, w, v.2.2)) h hN hd h2 (x3 := -1) (t := 0) (Or.inl rfl) (-1) (Or.inl rfl)
  refine ⟨w, m, ?_, h2, fun q => ?_, h3⟩
  · unfold fX3_noteStarving
    rw [h1', Option.bind_some, h4, Option.bind_some, rowPut_nI (by omega) (by decide)]
  · show bt (upd v.2.2.2.2.1 d m d) q = true ↔ _
    unfold upd
    rw [if_pos rfl, h5 q]
    constructor
    · rintro ⟨a, b⟩
      exact ⟨a, (Stv_congr (fun p hp q => HE_m1 h8 d 0 hp q) (fun p hp => HS_m1 h8 d hp) a).mp b⟩
    · rintro ⟨a, b⟩
      exact ⟨a, (Stv_congr (fun p hp q => HE_m1 h8 d 0 hp q) (fun p hp => HS_m1 h8 d hp) a).mpr b⟩
