/-! the class's proofs: phasesWith, comingWith, starvingWith, goesOn -/
theorem X2_phasesWith_L {v : SX2} {g : Gr} (h : PG v g) (N : Nat) {d : Nat} (hd : d < 32) : ∀ (k i fuel : Nat) (m : Int32), i + k = gN g → k < fuel → ∃ m', fX2_phasesWith_L4 N v (nI d) fuel m (nI i) = some m' ∧ ∀ q, bt m' q = true ↔ (bt m q = true ∨ (i ≤ q ∧ q < gN g ∧ grn g d q = true)) := by
  have h8 := h.1
  intro k
  induction k with
  | zero =>
    intro i fuel m e1 e2
    obtain ⟨f, rfl⟩ : ∃ f, fuel = f + 1 := ⟨fuel - 1, by omega⟩
    rw [fX2_phasesWith_L4, h.2.1, if_pos (nI_le (by omega) (by omega))]
    refine ⟨m, rfl, fun q => ⟨Or.inl, ?_⟩⟩
    rintro (z | ⟨z1, z2, -⟩)
    · exact z
    · omega
  | succ k ih =>
    intro i fuel m e1 e2
    obtain ⟨f, rfl⟩ : ∃ f, fuel = f + 1 := ⟨fuel - 1, by omega⟩
    rw [fX2_phasesWith_L4, h.2.1, if_neg (fun z => by rw [nI_leI (by omega) (by omega)] at z; omega), plan_gr h (by omega), X7_has_eq N _ hd, Option.bind_some, nI_1]
    cases hb : bt (gG g i) d
    · rw [if_pos b2i_f]
      obtain ⟨m', h1, h2⟩ := ih (i + 1) f m (by omega) (by omega)
      refine ⟨m', h1, fun q => ?_⟩
      rw [h2 q]
      constructor
      · rintro (z | ⟨z1, z2⟩)
        · exact Or.inl z
        · exact Or.inr ⟨by omega, z2⟩
      · rintro (z | ⟨z1, z2, z3⟩)
        · exact Or.inl z
        · by_cases hq : q = i
          · subst hq
            have hz : bt (gG g q) d = true := z3
            rw [hb] at hz; cases hz
          · exact Or.inr ⟨by omega, z2, z3⟩
    · rw [if_neg b2i_t]
      obtain ⟨m', h1, h2⟩ := ih (i + 1) f _ (by omega) (by omega)
      refine ⟨m', h1, fun q => ?_⟩
      rw [h2 q, bt_setk (by omega), Bool.or_eq_true, decide_eq_true_eq]
      constructor
      · rintro ((z | rfl) | ⟨z1, z2⟩)
        · exact Or.inl z
        · exact Or.inr ⟨Nat.le_refl _, by omega, hb⟩
        · exact Or.inr ⟨by omega, z2⟩
      · rintro (z | ⟨z1, z2, z3⟩)
        · exact Or.inl (Or.inl z)
        · by_cases hq : q = i
          · exact Or.inl (Or.inr hq)
          · exact Or.inr ⟨by omega, z2, z3⟩
theorem X2_phasesWith_eq {v : SX2} {g : Gr} (h : PG v g) {N : Nat} (hN : 9 ≤ N) {d : Nat} (hd : d < 32) : ∃ m, fX2_phasesWith N v (nI d) = some m ∧ ∀ q, bt m q = true ↔ (q < gN g ∧ grn g d q = true) := by
  have h8 := h.1
  obtain ⟨m, h1, h2⟩ := X2_phasesWith_L h N hd (gN g) 0 N 0 (by omega) (by omega)
  refine ⟨m, ?_, fun q => ?_⟩
  · unfold fX2_phasesWith
    rw [show (0 : Int32) = nI 0 from rfl] at h1 ⊢
    rw [h1]; rfl
  · rw [h2 q, bt_0]
    constructor
    · rintro (z | ⟨-, z⟩)
      · cases z
      · exact z
    · intro z; exact Or.inr ⟨Nat.zero_le _, z⟩
theorem bt_all {n : Nat} (h : n ≤ 8) (q : Nat) : bt (((1 : Int32) <<< (nI n &&& 31)) - 1) q = decide (q < n) := by
  by_cases hq : q < 32
  · have : ∀ (n : Fin 9) (q : Fin 32), bt (((1 : Int32) <<< (nI n.val &&& 31)) - 1) q.val = decide (q.val < n.val) := by decide +kernel
    exact this ⟨n, by omega⟩ ⟨q, hq⟩
  · rw [bt_ge (by omega)]
    have : ¬ q < n := by omega
    simp [this]
def leadM (v : SX3) (x3 x4 : Int32) (p : Nat) : Int32 := if nI p = x3 then v.1 p ||| ((1 : Int32) <<< (x4 &&& 31)) else v.1 p
theorem X3_coming_in {v : SX3} {v1 : SX2} {g : Gr} (h : PG v1 g) (N : Nat) (x3 x4 a b : Int32) : ∀ (k i fuel : Nat) (m : Int32), i + k = gN g → k < fuel → fX3_comingWith_L44 N v v1 x3 x4 a b fuel m (nI i) = some (cloIn (leadM v x3 x4) k i m) := by
  have h8 := h.1
  intro k
  induction k with
  | zero =>
    intro i fuel m e1 e2
    obtain ⟨f, rfl⟩ : ∃ f, fuel = f + 1 := ⟨fuel - 1, by omega⟩
    rw [fX3_comingWith_L44, h.2.1, if_pos (nI_le (by omega) (by omega))]
    rfl
  | succ k ih =>
    intro i fuel m e1 e2
    obtain ⟨f, rfl⟩ : ∃ f, fuel = f + 1 := ⟨fuel - 1, by omega⟩
    rw [fX3_comingWith_L44, h.2.1, if_neg (fun z => by rw [nI_leI (by omega) (by omega)] at z; omega), X7_has_eq N _ (by omega), Option.bind_some, nI_1, rowAt_nI (by omega) (by decide)]
    unfold cloIn
    cases hb : bt m i
    · rw [if_pos b2i_f, if_neg (by decide)]
      exact ih (i + 1) f m (by omega) (by omega)
    · rw [if_neg b2i_t, if_pos rfl]
      unfold leadM
      by_cases hx : nI i = x3
      · rw [if_pos hx, if_pos hx]
        exact ih (i + 1) f _ (by omega) (by omega)
      · rw [if_neg hx, if_neg hx]
        exact ih (i + 1) f _ (by omega) (by omega)
theorem X3_coming_out {v : SX3} {v1 : SX2} {g : Gr} (h : PG v1 g) {N : Nat} (hN : 9 ≤ N) (x3 x4 : Int32) : ∀ (k i fuel : Nat) (m : Int32) (fl : Bool), i + k = gN g → k < fuel → fX3_comingWith_L23 N v v1 x3 x4 fuel m (b2i fl) (nI i) = some (cloOut (leadM v x3 x4) (gN g) k m fl) := by
  have h8 := h.1
  intro k
  induction k with
  | zero =>
    intro i fuel m fl e1 e2
    obtain ⟨f, rfl⟩ : ∃ f, fuel = f + 1 := ⟨fuel - 1, by omega⟩
    rw [fX3_comingWith_L23, h.2.1, if_pos (nI_le (by omega) (by omega))]
    rfl
  | succ k ih =>
    intro i fuel m fl e1 e2
    obtain ⟨f, rfl⟩ : ∃ f, fuel = f + 1 := ⟨fuel - 1, by omega⟩
    rw [fX3_comingWith_L23, h.2.1, if_neg (fun z => by rw [nI_leI (by omega) (by omega)] at z; omega)]
    cases fl
    · rw [if_pos b2i_f]
      rfl
    · rw [if_neg b2i_t]
      have hin := X3_coming_in (v := v) h N x3 x4 (nI i) m (gN g) 0 N m (by omega) (by omega)
      have hin' : fX3_comingWith_L44 N v v1 x3 x4 (nI i) m N m 0 = some (cloIn (leadM v x3 x4) (gN g) 0 m) := hin
      rw [hin', Option.bind_some, nI_1]
      show _ = some (cloOut (leadM v x3 x4) (gN g) k (cloIn (leadM v x3 x4) (gN g) 0 m) (decide (¬ cloIn (leadM v x3 x4) (gN g) 0 m = m)))
      by_cases he : cloIn (leadM v x3 x4) (gN g) 0 m = m
      · rw [if_pos he, decide_eq_false (fun z => z he)]
        exact ih (i + 1) f _ false (by omega) (by omega)
      · rw [if_neg he, decide_eq_true he]
        exact ih (i + 1) f _ true (by omega) (by omega)
/-- all rules' goals, and one rule more from x3 to x4 -/
def AllE (g : Gr) (x3 : Int32) (t : Nat) (p q : Nat) : Prop := (∃ r, r < gR g p ∧ gO g p r = q) ∨ (nI p = x3 ∧ q = t)
def LeadS (v : SX3) (g : Gr) : Prop := ∀ p, p < gN g → ∀ q, bt (v.1 p) q = true ↔ ∃ r, r < gR g p ∧ gO g p r = q
theorem lead_add {v : SX3} {v1 : SX2} {g : Gr} (h : PG v1 g) (hL : LeadS v g) {x3 : Int32} {t : Nat} (ht : x3 = -1 ∨ t < gN g) (x4 : Int32) (hx : x3 = -1 ∨ x4 = nI t) : AddS (gN g) (AllE g x3 t) (leadM v x3 x4) := by
  have h8 := h.1
  intro p hp q
  have hlt : ∀ r, r < gR g p → gO g p r < gN g := fun r hr => ((h.2.2 p hp).2.2.2 r hr).2.1
  have hne : ¬ nI p = -1 := fun z => nI_pos (show p < 2 ^ 31 by omega) (by rw [z]; decide)
  unfold leadM AllE
  by_cases hpx : nI p = x3
  · rcases ht with rfl | ht
    · exact absurd hpx hne
    rcases hx with rfl | rfl
    · exact absurd hpx hne
    rw [if_pos hpx, bt_setk (by omega), Bool.or_eq_true, hL p hp q, decide_eq_true_eq]
    constructor
    · rintro (⟨r, r1, r2⟩ | rfl)
      · exact ⟨by rw [← r2]; exact hlt r r1, Or.inl ⟨r, r1, r2⟩⟩
      · exact ⟨ht, Or.inr ⟨hpx, rfl⟩⟩
    · rintro ⟨-, z | ⟨-, z⟩⟩
      · exact Or.inl z
      · exact Or.inr z
  · rw [if_neg hpx, hL p hp q]
    constructor
    · rintro ⟨r, r1, r2⟩
      exact ⟨by rw [← r2]; exact hlt r r1, Or.inl ⟨r, r1, r2⟩⟩
    · rintro ⟨-, z | ⟨z, -⟩⟩
      · exact z
      · exact absurd z hpx
/-- the phases that can come -/
def Cmg (g : Gr) (x3 : Int32) (t s : Nat) (q : Nat) : Prop := s < gN g ∧ ∃ k, Way (gN g) (AllE g x3 t) noG k s q
theorem X3_comingWith_eq {v : SX3} {v1 : SX2} {g : Gr} (h : PG v1 g) (hL : LeadS v g) {N : Nat} (hN : 9 ≤ N) {s : Nat} (hs : s < 2 ^ 31) {x3 : Int32} {t : Nat} (ht : x3 = -1 ∨ t < gN g) (x4 : Int32) (hx : x3 = -1 ∨ x4 = nI t) : ∃ m, fX3_comingWith N v v1 (nI s) x3 x4 = some m ∧ ∀ q, bt m q = true ↔ Cmg g x3 t s q := by
  have h8 := h.1
  have hA := lead_add h hL ht x4 hx
  unfold fX3_comingWith
  by_cases hp : s < gN g
  · have e1 : fX2_hasPhase N v1 (nI s) = some 1 := by rw [X2_hasPhase_eq h, if_pos ⟨s, hp, rfl⟩]
    rw [e1, Option.bind_some, if_neg (by decide)]
    have ho := X3_coming_out (v := v) h hN x3 x4 (gN g) 0 N ((1 : Int32) <<< (nI s &&& 31)) true (by omega) (by omega)
    have ho' : fX3_comingWith_L23 N v v1 x3 x4 N ((1 : Int32) <<< (nI s &&& 31)) 1 0 = _ := ho
    rw [ho', Option.bind_some]
    refine ⟨_, rfl, fun q => ?_⟩
    have hb : ∀ q, bt ((1 : Int32) <<< (nI s &&& 31)) q = true ↔ q = s := fun q => by rw [bt_shl1 (by omega), decide_eq_true_eq]
    have hc := cloOut_spec hA (m0 := (1 : Int32) <<< (nI s &&& 31)) (gN g) 0 _ true (by omega) (fun q hq => by rw [hb] at hq; omega) (fun q hq => ⟨q, 0, hq, rfl⟩) (fun q hq => hq) (Or.inr ⟨rfl, Nat.zero_le _⟩)
    rw [hc q]
    constructor
    · rintro ⟨s', k, h1, h2⟩
      rw [hb] at h1
      subst h1
      exact ⟨hp, k, h2⟩
    · rintro ⟨-, k, h2⟩
      exact ⟨s, k, (hb s).mpr rfl, h2⟩
  · have e1 : fX2_hasPhase N v1 (nI s) = some 0 := by rw [X2_hasPhase_eq h, if_neg (fun ⟨p, hp1, e⟩ => by rw [nI_eq hs (by omega)] at e; omega)]
    rw [e1, Option.bind_some, if_pos rfl]
    have ho := X3_coming_out (v := v) h hN x3 x4 (gN g) 0 N 0 true (by omega) (by omega)
    have ho' : fX3_comingWith_L23 N v v1 x3 x4 N 0 1 0 = _ := ho
    rw [ho', Option.bind_some]
    refine ⟨_, rfl, fun q => ?_⟩
    have hc := cloOut_spec hA (m0 := 0) (gN g) 0 0 true (by omega) (fun q hq => by rw [bt_0] at hq; cases hq) (fun q hq => ⟨q, 0, hq, rfl⟩) (fun q hq => hq) (Or.inr ⟨rfl, Nat.zero_le _⟩)
    rw [hc q]
    constructor
    · rintro ⟨s', k, h1, h2⟩
      rw [bt_0] at h1; cases h1
    · rintro ⟨z, -⟩
      exact absurd z hp
/-- the ways of a direction, with one rule first from x3 to t (asked for by the direction) -/
def HE (g : Gr) (d : Nat) (x3 : Int32) (t : Nat) (p q : Nat) : Prop := (nI p = x3 ∧ q = t) ∨ (¬ nI p = x3 ∧ Edg g d p q)
def HS (g : Gr) (d : Nat) (x3 : Int32) (p : Nat) : Prop := ¬ nI p = x3 ∧ sty g d p = true
def GN (g : Gr) (d p : Nat) : Prop := grn g d p = true
def WayS (v : SX3) (g : Gr) (d : Nat) : Prop := ∀ p, p < gN g → ∀ q, bt (v.2.1 (8 * d + p)) q = true ↔ (Edg g d p q ∨ (q = 8 ∧ sty g d p = true))
theorem edg_lt {v1 : SX2} {g : Gr} (h : PG v1 g) {d p q : Nat} (hp : p < gN g) (he : Edg g d p q) : q < gN g := by
  obtain ⟨r, r1, -, r3⟩ := he
  rw [← r3]
  exact ((h.2.2 p hp).2.2.2 r r1).2.1
theorem out_S {v : SX3} {v1 : SX2} {g : Gr} (h : PG v1 g) {d : Nat} (hW : WayS v g d) {x3 : Int32} {t : Nat} (ht : x3 = -1 ∨ t < gN g) (x4 : Int32) (hx : x3 = -1 ∨ x4 = nI t) : OutS (gN g) (HE g d x3 t) (HS g d x3) (outM v x3 x4 d) := by
  have h8 := h.1
  intro p hp q
  have hne : ¬ nI p = -1 := fun z => nI_pos (show p < 2 ^ 31 by omega) (by rw [z]; decide)
  unfold outM HE HS
  by_cases hpx : nI p = x3
  · rcases ht with rfl | ht
    · exact absurd hpx hne
    rcases hx with rfl | rfl
    · exact absurd hpx hne
    rw [if_pos hpx, bt_shl1 (by omega), decide_eq_true_eq]
    constructor
    · rintro rfl
      exact Or.inl ⟨ht, Or.inl ⟨hpx, rfl⟩⟩
    · rintro (⟨-, ⟨-, z⟩ | ⟨z, -⟩⟩ | ⟨-, z, -⟩)
      · exact z
      · exact absurd hpx z
      · exact absurd hpx z
  · rw [if_neg hpx, hW p hp q]
    constructor
    · rintro (z | ⟨z1, z2⟩)
      · exact Or.inl ⟨edg_lt h hp z, Or.inr ⟨hpx, z⟩⟩
      · exact Or.inr ⟨z1, hpx, z2⟩
    · rintro (⟨-, ⟨z, -⟩ | ⟨-, z⟩⟩ | ⟨z1, -, z2⟩)
      · exact absurd z hpx
      · exact Or.inl z
      · exact Or.inr ⟨z1, z2⟩
theorem X3_starvingWith_eq {v : SX3} {v1 : SX2} {g : Gr} (h : PG v1 g) {N : Nat} (hN : 9 ≤ N) {d : Nat} (hd : d < 6) (hW : WayS v g d) {x3 : Int32} {t : Nat} (ht : x3 = -1 ∨ t < gN g) (x4 : Int32) (hx : x3 = -1 ∨ x4 = nI t) :
    ∃ m, fX3_starvingWith N v v1 (nI d) x3 x4 = some m ∧ ∀ q, bt m q = true ↔ (q < gN g ∧ Stv (gN g) (HE g d x3 t) (HS g d x3) (GN g d) q) := by
  have h8 := h.1
  obtain ⟨m0, h1, h2⟩ := X2_phasesWith_eq h hN (show d < 32 by omega)
  obtain ⟨m, h3, h4⟩ := SW_out (gn := GN g d) h hN hd (out_S h hW ht x4 hx) (((1 : Int32) <<< (nI (gN g) &&& 31)) - 1) (gN g) 0 N m0 1 (by omega) (by omega) (fun q hq => ((h2 q).mp hq).1) (fun q hq => ⟨0, ((h2 q).mp hq).2⟩) (fun q hq hg => (h2 q).mpr ⟨hq, hg⟩) (Or.inr ⟨rfl, Nat.zero_le _⟩)
  have h3' : fX3_starvingWith_L23 N v v1 (nI d) x3 x4 (((1 : Int32) <<< (nI (gN g) &&& 31)) - 1) N m0 1 0 = some m := h3
  refine ⟨_, by unfold fX3_starvingWith; rw [h1, Option.bind_some, h.2.1, h3', Option.bind_some], fun q => ?_⟩
  rw [bt_and, Bool.and_eq_true, bt_all h8, decide_eq_true_eq]
  constructor
  · rintro ⟨a, b⟩
    refine ⟨a, (stv_iff a).mpr (fun z => ?_)⟩
    rw [bt_not _ (by omega), (h4.2 q a).mpr z] at b
    cases b
  · rintro ⟨a, b⟩
    refine ⟨a, ?_⟩
    rw [bt_not _ (by omega)]
    cases hm : bt m q
    · rfl
    · exact absurd ((h4.2 q a).mp hm) ((stv_iff a).mp b)
theorem must_b2i {α : Type} (b : Bool) (k : Option α) : must (decide (b2i b = 0 ∨ b2i b = 1)) k = k := by
  cases b
  · rw [decide_eq_true (show b2i false = 0 ∨ b2i false = 1 from Or.inl rfl)]; rfl
  · rw [decide_eq_true (show b2i true = 0 ∨ b2i true = 1 from Or.inr rfl)]; rfl
/-! goesOn -/
theorem and256 (x : Int32) : (x &&& 256) = 0 ↔ bt x 8 = false := by
  constructor
  · intro h
    have h1 : bt (x &&& 256) 8 = false := by rw [h, bt_0]
    rw [bt_and, bt_256] at h1
    simpa using h1
  · intro h
    apply bt_ext
    intro q _
    rw [bt_and, bt_256, bt_0]
    by_cases hq : q = 8
    · subst hq; rw [h]; rfl
    · simp [hq]
/-- without the rule more: the ways themselves -/
def E0 (g : Gr) (d : Nat) : Nat → Nat → Prop := Edg g d
def S0 (g : Gr) (d p : Nat) : Prop := sty g d p = true
