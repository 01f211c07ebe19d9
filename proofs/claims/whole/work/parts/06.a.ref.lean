/-! the reference's row, read as a graph -/
def ZG (z : Nat → Int32) (g : Gr) : Prop := gN g ≤ 8 ∧ z 0 = nI (gN g) ∧ ∀ p, p < gN g → z (31 + 14 * p) = gG g p ∧ z (34 + 14 * p) = nI (gR g p) ∧ gR g p ≤ 5 ∧ ∀ r, r < gR g p → z (35 + 14 * p + 2 * r) = nI (gO g p r) ∧ gO g p r < gN g ∧ z (36 + 14 * p + 2 * r) = gA g p r
theorem chk_nI {α : Type} {i n : Nat} (h : i < n) (hn : n < 2 ^ 31) (k : Option α) : chk (nI i) n k = k := by
  unfold chk
  rw [nI_clamp (by omega), if_neg (fun q => q.elim (nI_pos (by omega)) (by omega))]
theorem chk0 {α : Type} (k : Option α) : chk 0 143 k = k := chk_nI (i := 0) (by decide) (by decide) k
theorem chk2 {α : Type} (k : Option α) : chk 2 143 k = k := chk_nI (i := 2) (by decide) (by decide) k
theorem tn0 : (0 : Int32).toNatClampNeg = 0 := nI_clamp (n := 0) (by decide)
theorem tn2 : (2 : Int32).toNatClampNeg = 2 := nI_clamp (n := 2) (by decide)
theorem ix14 (p w : Nat) : ((31 : Int32) + ((14 : Int32) * nI p)) + nI w = nI (31 + 14 * p + w) := by
  rw [show (31 : Int32) = nI 31 from rfl, show (14 : Int32) = nI 14 from rfl, nI_mul, nI_add, nI_add]
theorem X8_of_eq (N : Nat) (v : SX8) {p w : Nat} (hp : p < 8) (hw : w < 14) : fX8_of N v (nI p) (nI w) = some (v.2.1 (31 + 14 * p + w)) := by
  unfold fX8_of
  rw [ix14, chk_nI (by omega) (by decide), nI_clamp (by omega)]
section RF
variable {v : SX8} {g : Gr}
theorem X8_greens_eq (h : ZG v.2.1 g) (N : Nat) {p : Nat} (hp : p < gN g) : fX8_greens N v (nI p) = some (gG g p) := by
  have h8 := h.1
  unfold fX8_greens
  rw [show (0 : Int32) = nI 0 from rfl, X8_of_eq N v (by omega) (by omega), Option.bind_some, Nat.add_zero, (h.2.2 p hp).1]
theorem X8_rules_eq (h : ZG v.2.1 g) (N : Nat) {p : Nat} (hp : p < gN g) : fX8_rules N v (nI p) = some (nI (gR g p)) := by
  have h8 := h.1
  unfold fX8_rules
  rw [show (3 : Int32) = nI 3 from rfl, X8_of_eq N v (by omega) (by omega), Option.bind_some, show 31 + 14 * p + 3 = 34 + 14 * p by omega, (h.2.2 p hp).2.1]
theorem ix2 (r : Nat) : (4 : Int32) + ((2 : Int32) * nI r) = nI (4 + 2 * r) := by
  rw [show (4 : Int32) = nI 4 from rfl, show (2 : Int32) = nI 2 from rfl, nI_mul, nI_add]
theorem X8_goal_eq (h : ZG v.2.1 g) (N : Nat) {p r : Nat} (hp : p < gN g) (hr : r < gR g p) : fX8_goal N v (nI p) (nI r) = some (nI (gO g p r)) := by
  have h8 := h.1
  have h5 := (h.2.2 p hp).2.2.1
  unfold fX8_goal
  rw [ix2, X8_of_eq N v (by omega) (by omega), Option.bind_some, show 31 + 14 * p + (4 + 2 * r) = 35 + 14 * p + 2 * r by omega, ((h.2.2 p hp).2.2.2 r hr).1]
theorem X8_askers_eq (h : ZG v.2.1 g) (N : Nat) {p r : Nat} (hp : p < gN g) (hr : r < gR g p) : fX8_askers N v (nI p) (nI r) = some (gA g p r) := by
  have h8 := h.1
  have h5 := (h.2.2 p hp).2.2.1
  unfold fX8_askers
  rw [ix2, nI_1, X8_of_eq N v (by omega) (by omega), Option.bind_some, show 31 + 14 * p + (4 + 2 * r + 1) = 36 + 14 * p + 2 * r by omega, ((h.2.2 p hp).2.2.2 r hr).2.2]
theorem ite_bit (x : Int32) {k : Nat} (hk : k < 32) {α : Type} (a b : α) : (if ((x >>> (nI k &&& 31)) &&& 1) = 1 then a else b) = if bt x k = true then a else b := by
  rw [shr_bit x hk]
  cases bt x k
  · rw [if_neg (by decide), if_neg (by decide)]
  · rw [if_pos (by decide), if_pos rfl]
theorem X8_hasGreen_eq (h : ZG v.2.1 g) (N : Nat) {p d : Nat} (hp : p < gN g) (hd : d < 32) : fX8_hasGreen N v (nI p) (nI d) = some (b2i (grn g d p)) := by
  unfold fX8_hasGreen
  rw [X8_greens_eq h N hp, Option.bind_some, ite_bit _ hd]
  unfold grn
  cases bt (gG g p) d <;> rfl
theorem X8_isSure_eq (h : ZG v.2.1 g) (N : Nat) {p r d : Nat} (hp : p < gN g) (hr : r < gR g p) (hd : d < 32) : fX8_isSure N v (nI p) (nI r) (nI d) = some (b2i (sur g d p r)) := by
  unfold fX8_isSure
  rw [X8_askers_eq h N hp hr, Option.bind_some, Option.bind_some, ite_bit _ hd]
  unfold sur
  by_cases ha : gA g p r = 0
  · rw [if_pos ha, decide_eq_true ha]; rfl
  · rw [if_neg ha, decide_eq_false ha, Bool.false_or]
    cases bt (gA g p r) d <;> rfl
theorem X8_follow_L (h : ZG v.2.1 g) (N : Nat) {p r d : Nat} (hp : p < gN g) (hr : r < gR g p) (hd : d < 32) : ∀ (k i fuel : Nat), i + k = r → k < fuel → fX8_canFollow_L9 N v (nI p) (nI r) (nI d) fuel (ahd g p i) (b2i (fre g d p i)) (nI i) = some (ahd g p r, b2i (fre g d p r)) := by
  have h5 := (h.2.2 p hp).2.2.1
  intro k
  induction k with
  | zero =>
    intro i fuel e1 e2
    obtain ⟨f, rfl⟩ : ∃ f, fuel = f + 1 := ⟨fuel - 1, by omega⟩
    have hi : i = r := by omega
    subst hi
    rw [fX8_canFollow_L9, if_pos (Int32.le_refl _)]
  | succ k ih =>
    intro i fuel e1 e2
    obtain ⟨f, rfl⟩ : ∃ f, fuel = f + 1 := ⟨fuel - 1, by omega⟩
    rw [fX8_canFollow_L9, if_neg (fun z => by rw [nI_leI (by omega) (by omega)] at z; omega), X8_askers_eq h N hp (show i < gR g p by omega), X8_isSure_eq h N hp (show i < gR g p by omega) hd]
    have nxt := ih (i + 1) f (by omega) (by omega)
    have ea : ahd g p (i + 1) = ahd g p i ||| gA g p i := rfl
    have ef : fre g d p (i + 1) = (fre g d p i && !sur g d p i) := rfl
    rw [ea, ef] at nxt
    simp only [Option.bind_some, nI_1]
    cases hf : fre g d p i
    · rw [hf] at nxt
      rw [if_pos b2i_f]
      exact nxt
    · rw [hf] at nxt
      rw [if_neg b2i_t]
      cases hs : sur g d p i
      · rw [hs] at nxt
        rw [if_pos b2i_f]
        exact nxt
      · rw [hs] at nxt
        rw [if_neg b2i_t]
        exact nxt
theorem X8_canFollow_eq (h : ZG v.2.1 g) {N : Nat} (hN : 9 ≤ N) {p r d : Nat} (hp : p < gN g) (hr : r < gR g p) (hd : d < 32) : fX8_canFollow N v (nI p) (nI r) (nI d) = some (b2i (fol g d p r)) := by
  have h5 := (h.2.2 p hp).2.2.1
  have hl := X8_follow_L h N hp hr hd r 0 N (by omega) (by omega)
  have hl' : fX8_canFollow_L9 N v (nI p) (nI r) (nI d) N 0 1 0 = _ := hl
  unfold fX8_canFollow
  rw [hl', Option.bind_some]
  dsimp only
  unfold fol
  cases hf : fre g d p r
  · rw [if_pos b2i_f]; rfl
  · rw [if_neg b2i_t, X8_isSure_eq h N hp hr hd, Option.bind_some]
    cases hs : sur g d p r
    · rw [if_pos b2i_f, X8_askers_eq h N hp hr, Option.bind_some]
      by_cases hm : (gA g p r &&& (ahd g p r ^^^ (-1))) = 0
      · rw [if_pos hm, decide_eq_false (fun z => z hm)]; rfl
      · rw [if_neg hm, decide_eq_true hm]; rfl
    · rw [if_neg b2i_t]; rfl
theorem X8_stay_L (h : ZG v.2.1 g) (N : Nat) {p d : Nat} (hp : p < gN g) (hd : d < 32) : ∀ (k i fuel : Nat), i + k = gR g p → k < fuel → fX8_canStay_L5 N v (nI p) (nI d) fuel (b2i (fre g d p i)) (nI i) = some (b2i (sty g d p)) := by
  have h5 := (h.2.2 p hp).2.2.1
  intro k
  induction k with
  | zero =>
    intro i fuel e1 e2
    obtain ⟨f, rfl⟩ : ∃ f, fuel = f + 1 := ⟨fuel - 1, by omega⟩
    have hi : i = gR g p := by omega
    subst hi
    rw [fX8_canStay_L5, X8_rules_eq h N hp, Option.bind_some, if_pos (Int32.le_refl _)]
    rfl
  | succ k ih =>
    intro i fuel e1 e2
    obtain ⟨f, rfl⟩ : ∃ f, fuel = f + 1 := ⟨fuel - 1, by omega⟩
    rw [fX8_canStay_L5, X8_rules_eq h N hp, Option.bind_some, if_neg (fun z => by rw [nI_leI (by omega) (by omega)] at z; omega), X8_isSure_eq h N hp (show i < gR g p by omega) hd]
    have nxt := ih (i + 1) f (by omega) (by omega)
    have ef : fre g d p (i + 1) = (fre g d p i && !sur g d p i) := rfl
    rw [ef] at nxt
    simp only [Option.bind_some, nI_1]
    cases hf : fre g d p i
    · rw [hf] at nxt
      rw [if_pos b2i_f]
      exact nxt
    · rw [hf] at nxt
      rw [if_neg b2i_t]
      cases hs : sur g d p i
      · rw [hs] at nxt
        rw [if_pos b2i_f]
        exact nxt
      · rw [hs] at nxt
        rw [if_neg b2i_t]
        exact nxt
theorem X8_canStay_eq (h : ZG v.2.1 g) {N : Nat} (hN : 9 ≤ N) {p d : Nat} (hp : p < gN g) (hd : d < 32) : fX8_canStay N v (nI p) (nI d) = some (b2i (sty g d p)) := by
  have h5 := (h.2.2 p hp).2.2.1
  have hl := X8_stay_L h N hp hd (gR g p) 0 N (by omega) (by omega)
  have hl' : fX8_canStay_L5 N v (nI p) (nI d) N 1 0 = _ := hl
  unfold fX8_canStay
  rw [hl', Option.bind_some, must_b2i]
/-- the goals of a phase's rules from the rule i on -/
def ldm (g : Gr) (p : Nat) : Nat → Nat → Int32
  | 0, _ => 0
  | k + 1, i => ((1 : Int32) <<< (nI (gO g p i) &&& 31)) ||| ldm g p k (i + 1)
theorem or_assoc3 (a b c : Int32) : (a ||| b) ||| c = a ||| (b ||| c) := Int32.or_assoc a b c
theorem ldm_bt {p : Nat} (h : ∀ r, r < gR g p → gO g p r < 32) : ∀ (k i : Nat), i + k = gR g p → ∀ q, bt (ldm g p k i) q = true ↔ ∃ r, i ≤ r ∧ r < gR g p ∧ gO g p r = q := by
  intro k
  induction k with
  | zero =>
    intro i e q
    unfold ldm
    rw [bt_0]
    constructor
    · intro z; cases z
    · rintro ⟨r, r1, r2, -⟩; omega
  | succ k ih =>
    intro i e q
    unfold ldm
    rw [bt_or, Bool.or_eq_true, bt_shl1 (h i (by omega)), decide_eq_true_eq, ih (i + 1) (by omega) q]
    constructor
    · rintro (rfl | ⟨r, r1, r2, r3⟩)
      · exact ⟨i, Nat.le_refl _, by omega, rfl⟩
      · exact ⟨r, by omega, r2, r3⟩
    · rintro ⟨r, r1, r2, r3⟩
      by_cases hr : r = i
      · subst hr; exact Or.inl r3.symm
      · exact Or.inr ⟨r, by omega, r2, r3⟩
theorem X8_com_L46 (h : ZG v.2.1 g) (N : Nat) (a : Int32) {p : Nat} (hp : p < gN g) : ∀ (k i fuel : Nat) (m : Int32), i + k = gR g p → k < fuel → bt m p = true → fX8_comers_L46 N v a (nI p) fuel m (nI i) = some (m ||| ldm g p k i) := by
  have h8 := h.1
  obtain ⟨-, -, h5, h7⟩ := h.2.2 p hp
  intro k
  induction k with
  | zero =>
    intro i fuel m e1 e2 e3
    obtain ⟨f, rfl⟩ : ∃ f, fuel = f + 1 := ⟨fuel - 1, by omega⟩
    rw [fX8_comers_L46, X8_rules_eq h N hp, Option.bind_some, if_pos (nI_le (by omega) (by omega))]
    unfold ldm
    rw [Int32.or_zero]
  | succ k ih =>
    intro i fuel m e1 e2 e3
    obtain ⟨f, rfl⟩ : ∃ f, fuel = f + 1 := ⟨fuel - 1, by omega⟩
    rw [fX8_comers_L46, X8_rules_eq h N hp, Option.bind_some, if_neg (fun z => by rw [nI_leI (by omega) (by omega)] at z; omega), ite_bit _ (by omega), if_pos e3, X8_goal_eq h N hp (show i < gR g p by omega), Option.bind_some, nI_1, ih (i + 1) f _ (by omega) (by omega) (by rw [bt_or, e3]; rfl)]
    exact congrArg some (or_assoc3 _ _ _)
theorem X8_com_L33 (h : ZG v.2.1 g) {N : Nat} (hN : 9 ≤ N) (a : Int32) : ∀ (k i fuel : Nat) (m : Int32), i + k = gN g → k < fuel → fX8_comers_L33 N v a fuel m (nI i) = some (cloIn (fun p => ldm g p (gR g p) 0) k i m) := by
  have h8 := h.1
  intro k
  induction k with
  | zero =>
    intro i fuel m e1 e2
    obtain ⟨f, rfl⟩ : ∃ f, fuel = f + 1 := ⟨fuel - 1, by omega⟩
    rw [fX8_comers_L33, chk0, tn0, h.2.1, if_pos (nI_le (by omega) (by omega))]
    rfl
  | succ k ih =>
    intro i fuel m e1 e2
    obtain ⟨f, rfl⟩ : ∃ f, fuel = f + 1 := ⟨fuel - 1, by omega⟩
    have hi : i < gN g := by omega
    have h5 := (h.2.2 i hi).2.2.1
    rw [fX8_comers_L33, chk0, tn0, h.2.1, if_neg (fun z => by rw [nI_leI (by omega) (by omega)] at z; omega)]
    unfold cloIn
    have inner : fX8_comers_L46 N v a (nI i) N m 0 = some (if bt m i then m ||| ldm g i (gR g i) 0 else m) := by
      cases hb : bt m i
      · rw [if_neg (by decide)]
        obtain ⟨f2, rfl⟩ : ∃ f2, N = f2 + 1 := ⟨N - 1, by omega⟩
        rw [fX8_comers_L46, X8_rules_eq h _ hi, Option.bind_some]
        by_cases hz : gR g i = 0
        · rw [if_pos (by rw [hz]; decide)]
        · rw [if_neg (fun z => by rw [show (0 : Int32) = nI 0 from rfl, nI_leI (by omega) (by omega)] at z; omega), ite_bit _ (by omega), hb, if_neg (by decide)]
      · rw [if_pos rfl]
        exact X8_com_L46 h N a hi (gR g i) 0 N m (by omega) (by omega) hb
    rw [inner, Option.bind_some, nI_1]
    exact ih (i + 1) f _ (by omega) (by omega)
theorem X8_com_L25 (h : ZG v.2.1 g) {N : Nat} (hN : 9 ≤ N) : ∀ (k i fuel : Nat) (m : Int32), i + k = 8 → k < fuel → fX8_comers_L25 N v fuel m (nI i) = some (cloIt (fun p => ldm g p (gR g p) 0) (gN g) k m) := by
  have h8 := h.1
  intro k
  induction k with
  | zero =>
    intro i fuel m e1 e2
    obtain ⟨f, rfl⟩ : ∃ f, fuel = f + 1 := ⟨fuel - 1, by omega⟩
    rw [fX8_comers_L25, if_pos (show (8 : Int32) ≤ nI i from nI_le (a := 8) (by omega) (by omega))]
    rfl
  | succ k ih =>
    intro i fuel m e1 e2
    obtain ⟨f, rfl⟩ : ∃ f, fuel = f + 1 := ⟨fuel - 1, by omega⟩
    rw [fX8_comers_L25, if_neg (fun z => by rw [show (8 : Int32) = nI 8 from rfl, nI_leI (by omega) (by omega)] at z; omega)]
    have hi := X8_com_L33 h hN (nI i) (gN g) 0 N m (by omega) (by omega)
    have hi' : fX8_comers_L33 N v (nI i) N m 0 = _ := hi
    rw [hi', Option.bind_some, nI_1]
    exact ih (i + 1) f _ (by omega) (by omega)
/-- where the reference is: nowhere without phases -/
def AtS (z : Nat → Int32) (g : Gr) (s : Nat) : Prop := (gN g = 0 ∧ z 2 = -1 ∧ s = 0) ∨ (s < gN g ∧ z 2 = nI s)
theorem X8_comers_eq (h : ZG v.2.1 g) {N : Nat} (hN : 9 ≤ N) {s : Nat} (hs : AtS v.2.1 g s) : ∃ m, fX8_comers N v = some m ∧ ∀ q, bt m q = true ↔ Cmg g (-1) 0 s q := by
  have h8 := h.1
  have hA : AddS (gN g) (AllE g (-1) 0) (fun p => ldm g p (gR g p) 0) := by
    intro p hp q
    have hlt : ∀ r, r < gR g p → gO g p r < gN g := fun r hr => ((h.2.2 p hp).2.2.2 r hr).2.1
    have hne : ¬ nI p = -1 := fun z => nI_pos (show p < 2 ^ 31 by omega) (by rw [z]; decide)
    show bt (ldm g p (gR g p) 0) q = true ↔ _
    rw [ldm_bt (fun r hr => by have := hlt r hr; omega) (gR g p) 0 (by omega)]
    unfold AllE
    constructor
    · rintro ⟨r, -, r2, r3⟩
      exact ⟨by rw [← r3]; exact hlt r r2, Or.inl ⟨r, r2, r3⟩⟩
    · rintro ⟨-, ⟨r, r2, r3⟩ | ⟨z, -⟩⟩
      · exact ⟨r, Nat.zero_le _, r2, r3⟩
      · exact absurd z hne
  unfold fX8_comers
  rw [chk2, tn2]
  rcases hs with ⟨h0, h2, rfl⟩ | ⟨h0, h2⟩
  · rw [h2, if_pos rfl]
    have hl := X8_com_L25 h hN 8 0 N 0 (by omega) (by omega)
    have hl' : fX8_comers_L25 N v N 0 0 = _ := hl
    rw [hl', Option.bind_some]
    refine ⟨_, rfl, fun q => ?_⟩
    have hc := cloIt_spec hA (m0 := 0) 8 0 0 (by omega) (fun q hq => by rw [bt_0] at hq; cases hq) (fun q hq => ⟨q, 0, hq, rfl⟩) (fun q hq => hq) (Nat.zero_le _)
    rw [hc q]
    constructor
    · rintro ⟨s', k, h1, -⟩
      rw [bt_0] at h1; cases h1
    · rintro ⟨z, -⟩
      omega
  · rw [h2, if_neg (fun z => nI_pos (show s < 2 ^ 31 by omega) (by rw [z]; decide)), chk2]
    have hl := X8_com_L25 h hN 8 0 N ((1 : Int32) <<< (nI s &&& 31)) (by omega) (by omega)
    have hl' : fX8_comers_L25 N v N ((1 : Int32) <<< (nI s &&& 31)) 0 = _ := hl
    rw [hl', Option.bind_some]
    refine ⟨_, rfl, fun q => ?_⟩
    have hb : ∀ q, bt ((1 : Int32) <<< (nI s &&& 31)) q = true ↔ q = s := fun q => by rw [bt_shl1 (by omega), decide_eq_true_eq]
    have hc := cloIt_spec hA (m0 := (1 : Int32) <<< (nI s &&& 31)) 8 0 _ (by omega) (fun q hq => by rw [hb] at hq; omega) (fun q hq => ⟨q, 0, hq, rfl⟩) (fun q hq => hq) (Nat.zero_le _)
    rw [hc q]
    constructor
    · rintro ⟨s', k, h1, hw⟩
      rw [hb] at h1
      subst h1
      exact ⟨h0, k, hw⟩
    · rintro ⟨-, k, h2⟩
      exact ⟨s, k, (hb s).mpr rfl, h2⟩
end RF
