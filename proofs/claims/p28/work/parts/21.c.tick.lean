/-! one tick of the class -/
def pwW (G : Int32) (w : Nat → Int32) (d : Nat) : Int32 := if w d = -1 then -1 else if bt G d = true then -1 else w d + 1
def pwS (G : Int32) (w s : Nat → Int32) (d : Nat) : Int32 := if w d = -1 then s d else if bt G d = true then s d + 1 else s d
def pwL (G : Int32) (w s : Nat → Int32) (d : Nat) : Int32 := if w d = -1 then s d else if bt G d = true then imax (s d) (w d) else s d
theorem pwW_c {G : Int32} {w w2 : Nat → Int32} {d : Nat} (h : w d = w2 d) : pwW G w d = pwW G w2 d := by unfold pwW; simp only [h]
theorem pwS_c {G : Int32} {w w2 s s2 : Nat → Int32} {d : Nat} (h : w d = w2 d) (k : s d = s2 d) : pwS G w s d = pwS G w2 s2 d := by unfold pwS; simp only [h, k]
theorem pwL_c {G : Int32} {w w2 s s2 : Nat → Int32} {d : Nat} (h : w d = w2 d) (k : s d = s2 d) : pwL G w s d = pwL G w2 s2 d := by unfold pwL; simp only [h, k]
theorem pass_L (N : Nat) (G : Int32) : ∀ (j i fuel : Nat) (m : SX1), i + j = 6 → j < fuel → ∃ m', fX1_passWaits_L7 N G fuel m (nI i) = some m' ∧ m'.1 = m.1 ∧ m'.2.2.2.2 = m.2.2.2.2 ∧ (∀ d, d < i → m'.2.1 d = m.2.1 d ∧ m'.2.2.1 d = m.2.2.1 d ∧ m'.2.2.2.1 d = m.2.2.2.1 d) ∧ ∀ d, i ≤ d → d < 6 → m'.2.1 d = pwW G m.2.1 d ∧ m'.2.2.1 d = pwS G m.2.1 m.2.2.1 d ∧ m'.2.2.2.1 d = pwL G m.2.1 m.2.2.2.1 d := by
  intro j
  induction j with
  | zero =>
    intro i fuel m e1 e2
    obtain ⟨f, rfl⟩ : ∃ f, fuel = f + 1 := ⟨fuel - 1, by omega⟩
    have hi : i = 6 := by omega
    subst hi
    exact ⟨m, by rw [fX1_passWaits_L7, if_pos (by decide)], rfl, rfl, fun d _ => ⟨rfl, rfl, rfl⟩, fun d h1 h2 => absurd h1 (by omega)⟩
  | succ j ih =>
    intro i fuel m e1 e2
    obtain ⟨f, rfl⟩ : ∃ f, fuel = f + 1 := ⟨fuel - 1, by omega⟩
    have hi : i < 6 := by omega
    rw [fX1_passWaits_L7, if_neg (le6 hi), rowAt_nI hi (by decide), rowAt_nI hi (by decide), rowAt_nI hi (by decide), rowPut_nI hi (by decide), rowPut_nI hi (by decide), rowPut_nI hi (by decide), rowPut_nI hi (by decide), X7_has_eq N G (show i < 32 by omega), Option.bind_some, nI_1]
    by_cases hw : m.2.1 i = -1
    · rw [if_pos hw]
      obtain ⟨m', b1, b2, b3, b4, b5⟩ := ih (i + 1) f m (by omega) (by omega)
      refine ⟨m', b1, b2, b3, fun d hd => b4 d (by omega), fun d h1 h2 => ?_⟩
      by_cases z : d = i
      · subst z
        obtain ⟨c1, c2, c3⟩ := b4 d (by omega)
        unfold pwW pwS pwL
        rw [if_pos hw, if_pos hw, if_pos hw]
        exact ⟨c1.trans hw, c2, c3⟩
      · exact b5 d (by omega) h2
    · rw [if_neg hw]
      cases hG : bt G i
      · rw [if_pos b2i_f]
        obtain ⟨m', b1, b2, b3, b4, b5⟩ := ih (i + 1) f (m.1, upd m.2.1 i (m.2.1 i + 1), m.2.2) (by omega) (by omega)
        refine ⟨m', b1, b2, b3, fun d hd => ?_, fun d h1 h2 => ?_⟩
        · obtain ⟨c1, c2, c3⟩ := b4 d (by omega)
          exact ⟨c1.trans (upd_ne (by omega)), c2, c3⟩
        · by_cases z : d = i
          · subst z
            obtain ⟨c1, c2, c3⟩ := b4 d (by omega)
            unfold pwW pwS pwL
            rw [if_neg hw, if_neg hw, if_neg hw, hG, if_neg (by decide), if_neg (by decide), if_neg (by decide)]
            exact ⟨c1.trans upd_same, c2, c3⟩
          · obtain ⟨c1, c2, c3⟩ := b5 d (by omega) h2
            have e : (upd m.2.1 i (m.2.1 i + 1)) d = m.2.1 d := upd_ne z
            exact ⟨c1.trans (pwW_c e), c2.trans (pwS_c e rfl), c3.trans (pwL_c e rfl)⟩
      · rw [if_neg b2i_t]
        obtain ⟨m', b1, b2, b3, b4, b5⟩ := ih (i + 1) f (m.1, upd m.2.1 i (-1), upd m.2.2.1 i (m.2.2.1 i + 1), upd m.2.2.2.1 i (imax (m.2.2.2.1 i) (m.2.1 i)), m.2.2.2.2) (by omega) (by omega)
        refine ⟨m', b1, b2, b3, fun d hd => ?_, fun d h1 h2 => ?_⟩
        · obtain ⟨c1, c2, c3⟩ := b4 d (by omega)
          exact ⟨c1.trans (upd_ne (by omega)), c2.trans (upd_ne (by omega)), c3.trans (upd_ne (by omega))⟩
        · by_cases z : d = i
          · subst z
            obtain ⟨c1, c2, c3⟩ := b4 d (by omega)
            unfold pwW pwS pwL
            rw [if_neg hw, if_neg hw, if_neg hw, hG, if_pos rfl, if_pos rfl, if_pos rfl]
            exact ⟨c1.trans upd_same, c2.trans upd_same, c3.trans upd_same⟩
          · obtain ⟨c1, c2, c3⟩ := b5 d (by omega) h2
            have e : (upd m.2.1 i (-1)) d = m.2.1 d := upd_ne z
            have e2 : (upd m.2.2.1 i (m.2.2.1 i + 1)) d = m.2.2.1 d := upd_ne z
            have e3 : (upd m.2.2.2.1 i (imax (m.2.2.2.1 i) (m.2.1 i))) d = m.2.2.2.1 d := upd_ne z
            exact ⟨c1.trans (pwW_c e), c2.trans (pwS_c e e2), c3.trans (pwL_c e e3)⟩
/-- where the machine is: phase s, l ticks of clearing left, from f -/
def Now (m : SX1) (g : Gr) (s l f : Nat) : Prop := s < gN g ∧ m.2.2.2.2.2.1 = nI s ∧ l ≤ 5 ∧ m.2.2.2.2.2.2.2.2.1 = nI l ∧ (1 ≤ l → f < gN g ∧ m.2.2.2.2.2.2.1 = nI f)
/-- a rule holds, by the waits w -/
def Hd (g : Gr) (w : Nat → Int32) (s r : Nat) : Prop := gA g s r = 0 ∨ ∃ d, d < 6 ∧ bt (gA g s r) d = true ∧ ¬ w d = -1
def cb (g : Gr) (ct p q : Nat) : Nat := if gG g p = gG g q then 0 else ct
def arS (m m' : SX1) : Prop := ∀ p, p < 8 → m'.2.2.2.2.1 p = m.2.2.2.2.1 p
def arU (m m' : SX1) (q : Nat) : Prop := ∀ p, p < 8 → m'.2.2.2.2.1 p = if p = q then m.2.2.2.2.1 p + 1 else m.2.2.2.2.1 p
/-- what a tick does -/
def TKc (m m' : SX1) (g : Gr) (ho : Nat → Nat) (ct s l f s' l' f' : Nat) : Prop :=
  (2 ≤ l ∧ s' = s ∧ l' = l - 1 ∧ f' = f ∧ arS m m') ∨
  (l = 1 ∧ s' = s ∧ l' = 0 ∧ m'.2.2.2.2.2.2.2.1 = 0 ∧ arU m m' s) ∨
  (l = 0 ∧ s' = s ∧ l' = 0 ∧ m'.2.2.2.2.2.2.2.1 = m.2.2.2.2.2.2.2.1 + 1 ∧ arS m m' ∧ (m.2.2.2.2.2.2.2.1 + 1 < nI (ho s) ∨ (¬ m.2.2.2.2.2.2.2.1 + 1 < nI (ho s) ∧ ∀ r, r < gR g s → ¬ Hd g m'.2.1 s r))) ∨
  (l = 0 ∧ ¬ m.2.2.2.2.2.2.2.1 + 1 < nI (ho s) ∧ ∃ r, r < gR g s ∧ Hd g m'.2.1 s r ∧ (∀ j, j < r → ¬ Hd g m'.2.1 s j) ∧ s' = gO g s r ∧ l' = cb g ct s s' ∧ f' = s ∧ (l' = 0 → m'.2.2.2.2.2.2.2.1 = 0 ∧ arU m m' s') ∧ (1 ≤ l' → arS m m'))
def TK (m m' : SX1) (g : Gr) (ho : Nat → Nat) (ct s l f s' l' f' : Nat) : Prop :=
  m'.1 = m.1 ∧ m'.2.2.2.2.2.2.2.2.2 = m.2.2.2.2.2.2.2.2.2 + 1 ∧ (∀ d, d < 6 → m'.2.1 d = pwW (gnow m) m.2.1 d ∧ m'.2.2.1 d = pwS (gnow m) m.2.1 m.2.2.1 d ∧ m'.2.2.2.1 d = pwL (gnow m) m.2.1 m.2.2.2.1 d) ∧ Now m' g s' l' f' ∧ TKc m m' g ho ct s l f s' l' f'
theorem pl_ne {u : SX2} {g : Gr} (h : PG u g) (hn : 1 ≤ gN g) : ¬ u.2.2.2.2.2.2.1 = 0 := fun z => by
  have h8 := h.1
  rw [h.2.1] at z
  have z2 : nI (gN g) = nI 0 := z
  rw [nI_eq (by omega) (by omega)] at z2; omega
theorem follow_L {m : SX1} {g : Gr} (h : PG m.1 g) (N : Nat) {s : Nat} (hs : s < gN g) (hp : m.2.2.2.2.2.1 = nI s) (x : Int32) : ∀ (j i fuel : Nat), i + j = gR g s → j < fuel → (∀ r, r < i → ¬ (gA g s r = 0 ∨ ¬ gA g s r &&& x = 0)) →
    (∃ r, r < gR g s ∧ (gA g s r = 0 ∨ ¬ gA g s r &&& x = 0) ∧ (∀ q, q < r → ¬ (gA g s q = 0 ∨ ¬ gA g s q &&& x = 0)) ∧ fX1_followRule_L22 N x (nI (gR g s)) fuel m (nI i) = (fX1_leaveFor N m (nI (gO g s r))).bind fun r9 => some (.inl r9)) ∨
    ((∀ r, r < gR g s → ¬ (gA g s r = 0 ∨ ¬ gA g s r &&& x = 0)) ∧ fX1_followRule_L22 N x (nI (gR g s)) fuel m (nI i) = some (.inr m)) := by
  have h4 : gR g s ≤ 4 := (h.2.2 s hs).2.2.1
  intro j
  induction j with
  | zero =>
    intro i fuel e1 e2 hno
    obtain ⟨f, rfl⟩ : ∃ f, fuel = f + 1 := ⟨fuel - 1, by omega⟩
    have hi : i = gR g s := by omega
    subst hi
    exact Or.inr ⟨hno, by rw [fX1_followRule_L22, if_pos ((nI_leI (by omega) (by omega)).mpr (Nat.le_refl _))]⟩
  | succ j ih =>
    intro i fuel e1 e2 hno
    obtain ⟨f, rfl⟩ : ∃ f, fuel = f + 1 := ⟨fuel - 1, by omega⟩
    have hi : i < gR g s := by omega
    rw [fX1_followRule_L22, if_neg (fun z => by rw [nI_leI (by omega) (by omega)] at z; omega), hp, ruleHolds_eq h N hs hi, Option.bind_some]
    by_cases hh : gA g s i = 0 ∨ ¬ gA g s i &&& x = 0
    · have hb : (decide (gA g s i = 0) || !decide (gA g s i &&& x = 0)) = true := by
        rcases hh with z | z
        · rw [decide_eq_true z]; rfl
        · rw [decide_eq_false z]; simp
      rw [hb, if_neg b2i_t, X2_goalOf_eq h N hs hi, Option.bind_some]
      exact Or.inl ⟨i, hi, hh, hno, rfl⟩
    · have hb : (decide (gA g s i = 0) || !decide (gA g s i &&& x = 0)) = false := by
        rw [decide_eq_false (fun z => hh (Or.inl z)), decide_eq_true (Decidable.of_not_not (fun z => hh (Or.inr z)))]; rfl
      rw [hb, if_pos b2i_f, nI_1]
      exact ih (i + 1) f (by omega) (by omega) (fun r hr => by
        by_cases z : r = i
        · rw [z]; exact hh
        · exact hno r (by omega))
theorem hd_iff {g : Gr} {w : Nat → Int32} {x : Int32} (hx : ∀ q, bt x q = true ↔ (q < 6 ∧ ¬ w q = -1)) (s r : Nat) : (gA g s r = 0 ∨ ¬ gA g s r &&& x = 0) ↔ Hd g w s r := by
  unfold Hd
  constructor
  · rintro (z | z)
    · exact Or.inl z
    · refine Or.inr (Classical.byContradiction fun c => z ?_)
      rw [and0_iff]
      rintro ⟨q, q1, q2⟩
      exact c ⟨q, ((hx q).mp q2).1, q1, ((hx q).mp q2).2⟩
  · rintro (z | ⟨d, d1, d2, d3⟩)
    · exact Or.inl z
    · refine Or.inr fun z => ?_
      rw [and0_iff] at z
      exact z ⟨d, d2, (hx d).mpr ⟨d1, d3⟩⟩
