/-! the law's own closure over the rules -/
def cAd (g : Gr) (i : Nat) (m : Int32) : Int32 := if bt m (i / 4) = true ∧ i % 4 < gR g (i / 4) then (1 : Int32) <<< (nI (gO g (i / 4) (i % 4)) &&& 31) else 0
def cIn (g : Gr) : Nat → Nat → Int32 → Int32
  | 0, _, m => m
  | k + 1, i, m => cIn g k (i + 1) (m ||| cAd g i m)
theorem cAd_bt {g : Gr} {i : Nat} {m : Int32} (hO : gO g (i / 4) (i % 4) < 32) (q : Nat) : bt (m ||| cAd g i m) q = true ↔ (bt m q = true ∨ (bt m (i / 4) = true ∧ i % 4 < gR g (i / 4) ∧ q = gO g (i / 4) (i % 4))) := by
  unfold cAd
  by_cases h : bt m (i / 4) = true ∧ i % 4 < gR g (i / 4)
  · rw [if_pos h, bt_setk hO, Bool.or_eq_true, decide_eq_true_iff]
    constructor
    · rintro (z | z)
      · exact Or.inl z
      · exact Or.inr ⟨h.1, h.2, z⟩
    · rintro (z | z)
      · exact Or.inl z
      · exact Or.inr z.2.2
  · rw [if_neg h, Int32.or_zero]
    constructor
    · exact Or.inl
    · rintro (z | z)
      · exact z
      · exact absurd ⟨z.1, z.2.1⟩ h
theorem cAd_mono (g : Gr) (i : Nat) (m : Int32) (q : Nat) (h : bt m q = true) : bt (m ||| cAd g i m) q = true := by
  rw [bt_or, h]; rfl
theorem cIn_mono (g : Gr) : ∀ (k i : Nat) (m : Int32) (q : Nat), bt m q = true → bt (cIn g k i m) q = true := by
  intro k
  induction k with
  | zero => intro i m q h; exact h
  | succ k ih => intro i m q h; exact ih (i + 1) _ q (cAd_mono g i m q h)
theorem cIn_snd {g : Gr} (hO : ∀ p r, p < gN g → r < gR g p → gO g p r < gN g) (h8 : gN g ≤ 8) {P : Nat → Prop} (hP : ∀ p r, p < gN g → P p → r < gR g p → P (gO g p r)) : ∀ (k i : Nat) (m : Int32), i + k ≤ gN g * 4 → (∀ q, bt m q = true → q < gN g ∧ P q) → ∀ q, bt (cIn g k i m) q = true → q < gN g ∧ P q := by
  intro k
  induction k with
  | zero => intro i m _ h; exact h
  | succ k ih =>
    intro i m e h
    refine ih (i + 1) _ (by omega) (fun q hq => ?_)
    by_cases hr : i % 4 < gR g (i / 4)
    · have hO' := hO (i / 4) (i % 4) (by omega) hr
      rcases (cAd_bt (by omega) q).mp hq with z | ⟨z1, z2, z3⟩
      · exact h q z
      · rw [z3]; exact ⟨hO', hP _ _ (by omega) (h _ z1).2 z2⟩
    · unfold cAd at hq
      rw [if_neg (fun z => hr z.2), Int32.or_zero] at hq
      exact h q hq
theorem cIn_end {g : Gr} (hO : ∀ p r, p < gN g → r < gR g p → gO g p r < gN g) (h8 : gN g ≤ 8) : ∀ (k i : Nat) (m : Int32), i + k ≤ gN g * 4 → cIn g k i m = m → ∀ x, i ≤ x → x < i + k → bt m (x / 4) = true → x % 4 < gR g (x / 4) → bt m (gO g (x / 4) (x % 4)) = true := by
  intro k
  induction k with
  | zero => intro i m _ _ x h1 h2; omega
  | succ k ih =>
    intro i m e h x h1 h2 h3 h4
    have hm : m ||| cAd g i m = m := bt_ext (fun q _ => by
      cases hb : bt m q
      · cases hc : bt (m ||| cAd g i m) q
        · rfl
        · have := cIn_mono g k (i + 1) _ q hc
          have h' : cIn g k (i + 1) (m ||| cAd g i m) = m := h
          rw [h', hb] at this; cases this
      · exact cAd_mono g i m q hb)
    by_cases hx : x = i
    · subst hx
      have hO' := hO (x / 4) (x % 4) (by omega) h4
      have := (cAd_bt (m := m) (i := x) (g := g) (by omega) (gO g (x / 4) (x % 4))).mpr (Or.inr ⟨h3, h4, rfl⟩)
      rw [hm] at this; exact this
    · have h' : cIn g k (i + 1) (m ||| cAd g i m) = m := h
      rw [hm] at h'
      exact ih (i + 1) m (by omega) h' x (by omega) (by omega) h3 h4
section RE
variable {v : SX7} {g : Gr}
theorem L25_eq (hP : PG v.1.1 g) (N : Nat) (z4 : Int32) : ∀ (j i fuel : Nat) (m : Int32), i + j = gN g * 4 → j < fuel → fL_comers_L25 N (nI (gN g)) z4 fuel v m (nI i) = some (v, cIn g j i m) := by
  have h8 := hP.1
  intro j
  induction j with
  | zero =>
    intro i fuel m e1 e2
    obtain ⟨f, rfl⟩ : ∃ f, fuel = f + 1 := ⟨fuel - 1, by omega⟩
    have hi : i = gN g * 4 := by omega
    subst hi
    rw [fL_comers_L25, show (4 : Int32) = nI 4 from rfl, nI_mul, if_pos ((nI_leI (by omega) (by omega)).mpr (Nat.le_refl _))]
    rfl
  | succ j ih =>
    intro i fuel m e1 e2
    obtain ⟨f, rfl⟩ : ∃ f, fuel = f + 1 := ⟨fuel - 1, by omega⟩
    have hp : i / 4 < gN g := by omega
    have h4 : gR g (i / 4) ≤ 4 := (hP.2.2 _ hp).2.2.1
    rw [fL_comers_L25]
    rw [show (4 : Int32) = nI 4 from rfl, nI_mul, if_neg (fun z => by rw [nI_leI (by omega) (by omega)] at z; omega), nI_rem (show i < 2 ^ 31 by omega) (by omega), nI_div (show i < 2 ^ 31 by omega) (by omega), nI_1]
    show _ = some (v, cIn g j (i + 1) (m ||| cAd g i m))
    rw [← ih (i + 1) f (m ||| cAd g i m) (by omega) (by omega)]
    unfold cAd
    by_cases hb : bt m (i / 4) = true
    · rw [if_pos ((bit_one m (show i / 4 < 32 by omega)).mpr hb), phase2 hP N hp, Option.bind_some]
      dsimp only
      by_cases hr : i % 4 < gR g (i / 4)
      · rw [if_neg (fun z => by rw [nI_leI (by omega) (by omega)] at z; omega), rule0 hP N hp hr, Option.bind_some, if_pos ⟨hb, hr⟩]
      · rw [if_pos ((nI_leI (by omega) (by omega)).mpr (by omega)), if_neg (fun z => hr z.2)]
    · rw [if_neg (fun z => hb ((bit_one m (show i / 4 < 32 by omega)).mp z)), if_neg (fun z => hb z.1)]
/-- closed under the rules -/
def Cld (g : Gr) (m : Int32) : Prop := ∀ p r, p < gN g → r < gR g p → bt m p = true → bt m (gO g p r) = true
theorem L13c_eq (hP : PG v.1.1 g) {N : Nat} (hN : 100 ≤ N) {P : Nat → Prop} (hPc : ∀ p r, p < gN g → P p → r < gR g p → P (gO g p r)) : ∀ (t fuel : Nat) (m h : Int32), gN g - cnt (bt m) (gN g) < t → t < fuel → (∀ q, bt m q = true → q < gN g ∧ P q) → (h = m → Cld g m) → ∃ M, fL_comers_L13 N (nI (gN g)) fuel v m h = some (v, M) ∧ Cld g M ∧ (∀ q, bt m q = true → bt M q = true) ∧ ∀ q, bt M q = true → q < gN g ∧ P q := by
  have h8 := hP.1
  have hO : ∀ p r, p < gN g → r < gR g p → gO g p r < gN g := fun p r hp hr => ((hP.2.2 p hp).2.2.2 r hr).2.1
  intro t
  induction t with
  | zero => intro fuel m h h1; omega
  | succ t ih =>
    intro fuel m h h1 h2 h3 h4
    obtain ⟨f, rfl⟩ : ∃ f, fuel = f + 1 := ⟨fuel - 1, by omega⟩
    rw [fL_comers_L13]
    by_cases hh : h = m
    · rw [if_pos hh]
      exact ⟨m, rfl, h4 hh, fun q hq => hq, h3⟩
    · have hL : fL_comers_L25 N (nI (gN g)) m N v m 0 = some (v, cIn g (gN g * 4) 0 m) := L25_eq hP N m (gN g * 4) 0 N m (by omega) (by omega)
      rw [if_neg hh, hL, Option.bind_some]
      dsimp only
      have hs := cIn_snd hO h8 hPc (gN g * 4) 0 m (by omega) h3
      by_cases hc : cIn g (gN g * 4) 0 m = m
      · have hcl : Cld g m := fun p r hp hr hb => by
          have h4r : gR g p ≤ 4 := (hP.2.2 p hp).2.2.1
          have := cIn_end hO h8 (gN g * 4) 0 m (by omega) hc (4 * p + r) (Nat.zero_le _) (by omega)
          rw [show (4 * p + r) / 4 = p by omega, show (4 * p + r) % 4 = r by omega] at this
          exact this hb hr
        rw [hc]
        obtain ⟨f2, rfl⟩ : ∃ f2, f = f2 + 1 := ⟨f - 1, by omega⟩
        rw [fL_comers_L13, if_pos rfl]
        exact ⟨m, rfl, hcl, fun q hq => hq, h3⟩
      · have hg : cnt (bt m) (gN g) < cnt (bt (cIn g (gN g * 4) 0 m)) (gN g) := cnt_grow (fun q hq => (hs q hq).1) (fun q hq => cIn_mono g _ 0 m q hq) hc
        have hle := cnt_le (bt (cIn g (gN g * 4) 0 m)) (gN g)
        obtain ⟨M, M1, M2, M3, M4⟩ := ih f (cIn g (gN g * 4) 0 m) m (by omega) (by omega) hs (fun z => absurd z.symm hc)
        exact ⟨M, M1, M2, fun q hq => M3 q (cIn_mono g _ 0 m q hq), M4⟩
/-- the law's closure is what can come -/
theorem reach_eq (hP : PG v.1.1 g) {N : Nat} (hN : 100 ≤ N) {s : Nat} (hs : s < gN g) : ∃ M, fL_comers_L13 N (nI (gN g)) N v ((1 : Int32) <<< (nI s &&& 31)) 0 = some (v, M) ∧ ∀ q, bt M q = true ↔ Cmg g (-1) 0 s q := by
  have h8 := hP.1
  have hne : ∀ p, p < gN g → ¬ nI p = -1 := fun p hp z => nI_pos (show p < 2 ^ 31 by omega) (by rw [z]; decide)
  have hPc : ∀ p r, p < gN g → Cmg g (-1) 0 s p → r < gR g p → Cmg g (-1) 0 s (gO g p r) := by
    rintro p r hp ⟨c1, k, c2⟩ hr
    exact ⟨c1, k + 1, Way.snoc c2 ((hP.2.2 p hp).2.2.2 r hr).2.1 (Or.inl ⟨r, hr, rfl⟩) (fun z => z)⟩
  obtain ⟨M, M1, M2, M3, M4⟩ := L13c_eq (v := v) hP hN hPc (gN g + 1) N ((1 : Int32) <<< (nI s &&& 31)) 0 (by omega) (by omega) (fun q hq => by
    rw [bt_shl1 (show s < 32 by omega), decide_eq_true_iff] at hq
    rw [hq]; exact ⟨hs, hs, 0, rfl⟩) (fun z => by
    have : bt (0 : Int32) s = true := by rw [z, bt_shl1 (show s < 32 by omega)]; exact decide_eq_true rfl
    rw [bt_0] at this; cases this)
  refine ⟨M, M1, fun q => ⟨fun z => (M4 q z).2, ?_⟩⟩
  rintro ⟨-, k, hk⟩
  have key : ∀ (k p : Nat), p < gN g → bt M p = true → Way (gN g) (AllE g (-1) 0) noG k p q → bt M q = true := by
    intro k
    induction k with
    | zero => intro p _ hb hw; cases hw; exact hb
    | succ k ih =>
      rintro p hp hb ⟨r, r1, r2, -, r4⟩
      rcases r2 with ⟨j, j1, j2⟩ | ⟨z, -⟩
      · exact ih r r1 (by rw [← j2]; exact M2 p j hp j1 hb) r4
      · exact absurd z (hne p hp)
  exact key k s hs (M3 s (by rw [bt_shl1 (show s < 32 by omega)]; exact decide_eq_true rfl)) hk
end RE
