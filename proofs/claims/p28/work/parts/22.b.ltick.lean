/-! the law's own tick -/
theorem le18 {d k : Nat} (h : k + d < 18) {α : Type} (x : Option α) : chk (nI k + nI d) 18 x = x := by
  rw [nI_add]; exact chk_nI h (by decide) x
theorem tn {a b : Nat} (h : a + b < 2 ^ 31) : (nI a + nI b).toNatClampNeg = a + b := by
  rw [nI_add, nI_clamp h]
theorem neg_wait {w : Int32} (h : w = -1 ∨ ∃ k, k < 2 ^ 30 ∧ w = nI k) : w < 0 ↔ w = -1 := by
  rcases h with rfl | ⟨k, hk, rfl⟩
  · exact ⟨fun _ => rfl, fun _ => by decide⟩
  · constructor
    · intro z; exact absurd z (nI_pos (by omega))
    · intro z; exact absurd (show nI k < 0 by rw [z]; decide) (nI_pos (by omega))
theorem bit_one (x : Int32) {k : Nat} (hk : k < 32) : ((x >>> (nI k &&& 31)) &&& 1 = 1) ↔ bt x k = true := by
  rw [shr_bit x hk]
  cases bt x k
  · rw [if_neg (by decide)]; exact ⟨fun z => absurd z (by decide), fun z => (by cases z)⟩
  · rw [if_pos rfl]; exact ⟨fun _ => rfl, fun _ => rfl⟩
theorem L17_eq (N : Nat) (v : SX7) (a1 : SQ5) (a3 : SQ8) (z1 G : Int32) : ∀ (j i fuel : Nat) (a2 : SQ18), i + j = 6 → j < fuel → (∀ d, i ≤ d → d < 6 → a2 d = -1 ∨ ∃ k, k < 2 ^ 30 ∧ a2 d = nI k) → ∃ a2', fL_tick_L17 N v a1 a3 z1 G fuel a2 (nI i) = some a2' ∧ (∀ d, d < i → d < 6 → a2' d = a2 d ∧ a2' (6 + d) = a2 (6 + d) ∧ a2' (12 + d) = a2 (12 + d)) ∧ ∀ d, i ≤ d → d < 6 → a2' d = pwW G a2 d ∧ a2' (6 + d) = pwS G a2 (fun d => a2 (6 + d)) d ∧ a2' (12 + d) = pwL G a2 (fun d => a2 (12 + d)) d := by
  intro j
  induction j with
  | zero =>
    intro i fuel a2 e1 e2 hw
    obtain ⟨f, rfl⟩ : ∃ f, fuel = f + 1 := ⟨fuel - 1, by omega⟩
    have hi : i = 6 := by omega
    subst hi
    exact ⟨a2, by rw [fL_tick_L17, if_pos (by decide)], fun d _ _ => ⟨rfl, rfl, rfl⟩, fun d h1 h2 => absurd h1 (by omega)⟩
  | succ j ih =>
    intro i fuel a2 e1 e2 hw
    obtain ⟨f, rfl⟩ : ∃ f, fuel = f + 1 := ⟨fuel - 1, by omega⟩
    have hi : i < 6 := by omega
    have hwi := neg_wait (hw i (Nat.le_refl _) hi)
    have b18 : ∀ {α : Type} (k : Option α), chk (nI i) 18 k = k := fun k => chk_nI (by omega) (by decide) k
    have b6 : ∀ {α : Type} (k : Option α), chk ((6 : Int32) + nI i) 18 k = k := fun k => le18 (k := 6) (by omega) k
    have b12 : ∀ {α : Type} (k : Option α), chk ((12 : Int32) + nI i) 18 k = k := fun k => le18 (k := 12) (by omega) k
    have n6 : ((6 : Int32) + nI i).toNatClampNeg = 6 + i := tn (a := 6) (by omega)
    have n12 : ((12 : Int32) + nI i).toNatClampNeg = 12 + i := tn (a := 12) (by omega)
    rw [fL_tick_L17, if_neg (le6 hi)]
    simp only [b18, b6, b12, n6, n12, nI_clamp (show i < 2 ^ 31 by omega), nI_1, nmd]
    by_cases hm : a2 i = -1
    · rw [if_pos (hwi.mpr hm)]
      obtain ⟨a2', c1, c2, c3⟩ := ih (i + 1) f a2 (by omega) (by omega) (fun d h1 h2 => hw d (by omega) h2)
      refine ⟨a2', c1, fun d h1 h2 => c2 d (by omega) h2, fun d h1 h2 => ?_⟩
      by_cases z : d = i
      · subst z
        obtain ⟨x1, x2, x3⟩ := c2 d (by omega) h2
        unfold pwW pwS pwL
        rw [if_pos hm, if_pos hm, if_pos hm]
        exact ⟨x1.trans hm, x2, x3⟩
      · exact c3 d (by omega) h2
    · rw [if_neg (fun z => hm (hwi.mp z))]
      have step : ∀ b2 : SQ18, (∀ d, ¬ d = i → d < 6 → b2 d = a2 d ∧ b2 (6 + d) = a2 (6 + d) ∧ b2 (12 + d) = a2 (12 + d)) → b2 i = pwW G a2 i → b2 (6 + i) = pwS G a2 (fun d => a2 (6 + d)) i → b2 (12 + i) = pwL G a2 (fun d => a2 (12 + d)) i → ∃ a2', fL_tick_L17 N v a1 a3 z1 G f b2 (nI (i + 1)) = some a2' ∧ (∀ d, d < i → d < 6 → a2' d = a2 d ∧ a2' (6 + d) = a2 (6 + d) ∧ a2' (12 + d) = a2 (12 + d)) ∧ ∀ d, i ≤ d → d < 6 → a2' d = pwW G a2 d ∧ a2' (6 + d) = pwS G a2 (fun d => a2 (6 + d)) d ∧ a2' (12 + d) = pwL G a2 (fun d => a2 (12 + d)) d := by
        intro b2 k1 k2 k3 k4
        obtain ⟨a2', c1, c2, c3⟩ := ih (i + 1) f b2 (by omega) (by omega) (fun d h1 h2 => by rw [(k1 d (by omega) h2).1]; exact hw d (by omega) h2)
        refine ⟨a2', c1, fun d h1 h2 => ?_, fun d h1 h2 => ?_⟩
        · obtain ⟨x1, x2, x3⟩ := c2 d (by omega) h2
          obtain ⟨y1, y2, y3⟩ := k1 d (by omega) h2
          exact ⟨x1.trans y1, x2.trans y2, x3.trans y3⟩
        · by_cases z : d = i
          · subst z
            obtain ⟨x1, x2, x3⟩ := c2 d (by omega) h2
            exact ⟨x1.trans k2, x2.trans k3, x3.trans k4⟩
          · obtain ⟨x1, x2, x3⟩ := c3 d (by omega) h2
            obtain ⟨y1, y2, y3⟩ := k1 d z h2
            exact ⟨x1.trans (pwW_c y1), x2.trans (pwS_c y1 y2), x3.trans (pwL_c y1 y3)⟩
      unfold pwW pwS pwL at step
      cases hG : bt G i
      · rw [if_neg (fun z => by rw [(bit_one G (by omega)).mp z] at hG; cases hG)]
        refine step _ (fun d h1 h2 => ⟨?_, ?_, ?_⟩) ?_ ?_ ?_
        · simp only [upd_ne (show ¬ d = i by omega), upd_ne (show ¬ d = 12 + i by omega), upd_ne (show ¬ d = 6 + i by omega)]
        · simp only [upd_ne (show ¬ 6 + d = i by omega), upd_ne (show ¬ 6 + d = 12 + i by omega), upd_ne (show ¬ 6 + d = 6 + i by omega)]
        · simp only [upd_ne (show ¬ 12 + d = i by omega), upd_ne (show ¬ 12 + d = 12 + i by omega), upd_ne (show ¬ 12 + d = 6 + i by omega)]
        · rw [if_neg hm, hG, if_neg (by decide)]
          simp only [upd_same, upd_ne (show ¬ i = 12 + i by omega), upd_ne (show ¬ i = 6 + i by omega)]
        · rw [if_neg hm, hG, if_neg (by decide)]
          simp only [upd_same, upd_ne (show ¬ 6 + i = i by omega), upd_ne (show ¬ 6 + i = 12 + i by omega), Int32.add_zero]
        · rw [if_neg hm, hG, if_neg (by decide)]
          simp only [upd_same, upd_ne (show ¬ 12 + i = i by omega), upd_ne (show ¬ 12 + i = 6 + i by omega)]
      · rw [if_pos ((bit_one G (by omega)).mpr hG)]
        simp only [upd_ne (show ¬ i = 6 + i by omega), upd_ne (show ¬ 12 + i = 6 + i by omega)]
        by_cases hx : a2 i ≤ a2 (12 + i)
        · rw [if_pos hx]
          refine step _ (fun d h1 h2 => ⟨?_, ?_, ?_⟩) ?_ ?_ ?_
          · simp only [upd_ne (show ¬ d = i by omega), upd_ne (show ¬ d = 12 + i by omega), upd_ne (show ¬ d = 6 + i by omega)]
          · simp only [upd_ne (show ¬ 6 + d = i by omega), upd_ne (show ¬ 6 + d = 12 + i by omega), upd_ne (show ¬ 6 + d = 6 + i by omega)]
          · simp only [upd_ne (show ¬ 12 + d = i by omega), upd_ne (show ¬ 12 + d = 12 + i by omega), upd_ne (show ¬ 12 + d = 6 + i by omega)]
          · rw [if_neg hm, hG, if_pos rfl, upd_same]
          · rw [if_neg hm, hG, if_pos rfl]
            simp only [upd_same, upd_ne (show ¬ 6 + i = i by omega), upd_ne (show ¬ 6 + i = 12 + i by omega)]
          · rw [if_neg hm, hG, if_pos rfl]
            simp only [upd_same, upd_ne (show ¬ 12 + i = i by omega)]
            unfold imax
            rw [if_neg (Int32.not_lt.mpr hx)]
        · rw [if_neg hx]
          refine step _ (fun d h1 h2 => ⟨?_, ?_, ?_⟩) ?_ ?_ ?_
          · simp only [upd_ne (show ¬ d = i by omega), upd_ne (show ¬ d = 12 + i by omega), upd_ne (show ¬ d = 6 + i by omega)]
          · simp only [upd_ne (show ¬ 6 + d = i by omega), upd_ne (show ¬ 6 + d = 12 + i by omega), upd_ne (show ¬ 6 + d = 6 + i by omega)]
          · simp only [upd_ne (show ¬ 12 + d = i by omega), upd_ne (show ¬ 12 + d = 12 + i by omega), upd_ne (show ¬ 12 + d = 6 + i by omega)]
          · rw [if_neg hm, hG, if_pos rfl, upd_same]
          · rw [if_neg hm, hG, if_pos rfl]
            simp only [upd_same, upd_ne (show ¬ 6 + i = i by omega), upd_ne (show ¬ 6 + i = 12 + i by omega)]
          · rw [if_neg hm, hG, if_pos rfl]
            simp only [upd_same, upd_ne (show ¬ 12 + i = i by omega)]
            unfold imax
            rw [if_pos (Int32.not_le.mp hx)]
theorem L238_eq (N : Nat) (v : SX7) (a1 : SQ5) (a2 : SQ18) (a3 : SQ8) (z1 z6 z7 A : Int32) (hw : ∀ d, d < 6 → a2 d = -1 ∨ ∃ k, k < 2 ^ 30 ∧ a2 d = nI k) (c : Bool) {fuel : Nat} (hf : 6 < fuel) : ∃ b : Bool, fL_tick_L238 N v a1 a2 a3 z1 z6 z7 A fuel (b2i c) 0 = some (b2i b) ∧ (b = true ↔ (c = true ∨ ∃ d, d < 6 ∧ bt A d = true ∧ ¬ a2 d = -1)) := by
  obtain ⟨b, b1, b2⟩ := flag_of (F := fL_tick_L238 N v a1 a2 a3 z1 z6 z7 A) (n := 6) (P := fun d => bt A d = true ∧ ¬ a2 d = -1) (fun f m => by rw [fL_tick_L238, if_pos (by decide)]) (fun i f hi => by
    rw [fL_tick_L238, if_neg (le6 hi), if_neg (by decide), nI_1]) (fun i f hi => by
    rw [fL_tick_L238, if_neg (le6 hi), if_pos rfl, nI_1, chk_nI (show i < 18 by omega) (by decide), nI_clamp (show i < 2 ^ 31 by omega)]
    by_cases h1 : bt A i = true
    · rw [if_pos ((bit_one A (by omega)).mpr h1)]
      by_cases h2 : a2 i = -1
      · rw [if_pos ((neg_wait (hw i hi)).mpr h2)]
        exact ⟨false, ⟨fun z => (by cases z), fun z => absurd h2 z.2⟩, rfl⟩
      · rw [if_neg (fun z => h2 ((neg_wait (hw i hi)).mp z))]
        exact ⟨true, ⟨fun _ => ⟨h1, h2⟩, fun _ => rfl⟩, rfl⟩
    · rw [if_neg (fun z => h1 ((bit_one A (by omega)).mp z))]
      exact ⟨false, ⟨fun z => (by cases z), fun z => absurd z.1 h1⟩, rfl⟩) 6 0 fuel c (by omega) hf
  refine ⟨b, b1, b2.trans ?_⟩
  constructor
  · rintro (z | ⟨q, -, q2, q3⟩)
    · exact Or.inl z
    · exact Or.inr ⟨q, q2, q3⟩
  · rintro (z | ⟨q, q2, q3⟩)
    · exact Or.inl z
    · exact Or.inr ⟨q, Nat.zero_le _, q2, q3⟩
