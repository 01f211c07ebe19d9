/-! pure: the costs of ways to a green phase -/
def Cst (n : Nat) (E : Nat → Nat → Prop) (gn : Nat → Prop) (c : Nat → Nat → Nat) : Nat → Nat → Nat → Prop
  | 0, p, L => gn p ∧ L = 0
  | k + 1, p, L => ¬ gn p ∧ ∃ q, q < n ∧ E p q ∧ ∃ B, Cst n E gn c k q B ∧ L = c p q + B
theorem Cst_le {n : Nat} {E : Nat → Nat → Prop} {gn : Nat → Prop} {c : Nat → Nat → Nat} {b : Nat} (hc : ∀ p q, p < n → c p q ≤ b) : ∀ (k p L : Nat), p < n → Cst n E gn c k p L → L ≤ b * k := by
  intro k
  induction k with
  | zero => intro p L _ h; rw [h.2]; exact Nat.zero_le _
  | succ k ih =>
    rintro p L hp ⟨-, q, q1, -, B, B1, rfl⟩
    have h1 := ih q B q1 B1
    have h2 := hc p q hp
    rw [Nat.mul_succ]
    omega
theorem Cst_path {n : Nat} {E : Nat → Nat → Prop} {gn : Nat → Prop} {c : Nat → Nat → Nat} : ∀ (k p L : Nat), p < n → Cst n E gn c k p L → ∃ (f A : Nat → Nat), ∀ i, i ≤ k → f i < n ∧ (∀ j, i ≤ j → j ≤ k → A i ≤ A j) ∧ ∃ B, A i + B = L ∧ Cst n E gn c (k - i) (f i) B ∧ ∀ k' B', Cst n E gn c k' (f i) B' → Cst n E gn c (i + k') p (A i + B') := by
  intro k
  induction k with
  | zero =>
    intro p L hp h
    refine ⟨fun _ => p, fun _ => 0, fun i hi => ⟨hp, fun _ _ _ => Nat.le_refl _, L, by simp, ?_, fun k' B' h' => ?_⟩⟩
    · have : i = 0 := by omega
      subst this; exact h
    · have : i = 0 := by omega
      subst this
      simpa using h'
  | succ k ih =>
    rintro p L hp ⟨hg, q, q1, q2, B, B1, rfl⟩
    obtain ⟨f, A, h⟩ := ih q B q1 B1
    refine ⟨fun i => match i with | 0 => p | j + 1 => f j, fun i => match i with | 0 => 0 | j + 1 => c p q + A j, fun i hi => ?_⟩
    cases i with
    | zero =>
      exact ⟨hp, fun j _ _ => Nat.zero_le _, c p q + B, by simp, ⟨hg, q, q1, q2, B, B1, rfl⟩, fun k' B' h' => by simpa using h'⟩
    | succ i =>
      obtain ⟨a1, a2, B2, a3, a4, a5⟩ := h i (by omega)
      refine ⟨a1, fun j hj1 hj2 => ?_, B2, ?_, ?_, fun k' B' h' => ?_⟩
      · cases j with
        | zero => omega
        | succ j => exact Nat.add_le_add_left (a2 j (by omega) (by omega)) _
      · show c p q + A i + B2 = c p q + B
        omega
      · show Cst n E gn c (k + 1 - (i + 1)) (f i) B2
        rw [show k + 1 - (i + 1) = k - i by omega]
        exact a4
      · show Cst n E gn c (i + 1 + k') p (c p q + A i + B')
        rw [show i + 1 + k' = (i + k') + 1 by omega]
        exact ⟨hg, q, q1, q2, A i + B', a5 k' B' h', by omega⟩
/-- a cheapest way needs fewer steps than there are phases -/
theorem Cst_short {n : Nat} {E : Nat → Nat → Prop} {gn : Nat → Prop} {c : Nat → Nat → Nat} : ∀ (m k p L : Nat), k ≤ m → p < n → Cst n E gn c k p L → ∃ k' L', k' < n ∧ L' ≤ L ∧ Cst n E gn c k' p L' := by
  intro m
  induction m with
  | zero => intro k p L hk hp h; exact ⟨k, L, by omega, Nat.le_refl _, h⟩
  | succ m ih =>
    intro k p L hk hp h
    by_cases hkn : k < n
    · exact ⟨k, L, hkn, Nat.le_refl _, h⟩
    obtain ⟨f, A, hf⟩ := Cst_path k p L hp h
    obtain ⟨i, j, h1, h2, h3⟩ := php n f (fun i hi => (hf i (by omega)).1)
    obtain ⟨-, i2, Bi, i3, i4, i5⟩ := hf i (by omega)
    obtain ⟨-, -, Bj, j3, j4, -⟩ := hf j (by omega)
    rw [← h3] at j4
    have h5 := i5 _ _ j4
    have h6 := i2 j (by omega) (by omega)
    obtain ⟨k', L', b1, b2, b3⟩ := ih (i + (k - j)) p _ (by omega) hp h5
    exact ⟨k', L', b1, by omega, b3⟩
def IsSh (n : Nat) (E : Nat → Nat → Prop) (gn : Nat → Prop) (c : Nat → Nat → Nat) (p v : Nat) : Prop := (∃ k, Cst n E gn c k p v) ∧ ∀ k L, Cst n E gn c k p L → v ≤ L
def NoSh (n : Nat) (E : Nat → Nat → Prop) (gn : Nat → Prop) (c : Nat → Nat → Nat) (p : Nat) : Prop := ∀ k L, ¬ Cst n E gn c k p L
def IsLg (n : Nat) (E : Nat → Nat → Prop) (gn : Nat → Prop) (c : Nat → Nat → Nat) (p v : Nat) : Prop := (∃ k, Cst n E gn c k p v) ∧ ∀ k L, Cst n E gn c k p L → L ≤ v
theorem IsSh.uniq {n : Nat} {E : Nat → Nat → Prop} {gn : Nat → Prop} {c : Nat → Nat → Nat} {p v w : Nat} (h : IsSh n E gn c p v) (h' : IsSh n E gn c p w) : v = w := by
  obtain ⟨⟨k, hk⟩, h1⟩ := h
  obtain ⟨⟨k', hk'⟩, h2⟩ := h'
  have := h1 _ _ hk'
  have := h2 _ _ hk
  omega
theorem IsLg.uniq {n : Nat} {E : Nat → Nat → Prop} {gn : Nat → Prop} {c : Nat → Nat → Nat} {p v w : Nat} (h : IsLg n E gn c p v) (h' : IsLg n E gn c p w) : v = w := by
  obtain ⟨⟨k, hk⟩, h1⟩ := h
  obtain ⟨⟨k', hk'⟩, h2⟩ := h'
  have := h1 _ _ hk'
  have := h2 _ _ hk
  omega
theorem IsLg.green {n : Nat} {E : Nat → Nat → Prop} {gn : Nat → Prop} {c : Nat → Nat → Nat} {p : Nat} (h : gn p) : IsLg n E gn c p 0 :=
  ⟨⟨0, h, rfl⟩, fun k L hL => by
    cases k with
    | zero => rw [hL.2]; exact Nat.le_refl _
    | succ k => exact absurd h hL.1⟩
/-- the longest way out of the longest ways of the next ones -/
theorem IsLg.of {n : Nat} {E : Nat → Nat → Prop} {gn : Nat → Prop} {c : Nat → Nat → Nat} {p v : Nat} {Y : Nat → Nat} (hg : ¬ gn p) (hY : ∀ q, q < n → E p q → IsLg n E gn c q (Y q)) (h1 : ∀ q, q < n → E p q → c p q + Y q ≤ v) (h2 : ∃ q, q < n ∧ E p q ∧ v = c p q + Y q) : IsLg n E gn c p v := by
  constructor
  · obtain ⟨q, q1, q2, rfl⟩ := h2
    obtain ⟨k, hk⟩ := (hY q q1 q2).1
    exact ⟨k + 1, hg, q, q1, q2, Y q, hk, rfl⟩
  · intro k L hL
    cases k with
    | zero => exact absurd hL.1 hg
    | succ k =>
      obtain ⟨-, q, q1, q2, B, B1, rfl⟩ := hL
      have a1 := (hY q q1 q2).2 _ _ B1
      have a2 := h1 q q1 q2
      omega
/-- who is helped at all is helped by stage n -/
theorem Hlp_n {n : Nat} {E : Nat → Nat → Prop} {st gn : Nat → Prop} {p : Nat} (hp : p < n) (h : ∃ k, Hlp n E st gn k p) : Hlp n E st gn n p := by
  let f : Nat → Nat → Bool := fun k p => @decide (Hlp n E st gn k p) (Classical.propDecidable _)
  have hf : ∀ k p, f k p = true ↔ Hlp n E st gn k p := fun k p => by
    show @decide (Hlp n E st gn k p) (Classical.propDecidable _) = true ↔ _
    exact @decide_eq_true_iff _ (Classical.propDecidable _)
  have key : ∀ k, (∃ j, j ≤ k ∧ ∀ q, q < n → Hlp n E st gn (j + 1) q → Hlp n E st gn j q) ∨ k + 1 ≤ cnt (f (k + 1)) n := by
    intro k
    induction k with
    | zero =>
      by_cases hx : ∀ q, q < n → Hlp n E st gn 1 q → Hlp n E st gn 0 q
      · exact Or.inl ⟨0, Nat.le_refl _, hx⟩
      · refine Or.inr ?_
        have z9 : cnt (f 0) n < cnt (f (0 + 1)) n := cnt_lt n (fun q _ hq => (hf 1 q).mpr (((hf 0 q).mp hq).mono (Nat.le_succ 0))) (Classical.byContradiction fun hc => hx fun q hq h1 => Classical.byContradiction fun h0 => hc ⟨q, hq, by
          cases h9 : f 0 q
          · rfl
          · exact absurd ((hf 0 q).mp h9) h0, (hf 1 q).mpr h1⟩)
        omega
    | succ k ih =>
      rcases ih with ⟨j, j1, j2⟩ | ih
      · exact Or.inl ⟨j, by omega, j2⟩
      by_cases hx : ∀ q, q < n → Hlp n E st gn (k + 2) q → Hlp n E st gn (k + 1) q
      · exact Or.inl ⟨k + 1, Nat.le_refl _, hx⟩
      · refine Or.inr ?_
        have z9 : cnt (f (k + 1)) n < cnt (f (k + 1 + 1)) n := cnt_lt n (fun q _ hq => (hf (k + 2) q).mpr (((hf (k + 1) q).mp hq).mono (Nat.le_succ _))) (Classical.byContradiction fun hc => hx fun q hq h1 => Classical.byContradiction fun h0 => hc ⟨q, hq, by
          cases h9 : f (k + 1) q
          · rfl
          · exact absurd ((hf (k + 1) q).mp h9) h0, (hf (k + 2) q).mpr h1⟩)
        omega
  obtain ⟨K, hK⟩ := h
  obtain ⟨m, hm⟩ : ∃ m, n = m + 1 := ⟨n - 1, by omega⟩
  rcases key m with ⟨j, j1, j2⟩ | hfull
  · have all : ∀ k q, q < n → Hlp n E st gn k q → Hlp n E st gn j q := by
      intro k
      induction k with
      | zero => intro q _ h0; exact h0.mono (Nat.zero_le _)
      | succ k ih =>
        intro q hq hk
        rcases hk with hk | ⟨k1, k2⟩
        · exact ih q hq hk
        · exact j2 q hq (Or.inr ⟨k1, fun r hr he => ih r hr (k2 r hr he)⟩)
    exact (all K p hp hK).mono (by omega)
  · have := cnt_full (P := f (m + 1)) n (by omega) p hp
    have h9 := (hf (m + 1) p).mp this
    rw [← hm] at h9
    exact h9
