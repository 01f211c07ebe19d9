/-! pure: ways in a finite graph -/
def Hlp (n : Nat) (E : Nat → Nat → Prop) (st gn : Nat → Prop) : Nat → Nat → Prop
  | 0, p => gn p
  | k + 1, p => Hlp n E st gn k p ∨ (¬ st p ∧ ∀ q, q < n → E p q → Hlp n E st gn k q)
/-- a way of k steps, through phases without green behind the first -/
def Way (n : Nat) (E : Nat → Nat → Prop) (gn : Nat → Prop) : Nat → Nat → Nat → Prop
  | 0, p, q => p = q
  | k + 1, p, q => ∃ r, r < n ∧ E p r ∧ ¬ gn r ∧ Way n E gn k r q
def Rch1 (n : Nat) (E : Nat → Nat → Prop) (gn : Nat → Prop) (p q : Nat) : Prop := ∃ k, Way n E gn (k + 1) p q
def Rnd (n : Nat) (E : Nat → Nat → Prop) (st gn : Nat → Prop) (p : Nat) : Prop := ¬ gn p ∧ (st p ∨ Rch1 n E gn p p)
def Stv (n : Nat) (E : Nat → Nat → Prop) (st gn : Nat → Prop) (p : Nat) : Prop := ¬ gn p ∧ ∃ q, (∃ k, Way n E gn k p q) ∧ (st q ∨ Rch1 n E gn q q)
theorem Way.snoc {n : Nat} {E : Nat → Nat → Prop} {gn : Nat → Prop} : ∀ {k p q r : Nat}, Way n E gn k p q → r < n → E q r → ¬ gn r → Way n E gn (k + 1) p r
  | 0, p, q, r, h, h1, h2, h3 => by
    cases h
    exact ⟨r, h1, h2, h3, rfl⟩
  | k + 1, p, q, r, h, h1, h2, h3 => by
    obtain ⟨x, x1, x2, x3, x4⟩ := h
    exact ⟨x, x1, x2, x3, Way.snoc x4 h1 h2 h3⟩
theorem Stv.step {n : Nat} {E : Nat → Nat → Prop} {st gn : Nat → Prop} {p : Nat} (h : Stv n E st gn p) : ¬ gn p ∧ (st p ∨ ∃ r, r < n ∧ E p r ∧ Stv n E st gn r) := by
  obtain ⟨h1, q, ⟨k, hk⟩, h2⟩ := h
  refine ⟨h1, ?_⟩
  cases k with
  | zero =>
    cases hk
    rcases h2 with h2 | ⟨k, r, r1, r2, r3, r4⟩
    · exact Or.inl h2
    · exact Or.inr ⟨r, r1, r2, r3, p, ⟨k, r4⟩, Or.inr ⟨k, r, r1, r2, r3, r4⟩⟩
  | succ k =>
    obtain ⟨r, r1, r2, r3, r4⟩ := hk
    exact Or.inr ⟨r, r1, r2, r3, q, ⟨k, r4⟩, h2⟩
theorem Hlp.not_stv {n : Nat} {E : Nat → Nat → Prop} {st gn : Nat → Prop} : ∀ (k p : Nat), Hlp n E st gn k p → ¬ Stv n E st gn p := by
  intro k
  induction k with
  | zero => intro p h hs; exact hs.1 h
  | succ k ih =>
    intro p h hs
    rcases h with h | ⟨h1, h2⟩
    · exact ih p h hs
    · obtain ⟨-, h3 | ⟨r, r1, r2, r3⟩⟩ := hs.step
      · exact h1 h3
      · exact ih r (h2 r r1 r2) r3
theorem Hlp.mono {n : Nat} {E : Nat → Nat → Prop} {st gn : Nat → Prop} {p : Nat} : ∀ {a b : Nat}, a ≤ b → Hlp n E st gn a p → Hlp n E st gn b p := by
  intro a b h hp
  induction h with
  | refl => exact hp
  | step _ ih => exact Or.inl ih
/-- finitely many, each from some stage on: all from one stage on -/
theorem stage {P : Nat → Nat → Prop} (hm : ∀ a b q, a ≤ b → P a q → P b q) : ∀ (n : Nat), (∀ q, q < n → ∃ k, P k q) → ∃ K, ∀ q, q < n → P K q := by
  intro n
  induction n with
  | zero => intro _; exact ⟨0, fun q h => absurd h (Nat.not_lt_zero q)⟩
  | succ n ih =>
    intro h
    obtain ⟨K, hK⟩ := ih (fun q hq => h q (by omega))
    obtain ⟨k, hk⟩ := h n (by omega)
    refine ⟨max K k, fun q hq => ?_⟩
    by_cases hqn : q = n
    · subst hqn
      exact hm k _ q (Nat.le_max_right _ _) hk
    · exact hm K _ q (Nat.le_max_left _ _) (hK q (by omega))
theorem php : ∀ (n : Nat) (f : Nat → Nat), (∀ i, i ≤ n → f i < n) → ∃ i j, i < j ∧ j ≤ n ∧ f i = f j := by
  intro n
  induction n with
  | zero => intro f h; exact absurd (h 0 (Nat.le_refl 0)) (Nat.not_lt_zero _)
  | succ n ih =>
    intro f h
    by_cases hx : ∃ i, i ≤ n ∧ f i = f (n + 1)
    · obtain ⟨i, h1, h2⟩ := hx
      exact ⟨i, n + 1, by omega, Nat.le_refl _, h2⟩
    · have hne : ∀ i, i ≤ n → f i ≠ f (n + 1) := fun i hi he => hx ⟨i, hi, he⟩
      obtain ⟨i, j, h1, h2, h3⟩ := ih (fun i => if f i = n then f (n + 1) else f i) (fun i hi => by
        have a1 := h i (by omega)
        have a2 := h (n + 1) (Nat.le_refl _)
        have a3 := hne i hi
        show (if f i = n then f (n + 1) else f i) < n
        split <;> omega)
      refine ⟨i, j, h1, by omega, ?_⟩
      have a3 := hne i (by omega)
      have a4 := hne j h2
      split at h3 <;> split at h3 <;> omega
theorem helped_or {n : Nat} {E : Nat → Nat → Prop} {st gn : Nat → Prop} {p : Nat} (hp : p < n) : (∃ k, Hlp n E st gn k p) ∨ Stv n E st gn p := by
  rcases Classical.em (∃ k, Hlp n E st gn k p) with h | h
  · exact Or.inl h
  refine Or.inr (Classical.byContradiction fun hS => ?_)
  have step : ∀ q, q < n → (∀ k, ¬ Hlp n E st gn k q) → ¬ gn q ∧ (st q ∨ ∃ r, (r < n ∧ ∀ k, ¬ Hlp n E st gn k r) ∧ E q r) := by
    intro q hq hu
    refine ⟨hu 0, Classical.byContradiction fun hc => ?_⟩
    have hst : ¬ st q := fun z => hc (Or.inl z)
    have hall : ∀ r, r < n → ∃ k, E q r → Hlp n E st gn k r := by
      intro r hr
      by_cases he : E q r
      · rcases Classical.em (∃ k, Hlp n E st gn k r) with ⟨k, hk⟩ | hn
        · exact ⟨k, fun _ => hk⟩
        · exact absurd (Or.inr ⟨r, ⟨hr, fun k hk => hn ⟨k, hk⟩⟩, he⟩) hc
      · exact ⟨0, fun z => absurd z he⟩
    obtain ⟨K, hK⟩ := stage (P := fun k r => E q r → Hlp n E st gn k r) (fun a b r hab h z => (h z).mono hab) n hall
    exact hu (K + 1) (Or.inr ⟨hst, fun r hr he => hK r hr he⟩)
  have ex : ∀ q, ∃ r, (q < n ∧ ∀ k, ¬ Hlp n E st gn k q) → ¬ st q → (r < n ∧ ∀ k, ¬ Hlp n E st gn k r) ∧ E q r := by
    intro q
    by_cases hu : q < n ∧ ∀ k, ¬ Hlp n E st gn k q
    · rcases (step q hu.1 hu.2).2 with h1 | ⟨r, h1, h2⟩
      · exact ⟨0, fun _ z => absurd h1 z⟩
      · exact ⟨r, fun _ _ => ⟨h1, h2⟩⟩
    · exact ⟨0, fun z => absurd z hu⟩
  let nx : Nat → Nat := fun q => Classical.choose (ex q)
  have hnx : ∀ q, (q < n ∧ ∀ k, ¬ Hlp n E st gn k q) → ¬ st q → (nx q < n ∧ ∀ k, ¬ Hlp n E st gn k (nx q)) ∧ E q (nx q) := fun q => Classical.choose_spec (ex q)
  let f : Nat → Nat := fun i => Nat.rec p (fun _ q => nx q) i
  have hf : ∀ i, (f i < n ∧ ∀ k, ¬ Hlp n E st gn k (f i)) ∧ Way n E gn i p (f i) := by
    intro i
    induction i with
    | zero => exact ⟨⟨hp, fun k hk => h ⟨k, hk⟩⟩, rfl⟩
    | succ i ih =>
      have hst : ¬ st (f i) := fun z => hS ⟨(step p hp (fun k hk => h ⟨k, hk⟩)).1, f i, ⟨i, ih.2⟩, Or.inl z⟩
      obtain ⟨h1, h2⟩ := hnx (f i) ih.1 hst
      exact ⟨h1, ih.2.snoc h1.1 h2 (step _ h1.1 h1.2).1⟩
  have hstp : ∀ i, ¬ st (f i) := fun i z => hS ⟨(step p hp (fun k hk => h ⟨k, hk⟩)).1, f i, ⟨i, (hf i).2⟩, Or.inl z⟩
  have hw : ∀ d i, Way n E gn d (f i) (f (i + d)) := by
    intro d
    induction d with
    | zero => intro i; exact rfl
    | succ d ih =>
      intro i
      obtain ⟨h1, h2⟩ := hnx (f (i + d)) (hf (i + d)).1 (hstp _)
      exact (ih i).snoc h1.1 h2 (step _ h1.1 h1.2).1
  obtain ⟨i, j, h1, h2, h3⟩ := php n f (fun i _ => (hf i).1.1)
  have h4 := hw (j - i) i
  rw [show i + (j - i) = j by omega, ← h3] at h4
  obtain ⟨k, hk⟩ : ∃ k, j - i = k + 1 := ⟨j - i - 1, by omega⟩
  rw [hk] at h4
  exact hS ⟨(step p hp (fun k hk => h ⟨k, hk⟩)).1, f i, ⟨i, (hf i).2⟩, Or.inr ⟨k, h4⟩⟩
theorem stv_iff {n : Nat} {E : Nat → Nat → Prop} {st gn : Nat → Prop} {p : Nat} (hp : p < n) : Stv n E st gn p ↔ ¬ ∃ k, Hlp n E st gn k p := by
  constructor
  · rintro h ⟨k, hk⟩
    exact Hlp.not_stv k p hk h
  · intro h
    exact (helped_or hp).resolve_left h
/-! counting -/
def cnt (P : Nat → Bool) : Nat → Nat
  | 0 => 0
  | k + 1 => cnt P k + (if P k then 1 else 0)
theorem cnt_le (P : Nat → Bool) : ∀ n, cnt P n ≤ n
  | 0 => Nat.le_refl 0
  | k + 1 => by
    have := cnt_le P k
    unfold cnt
    split <;> omega
theorem cnt_mono {P Q : Nat → Bool} : ∀ n, (∀ k, k < n → P k = true → Q k = true) → cnt P n ≤ cnt Q n
  | 0, _ => Nat.le_refl 0
  | k + 1, h => by
    have h1 := cnt_mono k (fun j hj => h j (by omega))
    have h2 := h k (by omega)
    unfold cnt
    cases hP : P k
    · simp; omega
    · rw [h2 hP]; simp; omega
theorem cnt_lt {P Q : Nat → Bool} : ∀ n, (∀ k, k < n → P k = true → Q k = true) → (∃ k, k < n ∧ P k = false ∧ Q k = true) → cnt P n < cnt Q n
  | 0, _, ⟨k, hk, _⟩ => absurd hk (Nat.not_lt_zero k)
  | k + 1, h, ⟨j, hj, h1, h2⟩ => by
    unfold cnt
    by_cases hjk : j = k
    · subst hjk
      have := cnt_mono j (fun i hi => h i (by omega))
      rw [h1, h2]
      simp; omega
    · have h3 := cnt_lt k (fun i hi => h i (by omega)) ⟨j, by omega, h1, h2⟩
      have h4 := h k (by omega)
      cases hP : P k
      · simp; omega
      · rw [h4 hP]; simp; omega
theorem cnt_full {P : Nat → Bool} : ∀ n, n ≤ cnt P n → ∀ k, k < n → P k = true
  | 0, _, k, hk => absurd hk (Nat.not_lt_zero k)
  | m + 1, h, k, hk => by
    unfold cnt at h
    have h1 := cnt_le P m
    cases hP : P m
    · rw [hP] at h; simp at h; omega
    · rw [hP] at h; simp at h
      by_cases hkm : k = m
      · subst hkm; exact hP
      · exact cnt_full m h k (by omega)
