/-! closures of masks -/
def noG : Nat → Prop := fun _ => False
def cloIn (add : Nat → Int32) : Nat → Nat → Int32 → Int32
  | 0, _, m => m
  | k + 1, i, m => cloIn add k (i + 1) (if bt m i then m ||| add i else m)
def cloOut (add : Nat → Int32) (n : Nat) : Nat → Int32 → Bool → Int32
  | 0, m, _ => m
  | _ + 1, m, false => m
  | k + 1, m, true => cloOut add n k (cloIn add n 0 m) (decide (¬ cloIn add n 0 m = m))
def cloIt (add : Nat → Int32) (n : Nat) : Nat → Int32 → Int32
  | 0, m => m
  | k + 1, m => cloIt add n k (cloIn add n 0 m)
def AddS (n : Nat) (F : Nat → Nat → Prop) (add : Nat → Int32) : Prop := ∀ p, p < n → ∀ q, bt (add p) q = true ↔ (q < n ∧ F p q)
theorem cloIn_lt {add : Nat → Int32} {n : Nat} {F : Nat → Nat → Prop} (hA : AddS n F add) : ∀ (k i : Nat) (m : Int32), i + k ≤ n → (∀ q, bt m q = true → q < n) → ∀ q, bt (cloIn add k i m) q = true → q < n := by
  intro k
  induction k with
  | zero => intro i m _ h; exact h
  | succ k ih =>
    intro i m hi h
    refine ih (i + 1) _ (by omega) ?_
    intro q hq
    split at hq
    · rw [bt_or, Bool.or_eq_true] at hq
      rcases hq with hq | hq
      · exact h q hq
      · exact ((hA i (by omega) q).mp hq).1
    · exact h q hq
theorem cloIn_mono (add : Nat → Int32) : ∀ (k i : Nat) (m : Int32) (q : Nat), bt m q = true → bt (cloIn add k i m) q = true := by
  intro k
  induction k with
  | zero => intro i m q h; exact h
  | succ k ih =>
    intro i m q h
    refine ih (i + 1) _ q ?_
    split
    · rw [bt_or, h]; rfl
    · exact h
theorem cloIn_snd {add : Nat → Int32} {n : Nat} {F : Nat → Nat → Prop} {P : Nat → Prop} (hA : AddS n F add) (hP : ∀ p q, P p → q < n → F p q → P q) : ∀ (k i : Nat) (m : Int32), i + k ≤ n → (∀ q, bt m q = true → P q) → ∀ q, bt (cloIn add k i m) q = true → P q := by
  intro k
  induction k with
  | zero => intro i m _ h; exact h
  | succ k ih =>
    intro i m hi h
    refine ih (i + 1) _ (by omega) ?_
    intro q hq
    split at hq
    · rename_i hb
      rw [bt_or, Bool.or_eq_true] at hq
      rcases hq with hq | hq
      · exact h q hq
      · obtain ⟨h1, h2⟩ := (hA i (by omega) q).mp hq
        exact hP i q (h i hb) h1 h2
    · exact h q hq
theorem cloIn_end {add : Nat → Int32} : ∀ (k i : Nat) (m : Int32), cloIn add k i m = m → ∀ p, i ≤ p → p < i + k → bt m p = true → ∀ q, bt (add p) q = true → bt m q = true := by
  intro k
  induction k with
  | zero => intro i m _ p h1 h2; omega
  | succ k ih =>
    intro i m he p h1 h2 hb q hq
    have hstep : (if bt m i then m ||| add i else m) = m := by
      split
      · apply bt_ext
        intro j _
        cases hj : bt (m ||| add i) j
        · rw [bt_or] at hj
          cases hm : bt m j
          · rfl
          · rw [hm] at hj; cases hj
        · have := cloIn_mono add k (i + 1) (m ||| add i) j hj
          have he2 : cloIn add k (i + 1) (m ||| add i) = m := by
            have he3 := he
            unfold cloIn at he3
            rw [if_pos (by assumption)] at he3
            exact he3
          rw [he2] at this
          exact this.symm
      · rfl
    by_cases hpi : p = i
    · subst hpi
      rw [if_pos hb] at hstep
      rw [← hstep, bt_or, hq, Bool.or_true]
    · have he2 : cloIn add k (i + 1) m = m := by
        have he3 := he
        unfold cloIn at he3
        rw [hstep] at he3
        exact he3
      exact ih (i + 1) m he2 p (by omega) (by omega) hb q hq
def CLO (n : Nat) (F : Nat → Nat → Prop) (m0 M : Int32) : Prop := ∀ q, bt M q = true ↔ ∃ s k, bt m0 s = true ∧ Way n F noG k s q
theorem CLO_of {n : Nat} {F : Nat → Nat → Prop} {m0 M : Int32} (h1 : ∀ q, bt M q = true → ∃ s k, bt m0 s = true ∧ Way n F noG k s q) (h2 : ∀ q, bt m0 q = true → bt M q = true) (h3 : ∀ p q, p < n → bt M p = true → q < n → F p q → bt M q = true) (h4 : ∀ q, bt M q = true → q < n) : CLO n F m0 M := by
  intro q
  refine ⟨h1 q, ?_⟩
  rintro ⟨s, k, hs, hw⟩
  have key : ∀ k s, bt M s = true → Way n F noG k s q → bt M q = true := by
    intro k
    induction k with
    | zero => intro s hs hw; cases hw; exact hs
    | succ k ih =>
      intro s hs hw
      obtain ⟨r, r1, r2, -, r4⟩ := hw
      exact ih r (h3 s r (h4 s hs) hs r1 r2) r4
  exact key k s (h2 s hs) hw
theorem reach_step {n : Nat} {F : Nat → Nat → Prop} {m0 : Int32} (p q : Nat) (h : ∃ s k, bt m0 s = true ∧ Way n F noG k s p) (hq : q < n) (hF : F p q) : ∃ s k, bt m0 s = true ∧ Way n F noG k s q := by
  obtain ⟨s, k, h1, h2⟩ := h
  exact ⟨s, k + 1, h1, h2.snoc hq hF (fun z => z)⟩
theorem cloOut_spec {add : Nat → Int32} {n : Nat} {F : Nat → Nat → Prop} (hA : AddS n F add) {m0 : Int32} : ∀ (k i : Nat) (m : Int32) (fl : Bool), i + k = n → (∀ q, bt m q = true → q < n) → (∀ q, bt m q = true → ∃ s j, bt m0 s = true ∧ Way n F noG j s q) → (∀ q, bt m0 q = true → bt m q = true) →
    ((fl = false ∧ ∀ p q, p < n → bt m p = true → q < n → F p q → bt m q = true) ∨ (fl = true ∧ i ≤ cnt (bt m) n)) → CLO n F m0 (cloOut add n k m fl) := by
  intro k
  induction k with
  | zero =>
    intro i m fl e1 e2 e3 e4 e5
    refine CLO_of e3 e4 ?_ e2
    rcases e5 with ⟨-, e5⟩ | ⟨-, e5⟩
    · exact e5
    · intro p q hp _ hq _
      exact cnt_full (P := bt m) n (by omega) q hq
  | succ k ih =>
    intro i m fl e1 e2 e3 e4 e5
    rcases e5 with ⟨rfl, e5⟩ | ⟨rfl, e5⟩
    · exact CLO_of e3 e4 e5 e2
    · have a1 := cloIn_lt hA n 0 m (by omega) e2
      have a2 := cloIn_mono add n 0 m
      have a3 := cloIn_snd hA (P := fun q => ∃ s j, bt m0 s = true ∧ Way n F noG j s q) (fun p q h1 h2 h3 => reach_step p q h1 h2 h3) n 0 m (by omega) e3
      show CLO n F m0 (cloOut add n k (cloIn add n 0 m) (decide (¬ cloIn add n 0 m = m)))
      by_cases he : cloIn add n 0 m = m
      · refine ih (i + 1) _ _ (by omega) a1 a3 (fun q hq => a2 q (e4 q hq)) (Or.inl ⟨decide_eq_false (fun z => z he), ?_⟩)
        intro p q hp hb hq hF
        have hb' : bt m p = true := by rw [he] at hb; exact hb
        rw [he]
        exact cloIn_end n 0 m he p (Nat.zero_le _) (by omega) hb' q ((hA p hp q).mpr ⟨hq, hF⟩)
      · have := cnt_grow a1 a2 he
        exact ih (i + 1) _ _ (by omega) a1 a3 (fun q hq => a2 q (e4 q hq)) (Or.inr ⟨decide_eq_true he, by omega⟩)
theorem cloIt_fix {add : Nat → Int32} {n : Nat} {m : Int32} (h : cloIn add n 0 m = m) : ∀ k, cloIt add n k m = m
  | 0 => rfl
  | k + 1 => by
    show cloIt add n k (cloIn add n 0 m) = m
    rw [h]
    exact cloIt_fix h k
theorem cloIt_spec {add : Nat → Int32} {n : Nat} {F : Nat → Nat → Prop} (hA : AddS n F add) {m0 : Int32} : ∀ (k i : Nat) (m : Int32), n ≤ i + k → (∀ q, bt m q = true → q < n) → (∀ q, bt m q = true → ∃ s j, bt m0 s = true ∧ Way n F noG j s q) → (∀ q, bt m0 q = true → bt m q = true) → i ≤ cnt (bt m) n → CLO n F m0 (cloIt add n k m) := by
  intro k
  induction k with
  | zero =>
    intro i m e1 e2 e3 e4 e5
    exact CLO_of e3 e4 (fun p q _ _ hq _ => cnt_full (P := bt m) n (by omega) q hq) e2
  | succ k ih =>
    intro i m e1 e2 e3 e4 e5
    have a1 := cloIn_lt hA n 0 m (by omega) e2
    have a2 := cloIn_mono add n 0 m
    have a3 := cloIn_snd hA (P := fun q => ∃ s j, bt m0 s = true ∧ Way n F noG j s q) (fun p q h1 h2 h3 => reach_step p q h1 h2 h3) n 0 m (by omega) e3
    by_cases he : cloIn add n 0 m = m
    · rw [cloIt_fix he]
      exact CLO_of e3 e4 (fun p q hp hb hq hF => cloIn_end n 0 m he p (Nat.zero_le _) (by omega) hb q ((hA p hp q).mpr ⟨hq, hF⟩)) e2
    · have := cnt_grow a1 a2 he
      exact ih (i + 1) _ (by omega) a1 a3 (fun q hq => a2 q (e4 q hq)) (by omega)
theorem way_nog {n : Nat} {E F : Nat → Nat → Prop} {gn : Nat → Prop} (h : ∀ p q, F p q ↔ (E p q ∧ ¬ gn q)) : ∀ (k p q : Nat), Way n F noG k p q ↔ Way n E gn k p q := by
  intro k
  induction k with
  | zero => intro p q; exact Iff.rfl
  | succ k ih =>
    intro p q
    constructor
    · rintro ⟨r, r1, r2, -, r4⟩
      exact ⟨r, r1, ((h p r).mp r2).1, ((h p r).mp r2).2, (ih r q).mp r4⟩
    · rintro ⟨r, r1, r2, r3, r4⟩
      exact ⟨r, r1, (h p r).mpr ⟨r2, r3⟩, fun z => z, (ih r q).mpr r4⟩
