/-! the reference: masks and flags that its loops fill -/
theorem fill_of {F : Nat → Int32 → Int32 → Option Int32} {n : Nat} (hn : n ≤ 31) {P : Nat → Prop} (h0 : ∀ f m, F (f + 1) m (nI n) = some m) (hs : ∀ i f m, i < n → ∃ b : Bool, (b = true ↔ P i) ∧ F (f + 1) m (nI i) = F f (if b = true then m ||| ((1 : Int32) <<< (nI i &&& 31)) else m ||| 0) (nI (i + 1))) : ∀ (k i fuel : Nat) (m : Int32), i + k = n → k < fuel → ∃ M, F fuel m (nI i) = some M ∧ ∀ q, bt M q = true ↔ (bt m q = true ∨ (i ≤ q ∧ q < n ∧ P q)) := by
  intro k
  induction k with
  | zero =>
    intro i fuel m e1 e2
    obtain ⟨f, rfl⟩ : ∃ f, fuel = f + 1 := ⟨fuel - 1, by omega⟩
    have hi : i = n := by omega
    subst hi
    exact ⟨m, h0 f m, fun q => ⟨Or.inl, fun z => z.elim id (fun z => by omega)⟩⟩
  | succ k ih =>
    intro i fuel m e1 e2
    obtain ⟨f, rfl⟩ : ∃ f, fuel = f + 1 := ⟨fuel - 1, by omega⟩
    obtain ⟨b, b1, b2⟩ := hs i f m (by omega)
    obtain ⟨M, a1, a2⟩ := ih (i + 1) f (if b = true then m ||| ((1 : Int32) <<< (nI i &&& 31)) else m ||| 0) (by omega) (by omega)
    refine ⟨M, by rw [b2]; exact a1, fun q => ?_⟩
    rw [a2 q]
    cases b
    · rw [if_neg (by decide), Int32.or_zero]
      constructor
      · rintro (z | ⟨z1, z2, z3⟩)
        · exact Or.inl z
        · exact Or.inr ⟨by omega, z2, z3⟩
      · rintro (z | ⟨z1, z2, z3⟩)
        · exact Or.inl z
        · by_cases hq : q = i
          · subst hq; have := b1.mpr z3; cases this
          · exact Or.inr ⟨by omega, z2, z3⟩
    · rw [if_pos rfl, bt_setk (by omega), Bool.or_eq_true, decide_eq_true_eq]
      constructor
      · rintro ((z | rfl) | ⟨z1, z2, z3⟩)
        · exact Or.inl z
        · exact Or.inr ⟨Nat.le_refl _, by omega, b1.mp rfl⟩
        · exact Or.inr ⟨by omega, z2, z3⟩
      · rintro (z | ⟨z1, z2, z3⟩)
        · exact Or.inl (Or.inl z)
        · by_cases hq : q = i
          · exact Or.inl (Or.inr hq)
          · exact Or.inr ⟨by omega, z2, z3⟩
theorem fill_eq {F : Nat → Int32 → Int32 → Option Int32} {n : Nat} (hn : n ≤ 31) {P : Nat → Prop} (h0 : ∀ f m, F (f + 1) m (nI n) = some m) (hs : ∀ i f m, i < n → ∃ b : Bool, (b = true ↔ P i) ∧ F (f + 1) m (nI i) = F f (if b = true then m ||| ((1 : Int32) <<< (nI i &&& 31)) else m ||| 0) (nI (i + 1))) {fuel : Nat} (hf : n < fuel) : ∃ M, F fuel 0 0 = some M ∧ ∀ q, bt M q = true ↔ (q < n ∧ P q) := by
  obtain ⟨M, a1, a2⟩ := fill_of hn h0 hs n 0 fuel 0 (by omega) hf
  refine ⟨M, a1, fun q => ?_⟩
  rw [a2 q, bt_0]
  constructor
  · rintro (z | ⟨-, z⟩)
    · cases z
    · exact z
  · intro z; exact Or.inr ⟨Nat.zero_le _, z⟩
theorem flag_of {F : Nat → Int32 → Int32 → Option Int32} {n : Nat} {P : Nat → Prop} (h0 : ∀ f m, F (f + 1) m (nI n) = some m) (ht : ∀ i f, i < n → F (f + 1) 1 (nI i) = F f 1 (nI (i + 1))) (hs : ∀ i f, i < n → ∃ b : Bool, (b = true ↔ P i) ∧ F (f + 1) 0 (nI i) = F f (b2i b) (nI (i + 1))) : ∀ (k i fuel : Nat) (c : Bool), i + k = n → k < fuel → ∃ b : Bool, F fuel (b2i c) (nI i) = some (b2i b) ∧ (b = true ↔ (c = true ∨ ∃ q, i ≤ q ∧ q < n ∧ P q)) := by
  intro k
  induction k with
  | zero =>
    intro i fuel c e1 e2
    obtain ⟨f, rfl⟩ : ∃ f, fuel = f + 1 := ⟨fuel - 1, by omega⟩
    have hi : i = n := by omega
    subst hi
    refine ⟨c, h0 f _, Or.inl, ?_⟩
    rintro (z | ⟨q, q1, q2, -⟩)
    · exact z
    · omega
  | succ k ih =>
    intro i fuel c e1 e2
    obtain ⟨f, rfl⟩ : ∃ f, fuel = f + 1 := ⟨fuel - 1, by omega⟩
    cases c
    · obtain ⟨b, b1, b2⟩ := hs i f (by omega)
      obtain ⟨b', a1, a2⟩ := ih (i + 1) f b (by omega) (by omega)
      have b2' : F (f + 1) (b2i false) (nI i) = F f (b2i b) (nI (i + 1)) := b2
      refine ⟨b', by rw [b2']; exact a1, ?_⟩
      rw [a2]
      constructor
      · rintro (z | ⟨q, q1, q2⟩)
        · exact Or.inr ⟨i, Nat.le_refl _, by omega, b1.mp z⟩
        · exact Or.inr ⟨q, by omega, q2⟩
      · rintro (z | ⟨q, q1, q2, q3⟩)
        · cases z
        · by_cases hq : q = i
          · subst hq; exact Or.inl (b1.mpr q3)
          · exact Or.inr ⟨q, by omega, q2, q3⟩
    · have ht' : F (f + 1) (b2i true) (nI i) = F f (b2i true) (nI (i + 1)) := ht i f (by omega)
      obtain ⟨b', a1, a2⟩ := ih (i + 1) f true (by omega) (by omega)
      refine ⟨b', by rw [ht']; exact a1, ?_⟩
      rw [a2]
      exact ⟨fun _ => Or.inl rfl, fun _ => Or.inl rfl⟩
theorem flag_eq {F : Nat → Int32 → Int32 → Option Int32} {n : Nat} {P : Nat → Prop} (h0 : ∀ f m, F (f + 1) m (nI n) = some m) (ht : ∀ i f, i < n → F (f + 1) 1 (nI i) = F f 1 (nI (i + 1))) (hs : ∀ i f, i < n → ∃ b : Bool, (b = true ↔ P i) ∧ F (f + 1) 0 (nI i) = F f (b2i b) (nI (i + 1))) {fuel : Nat} (hf : n < fuel) : ∃ b : Bool, F fuel 0 0 = some (b2i b) ∧ (b = true ↔ ∃ q, q < n ∧ P q) := by
  obtain ⟨b, a1, a2⟩ := flag_of h0 ht hs n 0 fuel false (by omega) hf
  refine ⟨b, a1, ?_⟩
  rw [a2]
  constructor
  · rintro (z | ⟨q, -, z⟩)
    · cases z
    · exact ⟨q, z⟩
  · rintro ⟨q, z⟩; exact Or.inr ⟨q, Nat.zero_le _, z⟩
theorem count_of {F : Nat → Int32 → Int32 → Option Int32} {n : Nat} (B : Nat → Bool) (h0 : ∀ f m, F (f + 1) m (nI n) = some m) (hs : ∀ i f m, i < n → F (f + 1) m (nI i) = F f (if B i = true then m + 1 else m + 0) (nI (i + 1))) : ∀ (k i fuel : Nat), i + k = n → k < fuel → F fuel (nI (cnt B i)) (nI i) = some (nI (cnt B n)) := by
  intro k
  induction k with
  | zero =>
    intro i fuel e1 e2
    obtain ⟨f, rfl⟩ : ∃ f, fuel = f + 1 := ⟨fuel - 1, by omega⟩
    have hi : i = n := by omega
    subst hi
    exact h0 f _
  | succ k ih =>
    intro i fuel e1 e2
    obtain ⟨f, rfl⟩ : ∃ f, fuel = f + 1 := ⟨fuel - 1, by omega⟩
    have h := ih (i + 1) f (by omega) (by omega)
    rw [hs i f _ (by omega)]
    have he : (if B i = true then nI (cnt B i) + 1 else nI (cnt B i) + 0) = nI (cnt B (i + 1)) := by
      cases hb : B i
      · rw [if_neg (by decide), cnt, hb, if_neg (by decide), Int32.add_zero]; rfl
      · rw [if_pos rfl, cnt, hb, if_pos rfl, nI_1]
    rw [he]
    exact h
theorem count_eq {F : Nat → Int32 → Int32 → Option Int32} {n : Nat} (B : Nat → Bool) (h0 : ∀ f m, F (f + 1) m (nI n) = some m) (hs : ∀ i f m, i < n → F (f + 1) m (nI i) = F f (if B i = true then m + 1 else m + 0) (nI (i + 1))) {fuel : Nat} (hf : n < fuel) : F fuel 0 0 = some (nI (cnt B n)) :=
  count_of B h0 hs n 0 fuel (by omega) hf
theorem le6 {i : Nat} (hi : i < 6) : ¬ (6 : Int32) ≤ nI i := fun z => by
  have z2 : nI 6 ≤ nI i := z
  rw [nI_leI (by omega) (by omega)] at z2; omega
section RM
variable {v : SX8} {g : Gr}
theorem zn_le (h : ZG v.2.1 g) {i : Nat} (hi : i < gN g) : ¬ v.2.1 0 ≤ nI i := fun z => by
  have h8 := h.1
  rw [h.2.1, nI_leI (by omega) (by omega)] at z; omega
theorem zn_self (h : ZG v.2.1 g) : v.2.1 0 ≤ nI (gN g) := by
  have h8 := h.1
  rw [h.2.1]; exact nI_le (Nat.le_refl _) (by omega)
theorem X8_starving_eq (h : ZG v.2.1 g) {N : Nat} (hN : 11 ≤ N) {s : Nat} (hs : AtS v.2.1 g s) : ∃ M, fX8_starving N v = some M ∧ ∀ d, bt M d = true ↔ (d < 6 ∧ SvA g s d) := by
  obtain ⟨M, a1, a2⟩ := fill_eq (F := fX8_starving_L4 N v) (n := 6) (P := SvA g s) (by omega) (fun f m => by rw [fX8_starving_L4, if_pos (by decide)]) (fun i f m hi => by
    obtain ⟨b, b1, b2⟩ := X8_anywhere_eq h hN hs (d := i) (by omega)
    refine ⟨b, b2, ?_⟩
    rw [fX8_starving_L4, if_neg (le6 hi), b1, Option.bind_some]
    cases b
    · rw [if_pos b2i_f, if_neg (by decide), nI_1]
    · rw [if_neg b2i_t, if_pos rfl, nI_1]) (fuel := N) (by omega)
  exact ⟨M, by unfold fX8_starving; rw [a1]; rfl, a2⟩
theorem X8_roundsOf_eq (h : ZG v.2.1 g) {N : Nat} (hN : 11 ≤ N) {s d : Nat} (hs : AtS v.2.1 g s) (hd : d < 32) : ∃ M, fX8_roundsOf N v (nI d) = some M ∧ ∀ q, bt M q = true ↔ (q < gN g ∧ Cmg g (-1) 0 s q ∧ Rd g d q) := by
  have h8 := h.1
  obtain ⟨cm, m1, m2⟩ := X8_comers_eq h (N := N) (by omega) hs
  obtain ⟨M, a1, a2⟩ := fill_eq (F := fX8_roundsOf_L10 N v (nI d) cm) (n := gN g) (P := fun q => Cmg g (-1) 0 s q ∧ Rd g d q) (by omega) (fun f m => by rw [fX8_roundsOf_L10, chk0, tn0, if_pos (zn_self h)]) (fun i f m hi => by
    rw [fX8_roundsOf_L10, chk0, tn0, if_neg (zn_le h hi), ite_bit _ (by omega)]
    cases hc : bt cm i
    · rw [if_neg (by decide)]
      refine ⟨false, ⟨fun z => (by cases z), fun z => ?_⟩, ?_⟩
      · rw [(m2 i).mpr z.1] at hc; cases hc
      · rw [if_neg (by decide), nI_1]
    · rw [if_pos rfl]
      obtain ⟨b, b1, b2⟩ := X8_isRound_eq h hN hd hi
      refine ⟨b, ⟨fun z => ⟨(m2 i).mp hc, b2.mp z⟩, fun z => b2.mpr z.2⟩, ?_⟩
      rw [b1, Option.bind_some]
      cases b
      · rw [if_pos b2i_f, if_neg (by decide), nI_1]
      · rw [if_neg b2i_t, if_pos rfl, nI_1]) (fuel := N) (by omega)
  exact ⟨M, by unfold fX8_roundsOf; rw [m1, Option.bind_some, a1]; rfl, a2⟩
theorem X8_phasesWith_eq (h : ZG v.2.1 g) {N : Nat} (hN : 11 ≤ N) {d : Nat} (hd : d < 32) : ∃ M, fX8_phasesWith N v (nI d) = some M ∧ ∀ q, bt M q = true ↔ (q < gN g ∧ GN g d q) := by
  have h8 := h.1
  obtain ⟨M, a1, a2⟩ := fill_eq (F := fX8_phasesWith_L4 N v (nI d)) (n := gN g) (P := GN g d) (by omega) (fun f m => by rw [fX8_phasesWith_L4, chk0, tn0, if_pos (zn_self h)]) (fun i f m hi => by
    refine ⟨grn g d i, Iff.rfl, ?_⟩
    rw [fX8_phasesWith_L4, chk0, tn0, if_neg (zn_le h hi), X8_hasGreen_eq h N hi hd, Option.bind_some]
    cases grn g d i
    · rw [if_pos b2i_f, if_neg (by decide), nI_1]
    · rw [if_neg b2i_t, if_pos rfl, nI_1]) (fuel := N) (by omega)
  exact ⟨M, by unfold fX8_phasesWith; rw [a1]; rfl, a2⟩
/-- p shows green to two directions that clash -/
def Dcl (z : Nat → Int32) (g : Gr) (p : Nat) : Prop := ∃ d, d < 6 ∧ GN g d p ∧ ¬ z (7 + d) &&& gG g p = 0
theorem X8_doesClash_eq (h : ZG v.2.1 g) {N : Nat} (hN : 11 ≤ N) {p : Nat} (hp : p < gN g) : ∃ b : Bool, fX8_doesClash N v (nI p) = some (b2i b) ∧ (b = true ↔ Dcl v.2.1 g p) := by
  have h8 := h.1
  obtain ⟨b, a1, a2⟩ := flag_eq (F := fX8_doesClash_L4 N v (nI p)) (n := 6) (P := fun d => GN g d p ∧ ¬ v.2.1 (7 + d) &&& gG g p = 0) (fun f m => by rw [fX8_doesClash_L4, if_pos (by decide)]) (fun i f hi => by rw [fX8_doesClash_L4, if_neg (le6 hi), if_neg (by decide), nI_1]) (fun i f hi => by
    rw [fX8_doesClash_L4, if_neg (le6 hi), if_pos rfl, X8_hasGreen_eq h N hp (by omega), Option.bind_some]
    cases hg : grn g i p
    · rw [if_pos b2i_f]
      refine ⟨false, ⟨fun z => (by cases z), fun z => ?_⟩, by rw [nI_1]; rfl⟩
      have z2 : grn g i p = true := z.1
      rw [hg] at z2; cases z2
    · rw [if_neg b2i_t]
      have h7 : (7 : Int32) + nI i = nI (7 + i) := by rw [show (7 : Int32) = nI 7 from rfl, nI_add]
      rw [h7, chk_nI (by omega) (by omega), X8_greens_eq h N hp, Option.bind_some, nI_clamp (by omega)]
      by_cases hx : v.2.1 (7 + i) &&& gG g p = 0
      · rw [if_pos hx]
        exact ⟨false, ⟨fun z => (by cases z), fun z => absurd hx z.2⟩, by rw [nI_1]; rfl⟩
      · rw [if_neg hx]
        exact ⟨true, ⟨fun _ => ⟨hg, hx⟩, fun _ => rfl⟩, by rw [nI_1]; rfl⟩) (fuel := N) (by omega)
  exact ⟨b, by unfold fX8_doesClash; rw [a1, Option.bind_some, must_b2i], a2⟩
end RM
