/-! counts of bits, and phases whose greens clash -/
theorem pn_le {v1 : SX2} {g : Gr} (h : PG v1 g) {i : Nat} (hi : i < gN g) : ¬ v1.2.2.2.2.2.2.1 ≤ nI i := fun z => by
  have h8 := h.1
  rw [h.2.1, nI_leI (by omega) (by omega)] at z; omega
theorem pn_self {v1 : SX2} {g : Gr} (h : PG v1 g) : v1.2.2.2.2.2.2.1 ≤ nI (gN g) := by
  have h8 := h.1
  rw [h.2.1]; exact nI_le (Nat.le_refl _) (by omega)
theorem nI_toNat (x : Int32) : nI x.toBitVec.toNat = x := by
  apply Int32.toBitVec_inj.mp
  show (Int32.ofNat x.toBitVec.toNat).toBitVec = x.toBitVec
  rw [Int32.toBitVec_ofNat', BitVec.ofNat_toNat, BitVec.setWidth_eq]
theorem byte_of {x : Int32} (h : ∀ q, bt x q = true → q < 8) : ∃ i, i < 256 ∧ x = nI i := by
  refine ⟨x.toBitVec.toNat, ?_, (nI_toNat x).symm⟩
  refine Nat.lt_pow_two_of_testBit (n := 8) _ (fun i hi => ?_)
  cases hb : bt x i
  · exact hb
  · have := h i hb; omega
theorem bitc_all : ∀ i : Fin 256, fJ6_bitCount_0f7a4 9 (nI i.val) = some (nI (cnt (bt (nI i.val)) 8)) := by decide +kernel
theorem bitC_eq (N : Nat) {x : Int32} (h : ∀ q, bt x q = true → q < 8) : fJ6_bitCount_0f7a4 N x = some (nI (cnt (bt x) 8)) := by
  obtain ⟨i, hi, rfl⟩ := byte_of h
  exact bitc_all ⟨i, hi⟩
theorem cnt_congr {P Q : Nat → Bool} : ∀ n, (∀ k, k < n → P k = Q k) → cnt P n = cnt Q n := by
  intro n
  induction n with
  | zero => intro _; rfl
  | succ n ih => intro h; rw [cnt, cnt, ih (fun k hk => h k (by omega)), h n (by omega)]
theorem cnt_ext {P : Nat → Bool} {n : Nat} : ∀ m, n ≤ m → (∀ k, n ≤ k → k < m → P k = false) → cnt P m = cnt P n := by
  intro m
  induction m with
  | zero => intro h _; rw [show n = 0 by omega]
  | succ m ih =>
    intro h hf
    by_cases hm : n = m + 1
    · rw [hm]
    · rw [cnt, ih (by omega) (fun k h1 h2 => hf k h1 (by omega)), hf m (by omega) (by omega), if_neg (by decide), Nat.add_zero]
/-- p shows green to two directions that clash, in the class's rows -/
def UnS (C : Nat → Int32) (g : Gr) (p : Nat) : Prop := ∃ d, d < 6 ∧ GN g d p ∧ ¬ C d &&& gG g p = 0
section UN
variable {v1 : SX2} {g : Gr}
theorem X2_un_L11 (N : Nat) (p : Nat) : ∀ (k i fuel : Nat), i + k = 6 → k < fuel → (fX2_isUnsafe_L11 N v1 (gG g p) fuel (nI i) = some (.inl 1) ∧ ∃ d, i ≤ d ∧ d < 6 ∧ GN g d p ∧ ¬ v1.1 d &&& gG g p = 0) ∨ (fX2_isUnsafe_L11 N v1 (gG g p) fuel (nI i) = some (.inr ()) ∧ ¬ ∃ d, i ≤ d ∧ d < 6 ∧ GN g d p ∧ ¬ v1.1 d &&& gG g p = 0) := by
  intro k
  induction k with
  | zero =>
    intro i fuel e1 e2
    obtain ⟨f, rfl⟩ : ∃ f, fuel = f + 1 := ⟨fuel - 1, by omega⟩
    have hi : i = 6 := by omega
    subst hi
    rw [fX2_isUnsafe_L11, if_pos (by decide)]
    exact Or.inr ⟨rfl, fun ⟨d, d1, d2, _⟩ => by omega⟩
  | succ k ih =>
    intro i fuel e1 e2
    obtain ⟨f, rfl⟩ : ∃ f, fuel = f + 1 := ⟨fuel - 1, by omega⟩
    have hi : i < 6 := by omega
    have skip : ¬ (GN g i p ∧ ¬ v1.1 i &&& gG g p = 0) → (fX2_isUnsafe_L11 N v1 (gG g p) f (nI (i + 1)) = some (.inl 1) ∧ ∃ d, i ≤ d ∧ d < 6 ∧ GN g d p ∧ ¬ v1.1 d &&& gG g p = 0) ∨ (fX2_isUnsafe_L11 N v1 (gG g p) f (nI (i + 1)) = some (.inr ()) ∧ ¬ ∃ d, i ≤ d ∧ d < 6 ∧ GN g d p ∧ ¬ v1.1 d &&& gG g p = 0) := by
      intro hn
      rcases ih (i + 1) f (by omega) (by omega) with ⟨a, d, d1, d2⟩ | ⟨a, b⟩
      · exact Or.inl ⟨a, d, by omega, d2⟩
      · refine Or.inr ⟨a, fun ⟨d, d1, d2, d3⟩ => ?_⟩
        by_cases hd : d = i
        · subst hd; exact hn d3
        · exact b ⟨d, by omega, d2, d3⟩
    rw [fX2_isUnsafe_L11, if_neg (le6 hi), X7_has_eq N _ (by omega), Option.bind_some, nI_1, rowAt_nI hi (by decide), Int32.and_comm (gG g p)]
    cases hb : bt (gG g p) i
    · rw [if_pos b2i_f]
      exact skip (fun z => by have z2 : bt (gG g p) i = true := z.1; rw [hb] at z2; cases z2)
    · rw [if_neg b2i_t]
      by_cases hx : v1.1 i &&& gG g p = 0
      · rw [if_pos hx]; exact skip (fun z => z.2 hx)
      · rw [if_neg hx]; exact Or.inl ⟨rfl, i, Nat.le_refl _, hi, hb, hx⟩
theorem X2_isUn_eq (h : PG v1 g) {N : Nat} (hN : 9 ≤ N) {p : Nat} (hp : p < gN g) : ∃ b : Bool, fX2_isUnsafe N v1 (nI p) = some (b2i b) ∧ (b = true ↔ UnS v1.1 g p) := by
  unfold fX2_isUnsafe
  rw [plan_gr h hp]
  rcases X2_un_L11 (v1 := v1) (g := g) N p 6 0 N (by omega) (by omega) with ⟨a, d, -, b⟩ | ⟨a, b⟩
  · have a' : fX2_isUnsafe_L11 N v1 (gG g p) N 0 = some (.inl 1) := a
    rw [a', Option.bind_some]
    exact ⟨true, rfl, fun _ => ⟨d, b⟩, fun _ => rfl⟩
  · have a' : fX2_isUnsafe_L11 N v1 (gG g p) N 0 = some (.inr ()) := a
    rw [a', Option.bind_some]
    exact ⟨false, rfl, (fun z => absurd z (by decide)), fun ⟨d, z⟩ => absurd ⟨d, Nat.zero_le _, z⟩ b⟩
theorem X2_uns_eq (h : PG v1 g) {N : Nat} (hN : 9 ≤ N) : ∃ M, fX2_unsafePhases N v1 = some M ∧ ∀ q, bt M q = true ↔ (q < gN g ∧ UnS v1.1 g q) := by
  have h8 := h.1
  obtain ⟨M, a1, a2⟩ := fill_eq (F := fX2_unsafePhases_L4 N v1) (n := gN g) (P := UnS v1.1 g) (by omega) (fun f m => by rw [fX2_unsafePhases_L4, if_pos (pn_self h)]) (fun i f m hi => by
    obtain ⟨b, b1, b2⟩ := X2_isUn_eq h hN hi
    refine ⟨b, b2, ?_⟩
    rw [fX2_unsafePhases_L4, if_neg (pn_le h hi), b1, Option.bind_some]
    cases b
    · rw [if_pos b2i_f, if_neg (by decide), nI_1, Int32.or_zero]
    · rw [if_neg b2i_t, if_pos rfl, nI_1]) (fuel := N) (by omega)
  exact ⟨M, by unfold fX2_unsafePhases; rw [a1]; rfl, a2⟩
end UN
