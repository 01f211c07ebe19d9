/-! the law's look at clashing greens, and its sums -/
section KL
variable {v : SX7} {g : Gr}
/-- the pair k of directions clashes in the phase p -/
def Pck (C : Nat → Int32) (g : Gr) (p k : Nat) : Prop := bt (gG g p) (k / 6) = true ∧ bt (gG g p) (k % 6) = true ∧ bt (C (k / 6)) (k % 6) = true
theorem L116_eq (hP : PG v.1.1 g) (N : Nat) (z2 z3 z5 z6 z7 : Int32) {p : Nat} (hp : p < gN g) : ∀ (j i fuel : Nat) (c : Bool), i + j = 36 → j < fuel → ∃ b : Bool, fL_comers_L116 N z2 z3 z5 z6 z7 (nI p) fuel v (b2i c) (nI i) = some (v, b2i b) ∧ (b = true ↔ (c = true ∨ ∃ k, i ≤ k ∧ k < 36 ∧ Pck v.1.1.1 g p k)) := by
  have h8 := hP.1
  intro j
  induction j with
  | zero =>
    intro i fuel c e1 e2
    obtain ⟨f, rfl⟩ : ∃ f, fuel = f + 1 := ⟨fuel - 1, by omega⟩
    have hi : i = 36 := by omega
    subst hi
    refine ⟨c, by rw [fL_comers_L116, if_pos (by decide)], ⟨Or.inl, fun z => z.elim id (fun ⟨k, k1, k2, _⟩ => absurd k1 (by omega))⟩⟩
  | succ j ih =>
    intro i fuel c e1 e2
    obtain ⟨f, rfl⟩ : ∃ f, fuel = f + 1 := ⟨fuel - 1, by omega⟩
    have hi : i < 36 := by omega
    have h36 : ¬ (36 : Int32) ≤ nI i := fun z => by
      have z2 : nI 36 ≤ nI i := z
      rw [nI_leI (by omega) (by omega)] at z2; omega
    have step : ∀ c2 : Bool, (c2 = true ↔ (c = true ∨ Pck v.1.1.1 g p i)) → ∃ b : Bool, fL_comers_L116 N z2 z3 z5 z6 z7 (nI p) f v (b2i c2) (nI (i + 1)) = some (v, b2i b) ∧ (b = true ↔ (c = true ∨ ∃ k, i ≤ k ∧ k < 36 ∧ Pck v.1.1.1 g p k)) := by
      intro c2 hc2
      obtain ⟨b, b1, b2⟩ := ih (i + 1) f c2 (by omega) (by omega)
      refine ⟨b, b1, b2.trans ?_⟩
      rw [hc2]
      constructor
      · rintro ((z | z) | ⟨k, k1, k2, k3⟩)
        · exact Or.inl z
        · exact Or.inr ⟨i, Nat.le_refl _, hi, z⟩
        · exact Or.inr ⟨k, by omega, k2, k3⟩
      · rintro (z | ⟨k, k1, k2, k3⟩)
        · exact Or.inl (Or.inl z)
        · by_cases hk : k = i
          · rw [hk] at k3; exact Or.inl (Or.inr k3)
          · exact Or.inr ⟨k, by omega, k2, k3⟩
    rw [fL_comers_L116, if_neg h36, phase0 hP N hp, Option.bind_some]
    dsimp only
    rw [show (6 : Int32) = nI 6 from rfl, nI_rem (show i < 2 ^ 31 by omega) (by omega), nI_div (show i < 2 ^ 31 by omega) (by omega), nI_1]
    by_cases h1 : bt (gG g p) (i / 6) = true
    · rw [if_pos ((bit_one _ (show i / 6 < 32 by omega)).mpr h1), phase0 hP N hp, Option.bind_some]
      dsimp only
      by_cases h2 : bt (gG g p) (i % 6) = true
      · rw [if_pos ((bit_one _ (show i % 6 < 32 by omega)).mpr h2)]
        cases c
        · rw [if_pos b2i_f, dir2 v N (show i / 6 < 6 by omega), Option.bind_some]
          by_cases h3 : bt (v.1.1.1 (i / 6)) (i % 6) = true
          · rw [if_pos ((bit_one _ (show i % 6 < 32 by omega)).mpr h3)]
            exact step true ⟨fun _ => Or.inr ⟨h1, h2, h3⟩, fun _ => rfl⟩
          · rw [if_neg (fun z => h3 ((bit_one _ (show i % 6 < 32 by omega)).mp z))]
            exact step false ⟨fun z => (by cases z), fun z => z.elim (fun z => (by cases z)) (fun z => absurd z.2.2 h3)⟩
        · rw [if_neg b2i_t]
          exact step true ⟨fun _ => Or.inl rfl, fun _ => rfl⟩
      · rw [if_neg (fun z => h2 ((bit_one _ (show i % 6 < 32 by omega)).mp z))]
        cases c
        · rw [if_pos b2i_f]
          exact step false ⟨fun z => (by cases z), fun z => z.elim (fun z => (by cases z)) (fun z => absurd z.2.1 h2)⟩
        · rw [if_neg b2i_t]
          exact step true ⟨fun _ => Or.inl rfl, fun _ => rfl⟩
    · rw [if_neg (fun z => h1 ((bit_one _ (show i / 6 < 32 by omega)).mp z))]
      cases c
      · rw [if_pos b2i_f]
        exact step false ⟨fun z => (by cases z), fun z => z.elim (fun z => (by cases z)) (fun z => absurd z.1 h1)⟩
      · rw [if_neg b2i_t]
        exact step true ⟨fun _ => Or.inl rfl, fun _ => rfl⟩
theorem pck_iff {C : Nat → Int32} {p : Nat} (hB : ∀ q, bt (gG g p) q = true → q < 6) : (∃ k, 0 ≤ k ∧ k < 36 ∧ Pck C g p k) ↔ UnS C g p := by
  unfold UnS
  constructor
  · rintro ⟨k, -, k2, h1, h2, h3⟩
    refine ⟨k / 6, by omega, h1, fun z => ?_⟩
    rw [and0_iff] at z
    exact z ⟨k % 6, h3, h2⟩
  · rintro ⟨d, d1, d2, d3⟩
    have d4 : ∃ q, bt (C d) q = true ∧ bt (gG g p) q = true := Classical.byContradiction fun c => d3 ((and0_iff _ _).mpr c)
    obtain ⟨q, q1, q2⟩ := d4
    have q6 := hB q q2
    refine ⟨6 * d + q, Nat.zero_le _, by omega, ?_⟩
    unfold Pck
    rw [show (6 * d + q) / 6 = d by omega, show (6 * d + q) % 6 = q by omega]
    exact ⟨d2, q2, q1⟩
theorem share_num : ∀ n : Fin 9, ∀ r : Fin 9, n.val = 0 ∨ (decide ((FP.ddiv (FP.i2d (nI n.val - nI r.val)) (FP.i2d (nI n.val))) &&& 0x7fffffffffffffff ≤ 0x7ff0000000000000) = true ∧ Op.cmpValue (FP.dcmp (FP.ddiv (FP.i2d (nI n.val - nI r.val)) (FP.i2d (nI n.val))) (FP.ddiv (FP.i2d (nI n.val - nI r.val)) (FP.i2d (nI n.val)))) .l = 0) := by decide +kernel
theorem bit_nI (M : Int32) {p : Nat} (hp : p < 32) : (M >>> (nI p &&& 31)) &&& 1 = nI (if bt M p = true then 1 else 0) := by
  rw [shr_bit M hp]
  cases bt M p
  · rw [if_neg (by decide), if_neg (by decide)]; rfl
  · rw [if_pos rfl, if_pos rfl]; rfl
end KL
section KM
variable {m : SX1} {h : SX0} {tx : SX6} {g : Gr}
theorem L104_eq (hP : PG m.1 g) (hB : ∀ p, p < gN g → ∀ q, bt (gG g p) q = true → q < 6) {N : Nat} (hN : 100 ≤ N) {s : Nat} (hs : m.2.2.2.2.2.1 = nI s) (hs2 : s < gN g) {M U : Int32} (hM : ∀ q, bt M q = true ↔ Cmg g (-1) 0 s q) (hU : ∀ q, bt U q = true ↔ (q < gN g ∧ UnS m.1.1 g q)) : ∀ (j i fuel : Nat) (w : SX3), i + j = gN g → j < fuel → ∃ w', fL_comers_L104 N (nI (gN g)) M fuel (m, h, tx, w) (nI (cnt (bt U) i)) (nI (cnt (bt M) i)) (nI (cnt (fun q => bt M q && bt U q) i)) (nI i) = some (.inr ((m, h, tx, w'), nI (cnt (bt U) (gN g)), nI (cnt (bt M) (gN g)), nI (cnt (fun q => bt M q && bt U q) (gN g)))) := by
  have h8 := hP.1
  intro j
  induction j with
  | zero =>
    intro i fuel w e1 e2
    obtain ⟨f, rfl⟩ : ∃ f, fuel = f + 1 := ⟨fuel - 1, by omega⟩
    have hi : i = gN g := by omega
    subst hi
    exact ⟨w, by rw [fL_comers_L104, if_pos ((nI_leI (by omega) (by omega)).mpr (Nat.le_refl _))]⟩
  | succ j ih =>
    intro i fuel w e1 e2
    obtain ⟨f, rfl⟩ : ∃ f, fuel = f + 1 := ⟨fuel - 1, by omega⟩
    have hi : i < gN g := by omega
    obtain ⟨b, b1, b2⟩ := L116_eq (v := (m, h, tx, w)) hP N (nI (gN g)) M (nI (cnt (bt U) i)) (nI (cnt (bt M) i)) (nI (cnt (fun q => bt M q && bt U q) i)) hi 36 0 N false (by omega) (by omega)
    have b1' : fL_comers_L116 N (nI (gN g)) M (nI (cnt (bt U) i)) (nI (cnt (bt M) i)) (nI (cnt (fun q => bt M q && bt U q) i)) (nI i) N (m, h, tx, w) 0 0 = some ((m, h, tx, w), b2i b) := b1
    have hbU : b = bt U i := by
      have x1 : (b = true) ↔ UnS m.1.1 g i := b2.trans ⟨fun z => z.elim (fun z => (by cases z)) (fun z => (pck_iff (hB i hi)).mp z), fun z => Or.inr ((pck_iff (hB i hi)).mpr z)⟩
      have x2 : (bt U i = true) ↔ UnS m.1.1 g i := (hU i).trans ⟨fun z => z.2, fun z => ⟨hi, z⟩⟩
      exact b2i_eq x1 x2
    obtain ⟨c, c1, c2⟩ := phase3 (v := (m, h, tx, w)) hP (show 9 ≤ N by omega) hi
    have hcU : c = bt U i := by
      have x2 : (bt U i = true) ↔ UnS m.1.1 g i := (hU i).trans ⟨fun z => z.2, fun z => ⟨hi, z⟩⟩
      exact b2i_eq c2 x2
    obtain ⟨e, w2, d1, d2⟩ := phase4 (v := (m, h, tx, w)) hP (show 9 ≤ N by omega) hs (by omega) hi
    have heM : e = bt M i := b2i_eq d2 (hM i)
    subst hbU
    subst hcU
    subst heM
    obtain ⟨w', k⟩ := ih (i + 1) f w2 (by omega) (by omega)
    refine ⟨w', ?_⟩
    rw [fL_comers_L104, if_neg (fun z => by rw [nI_leI (by omega) (by omega)] at z; omega), b1', Option.bind_some]
    dsimp only
    rw [c1, Option.bind_some]
    dsimp only
    have hbit := bit_b2i M (show i < 32 by omega)
    have hbn := bit_nI M (show i < 32 by omega)
    have u1 : cnt (bt U) (i + 1) = cnt (bt U) i + (if bt U i then 1 else 0) := rfl
    have u2 : cnt (bt M) (i + 1) = cnt (bt M) i + (if bt M i then 1 else 0) := rfl
    have u3 : cnt (fun q => bt M q && bt U q) (i + 1) = cnt (fun q => bt M q && bt U q) i + (if bt M i && bt U i then 1 else 0) := rfl
    rw [u1, u2, u3] at k
    cases hUi : bt U i
    · rw [hUi] at k
      rw [if_pos b2i_f, if_pos b2i_f, d1, Option.bind_some, if_pos hbit.symm, if_pos b2i_f, if_pos b2i_f, nI_1, hbn, nI_add]
      cases hMi : bt M i
      · rw [hMi] at k
        simpa using k
      · rw [hMi] at k
        simpa using k
    · rw [hUi] at k
      rw [if_neg b2i_t, if_pos (show b2i true = 1 from rfl), d1, Option.bind_some, if_pos hbit.symm, if_neg b2i_t, if_neg b2i_t, nI_1, nI_1, hbn, nI_add, nI_add]
      cases hMi : bt M i
      · rw [hMi] at k
        simpa using k
      · rw [hMi] at k
        simpa using k
end KM
