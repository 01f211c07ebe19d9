/-! what the law reads off the class and compares with its own numbers -/
theorem bit_b2i (x : Int32) {k : Nat} (hk : k < 32) : (x >>> (nI k &&& 31)) &&& 1 = b2i (bt x k) := by
  rw [shr_bit x hk]
  cases bt x k
  · rw [if_neg (by decide)]; rfl
  · rw [if_pos rfl]; rfl
theorem b2i_shl (b : Bool) (k : Int32) : b2i b <<< (k &&& 31) = if b = true then (1 : Int32) <<< (k &&& 31) else 0 := by
  cases b
  · rw [if_neg (by decide)]
    show (0 : Int32) <<< _ = 0
    exact Int32.zero_shiftLeft
  · rw [if_pos rfl]; rfl
section TL
variable {v : SX7} {g : Gr} {ho : Nat → Nat} {ct : Nat}
theorem L46_eq (hP : PG v.1.1 g) (N : Nat) (a1 : SQ5) (a2 : SQ18) (a3 : SQ8) (z4 z5 : Int32) {d : Nat} (hd : d < 6) : ∀ (j i fuel : Nat) (m : Int32), i + j = gN g → j < fuel → ∃ M, fL_tells_L46 N a1 a2 a3 z4 z5 (nI d) fuel v m (nI i) = some (v, M) ∧ ∀ q, bt M q = true ↔ (bt m q = true ∨ (i ≤ q ∧ q < gN g ∧ grn g d q = true)) := by
  have h8 := hP.1
  intro j
  induction j with
  | zero =>
    intro i fuel m e1 e2
    obtain ⟨f, rfl⟩ : ∃ f, fuel = f + 1 := ⟨fuel - 1, by omega⟩
    have hi : i = gN g := by omega
    subst hi
    refine ⟨m, ?_, fun q => ⟨Or.inl, fun z => z.elim id (fun z => absurd z.2.1 (by omega))⟩⟩
    rw [fL_tells_L46, count0 hP, Option.bind_some, if_pos ((nI_leI (by omega) (by omega)).mpr (Nat.le_refl _))]
  | succ j ih =>
    intro i fuel m e1 e2
    obtain ⟨f, rfl⟩ : ∃ f, fuel = f + 1 := ⟨fuel - 1, by omega⟩
    have hi : i < gN g := by omega
    rw [fL_tells_L46, count0 hP, Option.bind_some, if_neg (fun z => by rw [nI_leI (by omega) (by omega)] at z; omega), phase0 hP N hi, Option.bind_some]
    dsimp only
    rw [bit_b2i _ (show d < 32 by omega), b2i_shl, nI_1]
    obtain ⟨M, M1, M2⟩ := ih (i + 1) f (m ||| if bt (gG g i) d = true then (1 : Int32) <<< (nI i &&& 31) else 0) (by omega) (by omega)
    refine ⟨M, M1, fun q => (M2 q).trans ?_⟩
    have hb : bt (m ||| if bt (gG g i) d = true then (1 : Int32) <<< (nI i &&& 31) else 0) q = true ↔ (bt m q = true ∨ (q = i ∧ grn g d q = true)) := by
      by_cases hg : bt (gG g i) d = true
      · rw [if_pos hg, bt_setk (show i < 32 by omega), Bool.or_eq_true, decide_eq_true_iff]
        constructor
        · rintro (z | z)
          · exact Or.inl z
          · exact Or.inr ⟨z, by rw [z]; exact hg⟩
        · rintro (z | z)
          · exact Or.inl z
          · exact Or.inr z.1
      · rw [if_neg hg, Int32.or_zero]
        constructor
        · exact Or.inl
        · rintro (z | ⟨z1, z2⟩)
          · exact z
          · rw [z1] at z2; exact absurd z2 hg
    rw [hb]
    constructor
    · rintro ((z | ⟨z1, z2⟩) | ⟨z1, z2, z3⟩)
      · exact Or.inl z
      · exact Or.inr ⟨by omega, by omega, z2⟩
      · exact Or.inr ⟨by omega, z2, z3⟩
    · rintro (z | ⟨z1, z2, z3⟩)
      · exact Or.inl (Or.inl z)
      · by_cases z : q = i
        · exact Or.inl (Or.inr ⟨z, z3⟩)
        · exact Or.inr ⟨by omega, z2, z3⟩
theorem L13_eq (hP : PG v.1.1 g) {N : Nat} (hN : 11 ≤ N) {a1 : SQ5} {a2 : SQ18} {a3 : SQ8} {s l f : Nat} (L : LM v.1 a1 a2 a3 g s l f) {B : Nat} (hW : WB v.1.2.1 B) (hB : B < 2 ^ 30) : ∀ (j i fuel : Nat) (m : Int32), i + j = 6 → j < fuel → ∃ M, fL_tells_L13 N a1 a2 a3 (gnow v.1) fuel v m (nI i) = some (.inr (v, M)) ∧ ∀ q, bt M q = true ↔ (bt m q = true ∨ (i ≤ q ∧ q < 6 ∧ ¬ v.1.2.1 q = -1)) := by
  have h8 := hP.1
  obtain ⟨hA, l1, l4, lw, la⟩ := L
  intro j
  induction j with
  | zero =>
    intro i fuel m e1 e2
    obtain ⟨f, rfl⟩ : ∃ f, fuel = f + 1 := ⟨fuel - 1, by omega⟩
    have hi : i = 6 := by omega
    subst hi
    refine ⟨m, ?_, fun q => ⟨Or.inl, fun z => z.elim id (fun z => absurd z.2.1 (by omega))⟩⟩
    rw [fL_tells_L13, if_pos (by decide)]
  | succ j ih =>
    intro i fuel m e1 e2
    obtain ⟨f, rfl⟩ : ∃ f, fuel = f + 1 := ⟨fuel - 1, by omega⟩
    have hi : i < 6 := by omega
    obtain ⟨w1, w2, w3⟩ := lw i hi
    have hwl := hW.lt hB i hi
    have hneg := neg_wait hwl
    have b18 : ∀ {α : Type} (k : Option α), chk (nI i) 18 k = k := fun k => chk_nI (by omega) (by decide) k
    have b6 : ∀ {α : Type} (k : Option α), chk ((6 : Int32) + nI i) 18 k = k := fun k => le18 (k := 6) (by omega) k
    have b12 : ∀ {α : Type} (k : Option α), chk ((12 : Int32) + nI i) 18 k = k := fun k => le18 (k := 12) (by omega) k
    have n6 : ((6 : Int32) + nI i).toNatClampNeg = 6 + i := tn (a := 6) (by omega)
    have n12 : ((12 : Int32) + nI i).toNatClampNeg = 12 + i := tn (a := 12) (by omega)
    obtain ⟨Mp, p1, p2⟩ := L46_eq hP N a1 a2 a3 (m ||| (if (v.1.2.1 i) < 0 then (0 : Int32) else ((1 : Int32) <<< (nI i &&& 31)))) (gnow v.1) hi (gN g) 0 N 0 (by omega) (by omega)
    have p1' : fL_tells_L46 N a1 a2 a3 (m ||| (if (v.1.2.1 i) < 0 then (0 : Int32) else ((1 : Int32) <<< (nI i &&& 31)))) (gnow v.1) (nI i) N v 0 0 = some (v, Mp) := p1
    obtain ⟨M5, m1, m2⟩ := dir5 (v := v) hP (show 9 ≤ N by omega) hi
    have hM : M5 = Mp := bt_ext (fun k _ => by
      have x1 := m2 k
      have x2 := p2 k
      rw [bt_0] at x2
      have x3 : (bt Mp k = true) ↔ (k < gN g ∧ grn g i k = true) := x2.trans ⟨fun z => z.elim (fun z => (by cases z)) (fun z => z.2), fun z => Or.inr ⟨Nat.zero_le _, z⟩⟩
      have x4 := x1.trans x3.symm
      cases h1 : bt M5 k <;> cases h2 : bt Mp k <;> rw [h1, h2] at x4 <;> simp at x4 <;> rfl)
    subst hM
    rw [fL_tells_L13, if_neg (le6 hi)]
    simp only [b18, b6, b12, n6, n12, nI_clamp (show i < 2 ^ 31 by omega), nI_1, w1, w2, w3]
    rw [p1', Option.bind_some]
    dsimp only
    rw [dir0 v N hi, Option.bind_some, if_pos (bit_b2i _ (by omega)).symm, dir1 v N hi, Option.bind_some, dir3 v N hi, dir4 v N hi, m1]
    obtain ⟨M, M1, M2⟩ := ih (i + 1) f (m ||| (if (v.1.2.1 i) < 0 then (0 : Int32) else ((1 : Int32) <<< (nI i &&& 31)))) (by omega) (by omega)
    have fin : ∀ q, bt M q = true ↔ (bt m q = true ∨ (i ≤ q ∧ q < 6 ∧ ¬ v.1.2.1 q = -1)) := by
      intro q
      rw [M2 q]
      have hb : bt (m ||| (if (v.1.2.1 i) < 0 then (0 : Int32) else ((1 : Int32) <<< (nI i &&& 31)))) q = true ↔ (bt m q = true ∨ (q = i ∧ ¬ v.1.2.1 q = -1)) := by
        by_cases hg : v.1.2.1 i = -1
        · rw [if_pos (hneg.mpr hg), Int32.or_zero]
          constructor
          · exact Or.inl
          · rintro (z | ⟨z1, z2⟩)
            · exact z
            · rw [z1] at z2; exact absurd hg z2
        · rw [if_neg (fun z => hg (hneg.mp z)), bt_setk (show i < 32 by omega), Bool.or_eq_true, decide_eq_true_iff]
          constructor
          · rintro (z | z)
            · exact Or.inl z
            · exact Or.inr ⟨z, by rw [z]; exact hg⟩
          · rintro (z | z)
            · exact Or.inl z
            · exact Or.inr z.1
      rw [hb]
      constructor
      · rintro ((z | ⟨z1, z2⟩) | ⟨z1, z2, z3⟩)
        · exact Or.inl z
        · exact Or.inr ⟨by omega, by omega, z2⟩
        · exact Or.inr ⟨by omega, z2, z3⟩
      · rintro (z | ⟨z1, z2, z3⟩)
        · exact Or.inl (Or.inl z)
        · by_cases z : q = i
          · exact Or.inl (Or.inr ⟨z, z3⟩)
          · exact Or.inr ⟨by omega, z2, z3⟩
    refine ⟨M, ?_, fin⟩
    by_cases hp : 0 ≤ v.1.2.1 i
    · rw [if_pos hp, if_pos rfl, Option.bind_some, if_pos rfl, Option.bind_some, if_pos rfl, Option.bind_some, if_pos rfl]
      exact M1
    · have hm : v.1.2.1 i = -1 := hneg.mp (Int32.not_le.mp hp)
      rw [if_neg hp, if_pos hm, Option.bind_some, if_pos rfl, Option.bind_some, if_pos rfl, Option.bind_some, if_pos rfl]
      exact M1
theorem L227_eq (hP : PG v.1.1 g) {N : Nat} (a1 : SQ5) (a2 : SQ18) (a3 : SQ8) {x : Int32} (hx : fX1_waiting N v.1 = some x) (z5 : Int32) {p : Nat} (hp : p < gN g) : ∀ (j i fuel : Nat), i + j = gR g p → j < fuel → fL_tells_L227 N a1 a2 a3 x z5 (nI p) fuel v 1 (nI i) = some (v, 1) := by
  have h4 : gR g p ≤ 4 := (hP.2.2 p hp).2.2.1
  intro j
  induction j with
  | zero =>
    intro i fuel e1 e2
    obtain ⟨f, rfl⟩ : ∃ f, fuel = f + 1 := ⟨fuel - 1, by omega⟩
    have hi : i = gR g p := by omega
    subst hi
    rw [fL_tells_L227, phase2 hP N hp, Option.bind_some, if_pos ((nI_leI (by omega) (by omega)).mpr (Nat.le_refl _))]
  | succ j ih =>
    intro i fuel e1 e2
    obtain ⟨f, rfl⟩ : ∃ f, fuel = f + 1 := ⟨fuel - 1, by omega⟩
    have hi : i < gR g p := by omega
    rw [fL_tells_L227, phase2 hP N hp, Option.bind_some, if_neg (fun z => by rw [nI_leI (by omega) (by omega)] at z; omega), if_neg (by decide), rule2 hP N hp hi hx, Option.bind_some, rule1 hP N hp hi, Option.bind_some, nI_1]
    by_cases h0 : gA g p i = 0
    · rw [if_pos h0, decide_eq_true h0, if_pos (by rfl)]
      exact ih (i + 1) f (by omega) (by omega)
    · rw [if_neg h0, Option.bind_some, decide_eq_false h0]
      by_cases h1 : gA g p i &&& x = 0
      · rw [if_pos h1, decide_eq_true h1, if_pos (by rfl)]
        exact ih (i + 1) f (by omega) (by omega)
      · rw [if_neg h1, decide_eq_false h1, if_pos (by rfl)]
        exact ih (i + 1) f (by omega) (by omega)
theorem L193_eq (hP : PG v.1.1 g) {N : Nat} (hN : 11 ≤ N) (a1 : SQ5) (a2 : SQ18) {a3 : SQ8} (la : ∀ p, p < 8 → a3 p = v.1.2.2.2.2.1 p) {x : Int32} (hx : fX1_waiting N v.1 = some x) (z5 : Int32) : ∀ (j i fuel : Nat), i + j = gN g → j < fuel → fL_tells_L193 N a1 a2 a3 x z5 fuel v (nI i) = some (.inr v) := by
  have h8 := hP.1
  intro j
  induction j with
  | zero =>
    intro i fuel e1 e2
    obtain ⟨f, rfl⟩ : ∃ f, fuel = f + 1 := ⟨fuel - 1, by omega⟩
    have hi : i = gN g := by omega
    subst hi
    rw [fL_tells_L193, count0 hP, Option.bind_some, if_pos ((nI_leI (by omega) (by omega)).mpr (Nat.le_refl _))]
  | succ j ih =>
    intro i fuel e1 e2
    obtain ⟨f, rfl⟩ : ∃ f, fuel = f + 1 := ⟨fuel - 1, by omega⟩
    have hi : i < gN g := by omega
    have h4 : gR g i ≤ 4 := (hP.2.2 i hi).2.2.1
    rw [fL_tells_L193, count0 hP, Option.bind_some, if_neg (fun z => by rw [nI_leI (by omega) (by omega)] at z; omega), phase5 hP N hi, Option.bind_some, chk_nI (show i < 8 by omega) (by decide), nI_clamp (show i < 2 ^ 31 by omega), if_pos (la i (by omega)).symm]
    have key : fL_tells_L227 N a1 a2 a3 x z5 (nI i) N v 1 0 = some (v, 1) := L227_eq hP a1 a2 a3 hx z5 hi (gR g i) 0 N (by omega) (by omega)
    rw [key, Option.bind_some, if_neg (show ¬ (1 : Int32) = 0 by decide), nI_1]
    exact ih (i + 1) f (by omega) (by omega)
theorem tells_eq (hI : PI v.1.1 g ho ct) {N : Nat} (hN : 11 ≤ N) {s l f : Nat} (hNw : Now v.1 g s l f) {a1 : SQ5} {a2 : SQ18} {a3 : SQ8} (L : LM v.1 a1 a2 a3 g s l f) {B : Nat} (hW : WB v.1.2.1 B) (hB : B < 2 ^ 30) : fL_tells N v a1 a2 a3 = some (1, v) := by
  have hP := hI.1
  have h8 := hP.1
  obtain ⟨x, x1, x2⟩ := wait_eq v.1 (show 9 ≤ N by omega)
  obtain ⟨M, M1, M2⟩ := L13_eq hP hN L hW hB 6 0 N 0 rfl (by omega)
  have hM : M = x := bt_ext (fun k _ => by
    have y1 := M2 k
    rw [bt_0] at y1
    have y3 : (bt M k = true) ↔ (k < 6 ∧ ¬ v.1.2.1 k = -1) := y1.trans ⟨fun z => z.elim (fun z => (by cases z)) (fun z => z.2), fun z => Or.inr ⟨Nat.zero_le _, z⟩⟩
    have y4 := y3.trans (x2 k).symm
    cases h1 : bt M k <;> cases h2 : bt x k <;> rw [h1, h2] at y4 <;> simp at y4 <;> rfl)
  subst hM
  obtain ⟨hA, l1, l4, lw, la⟩ := L
  obtain ⟨hs, hl, e0, e2, e3⟩ := id hA
  obtain ⟨-, n1, -, n2, -⟩ := id hNw
  have M1' : fL_tells_L13 N a1 a2 a3 (gnow v.1) N v 0 0 = _ := M1
  have K : fL_tells_L193 N a1 a2 a3 M (gnow v.1) N v 0 = _ := L193_eq hP hN a1 a2 la x1 (gnow v.1) (gN g) 0 N (by omega) (by omega)
  unfold fL_tells
  simp only [c0_5, c1_5, c2_5, c4_5, t0, t1, t2, t4, e0, e2, l4]
  rw [greens_eq hP N hA, Option.bind_some, ← gnow_gnw hP hNw]
  dsimp only
  rw [M1', Option.bind_some, onS_r]
  dsimp only
  rw [K, Option.bind_some, onS_r, count1 hP (by omega) N, Option.bind_some]
  dsimp only
  rw [n1, if_pos rfl, count2 hP (by omega) N, Option.bind_some]
  dsimp only
  by_cases z : l = 0
  · have hle := (le0 (show l < 2 ^ 31 by omega)).mpr z
    rw [if_pos hle, n2, if_pos hle, l1 z, if_pos rfl, count3, Option.bind_some]
    dsimp only
    rw [n2, if_pos rfl, count4, Option.bind_some]
    dsimp only
    rw [if_pos rfl, count5 v x1, Option.bind_some]
    dsimp only
    rw [if_pos rfl, count9, Option.bind_some]
    dsimp only
    rw [if_pos rfl]
  · have hle : ¬ nI l ≤ 0 := fun c => z ((le0 (show l < 2 ^ 31 by omega)).mp c)
    rw [if_neg hle, n2, if_neg hle, if_pos rfl, count3, Option.bind_some]
    dsimp only
    rw [n2, if_pos rfl, count4, Option.bind_some]
    dsimp only
    rw [if_pos rfl, count5 v x1, Option.bind_some]
    dsimp only
    rw [if_pos rfl, count9, Option.bind_some]
    dsimp only
    rw [if_pos rfl]
end TL
