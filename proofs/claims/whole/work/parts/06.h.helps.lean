/-! the reference: helps, with its rows put back -/
abbrev gB (v : SX8) : Nat → Int32 := v.2.2.2.2.2.2.2.2.2.2.2.1
abbrev sB (v : SX8) (w : Nat → Int32) : SX8 := (v.1, v.2.1, v.2.2.1, v.2.2.2.1, v.2.2.2.2.1, v.2.2.2.2.2.1, v.2.2.2.2.2.2.1, v.2.2.2.2.2.2.2.1, v.2.2.2.2.2.2.2.2.1, v.2.2.2.2.2.2.2.2.2.1, v.2.2.2.2.2.2.2.2.2.2.1, w, v.2.2.2.2.2.2.2.2.2.2.2.2)
abbrev sZ (v : SX8) (z : Nat → Int32) : SX8 := (v.1, z, v.2.2)
theorem nI_m1 (k : Nat) : nI (k + 1) + (-1) = nI k := by
  rw [← nI_1, Int32.add_assoc, show (1 : Int32) + (-1) = 0 by decide, Int32.add_zero]
theorem nI_s2 (k : Nat) : nI (k + 2) - 2 = nI k := by
  rw [Int32.sub_eq_add_neg, ← nI_1, ← nI_1, Int32.add_assoc, Int32.add_assoc, show (1 : Int32) + (1 + -2) = 0 by decide, Int32.add_zero]
def cpy (z B : Nat → Int32) (b i : Nat) : Nat → Int32 := fun j => if j < i then z (b + j) else B j
def shf (z B : Nat → Int32) (b k : Nat) : Nat → Int32 := fun x => if b + (k + 1) < x ∧ x ≤ b + 9 then B (x - b - 2) else z x
def rst (z B : Nat → Int32) (b i : Nat) : Nat → Int32 := fun x => if b ≤ x ∧ x < b + i then B (x - b) else z x
section HP
variable {v : SX8}
theorem X8_hp_L14 (N : Nat) (x1 x2 x3 : Int32) {b : Nat} (hb : b + 10 ≤ 143) (B : Nat → Int32) : ∀ (k i fuel : Nat), i + k = 10 → k < fuel → fX8_helps_L14 N x1 x2 x3 (nI b) fuel (sB v (cpy v.2.1 B b i)) (nI i) = some (sB v (cpy v.2.1 B b 10)) := by
  intro k
  induction k with
  | zero =>
    intro i fuel e1 e2
    obtain ⟨f, rfl⟩ : ∃ f, fuel = f + 1 := ⟨fuel - 1, by omega⟩
    have hi : i = 10 := by omega
    subst hi
    rw [fX8_helps_L14, if_pos (by decide)]
  | succ k ih =>
    intro i fuel e1 e2
    obtain ⟨f, rfl⟩ : ∃ f, fuel = f + 1 := ⟨fuel - 1, by omega⟩
    rw [fX8_helps_L14, if_neg (fun z => by have z2 : nI 10 ≤ nI i := z; rw [nI_leI (by omega) (by omega)] at z2; omega), nI_add, chk_nI (by omega) (by omega), chk_nI (by omega) (by omega), nI_clamp (by omega), nI_clamp (by omega), nI_1]
    unfold nmd
    have he : upd (cpy v.2.1 B b i) i (v.2.1 (b + i)) = cpy v.2.1 B b (i + 1) := by
      funext j
      unfold cpy upd
      by_cases hj : j = i
      · subst hj; rw [if_pos rfl, if_pos (by omega)]
      · rw [if_neg hj]
        dsimp only
        by_cases hl : j < i
        · rw [if_pos hl, if_pos (by omega)]
        · rw [if_neg hl, if_neg (by omega)]
    have h := ih (i + 1) f (by omega) (by omega)
    rw [← he] at h
    exact h
theorem X8_hp_L48 (N : Nat) (x1 x2 x3 : Int32) {b : Nat} (hb : b + 10 ≤ 143) (z : Nat → Int32) : ∀ (k fuel : Nat), k ≤ 8 → k < fuel → fX8_helps_L48 N x1 x2 x3 (nI b) fuel (sZ v (shf z (gB v) b k)) (nI (k + 1)) = some (sZ v (shf z (gB v) b 0)) := by
  intro k
  induction k with
  | zero =>
    intro fuel e1 e2
    obtain ⟨f, rfl⟩ : ∃ f, fuel = f + 1 := ⟨fuel - 1, by omega⟩
    rw [fX8_helps_L48, if_pos (by decide)]
  | succ k ih =>
    intro fuel e1 e2
    obtain ⟨f, rfl⟩ : ∃ f, fuel = f + 1 := ⟨fuel - 1, by omega⟩
    have h := ih f (by omega) (by omega)
    have he : upd (shf z (gB v) b (k + 1)) (b + (k + 2)) (gB v k) = shf z (gB v) b k := by
      funext x
      unfold shf upd
      by_cases hx : x = b + (k + 2)
      · subst hx; rw [if_pos rfl, if_pos (by omega), show b + (k + 2) - b - 2 = k by omega]
      · rw [if_neg hx]
        dsimp only
        by_cases hl : b + (k + 1 + 1) < x ∧ x ≤ b + 9
        · rw [if_pos hl, if_pos (by omega)]
        · rw [if_neg hl, if_neg (by omega)]
    rw [fX8_helps_L48, if_neg (fun q => by have z2 : nI (k + 2) < nI 2 := q; rw [nI_ltI (by omega) (by omega)] at z2; omega), show k + 1 + 1 = k + 2 from rfl, nI_s2, chk_nI (by omega) (by omega), nI_add, chk_nI (by omega) (by omega), nI_clamp (by omega), nI_clamp (by omega), nI_m1]
    unfold nmd
    rw [← he] at h
    exact h
theorem X8_hp_L153 (N : Nat) (y : Int32) {b : Nat} (hb : b + 10 ≤ 143) (z : Nat → Int32) : ∀ (k i fuel : Nat), i + k = 10 → k < fuel → fX8_helps_L153 N (nI b) y fuel (sZ v (rst z (gB v) b i)) (nI i) = some (sZ v (rst z (gB v) b 10)) := by
  intro k
  induction k with
  | zero =>
    intro i fuel e1 e2
    obtain ⟨f, rfl⟩ : ∃ f, fuel = f + 1 := ⟨fuel - 1, by omega⟩
    have hi : i = 10 := by omega
    subst hi
    rw [fX8_helps_L153, if_pos (by decide)]
  | succ k ih =>
    intro i fuel e1 e2
    obtain ⟨f, rfl⟩ : ∃ f, fuel = f + 1 := ⟨fuel - 1, by omega⟩
    have h := ih (i + 1) f (by omega) (by omega)
    have he : upd (rst z (gB v) b i) (b + i) (gB v i) = rst z (gB v) b (i + 1) := by
      funext x
      unfold rst upd
      by_cases hx : x = b + i
      · subst hx; rw [if_pos rfl, if_pos (by omega), show b + i - b = i by omega]
      · rw [if_neg hx]
        dsimp only
        by_cases hl : b ≤ x ∧ x < b + i
        · rw [if_pos hl, if_pos (by omega)]
        · rw [if_neg hl, if_neg (by omega)]
    rw [fX8_helps_L153, if_neg (fun q => by have z2 : nI 10 ≤ nI i := q; rw [nI_leI (by omega) (by omega)] at z2; omega), chk_nI (by omega) (by omega), nI_add, chk_nI (by omega) (by omega), nI_clamp (by omega), nI_clamp (by omega), nI_1]
    unfold nmd
    rw [← he] at h
    exact h
/-- the row with the rule put in -/
def insZ (z : Nat → Int32) (p : Nat) (t d : Nat) : Nat → Int32 := fun x => if x = 34 + 14 * p then z (34 + 14 * p) + 1 else if x = 36 + 14 * p then (1 : Int32) <<< (nI d &&& 31) else if x = 35 + 14 * p then nI t else if 36 + 14 * p < x ∧ x ≤ 44 + 14 * p then z (x - 2) else z x
theorem insZ_out {z : Nat → Int32} {p t d x : Nat} (h : x < 34 + 14 * p ∨ 44 + 14 * p < x) : insZ z p t d x = z x := by
  unfold insZ
  rw [if_neg (by omega), if_neg (by omega), if_neg (by omega), if_neg (by omega)]
theorem insZ_ZG {z : Nat → Int32} {g : Gr} (h : ZG z g) {p t d : Nat} (hp : p < gN g) (ht : t < gN g) (h4 : gR g p ≤ 4) : ZG (insZ z p t d) (ins g p t d) := by
  refine ⟨h.1, by rw [insZ_out (by omega)]; exact h.2.1, fun a ha => ?_⟩
  obtain ⟨b1, b2, b3, b4⟩ := h.2.2 a ha
  by_cases hap : a = p
  · subst hap
    refine ⟨by rw [insZ_out (by omega)]; exact b1, ?_, by rw [ins_Rp]; omega, fun r hr => ?_⟩
    · rw [ins_Rp, ← nI_1, ← b2]
      unfold insZ
      rw [if_pos rfl]
    · rw [ins_Rp] at hr
      cases r with
      | zero =>
        refine ⟨?_, by rw [ins_O0]; exact ht, ?_⟩
        · rw [ins_O0]
          unfold insZ
          rw [if_neg (by omega), if_neg (by omega), if_pos (by omega)]
        · rw [ins_A0]
          unfold insZ
          rw [if_neg (by omega), if_pos (by omega)]
      | succ r =>
        obtain ⟨c1, c2, c3⟩ := b4 r (by omega)
        rw [ins_Os, ins_As]
        refine ⟨?_, c2, ?_⟩
        · rw [← c1]
          unfold insZ
          rw [if_neg (by omega), if_neg (by omega), if_neg (by omega), if_pos (by omega), show 35 + 14 * a + 2 * (r + 1) - 2 = 35 + 14 * a + 2 * r by omega]
        · rw [← c3]
          unfold insZ
          rw [if_neg (by omega), if_neg (by omega), if_neg (by omega), if_pos (by omega), show 36 + 14 * a + 2 * (r + 1) - 2 = 36 + 14 * a + 2 * r by omega]
  · refine ⟨by rw [insZ_out (by omega)]; exact b1, by rw [insZ_out (by omega), ins_R hap]; exact b2, by rw [ins_R hap]; exact b3, fun r hr => ?_⟩
    rw [ins_R hap] at hr
    obtain ⟨c1, c2, c3⟩ := b4 r hr
    rw [ins_O hap, ins_A hap]
    exact ⟨by rw [insZ_out (by omega)]; exact c1, c2, by rw [insZ_out (by omega)]; exact c3⟩
theorem insZ_AtS {z : Nat → Int32} {g : Gr} {p t d s : Nat} (h : AtS z g s) : AtS (insZ z p t d) (ins g p t d) s := by
  rcases h with ⟨h1, h2, h3⟩ | ⟨h1, h2⟩
  · exact Or.inl ⟨h1, by rw [insZ_out (by omega)]; exact h2, h3⟩
  · exact Or.inr ⟨h1, by rw [insZ_out (by omega)]; exact h2⟩
end HP
