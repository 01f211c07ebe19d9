/-! the reference: helps and remedyFor -/
section RF
variable {v : SX8} {g : Gr}
theorem insZ_mk (z B : Nat → Int32) (p t d : Nat) (hB : ∀ j, j < 10 → B j = z (31 + 14 * p + 4 + j)) : upd (upd (upd (shf z B (31 + 14 * p + 4) 0) (31 + 14 * p + 4) (nI t)) (31 + 14 * p + 4 + 1) ((1 : Int32) <<< (nI d &&& 31))) (31 + 14 * p + 3) (upd (upd (shf z B (31 + 14 * p + 4) 0) (31 + 14 * p + 4) (nI t)) (31 + 14 * p + 4 + 1) ((1 : Int32) <<< (nI d &&& 31)) (31 + 14 * p + 3) + 1) = insZ z p t d := by
  have h3 : upd (upd (shf z B (31 + 14 * p + 4) 0) (31 + 14 * p + 4) (nI t)) (31 + 14 * p + 4 + 1) ((1 : Int32) <<< (nI d &&& 31)) (31 + 14 * p + 3) = z (34 + 14 * p) := by
    rw [upd_ne (by omega), upd_ne (by omega)]
    unfold shf
    rw [if_neg (by omega), show 31 + 14 * p + 3 = 34 + 14 * p by omega]
  rw [h3]
  funext x
  unfold insZ
  by_cases h0 : x = 34 + 14 * p
  · rw [if_pos h0, show 31 + 14 * p + 3 = x by omega, upd_same]
  rw [if_neg h0, upd_ne (by omega)]
  by_cases h1 : x = 36 + 14 * p
  · rw [if_pos h1, show 31 + 14 * p + 4 + 1 = x by omega, upd_same]
  rw [if_neg h1, upd_ne (by omega)]
  by_cases h2 : x = 35 + 14 * p
  · rw [if_pos h2, show 31 + 14 * p + 4 = x by omega, upd_same]
  rw [if_neg h2, upd_ne (by omega)]
  unfold shf
  by_cases h4 : 36 + 14 * p < x ∧ x ≤ 44 + 14 * p
  · rw [if_pos h4, if_pos (by omega), hB _ (by omega), show 31 + 14 * p + 4 + (x - (31 + 14 * p + 4) - 2) = x - 2 by omega]
  · rw [if_neg h4, if_neg (by omega)]
theorem insZ_back (z B : Nat → Int32) (p t d : Nat) (hB : ∀ j, j < 10 → B j = z (31 + 14 * p + 4 + j)) : rst (upd (insZ z p t d) (31 + 14 * p + 3) (insZ z p t d (31 + 14 * p + 3) - 1)) B (31 + 14 * p + 4) 10 = z := by
  funext x
  unfold rst
  by_cases h1 : 31 + 14 * p + 4 ≤ x ∧ x < 31 + 14 * p + 4 + 10
  · rw [if_pos h1, hB _ (by omega), show 31 + 14 * p + 4 + (x - (31 + 14 * p + 4)) = x by omega]
  rw [if_neg h1]
  by_cases h0 : x = 31 + 14 * p + 3
  · subst h0
    rw [upd_same]
    unfold insZ
    rw [if_pos (by omega), show 34 + 14 * p = 31 + 14 * p + 3 by omega, Int32.sub_eq_add_neg, Int32.add_assoc, show (1 : Int32) + -1 = 0 by decide, Int32.add_zero]
  · rw [upd_ne h0, insZ_out (by omega)]
theorem X8_helps_eq (h : ZG v.2.1 g) {N : Nat} (hN : 11 ≤ N) {s d p t : Nat} (hs : AtS v.2.1 g s) (hd : d < 32) (hp : p < gN g) (ht : t < gN g) (h4 : gR g p ≤ 4) : ∃ (c : Bool) (B : Nat → Int32), fX8_helps N v (nI d) (nI p) (nI t) = some (b2i c, sB v B) ∧ (c = true ↔ HlpS g s d p t) := by
  have h8 := h.1
  have i4 : ((31 : Int32) + ((14 : Int32) * nI p)) + 4 = nI (31 + 14 * p + 4) := ix14 p 4
  have i3 : ((31 : Int32) + ((14 : Int32) * nI p)) + 3 = nI (31 + 14 * p + 3) := ix14 p 3
  have a1 : fX8_helps_L14 N (nI d) (nI p) (nI t) (nI (31 + 14 * p + 4)) N v 0 = some (sB v (cpy v.2.1 (gB v) (31 + 14 * p + 4) 10)) := by
    have q := X8_hp_L14 (v := v) N (nI d) (nI p) (nI t) (b := 31 + 14 * p + 4) (by omega) (gB v) 10 0 N (by omega) (by omega)
    rw [show cpy v.2.1 (gB v) (31 + 14 * p + 4) 0 = gB v from funext fun j => if_neg (by omega)] at q
    exact q
  obtain ⟨B, hBe⟩ : ∃ B, B = cpy v.2.1 (gB v) (31 + 14 * p + 4) 10 := ⟨_, rfl⟩
  have hB : ∀ j, j < 10 → B j = v.2.1 (31 + 14 * p + 4 + j) := fun j hj => by rw [hBe]; exact if_pos hj
  rw [← hBe] at a1
  have a2 : fX8_helps_L48 N (nI d) (nI p) (nI t) (nI (31 + 14 * p + 4)) N (sB v B) 9 = some (sZ (sB v B) (shf v.2.1 B (31 + 14 * p + 4) 0)) := by
    have q := X8_hp_L48 (v := sB v B) N (nI d) (nI p) (nI t) (b := 31 + 14 * p + 4) (by omega) v.2.1 8 N (by omega) (by omega)
    rw [show shf v.2.1 (gB (sB v B)) (31 + 14 * p + 4) 8 = v.2.1 from funext fun x => if_neg (by omega)] at q
    exact q
  have a3 : ∀ y : Int32, fX8_helps_L153 N (nI (31 + 14 * p + 4)) y N (sZ (sB v B) (upd (insZ v.2.1 p t d) (31 + 14 * p + 3) (insZ v.2.1 p t d (31 + 14 * p + 3) - 1))) 0 = some (sB v B) := fun y => by
    have q := X8_hp_L153 (v := sB v B) N y (b := 31 + 14 * p + 4) (by omega) (upd (insZ v.2.1 p t d) (31 + 14 * p + 3) (insZ v.2.1 p t d (31 + 14 * p + 3) - 1)) 10 0 N (by omega) (by omega)
    rw [show gB (sB v B) = B from rfl, insZ_back v.2.1 B p t d hB, show rst (upd (insZ v.2.1 p t d) (31 + 14 * p + 3) (insZ v.2.1 p t d (31 + 14 * p + 3) - 1)) B (31 + 14 * p + 4) 0 = _ from funext fun x => if_neg (by omega)] at q
    exact q
  obtain ⟨c, c1, c2⟩ := X8_anywhere_eq (v := sZ (sB v B) (insZ v.2.1 p t d)) (insZ_ZG h hp ht h4) hN (insZ_AtS hs) hd
  refine ⟨!c, B, ?_, ?_⟩
  · unfold fX8_helps
    rw [i4, i3, a1, Option.bind_some, a2, Option.bind_some, chk_nI (by omega) (by omega), nI_clamp (by omega), nI_1]
    unfold nmd
    dsimp only
    rw [chk_nI (by omega) (by omega), nI_clamp (by omega), chk_nI (by omega) (by omega), chk_nI (by omega) (by omega), nI_clamp (by omega), insZ_mk v.2.1 B p t d hB, c1, Option.bind_some]
    cases c
    · rw [if_pos b2i_f, chk_nI (by omega) (by omega), chk_nI (by omega) (by omega), a3 1, Option.bind_some]; rfl
    · rw [if_neg b2i_t, chk_nI (by omega) (by omega), chk_nI (by omega) (by omega), a3 0, Option.bind_some]; rfl
  · have e := ins_SvA (t := t) h8 hp hd s
    constructor
    · intro z
      exact Classical.byContradiction fun hn => by
        have := c2.mpr (e.mpr hn)
        rw [this] at z; cases z
    · intro z
      cases c
      · rfl
      · exact absurd z (e.mp (c2.mp rfl))
/-- the remedy at p for d: the first phase whose rule helps -/
def RemS (g : Gr) (s d p : Nat) (x : Int32) : Prop := (¬ SvA g s d ∧ x = -1) ∨ (SvA g s d ∧ ((∃ t, t < gN g ∧ ¬ t = p ∧ HlpS g s d p t ∧ (∀ u, u < t → ¬ u = p → ¬ HlpS g s d p u) ∧ x = nI t) ∨ ((∀ u, u < gN g → ¬ u = p → ¬ HlpS g s d p u) ∧ x = -1)))
theorem RemS.uniq {s d p : Nat} {x y : Int32} (h : RemS g s d p x) (h' : RemS g s d p y) : x = y := by
  rcases h with ⟨a, rfl⟩ | ⟨a, h⟩
  · rcases h' with ⟨-, rfl⟩ | ⟨a', -⟩
    · rfl
    · exact absurd a' a
  · rcases h' with ⟨a', -⟩ | ⟨-, h'⟩
    · exact absurd a a'
    · rcases h with ⟨t, t1, t2, t3, t4, rfl⟩ | ⟨t1, rfl⟩
      · rcases h' with ⟨u, u1, u2, u3, u4, rfl⟩ | ⟨u1, rfl⟩
        · have e1 : ¬ u < t := fun z => t4 u z u2 u3
          have e2 : ¬ t < u := fun z => u4 t z t2 t3
          rw [show t = u by omega]
        · exact absurd t3 (u1 t t1 t2)
      · rcases h' with ⟨u, u1, u2, u3, u4, rfl⟩ | ⟨u1, rfl⟩
        · exact absurd u3 (t1 u u1 u2)
        · rfl
theorem X8_rem_L12 (h : ZG v.2.1 g) {N : Nat} (hN : 11 ≤ N) {s d p : Nat} (hs : AtS v.2.1 g s) (hd : d < 32) (hp : p < gN g) (h4 : gR g p ≤ 4) : ∀ (k i fuel : Nat) (B : Nat → Int32), i + k = gN g → k < fuel → (∀ u, u < i → ¬ u = p → ¬ HlpS g s d p u) → ∃ B', (∃ t, fX8_remedyFor_L12 N (nI d) (nI p) fuel (sB v B) (nI i) = some (.inl (nI t, sB v B')) ∧ t < gN g ∧ ¬ t = p ∧ HlpS g s d p t ∧ ∀ u, u < t → ¬ u = p → ¬ HlpS g s d p u) ∨ (fX8_remedyFor_L12 N (nI d) (nI p) fuel (sB v B) (nI i) = some (.inr (sB v B')) ∧ ∀ u, u < gN g → ¬ u = p → ¬ HlpS g s d p u) := by
  have h8 := h.1
  intro k
  induction k with
  | zero =>
    intro i fuel B e1 e2 e3
    obtain ⟨f, rfl⟩ : ∃ f, fuel = f + 1 := ⟨fuel - 1, by omega⟩
    have hi : i = gN g := by omega
    subst hi
    rw [fX8_remedyFor_L12, chk0, tn0, if_pos (zn_self (v := sB v B) h)]
    exact ⟨B, Or.inr ⟨rfl, e3⟩⟩
  | succ k ih =>
    intro i fuel B e1 e2 e3
    obtain ⟨f, rfl⟩ : ∃ f, fuel = f + 1 := ⟨fuel - 1, by omega⟩
    have hi : i < gN g := by omega
    rw [fX8_remedyFor_L12, chk0, tn0, if_neg (zn_le (v := sB v B) h hi), nI_1]
    by_cases hip : i = p
    · rw [if_pos (by rw [hip])]
      exact ih (i + 1) f B (by omega) (by omega) (fun u u1 u2 => e3 u (by omega) u2)
    · rw [if_neg (fun z => hip ((nI_eq (by omega) (by omega)).mp z))]
      obtain ⟨c, B1, c1, c2⟩ := X8_helps_eq (v := sB v B) h hN hs hd hp hi h4
      rw [c1, Option.bind_some]
      cases c
      · rw [if_pos b2i_f]
        have hn : ¬ HlpS g s d p i := fun z => by have := c2.mpr z; cases this
        exact ih (i + 1) f B1 (by omega) (by omega) (fun u u1 u2 => by
          by_cases hu : u = i
          · subst hu; exact hn
          · exact e3 u (by omega) u2)
      · rw [if_neg b2i_t]
        exact ⟨B1, Or.inl ⟨i, rfl, hi, hip, c2.mp rfl, e3⟩⟩
theorem X8_remedyFor_eq (h : ZG v.2.1 g) {N : Nat} (hN : 11 ≤ N) {s d p : Nat} (hs : AtS v.2.1 g s) (hd : d < 32) (hp : p < gN g) (h4 : gR g p ≤ 4) : ∃ x B, fX8_remedyFor N v (nI d) (nI p) = some (x, sB v B) ∧ RemS g s d p x := by
  have h8 := h.1
  obtain ⟨c, c1, c2⟩ := X8_anywhere_eq h hN hs hd
  unfold fX8_remedyFor
  rw [c1, Option.bind_some]
  cases c
  · rw [if_pos b2i_f]
    exact ⟨-1, gB v, rfl, Or.inl ⟨(fun z => by have := c2.mpr z; cases this), rfl⟩⟩
  · rw [if_neg b2i_t]
    obtain ⟨B, hB⟩ := X8_rem_L12 h hN hs hd hp h4 (gN g) 0 N (gB v) (by omega) (by omega) (fun u u1 => by omega)
    rcases hB with ⟨t, a1, a2, a3, a4, a5⟩ | ⟨a1, a2⟩
    · have a1' : fX8_remedyFor_L12 N (nI d) (nI p) N v 0 = some (.inl (nI t, sB v B)) := a1
      exact ⟨nI t, B, by rw [a1', Option.bind_some]; rfl, Or.inr ⟨c2.mp rfl, Or.inl ⟨t, a2, a3, a4, a5, rfl⟩⟩⟩
    · have a1' : fX8_remedyFor_L12 N (nI d) (nI p) N v 0 = some (.inr (sB v B)) := a1
      exact ⟨-1, B, by rw [a1', Option.bind_some]; rfl, Or.inr ⟨c2.mp rfl, Or.inr ⟨a2, rfl⟩⟩⟩
end RF
