/-! noteWaits whole -/
section NX
variable {v1 : SX2} {g : Gr} {ho : Nat → Nat} {ct d : Nat}
theorem WLev_green {lo sh : Nat → Int32} {lev : Nat → Nat} {p m : Nat} (h : WLev g ho ct d lo sh lev) (hg : GN g d p) : WLev g ho ct d lo sh (fun q => if q = p then m + 1 else lev q) := by
  obtain ⟨X, hX⟩ := h
  refine ⟨X, fun q hq => ?_⟩
  obtain ⟨h1, h2, h3⟩ := hX q hq
  refine ⟨h1, fun k L hk hL => ?_, fun hH => ?_⟩
  · dsimp only at hk
    by_cases hqp : q = p
    · subst hqp
      cases k with
      | zero => exact h2 0 L (Nat.zero_le _) hL
      | succ k => exact absurd hg hL.1
    · rw [if_neg hqp] at hk
      exact h2 k L hk hL
  · dsimp only at hH
    by_cases hqp : q = p
    · subst hqp
      exact h3 ((show Hlp (gN g) (E0 g d) (S0 g d) (GN g d) 0 q from hg).mono (Nat.zero_le _))
    · rw [if_neg hqp] at hH
      exact h3 hH
theorem X3_waits_L82 (h : PG v1 g) (hh : HG v1 g ho ct) {N : Nat} (hN : 9 ≤ N) (hd : d < 6) {wm : Int32} (hwm : ∀ q, bt wm q = true ↔ (q < gN g ∧ grn g d q = true)) (a : Int32) {m : Nat} (hm : m < 8) : ∀ (k i fuel : Nat) (v : SX3), i + k = gN g → k < fuel → WayS v g d → WLev g ho ct d v.2.2.1 v.2.2.2.1 (fun q => if q < i then m + 1 else m) →
    ∃ lo sh, fX3_noteWaits_L82 N v1 (nI d) wm a fuel v (nI i) = some (v.1, v.2.1, lo, sh, v.2.2.2.2) ∧ WLev g ho ct d lo sh (fun _ => m + 1) ∧ ∀ j, (j < 8 * d ∨ 8 * d + 8 ≤ j) → lo j = v.2.2.1 j ∧ sh j = v.2.2.2.1 j := by
  have h8 := h.1
  intro k
  induction k with
  | zero =>
    intro i fuel v e1 e2 e3 e4
    obtain ⟨f, rfl⟩ : ∃ f, fuel = f + 1 := ⟨fuel - 1, by omega⟩
    rw [fX3_noteWaits_L82, h.2.1, if_pos (nI_le (by omega) (by omega))]
    refine ⟨_, _, rfl, ?_, fun _ _ => ⟨rfl, rfl⟩⟩
    obtain ⟨X, hX⟩ := e4
    refine ⟨X, fun q hq => ?_⟩
    have h9 := hX q hq
    dsimp only at h9
    rw [if_pos (by omega)] at h9
    exact h9
  | succ k ih =>
    intro i fuel v e1 e2 e3 e4
    obtain ⟨f, rfl⟩ : ∃ f, fuel = f + 1 := ⟨fuel - 1, by omega⟩
    have hi : i < gN g := by omega
    have elev : (fun q => if q = i then m + 1 else if q < i then m + 1 else m) = (fun q => if q < i + 1 then m + 1 else m) := by
      funext q
      by_cases h1 : q = i
      · rw [if_pos h1, if_pos (by omega)]
      · rw [if_neg h1]
        by_cases h2 : q < i
        · rw [if_pos h2, if_pos (by omega)]
        · rw [if_neg h2, if_neg (by omega)]
    rw [fX3_noteWaits_L82, h.2.1, if_neg (fun z => by rw [nI_leI (by omega) (by omega)] at z; omega), X7_has_eq N _ (by omega), Option.bind_some]
    cases hb : bt wm i
    · have hg : ¬ GN g d i := fun z => by rw [(hwm i).mpr ⟨hi, z⟩] at hb; cases hb
      rw [if_pos b2i_f]
      obtain ⟨x, y, a1, a2⟩ := X3_noteWait_eq h hh hN hd hi e3 hm (fun q => by split <;> simp) e4 hg
      rw [a1, Option.bind_some, nI_1]
      rw [elev] at a2
      obtain ⟨lo, sh, b1, b2, b3⟩ := ih (i + 1) f (v.1, v.2.1, upd v.2.2.1 (8 * d + i) x, upd v.2.2.2.1 (8 * d + i) y, v.2.2.2.2) (by omega) (by omega) e3 a2
      refine ⟨lo, sh, b1, b2, fun j hj => ?_⟩
      obtain ⟨c1, c2⟩ := b3 j hj
      refine ⟨c1.trans ?_, c2.trans ?_⟩
      · show upd v.2.2.1 (8 * d + i) x j = _
        unfold upd
        rw [if_neg (by omega)]
      · show upd v.2.2.2.1 (8 * d + i) y j = _
        unfold upd
        rw [if_neg (by omega)]
    · have hg : GN g d i := ((hwm i).mp hb).2
      rw [if_neg b2i_t, nI_1]
      have a2 := WLev_green (p := i) (m := m) e4 hg
      rw [elev] at a2
      exact ih (i + 1) f v (by omega) (by omega) e3 a2
theorem X3_waits_L70 (h : PG v1 g) (hh : HG v1 g ho ct) {N : Nat} (hN : 9 ≤ N) (hd : d < 6) {wm : Int32} (hwm : ∀ q, bt wm q = true ↔ (q < gN g ∧ grn g d q = true)) : ∀ (k i fuel : Nat) (v : SX3), i + k = gN g → k < fuel → WayS v g d → WLev g ho ct d v.2.2.1 v.2.2.2.1 (fun _ => i) →
    ∃ lo sh, fX3_noteWaits_L70 N v1 (nI d) wm fuel v (nI i) = some (v.1, v.2.1, lo, sh, v.2.2.2.2) ∧ WLev g ho ct d lo sh (fun _ => gN g) ∧ ∀ j, (j < 8 * d ∨ 8 * d + 8 ≤ j) → lo j = v.2.2.1 j ∧ sh j = v.2.2.2.1 j := by
  have h8 := h.1
  intro k
  induction k with
  | zero =>
    intro i fuel v e1 e2 e3 e4
    obtain ⟨f, rfl⟩ : ∃ f, fuel = f + 1 := ⟨fuel - 1, by omega⟩
    rw [fX3_noteWaits_L70, h.2.1, if_pos (nI_le (by omega) (by omega))]
    have hi : i = gN g := by omega
    subst hi
    exact ⟨_, _, rfl, e4, fun _ _ => ⟨rfl, rfl⟩⟩
  | succ k ih =>
    intro i fuel v e1 e2 e3 e4
    obtain ⟨f, rfl⟩ : ∃ f, fuel = f + 1 := ⟨fuel - 1, by omega⟩
    rw [fX3_noteWaits_L70, h.2.1, if_neg (fun z => by rw [nI_leI (by omega) (by omega)] at z; omega)]
    obtain ⟨lo, sh, a1, a2, a3⟩ := X3_waits_L82 h hh hN hd hwm (nI i) (m := i) (by omega) (gN g) 0 N v (by omega) (by omega) e3 (by
      have : (fun q => if q < 0 then i + 1 else i) = (fun _ : Nat => i) := by funext q; rw [if_neg (Nat.not_lt_zero q)]
      rw [this]; exact e4)
    have a1' : fX3_noteWaits_L82 N v1 (nI d) wm (nI i) N v 0 = _ := a1
    rw [a1', Option.bind_some, nI_1]
    obtain ⟨lo2, sh2, b1, b2, b3⟩ := ih (i + 1) f (v.1, v.2.1, lo, sh, v.2.2.2.2) (by omega) (by omega) e3 a2
    refine ⟨lo2, sh2, b1, b2, fun j hj => ?_⟩
    obtain ⟨c1, c2⟩ := b3 j hj
    obtain ⟨d1, d2⟩ := a3 j hj
    exact ⟨c1.trans d1, c2.trans d2⟩
theorem X3_waits_L9 (h : PG v1 g) {N : Nat} (hd : d < 6) {wm : Int32} (hwm : ∀ q, bt wm q = true ↔ (q < gN g ∧ grn g d q = true)) : ∀ (k i fuel : Nat) (v : SX3), i + k = gN g → k < fuel → (∀ q, q < i → v.2.2.1 (8 * d + q) = 0 ∧ v.2.2.2.1 (8 * d + q) = nI (if grn g d q = true then 0 else 1000)) →
    ∃ lo sh, fX3_noteWaits_L9 N v1 (nI d) wm fuel v (nI i) = some (v.1, v.2.1, lo, sh, v.2.2.2.2) ∧ (∀ q, q < gN g → lo (8 * d + q) = 0 ∧ sh (8 * d + q) = nI (if grn g d q = true then 0 else 1000)) ∧ ∀ j, (j < 8 * d ∨ 8 * d + 8 ≤ j) → lo j = v.2.2.1 j ∧ sh j = v.2.2.2.1 j := by
  have h8 := h.1
  intro k
  induction k with
  | zero =>
    intro i fuel v e1 e2 e3
    obtain ⟨f, rfl⟩ : ∃ f, fuel = f + 1 := ⟨fuel - 1, by omega⟩
    rw [fX3_noteWaits_L9, h.2.1, if_pos (nI_le (by omega) (by omega))]
    exact ⟨_, _, rfl, fun q hq => e3 q (by omega), fun _ _ => ⟨rfl, rfl⟩⟩
  | succ k ih =>
    intro i fuel v e1 e2 e3
    obtain ⟨f, rfl⟩ : ∃ f, fuel = f + 1 := ⟨fuel - 1, by omega⟩
    have hi : i < gN g := by omega
    rw [fX3_noteWaits_L9, h.2.1, if_neg (fun z => by rw [nI_leI (by omega) (by omega)] at z; omega), X3_cell_eq, Option.bind_some, Option.bind_some, X7_has_eq N _ (by omega), Option.bind_some, nI_1, rowPut_nI (by omega) (by decide), rowPut_nI (by omega) (by decide), rowPut_nI (by omega) (by decide)]
    have go : ∀ x : Int32, x = nI (if grn g d i = true then 0 else 1000) → ∃ lo sh, fX3_noteWaits_L9 N v1 (nI d) wm f (v.1, v.2.1, upd v.2.2.1 (8 * d + i) 0, upd v.2.2.2.1 (8 * d + i) x, v.2.2.2.2) (nI (i + 1)) = some (v.1, v.2.1, lo, sh, v.2.2.2.2) ∧ (∀ q, q < gN g → lo (8 * d + q) = 0 ∧ sh (8 * d + q) = nI (if grn g d q = true then 0 else 1000)) ∧ ∀ j, (j < 8 * d ∨ 8 * d + 8 ≤ j) → lo j = v.2.2.1 j ∧ sh j = v.2.2.2.1 j := by
      intro x hx
      obtain ⟨lo, sh, b1, b2, b3⟩ := ih (i + 1) f (v.1, v.2.1, upd v.2.2.1 (8 * d + i) 0, upd v.2.2.2.1 (8 * d + i) x, v.2.2.2.2) (by omega) (by omega) (by
        intro q hq
        show upd v.2.2.1 (8 * d + i) 0 (8 * d + q) = 0 ∧ upd v.2.2.2.1 (8 * d + i) x (8 * d + q) = _
        unfold upd
        by_cases hqi : q = i
        · subst hqi; rw [if_pos rfl, if_pos rfl]; exact ⟨rfl, hx⟩
        · rw [if_neg (by omega), if_neg (by omega)]; exact e3 q (by omega))
      refine ⟨lo, sh, b1, b2, fun j hj => ?_⟩
      obtain ⟨c1, c2⟩ := b3 j hj
      refine ⟨c1.trans ?_, c2.trans ?_⟩
      · show upd v.2.2.1 (8 * d + i) 0 j = _
        unfold upd
        rw [if_neg (by omega)]
      · show upd v.2.2.2.1 (8 * d + i) x j = _
        unfold upd
        rw [if_neg (by omega)]
    cases hb : bt wm i
    · rw [if_pos b2i_f]
      have hg : ¬ grn g d i = true := fun z => by rw [(hwm i).mpr ⟨hi, z⟩] at hb; cases hb
      exact go 1000 (by rw [if_neg hg]; rfl)
    · rw [if_neg b2i_t]
      have hg := ((hwm i).mp hb).2
      exact go 0 (by rw [if_pos hg]; rfl)
/-- the waits of a direction from each phase -/
def WaiS (v : SX3) (g : Gr) (ho : Nat → Nat) (ct d : Nat) : Prop := ∀ q, q < gN g →
  ((∃ x, v.2.2.2.1 (8 * d + q) = nI x ∧ x < 1000 ∧ IsSh (gN g) (E0 g d) (GN g d) (cc g ho ct) q x) ∨ (v.2.2.2.1 (8 * d + q) = nI 1000 ∧ NoSh (gN g) (E0 g d) (GN g d) (cc g ho ct) q)) ∧
  (¬ Sv g d q → ∃ y, v.2.2.1 (8 * d + q) = nI y ∧ y ≤ 1000 ∧ IsLg (gN g) (E0 g d) (GN g d) (cc g ho ct) q y)
theorem X3_noteWaits_eq (h : PG v1 g) (hh : HG v1 g ho ct) {N : Nat} (hN : 9 ≤ N) (hd : d < 6) (v : SX3) (hW : WayS v g d) : ∃ lo sh, fX3_noteWaits N v v1 (nI d) = some (v.1, v.2.1, lo, sh, v.2.2.2.2) ∧ WaiS (v.1, v.2.1, lo, sh, v.2.2.2.2) g ho ct d ∧ ∀ j, (j < 8 * d ∨ 8 * d + 8 ≤ j) → lo j = v.2.2.1 j ∧ sh j = v.2.2.2.1 j := by
  have h8 := h.1
  obtain ⟨wm, h1, h2⟩ := X2_phasesWith_eq h hN (show d < 32 by omega)
  obtain ⟨lo, sh, a1, a2, a3⟩ := X3_waits_L9 (N := N) h hd h2 (gN g) 0 N v (by omega) (by omega) (fun q hq => absurd hq (Nat.not_lt_zero q))
  have a1' : fX3_noteWaits_L9 N v1 (nI d) wm N v 0 = _ := a1
  have hl0 : WLev g ho ct d lo sh (fun _ => 0) := by
    refine ⟨fun q => if grn g d q = true then 0 else 1000, fun q hq => ?_⟩
    obtain ⟨b1, b2⟩ := a2 q hq
    dsimp only
    by_cases hg : grn g d q = true
    · rw [if_pos hg] at b2 ⊢
      exact ⟨⟨b2, by omega, Or.inr ⟨0, hg, rfl⟩⟩, fun _ _ _ _ => Nat.zero_le _, fun _ => ⟨0, b1, IsLg.green hg⟩⟩
    · rw [if_neg hg] at b2 ⊢
      refine ⟨⟨b2, by omega, Or.inl rfl⟩, fun k L hk hL => ?_, fun hH => absurd hH hg⟩
      have : k = 0 := by omega
      subst this
      exact absurd hL.1 hg
  obtain ⟨lo2, sh2, b1, b2, b3⟩ := X3_waits_L70 h hh hN hd h2 (gN g) 0 N (v.1, v.2.1, lo, sh, v.2.2.2.2) (by omega) (by omega) hW hl0
  have b1' : fX3_noteWaits_L70 N v1 (nI d) wm N (v.1, v.2.1, lo, sh, v.2.2.2.2) 0 = _ := b1
  refine ⟨lo2, sh2, ?_, fun q hq => ?_, fun j hj => ?_⟩
  · unfold fX3_noteWaits
    rw [h1, Option.bind_some, a1', Option.bind_some, b1', Option.bind_some]
  · obtain ⟨X, hX⟩ := b2
    obtain ⟨⟨c1, c2, c3⟩, c4, c5⟩ := hX q hq
    have low : ∀ k L, Cst (gN g) (E0 g d) (GN g d) (cc g ho ct) k q L → X q ≤ L := by
      intro k L hL
      obtain ⟨k', L', e1, e2, e3⟩ := Cst_short k k q L (Nat.le_refl _) hq hL
      have := c4 k' L' (Nat.le_of_lt e1) e3
      omega
    constructor
    · by_cases hx : ∃ k L, Cst (gN g) (E0 g d) (GN g d) (cc g ho ct) k q L
      · obtain ⟨k, L, hL⟩ := hx
        obtain ⟨k', L', e1, e2, e3⟩ := Cst_short k k q L (Nat.le_refl _) hq hL
        have e4 := Cst_le (cc_le hh) k' q L' hq e3
        have e5 : 14 * k' ≤ 14 * 8 := Nat.mul_le_mul_left _ (by omega)
        have e6 := low _ _ e3
        refine Or.inl ⟨X q, c1, by omega, ?_, low⟩
        rcases c3 with z | z
        · omega
        · exact z
      · refine Or.inr ⟨?_, fun k L hL => hx ⟨k, L, hL⟩⟩
        rcases c3 with z | ⟨k, z⟩
        · rw [← z]; exact c1
        · exact absurd ⟨k, _, z⟩ hx
    · intro hs
      have hex : ∃ k, Hlp (gN g) (E0 g d) (S0 g d) (GN g d) k q := Classical.byContradiction fun z => hs ((stv_iff hq).mpr z)
      have hH := Hlp_n hq hex
      obtain ⟨y, y1, y2⟩ := c5 hH
      exact ⟨y, y1, lg_small h hh h8 hq hH y2, y2⟩
  · obtain ⟨c1, c2⟩ := b3 j hj
    obtain ⟨d1, d2⟩ := a3 j hj
    exact ⟨c1.trans d1, c2.trans d2⟩
end NX
