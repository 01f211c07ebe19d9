/-! the reference: the shortest ways, laid in place -/
theorem upd_same {f : Nat → Int32} {k : Nat} {x : Int32} : upd f k x k = x := by unfold upd; rw [if_pos rfl]
theorem upd_ne {f : Nat → Int32} {k q : Nat} {x : Int32} (h : ¬ q = k) : upd f k x q = f q := by unfold upd; rw [if_neg h]
theorem upd_upd (f : Nat → Int32) (k : Nat) (x y : Int32) : upd (upd f k x) k y = upd f k y := by
  funext q
  by_cases h : q = k
  · subst h; rw [upd_same, upd_same]
  · rw [upd_ne h, upd_ne h, upd_ne h]
theorem upd_id (f : Nat → Int32) (k : Nat) : upd f k (f k) = f := by
  funext q
  by_cases h : q = k
  · subst h; rw [upd_same]
  · rw [upd_ne h]
/-- the row of waits in the reference's state -/
abbrev gW (v : SX8) : Nat → Int32 := v.2.2.2.2.2.2.2.2.2.2.1
abbrev sW (v : SX8) (w : Nat → Int32) : SX8 := (v.1, v.2.1, v.2.2.1, v.2.2.2.1, v.2.2.2.2.1, v.2.2.2.2.2.1, v.2.2.2.2.2.2.1, v.2.2.2.2.2.2.2.1, v.2.2.2.2.2.2.2.2.1, v.2.2.2.2.2.2.2.2.2.1, w, v.2.2.2.2.2.2.2.2.2.2.2)
/-- holds and clearing of the row -/
def ZH (z : Nat → Int32) (g : Gr) (ho : Nat → Nat) (ct : Nat) : Prop := (∀ p, p < gN g → z (32 + 14 * p) = nI (ho p) ∧ 1 ≤ ho p ∧ ho p ≤ 9) ∧ z 1 = nI ct ∧ ct ≤ 5
theorem zcc_le {z : Nat → Int32} {g : Gr} {ho : Nat → Nat} {ct : Nat} (hh : ZH z g ho ct) : ∀ p q, p < gN g → cc g ho ct p q ≤ 14 := by
  intro p q hp
  have h1 := (hh.1 p hp).2.2
  have h2 := hh.2.2
  unfold cc
  split <;> omega
theorem zcc_pos {z : Nat → Int32} {g : Gr} {ho : Nat → Nat} {ct : Nat} (hh : ZH z g ho ct) : ∀ p q, p < gN g → 1 ≤ cc g ho ct p q := by
  intro p q hp
  have h1 := (hh.1 p hp).2.1
  unfold cc
  omega
section SH
variable {v : SX8} {g : Gr} {ho : Nat → Nat} {ct : Nat}
theorem X8_clearingTo_eq (h : ZG v.2.1 g) (hh : ZH v.2.1 g ho ct) (N : Nat) {p q : Nat} (hp : p < gN g) (hq : q < gN g) : fX8_clearingTo N v (nI p) (nI q) = some (nI (if gG g p = gG g q then 0 else ct)) := by
  unfold fX8_clearingTo
  rw [X8_greens_eq h N hp, Option.bind_some, X8_greens_eq h N hq, Option.bind_some]
  by_cases hx : gG g p = gG g q
  · rw [if_pos hx, if_pos hx]; rfl
  · rw [if_neg hx, if_neg hx, show (1 : Int32) = nI 1 from rfl, chk_nI (by omega) (by omega), nI_clamp (by omega), hh.2.1]
theorem X8_wayBy_eq (h : ZG v.2.1 g) (hh : ZH v.2.1 g ho ct) (N : Nat) {p r : Nat} (hp : p < gN g) (hr : r < gR g p) : fX8_wayBy N v (nI p) (nI r) = some (nI (cc g ho ct p (gO g p r)) + gW v (gO g p r)) := by
  have h8 := h.1
  obtain ⟨-, hlt, -⟩ := (h.2.2 p hp).2.2.2 r hr
  unfold fX8_wayBy
  rw [show (1 : Int32) = nI 1 from rfl, X8_of_eq N v (by omega) (by omega), Option.bind_some, X8_goal_eq h N hp hr, Option.bind_some, X8_clearingTo_eq h hh N hp hlt, Option.bind_some, Option.bind_some, chk_nI (by omega) (by omega), nI_clamp (by omega), show 31 + 14 * p + 1 = 32 + 14 * p by omega, (hh.1 p hp).1, nI_add]
  rfl
theorem X8_sh_L63 (h : ZG v.2.1 g) (hh : ZH v.2.1 g ho ct) {N : Nat} (hN : 9 ≤ N) {d p : Nat} (t : Int32) (hd : d < 32) (hp : p < gN g) {w : Nat → Int32} {X : Nat → Nat} (hX : ∀ q, q < gN g → w q = nI (X q) ∧ X q ≤ 9999) (hg : grn g d p = false) : ∀ (k i fuel : Nat) (x : Nat), i + k = gR g p → k < fuel → x ≤ X p → ∃ x', fX8_layShortest_L63 N (nI d) t (nI p) fuel (sW v (upd w p (nI x))) (nI i) = some (sW v (upd w p (nI x'))) ∧ x' ≤ x ∧ (∀ r, i ≤ r → r < gR g p → fol g d p r = true → x' ≤ cc g ho ct p (gO g p r) + X (gO g p r)) ∧ (x' = x ∨ ∃ r, r < gR g p ∧ fol g d p r = true ∧ ¬ gO g p r = p ∧ x' = cc g ho ct p (gO g p r) + X (gO g p r)) := by
  have h8 := h.1
  have hXp := (hX p hp).2
  obtain ⟨-, -, h5, h7⟩ := h.2.2 p hp
  intro k
  induction k with
  | zero =>
    intro i fuel x e1 e2 e3
    obtain ⟨f, rfl⟩ : ∃ f, fuel = f + 1 := ⟨fuel - 1, by omega⟩
    rw [fX8_layShortest_L63, X8_rules_eq (v := sW v (upd w p (nI x))) h N hp, Option.bind_some, if_pos (nI_le (by omega) (by omega))]
    exact ⟨x, rfl, Nat.le_refl _, fun r r1 r2 => by omega, Or.inl rfl⟩
  | succ k ih =>
    intro i fuel x e1 e2 e3
    obtain ⟨f, rfl⟩ : ∃ f, fuel = f + 1 := ⟨fuel - 1, by omega⟩
    have hi : i < gR g p := by omega
    obtain ⟨-, hlt, -⟩ := h7 i hi
    rw [fX8_layShortest_L63, X8_rules_eq (v := sW v (upd w p (nI x))) h N hp, Option.bind_some, if_neg (fun z => by rw [nI_leI (by omega) (by omega)] at z; omega), X8_hasGreen_eq (v := sW v (upd w p (nI x))) h N hp hd, Option.bind_some, hg, if_pos b2i_f, X8_canFollow_eq (v := sW v (upd w p (nI x))) h hN hp hi hd, Option.bind_some]
    cases hf : fol g d p i
    · rw [if_pos b2i_f, chk_nI (by omega) (by omega), nI_clamp (by omega)]
      obtain ⟨x', a1, a2, a3, a4⟩ := ih (i + 1) f x (by omega) (by omega) e3
      refine ⟨x', ?_, a2, fun r r1 r2 r3 => ?_, a4⟩
      · dsimp only
        rw [if_pos (show upd w p (nI x) p ≤ 9999 from by rw [upd_same]; exact nI_le (b := 9999) (by omega) (by omega)), chk_nI (by omega) (by omega), chk_nI (by omega) (by omega), nI_1]
        unfold nmd
        rw [upd_upd, upd_same]
        exact a1
      · by_cases hr : r = i
        · subst hr; rw [hf] at r3; cases r3
        · exact a3 r (by omega) r2 r3
    · rw [if_neg b2i_t, X8_wayBy_eq (v := sW v (upd w p (nI x))) h hh N hp hi, Option.bind_some, chk_nI (by omega) (by omega), nI_clamp (by omega)]
      dsimp only
      have hc1 := zcc_le hh p (gO g p i) hp
      have hc2 := zcc_pos hh p (gO g p i) hp
      have hXq := hX (gO g p i) hlt
      by_cases hs : gO g p i = p
      · obtain ⟨x', a1, a2, a3, a4⟩ := ih (i + 1) f x (by omega) (by omega) e3
        refine ⟨x', ?_, a2, fun r r1 r2 r3 => ?_, a4⟩
        · have hgw : gW (sW v (upd w p (nI x))) (gO g p i) = nI x := by show upd w p (nI x) (gO g p i) = _; rw [hs, upd_same]
          rw [hgw, nI_add, if_pos (by rw [upd_same]; exact nI_le (by omega) (by omega)), chk_nI (by omega) (by omega), chk_nI (by omega) (by omega), nI_1]
          unfold nmd
          rw [upd_upd, upd_same]
          exact a1
        · by_cases hr : r = i
          · subst hr; rw [hs]; omega
          · exact a3 r (by omega) r2 r3
      · have hgw : gW (sW v (upd w p (nI x))) (gO g p i) = nI (X (gO g p i)) := by show upd w p (nI x) (gO g p i) = _; rw [upd_ne hs, hXq.1]
        rw [hgw, nI_add]
        by_cases hle : x ≤ cc g ho ct p (gO g p i) + X (gO g p i)
        · obtain ⟨x', a1, a2, a3, a4⟩ := ih (i + 1) f x (by omega) (by omega) e3
          refine ⟨x', ?_, a2, fun r r1 r2 r3 => ?_, a4⟩
          · rw [if_pos (by rw [upd_same]; exact nI_le hle (by omega)), chk_nI (by omega) (by omega), chk_nI (by omega) (by omega), nI_1]
            unfold nmd
            rw [upd_upd, upd_same]
            exact a1
          · by_cases hr : r = i
            · subst hr; omega
            · exact a3 r (by omega) r2 r3
        · obtain ⟨x', a1, a2, a3, a4⟩ := ih (i + 1) f (cc g ho ct p (gO g p i) + X (gO g p i)) (by omega) (by omega) (by omega)
          refine ⟨x', ?_, by omega, fun r r1 r2 r3 => ?_, ?_⟩
          · rw [if_neg (fun z => by rw [upd_same, nI_leI (by omega) (by omega)] at z; omega), chk_nI (by omega) (by omega), nI_1]
            unfold nmd
            rw [upd_upd]
            exact a1
          · by_cases hr : r = i
            · subst hr; omega
            · exact a3 r (by omega) r2 r3
          · rcases a4 with a4 | a4
            · exact Or.inr ⟨i, hi, hf, hs, a4⟩
            · exact Or.inr a4
end SH
