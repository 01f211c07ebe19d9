/-! the reference: the shortest ways, laid in place -/
theorem upd_same {f : Nat → Int32} {k : Nat} {x : Int32} : upd f k x k = x := by unfold upd; rw [if_pos rfl]
theorem upd_ne {f : Nat → Int32} {k q : Nat} {x : Int32} (h : ¬ q = k) : upd f k x q = f q := by unfold upd; rw [if_neg h]
theorem upd_upd (f : Nat → Int32) (k : Nat) (x y : Int32) : upd (upd f k x) k y = upd f k y := by
  funext q
  by_cases h : q = k
  · subst h; rw [upd_same, upd_same]
  · rw [upd_ne h, upd_ne h, upd_ne h]
theorem upd_id (f : Nat → Int32) (k : Nat) : upd f k (f k) = f := by
  funext q
  by_cases h : q = k
  · subst h; rw [upd_same]
  · rw [upd_ne h]
/-- the row of waits in the reference's state -/
abbrev gW (v : SX8) : Nat → Int32 := v.2.2.2.2.2.2.2.2.2.2.1
abbrev sW (v : SX8) (w : Nat → Int32) : SX8 := (v.1, v.2.1, v.2.2.1, v.2.2.2.1, v.2.2.2.2.1, v.2.2.2.2.2.1, v.2.2.2.2.2.2.1, v.2.2.2.2.2.2.2.1, v.2.2.2.2.2.2.2.2.1, v.2.2.2.2.2.2.2.2.2.1, w, v.2.2.2.2.2.2.2.2.2.2.2)
/-- holds and clearing of the row -/
def ZH (z : Nat → Int32) (g : Gr) (ho : Nat → Nat) (ct : Nat) : Prop := (∀ p, p < gN g → z (32 + 14 * p) = nI (ho p) ∧ 1 ≤ ho p ∧ ho p ≤ 9) ∧ z 1 = nI ct ∧ ct ≤ 5
theorem zcc_le {z : Nat → Int32} {g : Gr} {ho : Nat → Nat} {ct : Nat} (hh : ZH z g ho ct) : ∀ p q, p < gN g → cc g ho ct p q ≤ 14 := by
  intro p q hp
  have h1 := (hh.1 p hp).2.2
  have h2 := hh.2.2
  unfold cc
  split <;> omega
theorem zcc_pos {z : Nat → Int32} {g : Gr} {ho : Nat → Nat} {ct : Nat} (hh : ZH z g ho ct) : ∀ p q, p < gN g → 1 ≤ cc g ho ct p q := by
  intro p q hp
  have h1 := (hh.1 p hp).2.1
  unfold cc
  omega
section SH
variable {v : SX8} {g : Gr} {ho : Nat → Nat} {ct : Nat}
theorem X8_clearingTo_eq (h : ZG v.2.1 g) (hh : ZH v.2.1 g ho ct) (N : Nat) {p q : Nat} (hp : p < gN g) (hq : q < gN g) : fX8_clearingTo N v (nI p) (nI q) = some (nI (if gG g p = gG g q then 0 else ct)) := by
  unfold fX8_clearingTo
  rw [X8_greens_eq h N hp, Option.bind_some, X8_greens_eq h N hq, Option.bind_some]
  by_cases hx : gG g p = gG g q
  · rw [if_pos hx, if_pos hx]; rfl
  · rw [if_neg hx, if_neg hx, show (1 : Int32) = nI 1 from rfl, chk_nI (by omega) (by omega), nI_clamp (by omega), hh.2.1]
theorem X8_wayBy_eq (h : ZG v.2.1 g) (hh : ZH v.2.1 g ho ct) (N : Nat) {p r : Nat} (hp : p < gN g) (hr : r < gR g p) : fX8_wayBy N v (nI p) (nI r) = some (nI (cc g ho ct p (gO g p r)) + gW v (gO g p r)) := by
  have h8 := h.1
  obtain ⟨-, hlt, -⟩ := (h.2.2 p hp).2.2.2 r hr
  unfold fX8_wayBy
  rw [show (1 : Int32) = nI 1 from rfl, X8_of_eq N v (by omega) (by omega), Option.bind_some, X8_goal_eq h N hp hr, Option.bind_some, X8_clearingTo_eq h hh N hp hlt, Option.bind_some, Option.bind_some, chk_nI (by omega) (by omega), nI_clamp (by omega), show 31 + 14 * p + 1 = 32 + 14 * p by omega, (hh.1 p hp).1, nI_add]
  rfl
theorem X8_sh_L63 (h : ZG v.2.1 g) (hh : ZH v.2.1 g ho ct) {N : Nat} (hN : 9 ≤ N) {d p : Nat} (t : Int32) (hd : d < 32) (hp : p < gN g) {w : Nat → Int32} {X : Nat → Nat} (hX : ∀ q, q < gN g → w q = nI (X q) ∧ X q ≤ 9999) (hg : grn g d p = false) : ∀ (k i fuel : Nat) (x : Nat), i + k = gR g p → k < fuel → x ≤ X p → ∃ x', fX8_layShortest_L63 N (nI d) t (nI p) fuel (sW v (upd w p (nI x))) (nI i) = some (sW v (upd w p (nI x'))) ∧ x' ≤ x ∧ (∀ r, i ≤ r → r < gR g p → fol g d p r = true → x' ≤ cc g ho ct p (gO g p r) + X (gO g p r)) ∧ (x' = x ∨ ∃ r, r < gR g p ∧ fol g d p r = true ∧ ¬ gO g p r = p ∧ x' = cc g ho ct p (gO g p r) + X (gO g p r)) := by
  have h8 := h.1
  have hXp := (hX p hp).2
  obtain ⟨-, -, h5, h7⟩ := h.2.2 p hp
  intro k
  induction k with
  | zero =>
    intro i fuel x e1 e2 e3
    obtain ⟨f, rfl⟩ : ∃ f, fuel = f + 1 := ⟨fuel - 1, by omega⟩
    rw [fX8_layShortest_L63, X8_rules_eq (v := sW v (upd w p (nI x))) h N hp, Option.bind_some, if_pos (nI_le (by omega) (by omega))]
    exact ⟨x, rfl, Nat.le_refl _, fun r r1 r2 => by omega, Or.inl rfl⟩
  | succ k ih =>
    intro i fuel x e1 e2 e3
    obtain ⟨f, rfl⟩ : ∃ f, fuel = f + 1 := ⟨fuel - 1, by omega⟩
    have hi : i < gR g p := by omega
    obtain ⟨-, hlt, -⟩ := h7 i hi
    rw [fX8_layShortest_L63, X8_rules_eq (v := sW v (upd w p (nI x))) h N hp, Option.bind_some, if_neg (fun z => by rw [nI_leI (by omega) (by omega)] at z; omega), X8_hasGreen_eq (v := sW v (upd w p (nI x))) h N hp hd, Option.bind_some, hg, if_pos b2i_f, X8_canFollow_eq (v := sW v (upd w p (nI x))) h hN hp hi hd, Option.bind_some]
    cases hf : fol g d p i
    · rw [if_pos b2i_f, chk_nI (by omega) (by omega), nI_clamp (by omega)]
      obtain ⟨x', a1, a2, a3, a4⟩ := ih (i + 1) f x (by omega) (by omega) e3
      refine ⟨x', ?_, a2, fun r r1 r2 r3 => ?_, a4⟩
      · dsimp only
        rw [if_pos (show upd w p (nI x) p ≤ 9999 from by rw [upd_same]; exact nI_le (b := 9999) (by omega) (by omega)), chk_nI (by omega) (by omega), chk_nI (by omega) (by omega), nI_1]
        unfold nmd
        rw [upd_upd, upd_same]
        exact a1
      · by_cases hr : r = i
        · subst hr; rw [hf] at r3; cases r3
        · exact a3 r (by omega) r2 r3
    · rw [if_neg b2i_t, X8_wayBy_eq (v := sW v (upd w p (nI x))) h hh N hp hi, Option.bind_some, chk_nI (by omega) (by omega), nI_clamp (by omega)]
      dsimp only
      have hc1 := zcc_le hh p (gO g p i) hp
      have hc2 := zcc_pos hh p (gO g p i) hp
      have hXq := hX (gO g p i) hlt
      by_cases hs : gO g p i = p
      · obtain ⟨x', a1, a2, a3, a4⟩ := ih (i + 1) f x (by omega) (by omega) e3
        refine ⟨x', ?_, a2, fun r r1 r2 r3 => ?_, a4⟩
        · have hgw : gW (sW v (upd w p (nI x))) (gO g p i) = nI x := by show upd w p (nI x) (gO g p i) = _; rw [hs, upd_same]
          rw [hgw, nI_add, if_pos (by rw [upd_same]; exact nI_le (by omega) (by omega)), chk_nI (by omega) (by omega), chk_nI (by omega) (by omega), nI_1]
          unfold nmd
          rw [upd_upd, upd_same]
          exact a1
        · by_cases hr : r = i
          · subst hr; rw [hs]; omega
          · exact a3 r (by omega) r2 r3
      · have hgw : gW (sW v (upd w p (nI x))) (gO g p i) = nI (X (gO g p i)) := by show upd w p (nI x) (gO g p i) = _; rw [upd_ne hs, hXq.1]
        rw [hgw, nI_add]
        by_cases hle : x ≤ cc g ho ct p (gO g p i) + X (gO g p i)
        · obtain ⟨x', a1, a2, a3, a4⟩ := ih (i + 1) f x (by omega) (by omega) e3
          refine ⟨x', ?_, a2, fun r r1 r2 r3 => ?_, a4⟩
          · rw [if_pos (by rw [upd_same]; exact nI_le hle (by omega)), chk_nI (by omega) (by omega), chk_nI (by omega) (by omega), nI_1]
            unfold nmd
            rw [upd_upd, upd_same]
            exact a1
          · by_cases hr : r = i
            · subst hr; omega
            · exact a3 r (by omega) r2 r3
        · obtain ⟨x', a1, a2, a3, a4⟩ := ih (i + 1) f (cc g ho ct p (gO g p i) + X (gO g p i)) (by omega) (by omega) (by omega)
          refine ⟨x', ?_, by omega, fun r r1 r2 r3 => ?_, ?_⟩
          · rw [if_neg (fun z => by rw [upd_same, nI_leI (by omega) (by omega)] at z; omega), chk_nI (by omega) (by omega), nI_1]
            unfold nmd
            rw [upd_upd]
            exact a1
          · by_cases hr : r = i
            · subst hr; omega
            · exact a3 r (by omega) r2 r3
          · rcases a4 with a4 | a4
            · exact Or.inr ⟨i, hi, hf, hs, a4⟩
            · exact Or.inr a4
/-- the row of shortest waits, each phase at its level -/
def SLev (g : Gr) (ho : Nat → Nat) (ct d : Nat) (w : Nat → Int32) (lev : Nat → Nat) : Prop := ∃ X : Nat → Nat, ∀ q, q < gN g → (w q = nI (X q) ∧ X q ≤ 9999) ∧ (X q = 9999 ∨ ∃ k, Cst (gN g) (E0 g d) (GN g d) (cc g ho ct) k q (X q)) ∧ ∀ k L, k ≤ lev q → Cst (gN g) (E0 g d) (GN g d) (cc g ho ct) k q L → X q ≤ L
theorem X8_sh_step (h : ZG v.2.1 g) (hh : ZH v.2.1 g ho ct) {N : Nat} (hN : 9 ≤ N) {d p m : Nat} (t : Int32) (hd : d < 32) (hp : p < gN g) {w : Nat → Int32} {lev : Nat → Nat} (hm : ∀ q, m ≤ lev q) (hL : SLev g ho ct d w lev) : ∃ w', fX8_layShortest_L63 N (nI d) t (nI p) N (sW v w) 0 = some (sW v w') ∧ SLev g ho ct d w' (fun q => if q = p then m + 1 else lev q) := by
  have h8 := h.1
  have h5 := (h.2.2 p hp).2.2.1
  obtain ⟨X, hX⟩ := hL
  cases hg : grn g d p
  · have hng : ¬ GN g d p := fun z => by have z2 : grn g d p = true := z; rw [hg] at z2; cases z2
    obtain ⟨x', a1, a2, a3, a4⟩ := X8_sh_L63 h hh hN t hd hp (w := w) (X := X) (fun q hq => (hX q hq).1) hg (gR g p) 0 N (X p) (by omega) (by omega) (Nat.le_refl _)
    have a1' : fX8_layShortest_L63 N (nI d) t (nI p) N (sW v (upd w p (nI (X p)))) 0 = some (sW v (upd w p (nI x'))) := a1
    rw [← (hX p hp).1.1, upd_id] at a1'
    refine ⟨_, a1', fun q => if q = p then x' else X q, fun q hq => ?_⟩
    by_cases hqp : q = p
    · subst hqp
      dsimp only
      rw [if_pos rfl, if_pos rfl, upd_same]
      have hXq := (hX q hq).1.2
      refine ⟨⟨rfl, by omega⟩, ?_, fun k L hk hL => ?_⟩
      · rcases a4 with a4 | ⟨r, r1, r2, r3, r4⟩
        · rw [a4]; exact (hX q hq).2.1
        · obtain ⟨-, hlt, -⟩ := (h.2.2 q hq).2.2.2 r r1
          have hc := zcc_pos hh q (gO g q r) hq
          rcases (hX _ hlt).2.1 with z | ⟨k, hk⟩
          · omega
          · exact Or.inr ⟨k + 1, hng, gO g q r, hlt, ⟨r, r1, r2, rfl⟩, X (gO g q r), hk, r4⟩
      · cases k with
        | zero => exact absurd hL.1 hng
        | succ k =>
          obtain ⟨-, r, r1, ⟨s, s1, s2, s3⟩, B, B1, rfl⟩ := hL
          have hb := (hX r r1).2.2 k B (Nat.le_trans (by omega) (hm r)) B1
          have hx := a3 s (Nat.zero_le _) s1 s2
          rw [s3] at hx
          omega
    · dsimp only
      rw [if_neg hqp, if_neg hqp, upd_ne hqp]
      exact hX q hq
  · have hgn : GN g d p := hg
    refine ⟨w, ?_, X, fun q hq => ⟨(hX q hq).1, (hX q hq).2.1, fun k L hk hL => ?_⟩⟩
    · obtain ⟨f, rfl⟩ : ∃ f, N = f + 1 := ⟨N - 1, by omega⟩
      rw [fX8_layShortest_L63, X8_rules_eq (v := sW v w) h (f + 1) hp, Option.bind_some]
      by_cases h0 : nI (gR g p) ≤ 0
      · rw [if_pos h0]
      · rw [if_neg h0, X8_hasGreen_eq (v := sW v w) h (f + 1) hp hd, Option.bind_some, hg, if_neg b2i_t]
    · by_cases hqp : q = p
      · subst hqp
        cases k with
        | zero => exact (hX q hq).2.2 0 L (Nat.zero_le _) hL
        | succ k => exact absurd hgn hL.1
      · dsimp only at hk
        rw [if_neg hqp] at hk
        exact (hX q hq).2.2 k L hk hL
theorem SLev.mono {d : Nat} {w : Nat → Int32} {lev lev' : Nat → Nat} (hl : ∀ q, q < gN g → lev' q ≤ lev q) (hL : SLev g ho ct d w lev) : SLev g ho ct d w lev' := by
  obtain ⟨X, hX⟩ := hL
  exact ⟨X, fun q hq => ⟨(hX q hq).1, (hX q hq).2.1, fun k L hk hc => (hX q hq).2.2 k L (Nat.le_trans hk (hl q hq)) hc⟩⟩
theorem X8_sh_L50 (h : ZG v.2.1 g) (hh : ZH v.2.1 g ho ct) {N : Nat} (hN : 9 ≤ N) {d : Nat} (t : Int32) (hd : d < 32) (m : Nat) : ∀ (k i fuel : Nat) (w : Nat → Int32), i + k = gN g → k < fuel → SLev g ho ct d w (fun q => if q < i then m + 1 else m) → ∃ w', fX8_layShortest_L50 N (nI d) t fuel (sW v w) (nI i) = some (sW v w') ∧ SLev g ho ct d w' (fun _ => m + 1) := by
  have h8 := h.1
  intro k
  induction k with
  | zero =>
    intro i fuel w e1 e2 hL
    obtain ⟨f, rfl⟩ : ∃ f, fuel = f + 1 := ⟨fuel - 1, by omega⟩
    have hi : i = gN g := by omega
    subst hi
    rw [fX8_layShortest_L50, chk0, tn0, if_pos (zn_self (v := sW v w) h)]
    exact ⟨w, rfl, hL.mono (fun q hq => by rw [if_pos hq]; exact Nat.le_refl _)⟩
  | succ k ih =>
    intro i fuel w e1 e2 hL
    obtain ⟨f, rfl⟩ : ∃ f, fuel = f + 1 := ⟨fuel - 1, by omega⟩
    have hi : i < gN g := by omega
    obtain ⟨w1, a1, a2⟩ := X8_sh_step h hh hN t hd hi (m := m) (fun q => by split <;> omega) hL
    obtain ⟨w2, b1, b2⟩ := ih (i + 1) f w1 (by omega) (by omega) (a2.mono (fun q hq => by split <;> split <;> (try split) <;> omega))
    refine ⟨w2, ?_, b2⟩
    rw [fX8_layShortest_L50, chk0, tn0, if_neg (zn_le (v := sW v w) h hi), a1, Option.bind_some, nI_1]
    exact b1
theorem X8_sh_L42 (h : ZG v.2.1 g) (hh : ZH v.2.1 g ho ct) {N : Nat} (hN : 9 ≤ N) {d : Nat} (hd : d < 32) : ∀ (k i fuel : Nat) (w : Nat → Int32), i + k = 8 → k < fuel → SLev g ho ct d w (fun _ => i) → ∃ w', fX8_layShortest_L42 N (nI d) fuel (sW v w) (nI i) = some (sW v w') ∧ SLev g ho ct d w' (fun _ => 8) := by
  have h8 := h.1
  intro k
  induction k with
  | zero =>
    intro i fuel w e1 e2 hL
    obtain ⟨f, rfl⟩ : ∃ f, fuel = f + 1 := ⟨fuel - 1, by omega⟩
    have hi : i = 8 := by omega
    subst hi
    rw [fX8_layShortest_L42, if_pos (by decide)]
    exact ⟨w, rfl, hL⟩
  | succ k ih =>
    intro i fuel w e1 e2 hL
    obtain ⟨f, rfl⟩ : ∃ f, fuel = f + 1 := ⟨fuel - 1, by omega⟩
    obtain ⟨w1, a1, a2⟩ := X8_sh_L50 h hh hN (nI i) hd i (gN g) 0 N w (by omega) (by omega) (hL.mono (fun q hq => by rw [if_neg (by omega)]; exact Nat.le_refl _))
    have a1' : fX8_layShortest_L50 N (nI d) (nI i) N (sW v w) 0 = some (sW v w1) := a1
    obtain ⟨w2, b1, b2⟩ := ih (i + 1) f w1 (by omega) (by omega) a2
    refine ⟨w2, ?_, b2⟩
    rw [fX8_layShortest_L42, if_neg (fun z => by have z2 : nI 8 ≤ nI i := z; rw [nI_leI (by omega) (by omega)] at z2; omega), a1', Option.bind_some, nI_1]
    exact b1
theorem X8_sh_L2 (h : ZG v.2.1 g) (N : Nat) {d : Nat} (hd : d < 32) : ∀ (k i fuel : Nat) (w : Nat → Int32), i + k = gN g → k < fuel → (∀ q, q < i → w q = nI (if grn g d q = true then 0 else 9999)) → ∃ w', fX8_layShortest_L2 N (nI d) fuel (sW v w) (nI i) = some (sW v w') ∧ ∀ q, q < gN g → w' q = nI (if grn g d q = true then 0 else 9999) := by
  have h8 := h.1
  intro k
  induction k with
  | zero =>
    intro i fuel w e1 e2 hL
    obtain ⟨f, rfl⟩ : ∃ f, fuel = f + 1 := ⟨fuel - 1, by omega⟩
    have hi : i = gN g := by omega
    subst hi
    rw [fX8_layShortest_L2, chk0, tn0, if_pos (zn_self (v := sW v w) h)]
    exact ⟨w, rfl, hL⟩
  | succ k ih =>
    intro i fuel w e1 e2 hL
    obtain ⟨f, rfl⟩ : ∃ f, fuel = f + 1 := ⟨fuel - 1, by omega⟩
    have hi : i < gN g := by omega
    obtain ⟨w2, b1, b2⟩ := ih (i + 1) f (upd w i (nI (if grn g d i = true then 0 else 9999))) (by omega) (by omega) (fun q hq => by
      by_cases hqi : q = i
      · subst hqi; rw [upd_same]
      · rw [upd_ne hqi]; exact hL q (by omega))
    refine ⟨w2, ?_, b2⟩
    rw [fX8_layShortest_L2, chk0, tn0, if_neg (zn_le (v := sW v w) h hi), X8_hasGreen_eq (v := sW v w) h N hi hd, Option.bind_some]
    cases hg : grn g d i
    · rw [hg, if_neg (by decide)] at b1
      rw [if_pos b2i_f, chk_nI (by omega) (by omega), nI_clamp (by omega), nI_1]
      exact b1
    · rw [hg, if_pos rfl] at b1
      rw [if_neg b2i_t, chk_nI (by omega) (by omega), nI_clamp (by omega), nI_1]
      exact b1
theorem X8_shortest_eq (h : ZG v.2.1 g) (hh : ZH v.2.1 g ho ct) {N : Nat} (hN : 9 ≤ N) {d p : Nat} (hd : d < 32) (hp : p < gN g) : ∃ x w', fX8_shortest N v (nI d) (nI p) = some (x, sW v w') ∧ (∀ L, IsSh (gN g) (E0 g d) (GN g d) (cc g ho ct) p L → x = nI L) ∧ (NoSh (gN g) (E0 g d) (GN g d) (cc g ho ct) p → x = -1) := by
  have h8 := h.1
  obtain ⟨w1, a1, a2⟩ := X8_sh_L2 h N hd (gN g) 0 N (gW v) (by omega) (by omega) (fun q hq => by omega)
  have a1' : fX8_layShortest_L2 N (nI d) N v 0 = some (sW v w1) := a1
  have hL : SLev g ho ct d w1 (fun _ => 0) := by
    refine ⟨fun q => if grn g d q = true then 0 else 9999, fun q hq => ⟨⟨a2 q hq, by dsimp only; split <;> omega⟩, ?_, fun k L hk hL => ?_⟩⟩
    · dsimp only
      cases hg : grn g d q
      · exact Or.inl (if_neg (by decide))
      · exact Or.inr ⟨0, hg, if_pos rfl⟩
    · have hk0 : k = 0 := by simpa using hk
      subst hk0
      dsimp only
      have hg : grn g d q = true := hL.1
      rw [if_pos hg]
      exact Nat.zero_le _
  obtain ⟨w2, b1, X, hX⟩ := X8_sh_L42 h hh hN hd 8 0 N w1 (by omega) (by omega) hL
  have b1' : fX8_layShortest_L42 N (nI d) N (sW v w1) 0 = some (sW v w2) := b1
  obtain ⟨⟨c1, c2⟩, c3, c4⟩ := hX p hp
  have hsh : ∀ k L, Cst (gN g) (E0 g d) (GN g d) (cc g ho ct) k p L → X p ≤ L ∧ X p < 9999 := by
    intro k L hL
    obtain ⟨k', L', d1, d2, d3⟩ := Cst_short k k p L (Nat.le_refl _) hp hL
    have e1 := c4 k' L' (by dsimp only; omega) d3
    have e2 := Cst_le (zcc_le hh) k' p L' hp d3
    have e3 : 14 * k' ≤ 14 * 8 := Nat.mul_le_mul_left _ (by omega)
    omega
  by_cases hx : X p < 9999
  · refine ⟨nI (X p), w2, ?_, fun L hL => ?_, fun hN => ?_⟩
    · unfold fX8_shortest fX8_layShortest
      rw [a1', Option.bind_some, b1', Option.bind_some, Option.bind_some, chk_nI (by omega) (by omega), nI_clamp (by omega)]
      dsimp only
      rw [if_pos (show w2 p < 9999 from by rw [c1]; exact nI_lt (b := 9999) hx (by omega)), chk_nI (by omega) (by omega), c1]
    · rcases c3 with z | ⟨k, hk⟩
      · omega
      · obtain ⟨⟨k2, hk2⟩, hl⟩ := hL
        have z1 := hl k _ hk
        have z2 := (hsh k2 L hk2).1
        rw [show X p = L by omega]
    · rcases c3 with z | ⟨k, hk⟩
      · omega
      · exact absurd hk (hN k _)
  · refine ⟨-1, w2, ?_, fun L hL => ?_, fun _ => rfl⟩
    · unfold fX8_shortest fX8_layShortest
      rw [a1', Option.bind_some, b1', Option.bind_some, Option.bind_some, chk_nI (by omega) (by omega), nI_clamp (by omega)]
      dsimp only
      rw [if_neg (fun z => by rw [c1] at z; have z2 : nI (X p) < nI 9999 := z; rw [nI_ltI (by omega) (by omega)] at z2; omega)]
    · obtain ⟨⟨k2, hk2⟩, hl⟩ := hL
      exact absurd (hsh k2 L hk2).2 hx
end SH
