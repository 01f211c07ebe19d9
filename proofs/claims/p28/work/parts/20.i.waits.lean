/-! the class's noteWaits -/
def HG (v : SX2) (g : Gr) (ho : Nat → Nat) (ct : Nat) : Prop := (∀ p, p < gN g → v.2.2.1 p = nI (ho p) ∧ 1 ≤ ho p ∧ ho p ≤ 9) ∧ v.2.2.2.2.2.2.2 = nI ct ∧ ct ≤ 5
/-- hold and clearing on the way from p to q -/
def cc (g : Gr) (ho : Nat → Nat) (ct : Nat) (p q : Nat) : Nat := ho p + (if gG g p = gG g q then 0 else ct)
theorem X2_clearingBetween_eq {v : SX2} {g : Gr} (h : PG v g) {ho : Nat → Nat} {ct : Nat} (hh : HG v g ho ct) (N : Nat) {p q : Nat} (hp : p < gN g) (hq : q < gN g) : fX2_clearingBetween N v (nI p) (nI q) = some (nI (if gG g p = gG g q then 0 else ct)) := by
  unfold fX2_clearingBetween
  rw [plan_gr h hp, plan_gr h hq]
  by_cases hx : gG g p = gG g q
  · rw [if_pos hx, if_pos hx]; rfl
  · rw [if_neg hx, if_neg hx, hh.2.1]
theorem imin_nI {a b : Nat} (ha : a < 2 ^ 31) (hb : b < 2 ^ 31) : imin (nI a) (nI b) = nI (min a b) := by
  unfold imin
  by_cases h : b < a
  · rw [if_pos (nI_lt h ha), Nat.min_eq_right (by omega)]
  · rw [if_neg (fun z => by rw [nI_ltI hb ha] at z; omega), Nat.min_eq_left (by omega)]
theorem imax_nI {a b : Nat} (ha : a < 2 ^ 31) (hb : b < 2 ^ 31) : imax (nI a) (nI b) = nI (max a b) := by
  unfold imax
  by_cases h : a < b
  · rw [if_pos (nI_lt h hb), Nat.max_eq_right (by omega)]
  · rw [if_neg (fun z => by rw [nI_ltI ha hb] at z; omega), Nat.max_eq_left (by omega)]
section NW
variable {v1 : SX2} {g : Gr} {ho : Nat → Nat} {ct d p : Nat}
theorem X3_wait_L (h : PG v1 g) (hh : HG v1 g ho ct) (N : Nat) (hd : d < 6) (hp : p < gN g) {v : SX3} {X : Nat → Nat} (hX : ∀ q, q < gN g → v.2.2.2.1 (8 * d + q) = nI (X q) ∧ X q ≤ 1000) {out : Int32} (hO : ∀ q, q < gN g → (bt out q = true ↔ Edg g d p q)) :
    ∀ (k i fuel : Nat) (y : Int32) (x : Nat), i + k = gN g → k < fuel → x ≤ 1000 → ∃ y' x', fX3_noteWait_L25 N v v1 (nI d) (nI p) out fuel y (nI x) (nI i) = some (y', nI x') ∧ x' ≤ x ∧ (∀ q, i ≤ q → q < gN g → Edg g d p q → x' ≤ cc g ho ct p q + X q) ∧ (x' = x ∨ ∃ q, q < gN g ∧ Edg g d p q ∧ x' = cc g ho ct p q + X q) ∧
      (∀ (Y : Nat → Nat) (y0 : Nat), (∀ q, q < gN g → Edg g d p q → v.2.2.1 (8 * d + q) = nI (Y q) ∧ Y q ≤ 1000) → y = nI y0 → y0 ≤ 2000 → ∃ y1, y' = nI y1 ∧ y0 ≤ y1 ∧ y1 ≤ 2000 ∧ (∀ q, i ≤ q → q < gN g → Edg g d p q → cc g ho ct p q + Y q ≤ y1) ∧ (y1 = y0 ∨ ∃ q, q < gN g ∧ Edg g d p q ∧ y1 = cc g ho ct p q + Y q)) := by
  have h8 := h.1
  obtain ⟨hh1, hh2, hh3⟩ := hh.1 p hp
  have hct := hh.2.2
  intro k
  induction k with
  | zero =>
    intro i fuel y x e1 e2 e3
    obtain ⟨f, rfl⟩ : ∃ f, fuel = f + 1 := ⟨fuel - 1, by omega⟩
    rw [fX3_noteWait_L25, h.2.1, if_pos (nI_le (by omega) (by omega))]
    exact ⟨y, x, rfl, Nat.le_refl _, fun q q1 q2 => by omega, Or.inl rfl, fun Y y0 _ a b => ⟨y0, a, Nat.le_refl _, b, fun q q1 q2 => by omega, Or.inl rfl⟩⟩
  | succ k ih =>
    intro i fuel y x e1 e2 e3
    obtain ⟨f, rfl⟩ : ∃ f, fuel = f + 1 := ⟨fuel - 1, by omega⟩
    have hi : i < gN g := by omega
    rw [fX3_noteWait_L25, h.2.1, if_neg (fun z => by rw [nI_leI (by omega) (by omega)] at z; omega), X7_has_eq N _ (by omega), Option.bind_some]
    cases hb : bt out i
    · rw [if_pos b2i_f, nI_1]
      have hne : ¬ Edg g d p i := fun z => by rw [(hO i hi).mpr z] at hb; cases hb
      obtain ⟨y', x', a1, a2, a3, a4, a5⟩ := ih (i + 1) f y x (by omega) (by omega) e3
      refine ⟨y', x', a1, a2, fun q q1 q2 q3 => ?_, a4, fun Y y0 b1 b2 b3 => ?_⟩
      · by_cases hqi : q = i
        · subst hqi; exact absurd q3 hne
        · exact a3 q (by omega) q2 q3
      · obtain ⟨y1, c1, c2, c3, c4, c5⟩ := a5 Y y0 b1 b2 b3
        refine ⟨y1, c1, c2, c3, fun q q1 q2 q3 => ?_, c5⟩
        by_cases hqi : q = i
        · subst hqi; exact absurd q3 hne
        · exact c4 q (by omega) q2 q3
    · rw [if_neg b2i_t, X2_clearingBetween_eq h hh N hp hi, Option.bind_some, X3_cell_eq, Option.bind_some, Option.bind_some, nI_1, rowAt_nI (show p < 8 by omega) (by decide), hh1, rowAt_nI (by omega) (by decide), rowAt_nI (by omega) (by decide), nI_add]
      have hE : Edg g d p i := (hO i hi).mp hb
      obtain ⟨x1, x2⟩ := hX i hi
      have hcc : ho p + (if gG g p = gG g i then 0 else ct) = cc g ho ct p i := rfl
      have hccb : cc g ho ct p i ≤ 14 := by unfold cc; split <;> omega
      rw [hcc, x1, nI_add, imin_nI (by omega) (by omega)]
      obtain ⟨y', x', a1, a2, a3, a4, a5⟩ := ih (i + 1) f (imax y (nI (cc g ho ct p i) + v.2.2.1 (8 * d + i))) (min x (cc g ho ct p i + X i)) (by omega) (by omega) (by omega)
      refine ⟨y', x', a1, by omega, fun q q1 q2 q3 => ?_, ?_, fun Y y0 b1 b2 b3 => ?_⟩
      · by_cases hqi : q = i
        · subst hqi; omega
        · exact a3 q (by omega) q2 q3
      · rcases a4 with a4 | a4
        · by_cases hlt : x ≤ cc g ho ct p i + X i
          · exact Or.inl (by omega)
          · exact Or.inr ⟨i, hi, hE, by omega⟩
        · exact Or.inr a4
      · obtain ⟨d1, d2⟩ := b1 i hi hE
        obtain ⟨y1, c1, c2, c3, c4, c5⟩ := a5 Y (max y0 (cc g ho ct p i + Y i)) b1 (by rw [b2, d1, nI_add, imax_nI (by omega) (by omega)]) (by omega)
        refine ⟨y1, c1, by omega, c3, fun q q1 q2 q3 => ?_, ?_⟩
        · by_cases hqi : q = i
          · subst hqi; omega
          · exact c4 q (by omega) q2 q3
        · rcases c5 with c5 | c5
          · by_cases hlt : cc g ho ct p i + Y i ≤ y0
            · exact Or.inl (by omega)
            · exact Or.inr ⟨i, hi, hE, by omega⟩
          · exact Or.inr c5
/-- the rows of a direction, each phase at its level -/
def WLev (g : Gr) (ho : Nat → Nat) (ct d : Nat) (lo sh : Nat → Int32) (lev : Nat → Nat) : Prop := ∃ X : Nat → Nat, ∀ q, q < gN g → (sh (8 * d + q) = nI (X q) ∧ X q ≤ 1000 ∧ (X q = 1000 ∨ ∃ k, Cst (gN g) (E0 g d) (GN g d) (cc g ho ct) k q (X q))) ∧ (∀ k L, k ≤ lev q → Cst (gN g) (E0 g d) (GN g d) (cc g ho ct) k q L → X q ≤ L) ∧
  (Hlp (gN g) (E0 g d) (S0 g d) (GN g d) (lev q) q → ∃ y, lo (8 * d + q) = nI y ∧ IsLg (gN g) (E0 g d) (GN g d) (cc g ho ct) q y)
theorem fre_first {g : Gr} {d p : Nat} : ∀ b, fre g d p b = false → ∃ r, r < b ∧ fre g d p r = true ∧ sur g d p r = true := by
  intro b
  induction b with
  | zero => intro h; cases h
  | succ b ih =>
    intro h
    cases hb : fre g d p b
    · obtain ⟨r, r1, r2⟩ := ih hb
      exact ⟨r, by omega, r2⟩
    · have h2 : (fre g d p b && !sur g d p b) = false := h
      rw [hb] at h2
      exact ⟨b, by omega, hb, by simpa using h2⟩
theorem edg_ex {g : Gr} {d p : Nat} (h : ¬ S0 g d p) : ∃ q, E0 g d p q := by
  have h1 : sty g d p = false := by
    cases hs : sty g d p
    · rfl
    · exact absurd hs h
  obtain ⟨r, r1, r2, r3⟩ := fre_first _ h1
  exact ⟨_, r, r1, by unfold fol; rw [r2, r3]; rfl, rfl⟩
theorem Hlp_nongreen {n : Nat} {E : Nat → Nat → Prop} {st gn : Nat → Prop} {p : Nat} (hg : ¬ gn p) : ∀ m, Hlp n E st gn (m + 1) p → ¬ st p ∧ ∀ q, q < n → E p q → Hlp n E st gn m q := by
  intro m
  induction m with
  | zero =>
    rintro (h | h)
    · exact absurd h hg
    · exact h
  | succ m ih =>
    rintro (h | h)
    · obtain ⟨h1, h2⟩ := ih h
      exact ⟨h1, fun q q1 q2 => (h2 q q1 q2).mono (Nat.le_succ m)⟩
    · exact h
theorem Hlp_len {n : Nat} {E : Nat → Nat → Prop} {st gn : Nat → Prop} {c : Nat → Nat → Nat} : ∀ m p, Hlp n E st gn m p → ∀ k L, Cst n E gn c k p L → k ≤ m := by
  intro m
  induction m with
  | zero =>
    intro p h k L hL
    cases k with
    | zero => exact Nat.le_refl _
    | succ k => exact absurd h hL.1
  | succ m ih =>
    intro p h k L hL
    rcases h with h | ⟨-, h⟩
    · have := ih p h k L hL; omega
    · cases k with
      | zero => exact Nat.zero_le _
      | succ k =>
        obtain ⟨-, q, q1, q2, B, B1, -⟩ := hL
        have := ih q (h q q1 q2) k B B1
        omega
theorem cc_le (hh : HG v1 g ho ct) : ∀ p q, p < gN g → cc g ho ct p q ≤ 14 := by
  intro p q hp
  have h1 := (hh.1 p hp).2.2
  have h2 := hh.2.2
  unfold cc
  split <;> omega
theorem lg_small (h : PG v1 g) (hh : HG v1 g ho ct) {m q y : Nat} (hm : m ≤ 8) (hq : q < gN g) (hH : Hlp (gN g) (E0 g d) (S0 g d) (GN g d) m q) (hy : IsLg (gN g) (E0 g d) (GN g d) (cc g ho ct) q y) : y ≤ 1000 := by
  obtain ⟨k, hk⟩ := hy.1
  have h1 := Hlp_len m q hH k y hk
  have h2 := Cst_le (cc_le hh) k q y hq hk
  have : 14 * k ≤ 14 * 8 := Nat.mul_le_mul_left _ (by omega)
  omega
theorem X3_noteWait_eq (h : PG v1 g) (hh : HG v1 g ho ct) {N : Nat} (hN : 9 ≤ N) (hd : d < 6) (hp : p < gN g) {v : SX3} (hW : WayS v g d) {lev : Nat → Nat} {m : Nat} (hm : m < 8) (hlev : ∀ q, lev q = m ∨ lev q = m + 1) (hL : WLev g ho ct d v.2.2.1 v.2.2.2.1 lev) (hg : ¬ GN g d p) :
    ∃ a b, fX3_noteWait N v v1 (nI d) (nI p) = some (v.1, v.2.1, upd v.2.2.1 (8 * d + p) a, upd v.2.2.2.1 (8 * d + p) b, v.2.2.2.2) ∧ WLev g ho ct d (upd v.2.2.1 (8 * d + p) a) (upd v.2.2.2.1 (8 * d + p) b) (fun q => if q = p then m + 1 else lev q) := by
  have h8 := h.1
  obtain ⟨X, hX⟩ := hL
  have hO : ∀ q, q < gN g → (bt (v.2.1 (8 * d + p)) q = true ↔ Edg g d p q) := by
    intro q hq
    rw [hW p hp q]
    constructor
    · rintro (z | ⟨z, -⟩)
      · exact z
      · omega
    · exact Or.inl
  obtain ⟨y', x', a1, a2, a3, a4, a5⟩ := X3_wait_L h hh N hd hp (v := v) (X := X) (fun q hq => ⟨(hX q hq).1.1, (hX q hq).1.2.1⟩) hO (gN g) 0 N 0 1000 (by omega) (by omega) (Nat.le_refl _)
  have a1' : fX3_noteWait_L25 N v v1 (nI d) (nI p) (v.2.1 (8 * d + p)) N 0 1000 0 = some (y', nI x') := a1
  refine ⟨y', nI x', ?_, fun q => if q = p then x' else X q, fun q hq => ?_⟩
  · unfold fX3_noteWait
    rw [X3_cell_eq, Option.bind_some, rowAt_nI (by omega) (by decide), a1', Option.bind_some, Option.bind_some, Option.bind_some, rowPut_nI (by omega) (by decide), rowPut_nI (by omega) (by decide)]
  · by_cases hqp : q = p
    · subst hqp
      dsimp only
      rw [if_pos rfl, if_pos rfl]
      have hu : ∀ (f : Nat → Int32) (z : Int32), upd f (8 * d + q) z (8 * d + q) = z := fun f z => by unfold upd; rw [if_pos rfl]
      rw [hu, hu]
      refine ⟨⟨rfl, by omega, ?_⟩, fun k L hk hL => ?_, fun hH => ?_⟩
      · rcases a4 with a4 | ⟨r, r1, r2, r3⟩
        · exact Or.inl a4
        · have hc1 : 1 ≤ cc g ho ct q r := by have := (hh.1 q hp).2.1; unfold cc; omega
          rcases (hX r r1).1.2.2 with z | ⟨k, hk⟩
          · omega
          · exact Or.inr ⟨k + 1, hg, r, r1, r2, X r, hk, r3⟩
      · cases k with
        | zero => exact absurd hL.1 hg
        | succ k =>
          obtain ⟨-, r, r1, r2, B, B1, rfl⟩ := hL
          have b1 := (hX r r1).2.1 k B (by rcases hlev r with e | e <;> omega) B1
          have b2 := a3 r (Nat.zero_le _) r1 r2
          omega
      · obtain ⟨c1, c2⟩ := Hlp_nongreen hg m hH
        have hlr : ∀ r, r < gN g → E0 g d q r → ∃ y, v.2.2.1 (8 * d + r) = nI y ∧ IsLg (gN g) (E0 g d) (GN g d) (cc g ho ct) r y := fun r r1 r2 => (hX r r1).2.2 ((c2 r r1 r2).mono (by rcases hlev r with e | e <;> omega))
        have ex : ∀ r, ∃ y, r < gN g → E0 g d q r → v.2.2.1 (8 * d + r) = nI y ∧ IsLg (gN g) (E0 g d) (GN g d) (cc g ho ct) r y := by
          intro r
          by_cases hr : r < gN g ∧ E0 g d q r
          · obtain ⟨y, hy⟩ := hlr r hr.1 hr.2
            exact ⟨y, fun _ _ => hy⟩
          · exact ⟨0, fun z1 z2 => absurd ⟨z1, z2⟩ hr⟩
        let Y : Nat → Nat := fun r => Classical.choose (ex r)
        have hY : ∀ r, r < gN g → E0 g d q r → v.2.2.1 (8 * d + r) = nI (Y r) ∧ IsLg (gN g) (E0 g d) (GN g d) (cc g ho ct) r (Y r) := fun r => Classical.choose_spec (ex r)
        obtain ⟨y1, e1, e2, e3, e4, e5⟩ := a5 Y 0 (fun r r1 r2 => ⟨(hY r r1 r2).1, lg_small h hh (by omega) r1 (c2 r r1 r2) (hY r r1 r2).2⟩) rfl (by omega)
        refine ⟨y1, e1, IsLg.of hg (fun r r1 r2 => (hY r r1 r2).2) (fun r r1 r2 => e4 r (Nat.zero_le _) r1 r2) ?_⟩
        rcases e5 with e5 | e5
        · obtain ⟨r, hr⟩ := edg_ex c1
          have hr1 := edg_lt h hp hr
          have := e4 r (Nat.zero_le _) hr1 hr
          have hc1 : 1 ≤ cc g ho ct q r := by have := (hh.1 q hp).2.1; unfold cc; omega
          omega
        · exact e5
    · dsimp only
      rw [if_neg hqp, if_neg hqp]
      have hu : ∀ (f : Nat → Int32) (z : Int32), upd f (8 * d + p) z (8 * d + q) = f (8 * d + q) := fun f z => by unfold upd; rw [if_neg (by omega)]
      rw [hu, hu]
      exact hX q hq
end NW
