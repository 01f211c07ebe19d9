/-! the law's tick, whole -/
theorem u01 (f : Nat → Int32) (x : Int32) : upd f 1 x 0 = f 0 := upd_ne (by decide)
theorem u02 (f : Nat → Int32) (x : Int32) : upd f 2 x 0 = f 0 := upd_ne (by decide)
theorem u03 (f : Nat → Int32) (x : Int32) : upd f 3 x 0 = f 0 := upd_ne (by decide)
theorem u04 (f : Nat → Int32) (x : Int32) : upd f 4 x 0 = f 0 := upd_ne (by decide)
theorem u10 (f : Nat → Int32) (x : Int32) : upd f 0 x 1 = f 1 := upd_ne (by decide)
theorem u12 (f : Nat → Int32) (x : Int32) : upd f 2 x 1 = f 1 := upd_ne (by decide)
theorem u13 (f : Nat → Int32) (x : Int32) : upd f 3 x 1 = f 1 := upd_ne (by decide)
theorem u14 (f : Nat → Int32) (x : Int32) : upd f 4 x 1 = f 1 := upd_ne (by decide)
theorem u20 (f : Nat → Int32) (x : Int32) : upd f 0 x 2 = f 2 := upd_ne (by decide)
theorem u21 (f : Nat → Int32) (x : Int32) : upd f 1 x 2 = f 2 := upd_ne (by decide)
theorem u23 (f : Nat → Int32) (x : Int32) : upd f 3 x 2 = f 2 := upd_ne (by decide)
theorem u24 (f : Nat → Int32) (x : Int32) : upd f 4 x 2 = f 2 := upd_ne (by decide)
theorem u30 (f : Nat → Int32) (x : Int32) : upd f 0 x 3 = f 3 := upd_ne (by decide)
theorem u31 (f : Nat → Int32) (x : Int32) : upd f 1 x 3 = f 3 := upd_ne (by decide)
theorem u32 (f : Nat → Int32) (x : Int32) : upd f 2 x 3 = f 3 := upd_ne (by decide)
theorem u34 (f : Nat → Int32) (x : Int32) : upd f 4 x 3 = f 3 := upd_ne (by decide)
theorem u40 (f : Nat → Int32) (x : Int32) : upd f 0 x 4 = f 4 := upd_ne (by decide)
theorem u41 (f : Nat → Int32) (x : Int32) : upd f 1 x 4 = f 4 := upd_ne (by decide)
theorem u42 (f : Nat → Int32) (x : Int32) : upd f 2 x 4 = f 4 := upd_ne (by decide)
theorem u43 (f : Nat → Int32) (x : Int32) : upd f 3 x 4 = f 4 := upd_ne (by decide)
/-- the law's arrays tell of the machine m -/
def LM (m : SX1) (a1 : SQ5) (a2 : SQ18) (a3 : SQ8) (g : Gr) (s l f : Nat) : Prop := AtL a1 g s l f ∧ (l = 0 → a1 1 = m.2.2.2.2.2.2.2.1) ∧ a1 4 = m.2.2.2.2.2.2.2.2.2 ∧ (∀ d, d < 6 → a2 d = m.2.1 d ∧ a2 (6 + d) = m.2.2.1 d ∧ a2 (12 + d) = m.2.2.2.1 d) ∧ ∀ p, p < 8 → a3 p = m.2.2.2.2.1 p
def WB (w : Nat → Int32) (B : Nat) : Prop := ∀ d, d < 6 → w d = -1 ∨ ∃ k, k ≤ B ∧ w d = nI k
theorem WB.lt {w : Nat → Int32} {B : Nat} (h : WB w B) (hB : B < 2 ^ 30) : ∀ d, d < 6 → w d = -1 ∨ ∃ k, k < 2 ^ 30 ∧ w d = nI k := fun d hd => (h d hd).imp id (fun ⟨k, k1, k2⟩ => ⟨k, by omega, k2⟩)
theorem WB.pw {w : Nat → Int32} {B : Nat} (h : WB w B) (G : Int32) {w' : Nat → Int32} (e : ∀ d, d < 6 → w' d = pwW G w d) : WB w' (B + 1) := fun d hd => by
  rw [e d hd]
  unfold pwW
  rcases h d hd with z | ⟨k, k1, k2⟩
  · rw [if_pos z]; exact Or.inl rfl
  · by_cases z : w d = -1
    · rw [if_pos z]; exact Or.inl rfl
    · rw [if_neg z]
      by_cases zg : bt G d = true
      · rw [if_pos zg]; exact Or.inl rfl
      · rw [if_neg zg, k2, nI_1]; exact Or.inr ⟨k + 1, by omega, rfl⟩
theorem Hd.congr {g : Gr} {w w' : Nat → Int32} (e : ∀ d, d < 6 → w d = w' d) {s r : Nat} : Hd g w s r ↔ Hd g w' s r := by
  unfold Hd
  constructor
  · rintro (z | ⟨d, d1, d2, d3⟩)
    · exact Or.inl z
    · exact Or.inr ⟨d, d1, d2, by rw [← e d d1]; exact d3⟩
  · rintro (z | ⟨d, d1, d2, d3⟩)
    · exact Or.inl z
    · exact Or.inr ⟨d, d1, d2, by rw [e d d1]; exact d3⟩
theorem ite_b2i (A : Int32) : (if A = 0 then (1 : Int32) else (0 : Int32)) = b2i (decide (A = 0)) := by
  by_cases z : A = 0
  · rw [if_pos z, decide_eq_true z]; rfl
  · rw [if_neg z, decide_eq_false z]; rfl
section LT
variable {v : SX7} {g : Gr} {ho : Nat → Nat} {ct : Nat}
theorem holds_at (hI : PI v.1.1 g ho ct) {N : Nat} (hN : 11 ≤ N) {a2 : SQ18} (hw : ∀ d, d < 6 → a2 d = -1 ∨ ∃ k, k < 2 ^ 30 ∧ a2 d = nI k) (a1 : SQ5) (a3 : SQ8) {s i : Nat} : ∃ b : Bool, fL_tick_L238 N v a1 a2 a3 (nI ct) (nI s) (nI i) (gA g s i) N (if gA g s i = 0 then (1 : Int32) else (0 : Int32)) 0 = some (b2i b) ∧ (b = true ↔ Hd g a2 s i) := by
  obtain ⟨b, b1, b2⟩ := L238_eq N v a1 a2 a3 (nI ct) (nI s) (nI i) (gA g s i) hw (decide (gA g s i = 0)) (show 6 < N by omega)
  refine ⟨b, by rw [ite_b2i]; exact b1, b2.trans ?_⟩
  unfold Hd
  rw [decide_eq_true_iff]
theorem L187_none (hI : PI v.1.1 g ho ct) {N : Nat} (hN : 11 ≤ N) {a2 : SQ18} (hw : ∀ d, d < 6 → a2 d = -1 ∨ ∃ k, k < 2 ^ 30 ∧ a2 d = nI k) {s : Nat} (hs : s < gN g) (a1 : SQ5) (a3 : SQ8) (h : a1 1 < nI (ho s) ∨ ∀ r, r < gR g s → ¬ Hd g a2 s r) : ∀ (k i fuel : Nat), i + k = gR g s → k < fuel → fL_tick_L187 N a2 (nI ct) (nI s) fuel v a1 a3 (nI i) = some (.inr (v, a1, a3)) := by
  obtain ⟨hP, hH, hB⟩ := hI
  have h4 : gR g s ≤ 4 := (hP.2.2 s hs).2.2.1
  intro k
  induction k with
  | zero =>
    intro i fuel e1 e2
    obtain ⟨f, rfl⟩ : ∃ f, fuel = f + 1 := ⟨fuel - 1, by omega⟩
    have hi : i = gR g s := by omega
    subst hi
    rw [fL_tick_L187, phase2 hP N hs, Option.bind_some, if_pos ((nI_leI (by omega) (by omega)).mpr (Nat.le_refl _))]
  | succ k ih =>
    intro i fuel e1 e2
    obtain ⟨f, rfl⟩ : ∃ f, fuel = f + 1 := ⟨fuel - 1, by omega⟩
    have hi : i < gR g s := by omega
    rw [fL_tick_L187, phase2 hP N hs, Option.bind_some, if_neg (fun z => by rw [nI_leI (by omega) (by omega)] at z; omega), c1_5, t1, phase1 hP hH N hs, Option.bind_some]
    by_cases hst : a1 1 < nI (ho s)
    · rw [if_pos hst]
    · rw [if_neg hst, rule1 hP N hs hi, Option.bind_some]
      obtain ⟨b, b1, b2⟩ := holds_at (i := i) ⟨hP, hH, hB⟩ hN hw a1 a3 (s := s)
      rw [b1, Option.bind_some]
      cases b with
      | true => exact absurd (b2.mp rfl) (h.elim (fun z => absurd z hst) (fun z => z i hi))
      | false =>
        rw [if_pos b2i_f, nI_1]
        exact ih (i + 1) f (by omega) (by omega)
theorem L187_found (hI : PI v.1.1 g ho ct) {N : Nat} (hN : 11 ≤ N) {a2 : SQ18} (hw : ∀ d, d < 6 → a2 d = -1 ∨ ∃ k, k < 2 ^ 30 ∧ a2 d = nI k) {s : Nat} (hs : s < gN g) (a1 : SQ5) (a3 : SQ8) (hst : ¬ a1 1 < nI (ho s)) {r : Nat} (hr : r < gR g s) (hh : Hd g a2 s r) (hno : ∀ j, j < r → ¬ Hd g a2 s j) : ∀ (k i fuel : Nat), i + k = r → k < fuel → fL_tick_L187 N a2 (nI ct) (nI s) fuel v a1 a3 (nI i) = some (.inl (v, upd (upd (upd (upd a1 2 (nI (cb g ct s (gO g s r)))) 3 (nI s)) 0 (nI (gO g s r))) 1 0, a2, upd a3 (gO g s r) (a3 (gO g s r) + if cb g ct s (gO g s r) = 0 then 1 else 0))) := by
  obtain ⟨hP, hH, hB⟩ := hI
  have h4 : gR g s ≤ 4 := (hP.2.2 s hs).2.2.1
  have h8 := hP.1
  have hq : gO g s r < gN g := ((hP.2.2 s hs).2.2.2 r hr).2.1
  intro k
  induction k with
  | zero =>
    intro i fuel e1 e2
    obtain ⟨f, rfl⟩ : ∃ f, fuel = f + 1 := ⟨fuel - 1, by omega⟩
    have hi : i = r := by omega
    subst hi
    rw [fL_tick_L187, phase2 hP N hs, Option.bind_some, if_neg (fun z => by rw [nI_leI (by omega) (by omega)] at z; omega), c1_5, t1, phase1 hP hH N hs, Option.bind_some, if_neg hst, rule1 hP N hs hr, Option.bind_some]
    obtain ⟨b, b1, b2⟩ := holds_at (i := i) ⟨hP, hH, hB⟩ hN hw a1 a3 (s := s)
    rw [b1, Option.bind_some]
    cases b with
    | false => exact absurd (b2.mpr hh) (by decide)
    | true =>
      rw [if_neg b2i_t, rule0 hP N hs hr, Option.bind_some, phase0 hP N hq, Option.bind_some, phase0 hP N hs, Option.bind_some]
      have hv : (if gG g (gO g s i) = gG g s then (0 : Int32) else nI ct) = nI (cb g ct s (gO g s i)) := by
        unfold cb
        by_cases z : gG g s = gG g (gO g s i)
        · rw [if_pos z, if_pos z.symm]; rfl
        · rw [if_neg z, if_neg (fun c => z c.symm)]
      have hc5 : cb g ct s (gO g s i) ≤ 5 := by
        unfold cb
        have := hH.2.2
        split <;> omega
      have h0 : (nI (cb g ct s (gO g s i)) = 0) ↔ cb g ct s (gO g s i) = 0 := by
        show nI (cb g ct s (gO g s i)) = nI 0 ↔ _
        rw [nI_eq (by omega) (by omega)]
      have b8 : ∀ {α : Type} (k : Option α), chk (nI (gO g s i)) 8 k = k := fun k => chk_nI (by omega) (by decide) k
      dsimp only
      rw [hv]
      simp only [c2_5, c0_5, c3_5, c1_5, b8, nmd, t0, t1, t2, t3, nI_clamp (show gO g s i < 2 ^ 31 by omega), upd_same, u01, u02, u03, u04, u10, u12, u13, u14, u20, u21, u23, u24, u30, u31, u32, u34, u40, u41, u42, u43, h0]
  | succ k ih =>
    intro i fuel e1 e2
    obtain ⟨f, rfl⟩ : ∃ f, fuel = f + 1 := ⟨fuel - 1, by omega⟩
    have hi : i < gR g s := by omega
    rw [fL_tick_L187, phase2 hP N hs, Option.bind_some, if_neg (fun z => by rw [nI_leI (by omega) (by omega)] at z; omega), c1_5, t1, phase1 hP hH N hs, Option.bind_some, if_neg hst, rule1 hP N hs hi, Option.bind_some]
    obtain ⟨b, b1, b2⟩ := holds_at (i := i) ⟨hP, hH, hB⟩ hN hw a1 a3 (s := s)
    rw [b1, Option.bind_some]
    cases b with
    | true => exact absurd (b2.mp rfl) (hno i (by omega))
    | false =>
      rw [if_pos b2i_f, nI_1]
      exact ih (i + 1) f (by omega) (by omega)
theorem ltick_eq (hI : PI v.1.1 g ho ct) {N : Nat} (hN : 11 ≤ N) {m m' : SX1} (hm : m.1 = v.1.1) {s l f s' l' f' : Nat} (hNw : Now m g s l f) {a1 : SQ5} {a2 : SQ18} {a3 : SQ8} (L : LM m a1 a2 a3 g s l f) {B : Nat} (hW : WB m.2.1 B) (hB : B < 2 ^ 29) (T : TK m m' g ho ct s l f s' l' f') : ∃ a1' a2' a3', fL_tick N v a1 a2 a3 (nI ct) = some (v, a1', a2', a3') ∧ LM m' a1' a2' a3' g s' l' f' := by
  obtain ⟨hA, l1, l4, lw, la⟩ := L
  obtain ⟨T1, T2, T3, T4, T5⟩ := T
  have hG : gnw g s l f = gnow m := (gnow_gnw (by rw [hm]; exact hI.1) hNw).symm
  have hw2 : ∀ d, d < 6 → a2 d = -1 ∨ ∃ k, k < 2 ^ 30 ∧ a2 d = nI k := fun d hd => by rw [(lw d hd).1]; exact hW.lt (by omega) d hd
  obtain ⟨b2, w1, -, w3⟩ := L17_eq N v (upd a1 4 (a1 4 + 1)) a3 (nI ct) (gnow m) 6 0 N a2 rfl (by omega) (fun d _ hd => hw2 d hd)
  have w1' : fL_tick_L17 N v (upd a1 4 (a1 4 + 1)) a3 (nI ct) (gnow m) N a2 0 = some b2 := w1
  have wm : ∀ d, d < 6 → b2 d = m'.2.1 d ∧ b2 (6 + d) = m'.2.2.1 d ∧ b2 (12 + d) = m'.2.2.2.1 d := fun d hd => by
    obtain ⟨x1, x2, x3⟩ := w3 d (Nat.zero_le _) hd
    obtain ⟨y1, y2, y3⟩ := T3 d hd
    obtain ⟨q1, q2, q3⟩ := lw d hd
    exact ⟨x1.trans ((pwW_c q1).trans y1.symm), x2.trans ((pwS_c q1 q2).trans y2.symm), x3.trans ((pwL_c q1 q3).trans y3.symm)⟩
  have hW' : WB m'.2.1 (B + 1) := hW.pw (gnow m) (fun d hd => (T3 d hd).1)
  have hb2 : ∀ d, d < 6 → b2 d = -1 ∨ ∃ k, k < 2 ^ 30 ∧ b2 d = nI k := fun d hd => by rw [(wm d hd).1]; exact hW'.lt (by omega) d hd
  have h8 := hI.1.1
  obtain ⟨hs, hl, e0, e2, e3⟩ := id hA
  have b8 : ∀ {α : Type} (k : Option α), chk (nI s) 8 k = k := fun k => chk_nI (by omega) (by decide) k
  unfold fL_tick
  rw [greens_eq hI.1 N hA, Option.bind_some, hG]
  simp only [c4_5, t4, nmd]
  rw [w1', Option.bind_some]
  simp only [c2_5, c0_5, c1_5, t0, t1, t2, upd_same, u01, u02, u03, u04, u10, u12, u13, u14, u20, u21, u23, u24, u30, u31, u32, u34, u40, u41, u42, u43, e0, e2]
  by_cases hl0 : l = 0
  · subst hl0
    rw [if_pos (by decide)]
    have hst : a1 1 + 1 = m.2.2.2.2.2.2.2.1 + 1 := by rw [l1 rfl]
    rcases T5 with ⟨z, -⟩ | ⟨z, -⟩ | ⟨-, rfl, rfl, c1, c2, c3⟩ | ⟨-, c1, r, r1, r2, r3, rfl, rfl, rfl, c2, c3⟩
    · omega
    · omega
    · have c3' : upd (upd a1 4 (a1 4 + 1)) 1 (a1 1 + 1) 1 < nI (ho s') ∨ ∀ r, r < gR g s' → ¬ Hd g b2 s' r := by
        rw [upd_same, hst]
        rcases c3 with z | ⟨-, z⟩
        · exact Or.inl z
        · exact Or.inr (fun r hr q => z r hr ((Hd.congr (fun d hd => (wm d hd).1)).mp q))
      have key := L187_none hI hN hb2 hs (upd (upd a1 4 (a1 4 + 1)) 1 (a1 1 + 1)) a3 c3' (gR g s') 0 N (by omega) (by have := (hI.1.2.2 s' hs).2.2.1; omega)
      have key' : fL_tick_L187 N b2 (nI ct) (nI s') N v (upd (upd a1 4 (a1 4 + 1)) 1 (a1 1 + 1)) a3 0 = _ := key
      rw [key', Option.bind_some, onS_r]
      refine ⟨_, _, _, rfl, ⟨hs, by omega, ?_, ?_, fun z => absurd z (by omega)⟩, fun _ => ?_, ?_, wm, fun p hp => ?_⟩
      · simp only [upd_same, u01, u02, u03, u04, u10, u12, u13, u14, u20, u21, u23, u24, u30, u31, u32, u34, u40, u41, u42, u43]; exact e0
      · simp only [upd_same, u01, u02, u03, u04, u10, u12, u13, u14, u20, u21, u23, u24, u30, u31, u32, u34, u40, u41, u42, u43]; exact e2
      · simp only [upd_same, u01, u02, u03, u04, u10, u12, u13, u14, u20, u21, u23, u24, u30, u31, u32, u34, u40, u41, u42, u43]; rw [c1, l1 rfl]
      · simp only [upd_same, u01, u02, u03, u04, u10, u12, u13, u14, u20, u21, u23, u24, u30, u31, u32, u34, u40, u41, u42, u43]; rw [T2, l4]
      · rw [c2 p hp]; exact la p hp
    · have c1' : ¬ upd (upd a1 4 (a1 4 + 1)) 1 (a1 1 + 1) 1 < nI (ho f') := by rw [upd_same, hst]; exact c1
      have hcg : ∀ j, Hd g b2 f' j ↔ Hd g m'.2.1 f' j := fun j => Hd.congr (fun d hd => (wm d hd).1)
      have key := L187_found hI hN hb2 hs (upd (upd a1 4 (a1 4 + 1)) 1 (a1 1 + 1)) a3 c1' r1 ((hcg r).mpr r2) (fun j hj z => r3 j hj ((hcg j).mp z)) r 0 N (by omega) (by have := (hI.1.2.2 f' hs).2.2.1; omega)
      have key' : fL_tick_L187 N b2 (nI ct) (nI f') N v (upd (upd a1 4 (a1 4 + 1)) 1 (a1 1 + 1)) a3 0 = _ := key
      have hq : gO g f' r < gN g := ((hI.1.2.2 f' hs).2.2.2 r r1).2.1
      rw [key', Option.bind_some, onS_l]
      refine ⟨_, _, _, rfl, ⟨hq, T4.2.2.1, ?_, ?_, fun _ => ⟨hs, ?_⟩⟩, fun z => ?_, ?_, wm, fun p hp => ?_⟩
      · simp only [upd_same, u01, u02, u03, u04, u10, u12, u13, u14, u20, u21, u23, u24, u30, u31, u32, u34, u40, u41, u42, u43]
      · simp only [upd_same, u01, u02, u03, u04, u10, u12, u13, u14, u20, u21, u23, u24, u30, u31, u32, u34, u40, u41, u42, u43]
      · simp only [upd_same, u01, u02, u03, u04, u10, u12, u13, u14, u20, u21, u23, u24, u30, u31, u32, u34, u40, u41, u42, u43]
      · simp only [upd_same, u01, u02, u03, u04, u10, u12, u13, u14, u20, u21, u23, u24, u30, u31, u32, u34, u40, u41, u42, u43]; rw [(c2 z).1]
      · simp only [upd_same, u01, u02, u03, u04, u10, u12, u13, u14, u20, u21, u23, u24, u30, u31, u32, u34, u40, u41, u42, u43]; rw [T2, l4]
      · by_cases z : cb g ct f' (gO g f' r) = 0
        · rw [if_pos z, (c2 z).2 p hp]
          by_cases zp : p = gO g f' r
          · rw [if_pos zp, zp, upd_same, la _ (by omega)]
          · rw [if_neg zp, upd_ne zp, la p hp]
        · rw [if_neg z, c3 (by omega) p hp, Int32.add_zero]
          by_cases zp : p = gO g f' r
          · rw [zp, upd_same, la _ (by omega)]
          · rw [upd_ne zp, la p hp]
  · have hm1 : nI l - 1 = nI (l - 1) := nI_sub (b := 1) (by omega)
    rw [if_neg (fun z => hl0 ((le0 (by omega)).mp z)), hm1]
    simp only [upd_same, u01, u02, u03, u04, u10, u12, u13, u14, u20, u21, u23, u24, u30, u31, u32, u34, u40, u41, u42, u43, e0, b8, nI_clamp (show s < 2 ^ 31 by omega)]
    have h0 : (nI (l - 1) = 0) ↔ l - 1 = 0 := by
      show nI (l - 1) = nI 0 ↔ _
      rw [nI_eq (by omega) (by omega)]
    simp only [h0]
    rcases T5 with ⟨z, rfl, rfl, rfl, c2⟩ | ⟨rfl, rfl, rfl, c1, c2⟩ | ⟨z, -⟩ | ⟨z, -⟩
    · refine ⟨_, _, _, rfl, ⟨hs, by omega, ?_, ?_, fun _ => ⟨(e3 (by omega)).1, ?_⟩⟩, fun z2 => absurd z2 (by omega), ?_, wm, fun p hp => ?_⟩
      · simp only [upd_same, u01, u02, u03, u04, u10, u12, u13, u14, u20, u21, u23, u24, u30, u31, u32, u34, u40, u41, u42, u43]; exact e0
      · simp only [upd_same, u01, u02, u03, u04, u10, u12, u13, u14, u20, u21, u23, u24, u30, u31, u32, u34, u40, u41, u42, u43]
      · simp only [upd_same, u01, u02, u03, u04, u10, u12, u13, u14, u20, u21, u23, u24, u30, u31, u32, u34, u40, u41, u42, u43]; exact (e3 (by omega)).2
      · simp only [upd_same, u01, u02, u03, u04, u10, u12, u13, u14, u20, u21, u23, u24, u30, u31, u32, u34, u40, u41, u42, u43]; rw [T2, l4]
      · rw [if_neg (by omega), c2 p hp, Int32.add_zero]
        by_cases zp : p = s'
        · rw [zp, upd_same, la _ (by omega)]
        · rw [upd_ne zp, la p hp]
    · refine ⟨_, _, _, rfl, ⟨hs, by omega, ?_, ?_, fun z2 => absurd z2 (by omega)⟩, fun _ => ?_, ?_, wm, fun p hp => ?_⟩
      · simp only [upd_same, u01, u02, u03, u04, u10, u12, u13, u14, u20, u21, u23, u24, u30, u31, u32, u34, u40, u41, u42, u43]; exact e0
      · simp only [upd_same, u01, u02, u03, u04, u10, u12, u13, u14, u20, u21, u23, u24, u30, u31, u32, u34, u40, u41, u42, u43]
      · simp only [upd_same, u01, u02, u03, u04, u10, u12, u13, u14, u20, u21, u23, u24, u30, u31, u32, u34, u40, u41, u42, u43]; rw [c1]
      · simp only [upd_same, u01, u02, u03, u04, u10, u12, u13, u14, u20, u21, u23, u24, u30, u31, u32, u34, u40, u41, u42, u43]; rw [T2, l4]
      · rw [if_pos rfl, c2 p hp]
        by_cases zp : p = s'
        · rw [if_pos zp, zp, upd_same, la _ (by omega)]
        · rw [if_neg zp, upd_ne zp, la p hp]
    · omega
    · omega
end LT
