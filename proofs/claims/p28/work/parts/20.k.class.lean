/-! the class's proofs, in the same words -/
def SvA (g : Gr) (s d : Nat) : Prop := ∃ p, p < gN g ∧ Cmg g (-1) 0 s p ∧ Sv g d p
theorem flag_of {F : Nat → Int32 → Int32 → Option Int32} {n : Nat} {P : Nat → Prop} (h0 : ∀ f m, F (f + 1) m (nI n) = some m) (ht : ∀ i f, i < n → F (f + 1) 1 (nI i) = F f 1 (nI (i + 1))) (hs : ∀ i f, i < n → ∃ b : Bool, (b = true ↔ P i) ∧ F (f + 1) 0 (nI i) = F f (b2i b) (nI (i + 1))) : ∀ (k i fuel : Nat) (c : Bool), i + k = n → k < fuel → ∃ b : Bool, F fuel (b2i c) (nI i) = some (b2i b) ∧ (b = true ↔ (c = true ∨ ∃ q, i ≤ q ∧ q < n ∧ P q)) := by
  intro k
  induction k with
  | zero =>
    intro i fuel c e1 e2
    obtain ⟨f, rfl⟩ : ∃ f, fuel = f + 1 := ⟨fuel - 1, by omega⟩
    have hi : i = n := by omega
    subst hi
    refine ⟨c, h0 f _, Or.inl, ?_⟩
    rintro (z | ⟨q, q1, q2, -⟩)
    · exact z
    · omega
  | succ k ih =>
    intro i fuel c e1 e2
    obtain ⟨f, rfl⟩ : ∃ f, fuel = f + 1 := ⟨fuel - 1, by omega⟩
    cases c
    · obtain ⟨b, b1, b2⟩ := hs i f (by omega)
      obtain ⟨b', a1, a2⟩ := ih (i + 1) f b (by omega) (by omega)
      have b2' : F (f + 1) (b2i false) (nI i) = F f (b2i b) (nI (i + 1)) := b2
      refine ⟨b', by rw [b2']; exact a1, ?_⟩
      rw [a2]
      constructor
      · rintro (z | ⟨q, q1, q2⟩)
        · exact Or.inr ⟨i, Nat.le_refl _, by omega, b1.mp z⟩
        · exact Or.inr ⟨q, by omega, q2⟩
      · rintro (z | ⟨q, q1, q2, q3⟩)
        · cases z
        · by_cases hq : q = i
          · subst hq; exact Or.inl (b1.mpr q3)
          · exact Or.inr ⟨q, by omega, q2, q3⟩
    · have ht' : F (f + 1) (b2i true) (nI i) = F f (b2i true) (nI (i + 1)) := ht i f (by omega)
      obtain ⟨b', a1, a2⟩ := ih (i + 1) f true (by omega) (by omega)
      refine ⟨b', by rw [ht']; exact a1, ?_⟩
      rw [a2]
      exact ⟨fun _ => Or.inl rfl, fun _ => Or.inl rfl⟩
theorem flag_eq {F : Nat → Int32 → Int32 → Option Int32} {n : Nat} {P : Nat → Prop} (h0 : ∀ f m, F (f + 1) m (nI n) = some m) (ht : ∀ i f, i < n → F (f + 1) 1 (nI i) = F f 1 (nI (i + 1))) (hs : ∀ i f, i < n → ∃ b : Bool, (b = true ↔ P i) ∧ F (f + 1) 0 (nI i) = F f (b2i b) (nI (i + 1))) {fuel : Nat} (hf : n < fuel) : ∃ b : Bool, F fuel 0 0 = some (b2i b) ∧ (b = true ↔ ∃ q, q < n ∧ P q) := by
  obtain ⟨b, a1, a2⟩ := flag_of h0 ht hs n 0 fuel false (by omega) hf
  refine ⟨b, a1, ?_⟩
  rw [a2]
  constructor
  · rintro (z | ⟨q, -, z⟩)
    · cases z
    · exact ⟨q, z⟩
  · rintro ⟨q, z⟩; exact Or.inr ⟨q, Nat.zero_le _, z⟩
theorem count_of {F : Nat → Int32 → Int32 → Option Int32} {n : Nat} (B : Nat → Bool) (h0 : ∀ f m, F (f + 1) m (nI n) = some m) (hs : ∀ i f m, i < n → F (f + 1) m (nI i) = F f (if B i = true then m + 1 else m + 0) (nI (i + 1))) : ∀ (k i fuel : Nat), i + k = n → k < fuel → F fuel (nI (cnt B i)) (nI i) = some (nI (cnt B n)) := by
  intro k
  induction k with
  | zero =>
    intro i fuel e1 e2
    obtain ⟨f, rfl⟩ : ∃ f, fuel = f + 1 := ⟨fuel - 1, by omega⟩
    have hi : i = n := by omega
    subst hi
    exact h0 f _
  | succ k ih =>
    intro i fuel e1 e2
    obtain ⟨f, rfl⟩ : ∃ f, fuel = f + 1 := ⟨fuel - 1, by omega⟩
    have h := ih (i + 1) f (by omega) (by omega)
    rw [hs i f _ (by omega)]
    have he : (if B i = true then nI (cnt B i) + 1 else nI (cnt B i) + 0) = nI (cnt B (i + 1)) := by
      cases hb : B i
      · rw [if_neg (by decide), cnt, hb, if_neg (by decide), Int32.add_zero]; rfl
      · rw [if_pos rfl, cnt, hb, if_pos rfl, nI_1]
    rw [he]
    exact h
theorem count_eq {F : Nat → Int32 → Int32 → Option Int32} {n : Nat} (B : Nat → Bool) (h0 : ∀ f m, F (f + 1) m (nI n) = some m) (hs : ∀ i f m, i < n → F (f + 1) m (nI i) = F f (if B i = true then m + 1 else m + 0) (nI (i + 1))) {fuel : Nat} (hf : n < fuel) : F fuel 0 0 = some (nI (cnt B n)) :=
  count_of B h0 hs n 0 fuel (by omega) hf
theorem b2i_eq {a b : Bool} {P : Prop} (ha : a = true ↔ P) (hb : b = true ↔ P) : a = b := by
  cases a <;> cases b
  · rfl
  · have := ha.mpr (hb.mp rfl); cases this
  · have := hb.mpr (ha.mp rfl); cases this
  · rfl
theorem le6 {i : Nat} (hi : i < 6) : ¬ (6 : Int32) ≤ nI i := fun z => by
  have z2 : nI 6 ≤ nI i := z
  rw [nI_leI (by omega) (by omega)] at z2; omega
theorem upd_ne {f : Nat → Int32} {k q : Nat} {x : Int32} (h : ¬ q = k) : upd f k x q = f q := by unfold upd; rw [if_neg h]
theorem fill_of {F : Nat → Int32 → Int32 → Option Int32} {n : Nat} (hn : n ≤ 31) {P : Nat → Prop} (h0 : ∀ f m, F (f + 1) m (nI n) = some m) (hs : ∀ i f m, i < n → ∃ b : Bool, (b = true ↔ P i) ∧ F (f + 1) m (nI i) = F f (if b = true then m ||| ((1 : Int32) <<< (nI i &&& 31)) else m ||| 0) (nI (i + 1))) : ∀ (k i fuel : Nat) (m : Int32), i + k = n → k < fuel → ∃ M, F fuel m (nI i) = some M ∧ ∀ q, bt M q = true ↔ (bt m q = true ∨ (i ≤ q ∧ q < n ∧ P q)) := by
  intro k
  induction k with
  | zero =>
    intro i fuel m e1 e2
    obtain ⟨f, rfl⟩ : ∃ f, fuel = f + 1 := ⟨fuel - 1, by omega⟩
    have hi : i = n := by omega
    subst hi
    exact ⟨m, h0 f m, fun q => ⟨Or.inl, fun z => z.elim id (fun z => by omega)⟩⟩
  | succ k ih =>
    intro i fuel m e1 e2
    obtain ⟨f, rfl⟩ : ∃ f, fuel = f + 1 := ⟨fuel - 1, by omega⟩
    obtain ⟨b, b1, b2⟩ := hs i f m (by omega)
    obtain ⟨M, a1, a2⟩ := ih (i + 1) f (if b = true then m ||| ((1 : Int32) <<< (nI i &&& 31)) else m ||| 0) (by omega) (by omega)
    refine ⟨M, by rw [b2]; exact a1, fun q => ?_⟩
    rw [a2 q]
    cases b
    · rw [if_neg (by decide), Int32.or_zero]
      constructor
      · rintro (z | ⟨z1, z2, z3⟩)
        · exact Or.inl z
        · exact Or.inr ⟨by omega, z2, z3⟩
      · rintro (z | ⟨z1, z2, z3⟩)
        · exact Or.inl z
        · by_cases hq : q = i
          · subst hq; have := b1.mpr z3; cases this
          · exact Or.inr ⟨by omega, z2, z3⟩
    · rw [if_pos rfl, bt_setk (by omega), Bool.or_eq_true, decide_eq_true_eq]
      constructor
      · rintro ((z | rfl) | ⟨z1, z2, z3⟩)
        · exact Or.inl z
        · exact Or.inr ⟨Nat.le_refl _, by omega, b1.mp rfl⟩
        · exact Or.inr ⟨by omega, z2, z3⟩
      · rintro (z | ⟨z1, z2, z3⟩)
        · exact Or.inl (Or.inl z)
        · by_cases hq : q = i
          · exact Or.inl (Or.inr hq)
          · exact Or.inr ⟨by omega, z2, z3⟩
theorem fill_eq {F : Nat → Int32 → Int32 → Option Int32} {n : Nat} (hn : n ≤ 31) {P : Nat → Prop} (h0 : ∀ f m, F (f + 1) m (nI n) = some m) (hs : ∀ i f m, i < n → ∃ b : Bool, (b = true ↔ P i) ∧ F (f + 1) m (nI i) = F f (if b = true then m ||| ((1 : Int32) <<< (nI i &&& 31)) else m ||| 0) (nI (i + 1))) {fuel : Nat} (hf : n < fuel) : ∃ M, F fuel 0 0 = some M ∧ ∀ q, bt M q = true ↔ (q < n ∧ P q) := by
  obtain ⟨M, a1, a2⟩ := fill_of hn h0 hs n 0 fuel 0 (by omega) hf
  refine ⟨M, a1, fun q => ?_⟩
  rw [a2 q, bt_0]
  constructor
  · rintro (z | ⟨-, z⟩)
    · cases z
    · exact z
  · intro z; exact Or.inr ⟨Nat.zero_le _, z⟩
theorem and0_iff (x y : Int32) : x &&& y = 0 ↔ ¬ ∃ q, bt x q = true ∧ bt y q = true := by
  constructor
  · rintro h ⟨q, h1, h2⟩
    have h3 : bt (x &&& y) q = true := by rw [bt_and, h1, h2]; rfl
    rw [h, bt_0] at h3; cases h3
  · intro h
    apply bt_ext
    intro q _
    rw [bt_0, bt_and]
    cases hx : bt x q
    · rfl
    · cases hy : bt y q
      · rfl
      · exact absurd ⟨q, hx, hy⟩ h
/-- what a study of d leaves -/
def StdS (w : SX3) (g : Gr) (ho : Nat → Nat) (ct s d : Nat) : Prop := LeadS w g ∧ ComS w g s ∧ WayS w g d ∧ StaS w g d ∧ WaiS w g ho ct d
section CL
variable {v : SX7} {g : Gr} {ho : Nat → Nat} {ct : Nat}
theorem X7_study_eq (h : PG v.1.1 g) (hh : HG v.1.1 g ho ct) {N : Nat} (hN : 9 ≤ N) {s d : Nat} (hs : v.1.2.2.2.2.2.1 = nI s) (hs2 : s < 2 ^ 31) (hd : d < 6) : ∃ w, fX7_study N v (nI d) = some (v.1, v.2.1, v.2.2.1, w) ∧ StdS w g ho ct s d := by
  obtain ⟨l, c, a1, a2, a3⟩ := X3_noteComing_eq h hN v.2.2.2 hs2
  obtain ⟨w, m, b1, b2, b3, -⟩ := X3_noteStarving_eq h hN (l, v.2.2.2.2.1, v.2.2.2.2.2.1, v.2.2.2.2.2.2.1, v.2.2.2.2.2.2.2.1, c) hd
  obtain ⟨lo, sh, c1, c2, -⟩ := X3_noteWaits_eq h hh hN hd (l, w, v.2.2.2.2.2.1, v.2.2.2.2.2.2.1, upd v.2.2.2.2.2.2.2.1 d m, c) b2
  refine ⟨(l, w, lo, sh, upd v.2.2.2.2.2.2.2.1 d m, c), ?_, a2, a3, b2, b3, c2⟩
  unfold fX7_study
  rw [hs, a1, Option.bind_some, b1, Option.bind_some, c1, Option.bind_some]
theorem X7_all_L23 (h : PG v.1.1 g) (hh : HG v.1.1 g ho ct) {N : Nat} (hN : 9 ≤ N) {s : Nat} : ∀ (k i fuel : Nat) (w : SX3), i + k = 6 → k < fuel → LeadS w g → ComS w g s → (∀ e, e < i → StaS w g e ∧ WaiS w g ho ct e) → ∃ w', fX7_studyAll_L23 N fuel (v.1, v.2.1, v.2.2.1, w) (nI i) = some (v.1, v.2.1, v.2.2.1, w') ∧ LeadS w' g ∧ ComS w' g s ∧ ∀ e, e < 6 → StaS w' g e ∧ WaiS w' g ho ct e := by
  have h8 := h.1
  intro k
  induction k with
  | zero =>
    intro i fuel w e1 e2 e3 e4 e5
    obtain ⟨f, rfl⟩ : ∃ f, fuel = f + 1 := ⟨fuel - 1, by omega⟩
    have hi : i = 6 := by omega
    subst hi
    rw [fX7_studyAll_L23, if_pos (by decide)]
    exact ⟨w, rfl, e3, e4, e5⟩
  | succ k ih =>
    intro i fuel w e1 e2 e3 e4 e5
    obtain ⟨f, rfl⟩ : ∃ f, fuel = f + 1 := ⟨fuel - 1, by omega⟩
    have hi : i < 6 := by omega
    obtain ⟨ws, m, b1, b2, b3, -⟩ := X3_noteStarving_eq h hN w hi
    obtain ⟨lo, sh, c1, c2, c3⟩ := X3_noteWaits_eq h hh hN hi (w.1, ws, w.2.2.1, w.2.2.2.1, upd w.2.2.2.2.1 i m, w.2.2.2.2.2) b2
    obtain ⟨w', d1, d2⟩ := ih (i + 1) f (w.1, ws, lo, sh, upd w.2.2.2.2.1 i m, w.2.2.2.2.2) (by omega) (by omega) e3 e4 (fun e he => by
      by_cases hei : e = i
      · subst hei; exact ⟨b3, c2⟩
      · obtain ⟨f1, f2⟩ := e5 e (by omega)
        constructor
        · intro q
          show bt (upd w.2.2.2.2.1 i m e) q = true ↔ _
          rw [upd_ne hei]
          exact f1 q
        · intro q hq
          obtain ⟨g1, g2⟩ := c3 (8 * e + q) (by omega)
          have f3 := f2 q hq
          dsimp only at g1 g2 ⊢
          rw [g1, g2]
          exact f3)
    refine ⟨w', ?_, d2⟩
    rw [fX7_studyAll_L23, if_neg (le6 hi), b1, Option.bind_some, c1, Option.bind_some, nI_1]
    exact d1
theorem X7_studyAll_eq (h : PG v.1.1 g) (hh : HG v.1.1 g ho ct) {N : Nat} (hN : 9 ≤ N) {s : Nat} (hs : v.1.2.2.2.2.2.1 = nI s) (hs2 : s < 2 ^ 31) : ∃ w, fX7_studyAll N v = some (v.1, v.2.1, v.2.2.1, w) ∧ LeadS w g ∧ ComS w g s ∧ ∀ e, e < 6 → StaS w g e ∧ WaiS w g ho ct e := by
  obtain ⟨l, c, a1, a2, a3⟩ := X3_noteComing_eq h hN v.2.2.2 hs2
  obtain ⟨w', b1, b2⟩ := X7_all_L23 h hh hN 6 0 N _ (by omega) (by omega) a2 a3 (fun e he => by omega)
  have b1' : fX7_studyAll_L23 N N (v.1, v.2.1, v.2.2.1, (l, v.2.2.2.2.1, v.2.2.2.2.2.1, v.2.2.2.2.2.2.1, v.2.2.2.2.2.2.2.1, c)) 0 = some (v.1, v.2.1, v.2.2.1, w') := b1
  refine ⟨w', ?_, b2⟩
  unfold fX7_studyAll
  rw [hs, a1, Option.bind_some, b1', Option.bind_some]
end CL
section CP
variable {w : SX3} {g : Gr} {ho : Nat → Nat} {ct s : Nat}
theorem cmg_lt {x : Int32} {t q : Nat} (h : Cmg g x t s q) : q < gN g := by
  obtain ⟨h1, k, hk⟩ := h
  exact Way_lt k s q h1 hk
theorem X3_starvesFrom_eq (h8 : gN g ≤ 8) (N : Nat) {d p : Nat} (hd : d < 6) (hp : p < gN g) (hS : StaS w g d) : ∃ b : Bool, fX3_starvesFrom N w (nI d) (nI p) = some (b2i b) ∧ (b = true ↔ Sv g d p) := by
  unfold fX3_starvesFrom
  rw [rowAt_nI hd (by decide), X7_has_eq N _ (by omega), Option.bind_some, must_b2i]
  refine ⟨_, rfl, ?_⟩
  rw [hS p]
  exact ⟨fun z => z.2, fun z => ⟨hp, z⟩⟩
theorem X3_canStarve_eq (N : Nat) {d : Nat} (hd : d < 6) (hC : ComS w g s) (hS : StaS w g d) : ∃ b : Bool, fX3_canStarve N w (nI d) = some (b2i b) ∧ (b = true ↔ SvA g s d) := by
  unfold fX3_canStarve
  rw [rowAt_nI hd (by decide)]
  have hk : (∃ q, bt (w.2.2.2.2.1 d) q = true ∧ bt w.2.2.2.2.2 q = true) ↔ SvA g s d := by
    constructor
    · rintro ⟨q, h1, h2⟩
      obtain ⟨h3, h4⟩ := (hS q).mp h1
      exact ⟨q, h3, (hC q).mp h2, h4⟩
    · rintro ⟨q, h1, h2, h3⟩
      exact ⟨q, (hS q).mpr ⟨h1, h3⟩, (hC q).mpr h2⟩
  by_cases hx : w.2.2.2.2.1 d &&& w.2.2.2.2.2 = 0
  · rw [if_pos hx]
    exact ⟨false, rfl, (fun z => absurd z (by decide)), fun z => absurd (hk.mpr z) ((and0_iff _ _).mp hx)⟩
  · rw [if_neg hx]
    refine ⟨true, rfl, fun _ => ?_, fun _ => rfl⟩
    exact hk.mp (Classical.byContradiction fun z => hx ((and0_iff _ _).mpr z))
theorem X3_longestFrom_eq (h8 : gN g ≤ 8) (N : Nat) {d p : Nat} (hd : d < 6) (hp : p < gN g) (hS : StaS w g d) (hW : WaiS w g ho ct d) : ∃ x, fX3_longestFrom N w (nI d) (nI p) = some x ∧ (Sv g d p → x = -1) ∧ (¬ Sv g d p → ∃ y, y ≤ 1000 ∧ x = nI y ∧ IsLg (gN g) (E0 g d) (GN g d) (cc g ho ct) p y) := by
  obtain ⟨b, b1, b2⟩ := X3_starvesFrom_eq h8 N hd hp hS
  unfold fX3_longestFrom
  rw [b1, Option.bind_some]
  cases b
  · have hs : ¬ Sv g d p := fun z => by have := b2.mpr z; cases this
    obtain ⟨y, y1, y2, y3⟩ := (hW p hp).2 hs
    rw [if_pos b2i_f, X3_cell_eq, Option.bind_some, rowAt_nI (by omega) (by decide)]
    exact ⟨_, rfl, fun z => absurd z hs, fun _ => ⟨y, y2, y1, y3⟩⟩
  · rw [if_neg b2i_t]
    exact ⟨_, rfl, fun _ => rfl, fun z => absurd (b2.mp rfl) z⟩
theorem X3_shortestFrom_eq (h8 : gN g ≤ 8) (N : Nat) {d p : Nat} (hd : d < 6) (hp : p < gN g) (hW : WaiS w g ho ct d) : ∃ x, fX3_shortestFrom N w (nI d) (nI p) = some x ∧ (∀ L, IsSh (gN g) (E0 g d) (GN g d) (cc g ho ct) p L → x = nI L) ∧ (NoSh (gN g) (E0 g d) (GN g d) (cc g ho ct) p → x = -1) := by
  unfold fX3_shortestFrom
  rw [X3_cell_eq, Option.bind_some, rowAt_nI (by omega) (by decide)]
  rcases (hW p hp).1 with ⟨x, x1, x2, x3⟩ | ⟨x1, x2⟩
  · rw [if_pos (by rw [x1]; exact nI_lt (b := 1000) x2 (by omega)), x1]
    refine ⟨_, rfl, fun L hL => by rw [IsSh.uniq x3 hL], fun hn => ?_⟩
    obtain ⟨k, hk⟩ := x3.1
    exact absurd hk (hn k x)
  · rw [if_neg (by rw [x1]; decide)]
    refine ⟨_, rfl, fun L hL => ?_, fun _ => rfl⟩
    obtain ⟨k, hk⟩ := hL.1
    exact absurd hk (x2 k L)
theorem X3_starvingDirs_eq {N : Nat} (hN : 9 ≤ N) (hC : ComS w g s) (hS : ∀ e, e < 6 → StaS w g e) : ∃ M, fX3_starvingDirections N w = some M ∧ ∀ d, bt M d = true ↔ (d < 6 ∧ SvA g s d) := by
  obtain ⟨M, a1, a2⟩ := fill_eq (F := fX3_starvingDirections_L4 N w) (n := 6) (P := SvA g s) (by omega) (fun f m => by rw [fX3_starvingDirections_L4, if_pos (by decide)]) (fun i f m hi => by
    obtain ⟨b, b1, b2⟩ := X3_canStarve_eq N hi hC (hS i hi)
    refine ⟨b, b2, ?_⟩
    rw [fX3_starvingDirections_L4, if_neg (le6 hi), b1, Option.bind_some]
    cases b
    · rw [if_pos b2i_f, if_neg (by decide), nI_1, Int32.or_zero]
    · rw [if_neg b2i_t, if_pos rfl, nI_1]) (fuel := N) (by omega)
  exact ⟨M, by unfold fX3_starvingDirections; rw [a1]; rfl, a2⟩
end CP
