/-! which rules the machine can follow while d waits, in the graph's words -/
section SI
variable {g : Gr} {d : Nat}
theorem fre_iff {p : Nat} : ∀ b, fre g d p b = true ↔ ∀ r, r < b → ¬ sur g d p r = true := by
  intro b
  induction b with
  | zero => exact ⟨fun _ r hr => absurd hr (by omega), fun _ => rfl⟩
  | succ b ih =>
    have e : fre g d p (b + 1) = (fre g d p b && !sur g d p b) := rfl
    rw [e, Bool.and_eq_true, ih]
    constructor
    · rintro ⟨h1, h2⟩ r hr
      by_cases z : r = b
      · rw [z]; intro c; rw [c] at h2; cases h2
      · exact h1 r (by omega)
    · intro h
      refine ⟨fun r hr => h r (by omega), ?_⟩
      cases hs : sur g d p b
      · rfl
      · exact absurd hs (h b (by omega))
theorem ahd_iff {p : Nat} : ∀ b q, bt (ahd g p b) q = true ↔ ∃ j, j < b ∧ bt (gA g p j) q = true := by
  intro b
  induction b with
  | zero =>
    intro q
    have e : ahd g p 0 = 0 := rfl
    rw [e, bt_0]
    exact ⟨fun z => (by cases z), fun ⟨j, hj, _⟩ => absurd hj (by omega)⟩
  | succ b ih =>
    intro q
    have e : ahd g p (b + 1) = ahd g p b ||| gA g p b := rfl
    rw [e, bt_or, Bool.or_eq_true, ih]
    constructor
    · rintro (⟨j, h1, h2⟩ | z)
      · exact ⟨j, by omega, h2⟩
      · exact ⟨b, by omega, z⟩
    · rintro ⟨j, h1, h2⟩
      by_cases z : j = b
      · rw [z] at h2; exact Or.inr h2
      · exact Or.inl ⟨j, by omega, h2⟩
theorem sur_iff {p r : Nat} : sur g d p r = true ↔ (gA g p r = 0 ∨ bt (gA g p r) d = true) := by
  unfold sur
  rw [Bool.or_eq_true, decide_eq_true_iff]
theorem sur_Hd {p r : Nat} {w : Nat → Int32} (hd : d < 6) (hw : ¬ w d = -1) (h : sur g d p r = true) : Hd g w p r := by
  rcases sur_iff.mp h with z | z
  · exact Or.inl z
  · exact Or.inr ⟨d, hd, z, hw⟩
/-- the rule that is followed is one that can be followed -/
theorem edge_of {w : Nat → Int32} (hd : d < 6) (hw : ¬ w d = -1) {s r : Nat} (hr : r < gR g s) (h : Hd g w s r) (hno : ∀ j, j < r → ¬ Hd g w s j) : E0 g d s (gO g s r) := by
  refine ⟨r, hr, ?_, rfl⟩
  unfold fol
  rw [Bool.and_eq_true]
  refine ⟨(fre_iff r).mpr (fun j hj c => hno j hj (sur_Hd hd hw c)), ?_⟩
  rw [Bool.or_eq_true]
  by_cases hs : sur g d s r = true
  · exact Or.inl hs
  refine Or.inr ?_
  rw [decide_eq_true_iff]
  rcases h with z | ⟨e, e1, e2, e3⟩
  · exact absurd (sur_iff.mpr (Or.inl z)) hs
  · intro c
    rw [and0_iff] at c
    refine c ⟨e, e2, ?_⟩
    rw [bt_not _ (show e < 32 by omega)]
    cases ha : bt (ahd g s r) e
    · rfl
    · obtain ⟨j, j1, j2⟩ := (ahd_iff r e).mp ha
      exact absurd (Or.inr ⟨e, e1, j2, e3⟩) (hno j j1)
theorem some_holds {w : Nat → Int32} (hd : d < 6) (hw : ¬ w d = -1) {s : Nat} (h : ¬ S0 g d s) : ∃ r, r < gR g s ∧ Hd g w s r := by
  have h1 : fre g d s (gR g s) = false := by
    cases hf : fre g d s (gR g s)
    · rfl
    · exact absurd hf h
  obtain ⟨r, r1, -, r3⟩ := fre_first _ h1
  exact ⟨r, r1, sur_Hd hd hw r3⟩
theorem Sv_step {q r : Nat} (hg : ¬ GN g d q) (he : E0 g d q r) (hr : r < gN g) (h : Sv g d r) : Sv g d q := by
  obtain ⟨h1, x, ⟨k, h2⟩, h3⟩ := h
  exact ⟨hg, x, ⟨k + 1, r, hr, he, h1, h2⟩, h3⟩
theorem nSv_S0 {q : Nat} (hg : ¬ GN g d q) (h : ¬ Sv g d q) : ¬ S0 g d q := fun z => h ⟨hg, q, ⟨0, rfl⟩, Or.inl z⟩
theorem E0_lt {v1 : SX2} (hP : PG v1 g) {p q : Nat} (hp : p < gN g) (h : E0 g d p q) : q < gN g := edg_lt hP hp h
theorem cst_of_hlp {v1 : SX2} (hP : PG v1 g) (c : Nat → Nat → Nat) : ∀ k p, p < gN g → Hlp (gN g) (E0 g d) (S0 g d) (GN g d) k p → ∃ k' L, Cst (gN g) (E0 g d) (GN g d) c k' p L := by
  intro k
  induction k with
  | zero => intro p hp h; exact ⟨0, 0, h, rfl⟩
  | succ k ih =>
    intro p hp h
    rcases h with h | ⟨h1, h2⟩
    · exact ih p hp h
    · by_cases hg : GN g d p
      · exact ⟨0, 0, hg, rfl⟩
      · obtain ⟨q, hq⟩ := edg_ex h1
        have hqn := E0_lt hP hp hq
        obtain ⟨k', L, hc⟩ := ih q hqn (h2 q hqn hq)
        exact ⟨k' + 1, c p q + L, hg, q, hqn, hq, L, hc, rfl⟩
theorem nSv_cst {v1 : SX2} (hP : PG v1 g) (c : Nat → Nat → Nat) {s : Nat} (hs : s < gN g) (h : ¬ Sv g d s) : ∃ k L, Cst (gN g) (E0 g d) (GN g d) c k s L := by
  rcases helped_or (E := E0 g d) (st := S0 g d) (gn := GN g d) hs with ⟨k, hk⟩ | z
  · exact cst_of_hlp hP c k s hs hk
  · exact absurd z h
theorem sh_ex {n : Nat} {E : Nat → Nat → Prop} {gn : Nat → Prop} {c : Nat → Nat → Nat} {p : Nat} : ∀ (a : Nat), (∃ k, Cst n E gn c k p a) → ∃ L, L ≤ a ∧ IsSh n E gn c p L := by
  intro a
  induction a using Nat.strongRecOn with
  | ind a ih =>
    intro h
    by_cases hb : ∃ b, b < a ∧ ∃ k, Cst n E gn c k p b
    · obtain ⟨b, b1, b2⟩ := hb
      obtain ⟨L, l1, l2⟩ := ih b b1 b2
      exact ⟨L, by omega, l2⟩
    · exact ⟨a, Nat.le_refl _, h, fun k L hc => Nat.le_of_not_lt (fun z => hb ⟨L, z, k, hc⟩)⟩
end SI
/-- what a way to a green phase costs from q, a more from p -/
def Ext (g : Gr) (ho : Nat → Nat) (ct d p q a : Nat) : Prop := ∀ k L, Cst (gN g) (E0 g d) (GN g d) (cc g ho ct) k q L → ∃ k', Cst (gN g) (E0 g d) (GN g d) (cc g ho ct) k' p (a + L)
theorem Ext.step {g : Gr} {ho : Nat → Nat} {ct d p q r a : Nat} (h : Ext g ho ct d p q a) (hg : ¬ GN g d q) (he : E0 g d q r) (hr : r < gN g) : Ext g ho ct d p r (a + cc g ho ct q r) := by
  intro k L hc
  obtain ⟨k', h2⟩ := h (k + 1) (cc g ho ct q r + L) ⟨hg, r, hr, he, L, hc, rfl⟩
  exact ⟨k', by rw [Nat.add_assoc]; exact h2⟩
theorem cc_cb (g : Gr) (ho : Nat → Nat) (ct p q : Nat) : cc g ho ct p q = ho p + cb g ct p q := rfl
/-- the machine m, t ticks behind a start in p: d has waited all the time -/
def SIm (g : Gr) (ho : Nat → Nat) (ct d p : Nat) (m : SX1) (t s l f : Nat) : Prop :=
  Now m g s l f ∧ ((l = 0 ∧ ∃ a h, m.2.2.2.2.2.2.2.1 = nI h ∧ Ext g ho ct d p s a ∧ a + h ≤ t ∧ (1 ≤ h → ¬ GN g d s) ∧ (¬ Sv g d p → ¬ Sv g d s ∧ a + h = t ∧ h < ho s)) ∨ (1 ≤ l ∧ ¬ GN g d f ∧ ∃ a, Ext g ho ct d p s a ∧ a ≤ t + l ∧ (¬ Sv g d p → ¬ Sv g d s ∧ a = t + l)))
section SJ
variable {g : Gr} {ho : Nat → Nat} {ct d p : Nat}
theorem gn_bit {m : SX1} (hP : PG m.1 g) {t s l f : Nat} (h : SIm g ho ct d p m t s l f) : bt (gnow m) d = true ↔ (l = 0 ∧ GN g d s) := by
  obtain ⟨hN, h2⟩ := h
  rw [gnow_gnw hP hN]
  unfold gnw
  rcases h2 with ⟨hl, -⟩ | ⟨hl, hf, -⟩
  · rw [if_pos hl]
    exact ⟨fun z => ⟨hl, z⟩, fun z => z.2⟩
  · rw [if_neg (by omega), bt_and, Bool.and_eq_true]
    exact ⟨fun z => absurd z.2 hf, fun z => absurd z.1 (by omega)⟩
theorem sim_step {m m' : SX1} (hI : PI m.1 g ho ct) (hd : d < 6) {t s l f s' l' f' : Nat} (ht : t < 60) (h : SIm g ho ct d p m t s l f) (hng : ¬ bt (gnow m) d = true) {B : Nat} (hW : WB m.2.1 B) (hB : B < 2 ^ 29) (hw : ¬ m.2.1 d = -1) (T : TK m m' g ho ct s l f s' l' f') : SIm g ho ct d p m' (t + 1) s' l' f' := by
  obtain ⟨hP, hH, hBt⟩ := hI
  have h8 := hP.1
  have hb := gn_bit hP h
  obtain ⟨hN, h2⟩ := h
  obtain ⟨T1, T2, T3, T4, T5⟩ := T
  have hw' : ¬ m'.2.1 d = -1 := by
    rw [(T3 d hd).1]
    unfold pwW
    rw [if_neg hw, if_neg hng]
    rcases hW d hd with z | ⟨k, k1, k2⟩
    · exact absurd z hw
    · rw [k2, nI_1]
      intro c
      exact nI_pos (show k + 1 < 2 ^ 31 by omega) (by rw [c]; decide)
  have hs := hN.1
  refine ⟨T4, ?_⟩
  rcases h2 with ⟨hl, a, h, e1, e2, e3, e4, e5⟩ | ⟨hl, hf, a, e2, e3, e5⟩
  · have hg : ¬ GN g d s := fun z => hng (hb.mpr ⟨hl, z⟩)
    obtain ⟨ho1, ho2, ho3⟩ := hH.1 s hs
    have hlt : m.2.2.2.2.2.2.2.1 + 1 < nI (ho s) ↔ h + 1 < ho s := by
      rw [e1, nI_1, nI_ltI (by omega) (by omega)]
    rcases T5 with ⟨z, -⟩ | ⟨z, -⟩ | ⟨-, rfl, rfl, c1, c2, c3⟩ | ⟨-, c1, r, r1, r2, r3, rfl, rfl, rfl, c2, c3⟩
    · omega
    · omega
    · refine Or.inl ⟨rfl, a, h + 1, by rw [c1, e1, nI_1], e2, by omega, fun _ => hg, fun hS => ?_⟩
      obtain ⟨f1, f2, f3⟩ := e5 hS
      refine ⟨f1, by omega, ?_⟩
      rcases c3 with c3 | ⟨-, c3⟩
      · exact hlt.mp c3
      · obtain ⟨r, r1, r2⟩ := some_holds hd hw' (nSv_S0 hg f1)
        exact absurd r2 (c3 r r1)
    · have hE := edge_of hd hw' r1 r2 r3
      have hq : gO g f' r < gN g := E0_lt hP hs hE
      have hst : ¬ h + 1 < ho f' := fun z => c1 (hlt.mpr z)
      have hX := e2.step hg hE hq
      rw [cc_cb] at hX
      obtain ⟨ho4, ho5, ho6⟩ := hH.1 _ hq
      by_cases z : cb g ct f' (gO g f' r) = 0
      · rw [z] at hX ⊢
        refine Or.inl ⟨rfl, a + ho f', 0, (c2 z).1, hX, by omega, fun c => absurd c (by omega), fun hS => ?_⟩
        obtain ⟨f1, f2, f3⟩ := e5 hS
        exact ⟨fun c => f1 (Sv_step hg hE hq c), by omega, by omega⟩
      · refine Or.inr ⟨by omega, hg, a + (ho f' + cb g ct f' (gO g f' r)), hX, by omega, fun hS => ?_⟩
        obtain ⟨f1, f2, f3⟩ := e5 hS
        exact ⟨fun c => f1 (Sv_step hg hE hq c), by omega⟩
  · rcases T5 with ⟨z, rfl, rfl, rfl, -⟩ | ⟨rfl, rfl, rfl, c1, -⟩ | ⟨z, -⟩ | ⟨z, -⟩
    · refine Or.inr ⟨by omega, hf, a, e2, by omega, fun hS => ?_⟩
      obtain ⟨f1, f2⟩ := e5 hS
      exact ⟨f1, by omega⟩
    · obtain ⟨ho4, ho5, ho6⟩ := hH.1 _ hs
      refine Or.inl ⟨rfl, a, 0, c1, e2, by omega, fun c => absurd c (by omega), fun hS => ?_⟩
      obtain ⟨f1, f2⟩ := e5 hS
      exact ⟨f1, by omega, by omega⟩
    · omega
    · omega
theorem sim_green {m : SX1} (hP : PG m.1 g) {t s l f : Nat} (h : SIm g ho ct d p m t s l f) (hg : bt (gnow m) d = true) : ∃ a k, Cst (gN g) (E0 g d) (GN g d) (cc g ho ct) k p a ∧ a ≤ t ∧ (¬ Sv g d p → a = t) := by
  obtain ⟨z1, z2⟩ := (gn_bit hP h).mp hg
  obtain ⟨hN, h2⟩ := h
  rcases h2 with ⟨hl, a, h, e1, e2, e3, e4, e5⟩ | ⟨hl, -⟩
  · obtain ⟨k, hk⟩ := e2 0 0 ⟨z2, rfl⟩
    refine ⟨a, k, hk, by omega, fun hS => ?_⟩
    obtain ⟨-, f2, -⟩ := e5 hS
    by_cases c : 1 ≤ h
    · exact absurd z2 (e4 c)
    · omega
  · omega
theorem sim_long {m : SX1} (hP : PG m.1 g) {t s l f y : Nat} (h : SIm g ho ct d p m t s l f) (hg : ¬ bt (gnow m) d = true) (hS : ¬ Sv g d p) (hy : IsLg (gN g) (E0 g d) (GN g d) (cc g ho ct) p y) : t ≤ y := by
  have hb := gn_bit hP h
  obtain ⟨hN, h2⟩ := h
  have hs := hN.1
  rcases h2 with ⟨hl, a, h, e1, e2, e3, e4, e5⟩ | ⟨hl, hf, a, e2, e3, e5⟩
  · obtain ⟨f1, f2, f3⟩ := e5 hS
    have hng : ¬ GN g d s := fun z => hg (hb.mpr ⟨hl, z⟩)
    obtain ⟨k, L, hc⟩ := nSv_cst hP (cc g ho ct) hs f1
    obtain ⟨k', hc'⟩ := e2 k L hc
    have := hy.2 k' _ hc'
    cases k with
    | zero => exact absurd hc.1 hng
    | succ k =>
      obtain ⟨-, q, -, -, B, -, hL⟩ := hc
      rw [cc_cb] at hL
      omega
  · obtain ⟨f1, f2⟩ := e5 hS
    obtain ⟨k, L, hc⟩ := nSv_cst hP (cc g ho ct) hs f1
    obtain ⟨k', hc'⟩ := e2 k L hc
    have := hy.2 k' _ hc'
    omega
end SJ
