/-! the digest alike: its loops -/
theorem lg_same {g : Gr} {ho : Nat → Nat} {ct d p : Nat} {x y : Int32} (hx : Sv g d p → x = -1) (hx2 : ¬ Sv g d p → ∃ k, k ≤ 112 ∧ x = nI k ∧ IsLg (gN g) (E0 g d) (GN g d) (cc g ho ct) p k) (hy : Sv g d p → y = -1) (hy2 : ¬ Sv g d p → ∃ k, k ≤ 1000 ∧ y = nI k ∧ IsLg (gN g) (E0 g d) (GN g d) (cc g ho ct) p k) : x = y := by
  by_cases hs : Sv g d p
  · rw [hx hs, hy hs]
  · obtain ⟨k, -, k2, k3⟩ := hx2 hs
    obtain ⟨k', -, k2', k3'⟩ := hy2 hs
    rw [k2, k2', IsLg.uniq k3 k3']
theorem nlt (a : Nat) {b : Nat} (h : b ≤ a) (ha : a < 2 ^ 31) {c : Int32} (hc : c = nI a) : ¬ c < nI b := by
  subst hc
  rw [nI_ltI (by omega) (by omega)]
  omega
section DC
variable {m : SX1} {h : SX0} {tx : SX6} {z S bu o : Nat → Int32} {kk ty om sp w : Int32} {g : Gr} {ho : Nat → Nat} {ct s : Nat}
theorem dg_counts (X : RX m z g) (hk : h.2.2 = kk) {N : Nat} (hN : 11 ≤ N) (W B : Nat → Int32) (R : ∀ pf, RG (m, h, tx, pf) z g ho ct s) : ∀ (k i f7 f8 : Nat) (pf : SX3) (a : Int64), i + k = 12 → k < f7 → k < f8 → WAll pf g ho ct s → ∃ pf' b, fX7_digest_L10 N f7 (m, h, tx, pf) a (nI i) = some (.inr ((m, h, tx, pf'), b)) ∧ WAll pf' g ho ct s ∧ fX8_digest_L14 N f8 (DV z S kk bu ty o om sp w W B a) (nI i) = some (DV z S kk bu ty o om sp w W B b) := by
  intro k
  induction k with
  | zero =>
    intro i f7 f8 pf a e1 e2 e3 hw
    obtain ⟨f, rfl⟩ : ∃ f, f7 = f + 1 := ⟨f7 - 1, by omega⟩
    obtain ⟨f', rfl⟩ : ∃ f', f8 = f' + 1 := ⟨f8 - 1, by omega⟩
    have hi : i = 12 := by omega
    subst hi
    rw [fX7_digest_L10, if_pos (by decide), fX8_digest_L14, if_pos (by decide)]
    exact ⟨pf, a, rfl, hw, rfl⟩
  | succ k ih =>
    intro i f7 f8 pf a e1 e2 e3 hw
    obtain ⟨f, rfl⟩ : ∃ f, f7 = f + 1 := ⟨f7 - 1, by omega⟩
    obtain ⟨f', rfl⟩ : ∃ f', f8 = f' + 1 := ⟨f8 - 1, by omega⟩
    obtain ⟨x, pf1, q1, q2, q3⟩ := count_val (S := S) (bu := bu) (ty := ty) (o := o) (om := om) (sp := sp) (w := w) (W := W) (B := B) (hs := a) (R pf) X hk hw hN (show i ≤ 11 by omega)
    have hlt : ¬ (11 : Int32) < nI i := fun q => by
      have q2 : nI 11 < nI i := q
      rw [nI_ltI (by omega) (by omega)] at q2; omega
    obtain ⟨pf', b, r1, r2, r3⟩ := ih (i + 1) f f' pf1 (31 * a + x.toInt64) (by omega) (by omega) (by omega) q2
    refine ⟨pf', b, ?_, r2, ?_⟩
    · rw [fX7_digest_L10, if_neg hlt, q1, Option.bind_some, onS_r, nI_1]
      exact r1
    · rw [fX8_digest_L14, if_neg hlt, q3, Option.bind_some, nI_1]
      exact r3
theorem dg_dirprops (X : RX m z g) {N : Nat} (hN : 11 ≤ N) (W B : Nat → Int32) {pf : SX3} (R : RG (m, h, tx, pf) z g ho ct s) {d : Nat} (hd : d < 6) : ∀ (k i f7 f8 : Nat) (a : Int64), i + k = 6 → k < f7 → k < f8 → ∃ b, fX7_mixDirection_L6 N (m, h, tx, pf) (nI d) f7 a (nI i) = some (.inr b) ∧ fX8_digest_L57 N (nI d) f8 (DV z S kk bu ty o om sp w W B a) (nI i) = some (DV z S kk bu ty o om sp w W B b) := by
  intro k
  induction k with
  | zero =>
    intro i f7 f8 a e1 e2 e3
    obtain ⟨f, rfl⟩ : ∃ f, f7 = f + 1 := ⟨f7 - 1, by omega⟩
    obtain ⟨f', rfl⟩ : ∃ f', f8 = f' + 1 := ⟨f8 - 1, by omega⟩
    have hi : i = 6 := by omega
    subst hi
    rw [fX7_mixDirection_L6, if_pos (by decide), fX8_digest_L57, if_pos (by decide)]
    exact ⟨a, rfl, rfl⟩
  | succ k ih =>
    intro i f7 f8 a e1 e2 e3
    obtain ⟨f, rfl⟩ : ∃ f, f7 = f + 1 := ⟨f7 - 1, by omega⟩
    obtain ⟨f', rfl⟩ : ∃ f', f8 = f' + 1 := ⟨f8 - 1, by omega⟩
    obtain ⟨x, q1, q3⟩ := dir_val (S := S) (kk := kk) (bu := bu) (ty := ty) (o := o) (om := om) (sp := sp) (w := w) (W := W) (B := B) (hs := a) R X hN hd (show i ≤ 5 by omega)
    have hlt : ¬ (5 : Int32) < nI i := fun q => by
      have q2 : nI 5 < nI i := q
      rw [nI_ltI (by omega) (by omega)] at q2; omega
    obtain ⟨b, r1, r3⟩ := ih (i + 1) f f' (31 * a + x.toInt64) (by omega) (by omega) (by omega)
    refine ⟨b, ?_, ?_⟩
    · rw [fX7_mixDirection_L6, if_neg hlt, q1, Option.bind_some, onS_r, nI_1]
      exact r1
    · rw [fX8_digest_L57, if_neg hlt, q3, Option.bind_some, nI_1]
      exact r3
theorem dg_dirs (X : RX m z g) {N : Nat} (hN : 11 ≤ N) (W B : Nat → Int32) {pf : SX3} (R : RG (m, h, tx, pf) z g ho ct s) (hw : WAll pf g ho ct s) : ∀ (k i f7 f8 : Nat) (a : Int64), i + k = 6 → k < f7 → k < f8 → ∃ b, fX7_digest_L51 N (m, h, tx, pf) f7 a (nI i) = some (.inr b) ∧ fX8_digest_L49 N f8 (DV z S kk bu ty o om sp w W B a) (nI i) = some (DV z S kk bu ty o om sp w W B b) := by
  intro k
  induction k with
  | zero =>
    intro i f7 f8 a e1 e2 e3
    obtain ⟨f, rfl⟩ : ∃ f, f7 = f + 1 := ⟨f7 - 1, by omega⟩
    obtain ⟨f', rfl⟩ : ∃ f', f8 = f' + 1 := ⟨f8 - 1, by omega⟩
    have hi : i = 6 := by omega
    subst hi
    rw [fX7_digest_L51, if_pos (by decide), fX8_digest_L49, if_pos (by decide)]
    exact ⟨a, rfl, rfl⟩
  | succ k ih =>
    intro i f7 f8 a e1 e2 e3
    obtain ⟨f, rfl⟩ : ∃ f, f7 = f + 1 := ⟨f7 - 1, by omega⟩
    obtain ⟨f', rfl⟩ : ∃ f', f8 = f' + 1 := ⟨f8 - 1, by omega⟩
    have hi : i < 6 := by omega
    obtain ⟨b0, p1, p2⟩ := dg_dirprops (S := S) (kk := kk) (bu := bu) (ty := ty) (o := o) (om := om) (sp := sp) (w := w) X hN W B R hi 6 0 N N a (by omega) (by omega) (by omega)
    have p1' : fX7_mixDirection_L6 N (m, h, tx, pf) (nI i) N a 0 = _ := p1
    have p2' : fX8_digest_L57 N (nI i) N (DV z S kk bu ty o om sp w W B a) 0 = _ := p2
    obtain ⟨M, m1, m2⟩ := X3_roundPhases_eq (w := pf) R.1 (N := N) (by omega) hi hw.2.1 (hw.2.2 i hi).1
    obtain ⟨M', m1', m2'⟩ := X8_roundsOf_eq (v := DV z S kk bu ty o om sp w W B b0) R.2.2.1 hN R.2.2.2.2.2.2.1 (show i < 32 by omega)
    have hM : M' = M := bt_ext (fun k _ => b2i_eq (m2' k) (m2 k))
    subst hM
    obtain ⟨b, r1, r3⟩ := ih (i + 1) f f' (31 * b0 + M'.toInt64) (by omega) (by omega) (by omega)
    have m1x : fX3_roundPhases N pf m.1 (nI i) = some M' := m1
    refine ⟨b, ?_, ?_⟩
    · rw [fX7_digest_L51, if_neg (le6 hi)]
      unfold fX7_mixDirection
      rw [p1', Option.bind_some, onS_r]
      dsimp only
      rw [m1x, Option.bind_some]
      rw [nI_1]
      exact r1
    · rw [fX8_digest_L49, if_neg (le6 hi), p2', Option.bind_some, m1', Option.bind_some, nI_1]
      exact r3
theorem dg_phaseprops (X : RX m z g) {N : Nat} (hN : 11 ≤ N) (W B : Nat → Int32) (R : ∀ pf, RG (m, h, tx, pf) z g ho ct s) {p : Nat} (hp : p < gN g) : ∀ (k i f7 f8 : Nat) (pf : SX3) (a : Int64), i + k = 6 → k < f7 → k < f8 → WAll pf g ho ct s → ∃ pf' b, fX7_mixPhase_L6 N (nI p) f7 (m, h, tx, pf) a (nI i) = some (.inr ((m, h, tx, pf'), b)) ∧ WAll pf' g ho ct s ∧ fX8_mixPhase_L2 N (nI p) f8 (DV z S kk bu ty o om sp w W B a) (nI i) = some (DV z S kk bu ty o om sp w W B b) := by
  intro k
  induction k with
  | zero =>
    intro i f7 f8 pf a e1 e2 e3 hw
    obtain ⟨f, rfl⟩ : ∃ f, f7 = f + 1 := ⟨f7 - 1, by omega⟩
    obtain ⟨f', rfl⟩ : ∃ f', f8 = f' + 1 := ⟨f8 - 1, by omega⟩
    have hi : i = 6 := by omega
    subst hi
    rw [fX7_mixPhase_L6, if_pos (by decide), fX8_mixPhase_L2, if_pos (by decide)]
    exact ⟨pf, a, rfl, hw, rfl⟩
  | succ k ih =>
    intro i f7 f8 pf a e1 e2 e3 hw
    obtain ⟨f, rfl⟩ : ∃ f, f7 = f + 1 := ⟨f7 - 1, by omega⟩
    obtain ⟨f', rfl⟩ : ∃ f', f8 = f' + 1 := ⟨f8 - 1, by omega⟩
    obtain ⟨x, pf1, q1, q2, q3⟩ := phase_val (S := S) (kk := kk) (bu := bu) (ty := ty) (o := o) (om := om) (sp := sp) (w := w) (W := W) (B := B) (hs := a) (R pf) X hw hN hp (show i ≤ 5 by omega)
    have hlt : ¬ (5 : Int32) < nI i := fun q => by
      have q2 : nI 5 < nI i := q
      rw [nI_ltI (by omega) (by omega)] at q2; omega
    obtain ⟨pf', b, r1, r2, r3⟩ := ih (i + 1) f f' pf1 (31 * a + x.toInt64) (by omega) (by omega) (by omega) q2
    refine ⟨pf', b, ?_, r2, ?_⟩
    · rw [fX7_mixPhase_L6, if_neg hlt, q1, Option.bind_some, onS_r, nI_1]
      exact r1
    · rw [fX8_mixPhase_L2, if_neg hlt, q3, Option.bind_some, nI_1]
      exact r3
theorem dg_ruleprops (X : RX m z g) {N : Nat} (hN : 11 ≤ N) (W B : Nat → Int32) {pf : SX3} (R : RG (m, h, tx, pf) z g ho ct s) {p r : Nat} (hp : p < gN g) (hr : r < gR g p) (rc : Int32) : ∀ (k i f7 f8 : Nat) (a : Int64), i + k = 3 → k < f7 → k < f8 → ∃ b, fX7_mixPhase_L62 N (m, h, tx, pf) (nI p) rc (nI r) f7 a (nI i) = some (.inr b) ∧ fX8_mixPhase_L37 N (nI p) (nI r) f8 (DV z S kk bu ty o om sp w W B a) (nI i) = some (DV z S kk bu ty o om sp w W B b) := by
  intro k
  induction k with
  | zero =>
    intro i f7 f8 a e1 e2 e3
    obtain ⟨f, rfl⟩ : ∃ f, f7 = f + 1 := ⟨f7 - 1, by omega⟩
    obtain ⟨f', rfl⟩ : ∃ f', f8 = f' + 1 := ⟨f8 - 1, by omega⟩
    have hi : i = 3 := by omega
    subst hi
    rw [fX7_mixPhase_L62, if_pos (by decide), fX8_mixPhase_L37, if_pos (by decide)]
    exact ⟨a, rfl, rfl⟩
  | succ k ih =>
    intro i f7 f8 a e1 e2 e3
    obtain ⟨f, rfl⟩ : ∃ f, f7 = f + 1 := ⟨f7 - 1, by omega⟩
    obtain ⟨f', rfl⟩ : ∃ f', f8 = f' + 1 := ⟨f8 - 1, by omega⟩
    obtain ⟨x, q1, q3⟩ := rule_val (S := S) (kk := kk) (bu := bu) (ty := ty) (o := o) (om := om) (sp := sp) (w := w) (W := W) (B := B) (hs := a) R X hN hp hr (show i ≤ 2 by omega)
    have hlt : ¬ (2 : Int32) < nI i := fun q => by
      have q2 : nI 2 < nI i := q
      rw [nI_ltI (by omega) (by omega)] at q2; omega
    obtain ⟨b, r1, r3⟩ := ih (i + 1) f f' (31 * a + x.toInt64) (by omega) (by omega) (by omega)
    refine ⟨b, ?_, ?_⟩
    · rw [fX7_mixPhase_L62, if_neg hlt, q1, Option.bind_some, onS_r, nI_1]
      exact r1
    · rw [fX8_mixPhase_L37, if_neg hlt, q3, Option.bind_some, nI_1]
      exact r3
theorem dg_rules (X : RX m z g) {N : Nat} (hN : 11 ≤ N) (W B : Nat → Int32) {pf : SX3} (R : RG (m, h, tx, pf) z g ho ct s) {p : Nat} (hp : p < gN g) : ∀ (k i f7 f8 : Nat) (a : Int64), i + k = gR g p → k < f7 → k < f8 → ∃ b, fX7_mixPhase_L52 N (m, h, tx, pf) (nI p) (nI (gR g p)) f7 a (nI i) = some (.inr b) ∧ fX8_mixPhase_L26 N (nI p) f8 (DV z S kk bu ty o om sp w W B a) (nI i) = some (DV z S kk bu ty o om sp w W B b) := by
  have h4 := R.2.2.2.2.1 p hp
  intro k
  induction k with
  | zero =>
    intro i f7 f8 a e1 e2 e3
    obtain ⟨f, rfl⟩ : ∃ f, f7 = f + 1 := ⟨f7 - 1, by omega⟩
    obtain ⟨f', rfl⟩ : ∃ f', f8 = f' + 1 := ⟨f8 - 1, by omega⟩
    have hi : i = gR g p := by omega
    subst hi
    rw [fX7_mixPhase_L52, if_pos (Int32.le_refl _), fX8_mixPhase_L26, X8_rules_eq (v := DV z S kk bu ty o om sp w W B a) R.2.2.1 N hp, Option.bind_some, if_pos (Int32.le_refl _)]
    exact ⟨a, rfl, rfl⟩
  | succ k ih =>
    intro i f7 f8 a e1 e2 e3
    obtain ⟨f, rfl⟩ : ∃ f, f7 = f + 1 := ⟨f7 - 1, by omega⟩
    obtain ⟨f', rfl⟩ : ∃ f', f8 = f' + 1 := ⟨f8 - 1, by omega⟩
    have hi : i < gR g p := by omega
    have hle : ¬ nI (gR g p) ≤ nI i := fun q => by rw [nI_leI (by omega) (by omega)] at q; omega
    obtain ⟨b0, p1, p2⟩ := dg_ruleprops (S := S) (kk := kk) (bu := bu) (ty := ty) (o := o) (om := om) (sp := sp) (w := w) X hN W B R hp hi (nI (gR g p)) 3 0 N N a (by omega) (by omega) (by omega)
    have p1' : fX7_mixPhase_L62 N (m, h, tx, pf) (nI p) (nI (gR g p)) (nI i) N a 0 = _ := p1
    have p2' : fX8_mixPhase_L37 N (nI p) (nI i) N (DV z S kk bu ty o om sp w W B a) 0 = _ := p2
    obtain ⟨b, r1, r3⟩ := ih (i + 1) f f' b0 (by omega) (by omega) (by omega)
    refine ⟨b, ?_, ?_⟩
    · rw [fX7_mixPhase_L52, if_neg hle, p1', Option.bind_some, onS_r, nI_1]
      exact r1
    · rw [fX8_mixPhase_L26, X8_rules_eq (v := DV z S kk bu ty o om sp w W B a) R.2.2.1 N hp, Option.bind_some, if_neg hle, p2', Option.bind_some, nI_1]
      exact r3
theorem dg_proofs {N : Nat} (hN : 11 ≤ N) {pf : SX3} (R : RG (m, h, tx, pf) z g ho ct s) (hw : WAll pf g ho ct s) {p : Nat} (hp : p < gN g) : ∀ (k i f7 f8 : Nat) (W B : Nat → Int32) (a : Int64), i + k = 6 → k < f7 → k < f8 → ∃ b W' B', fX7_mixProofs_L6 N (m, h, tx, pf) (nI p) f7 a (nI i) = some b ∧ fX8_mixPhase_L68 N (nI p) f8 (DV z S kk bu ty o om sp w W B a) (nI i) = some (DV z S kk bu ty o om sp w W' B' b) := by
  obtain ⟨hP, hH, hZ, hZH, h4, hC, hA, hat, hs8⟩ := R
  have h8 : gN g ≤ 8 := hP.1
  intro k
  induction k with
  | zero =>
    intro i f7 f8 W B a e1 e2 e3
    obtain ⟨f, rfl⟩ : ∃ f, f7 = f + 1 := ⟨f7 - 1, by omega⟩
    obtain ⟨f', rfl⟩ : ∃ f', f8 = f' + 1 := ⟨f8 - 1, by omega⟩
    have hi : i = 6 := by omega
    subst hi
    rw [fX7_mixProofs_L6, if_pos (by decide), fX8_mixPhase_L68, if_pos (by decide)]
    exact ⟨a, W, B, rfl, rfl⟩
  | succ k ih =>
    intro i f7 f8 W B a e1 e2 e3
    obtain ⟨f, rfl⟩ : ∃ f, f7 = f + 1 := ⟨f7 - 1, by omega⟩
    obtain ⟨f', rfl⟩ : ∃ f', f8 = f' + 1 := ⟨f8 - 1, by omega⟩
    have hi : i < 6 := by omega
    obtain ⟨w1, w2, w3⟩ := hw.2.2 i hi
    obtain ⟨b, b1, b2⟩ := X3_starvesFrom_eq (w := pf) h8 N hi hp w2
    obtain ⟨b', b1', b2'⟩ := X8_canStarve_eq (v := DV z S kk bu ty o om sp w W B a) hZ hN (show i < 32 by omega) hp
    have hbb := b2i_eq b2' b2
    subst hbb
    obtain ⟨y, y1, y2, y3⟩ := X3_longestFrom_eq (w := pf) h8 N hi hp w2 w3
    obtain ⟨x, x1, x2, x3⟩ := X3_shortestFrom_eq (w := pf) h8 N hi hp w3
    obtain ⟨r, r1, r2⟩ := X3_remedyAt_eq (w := pf) hP (N := N) (by omega) hi hp (show s < 2 ^ 31 by omega) hw.1 hw.2.1 w1 w2
    have go : ∀ c : Int64, ∃ W' B', ((fX8_longest N (DV z S kk bu ty o om sp w W B c) (nI i) (nI p)).bind fun r26 => (fX8_mix N r26.2 r26.1.toInt64).bind fun r28 => (fX8_shortest N r28 (nI i) (nI p)).bind fun r30 => (fX8_mix N r30.2 r30.1.toInt64).bind fun r32 => (fX8_remedyFor N r32 (nI i) (nI p)).bind fun r34 => (fX8_mix N r34.2 r34.1.toInt64).bind fun r36 => fX8_mixPhase_L68 N (nI p) f' r36 (nI i + 1)) = fX8_mixPhase_L68 N (nI p) f' (DV z S kk bu ty o om sp w W' B' (31 * (31 * (31 * c + y.toInt64) + x.toInt64) + r.toInt64)) (nI (i + 1)) := by
      intro c
      obtain ⟨y', W1, z1, z2, z3⟩ := X8_longest_eq (v := DV z S kk bu ty o om sp w W B c) hZ hZH hN (show i < 32 by omega) hp
      have hy : y' = y := lg_same z2 z3 y2 y3
      subst hy
      obtain ⟨x', W2, u1, u2, u3⟩ := X8_shortest_eq (v := DV z S kk bu ty o om sp w W1 B (31 * c + y'.toInt64)) hZ hZH (N := N) (by omega) (show i < 32 by omega) hp
      have hx : x' = x := by
        rcases (w3 p hp).1 with ⟨L, -, -, l3⟩ | ⟨-, l2⟩
        · rw [x2 L l3, u2 L l3]
        · rw [x3 l2, u3 l2]
      subst hx
      obtain ⟨r', B1, v1, v2⟩ := X8_remedyFor_eq (v := DV z S kk bu ty o om sp w W2 B (31 * (31 * c + y'.toInt64) + x'.toInt64)) hZ hN hA (show i < 32 by omega) hp (h4 p hp)
      have hr := RemS.uniq v2 r2
      subst hr
      refine ⟨W2, B1, ?_⟩
      rw [z1, Option.bind_some]
      show ((fX8_shortest N (DV z S kk bu ty o om sp w W1 B (31 * c + y'.toInt64)) (nI i) (nI p)).bind _) = _
      rw [u1, Option.bind_some]
      show ((fX8_remedyFor N (DV z S kk bu ty o om sp w W2 B (31 * (31 * c + y'.toInt64) + x'.toInt64)) (nI i) (nI p)).bind _) = _
      rw [v1, Option.bind_some, nI_1]
      rfl
    have go7 : ∀ c : Int64, ((fX3_longestFrom N pf (nI i) (nI p)).bind fun r7 => (fX7_mix N c r7.toInt64).bind fun r9 => (fX3_shortestFrom N pf (nI i) (nI p)).bind fun r11 => (fX7_mix N r9 r11.toInt64).bind fun r13 => (fX3_remedyAt N pf m.1 m.2.2.2.2.2.1 (nI i) (nI p)).bind fun r15 => (fX7_mix N r13 r15.toInt64).bind fun r17 => fX7_mixProofs_L6 N (m, h, tx, pf) (nI p) f r17 (nI i + 1)) = fX7_mixProofs_L6 N (m, h, tx, pf) (nI p) f (31 * (31 * (31 * c + y.toInt64) + x.toInt64) + r.toInt64) (nI (i + 1)) := by
      intro c
      have r1' : fX3_remedyAt N pf m.1 m.2.2.2.2.2.1 (nI i) (nI p) = some r := by
        have hat' : m.2.2.2.2.2.1 = nI s := hat
        rw [hat']; exact r1
      rw [y1, Option.bind_some]
      show ((fX3_shortestFrom N pf (nI i) (nI p)).bind _) = _
      rw [x1, Option.bind_some]
      show ((fX3_remedyAt N pf m.1 m.2.2.2.2.2.1 (nI i) (nI p)).bind _) = _
      rw [r1', Option.bind_some, nI_1]
      rfl
    rw [fX7_mixProofs_L6, if_neg (le6 hi), b1, Option.bind_some, fX8_mixPhase_L68, if_neg (le6 hi), b1', Option.bind_some]
    cases b'
    · rw [if_pos b2i_f, if_pos b2i_f]
      obtain ⟨W1, B1, g1⟩ := go (31 * a + 0)
      obtain ⟨b, W', B', k1, k2⟩ := ih (i + 1) f f' W1 B1 _ (by omega) (by omega) (by omega)
      exact ⟨b, W', B', (go7 (31 * a + 0)).trans k1, g1.trans k2⟩
    · rw [if_neg b2i_t, if_neg b2i_t]
      obtain ⟨W1, B1, g1⟩ := go (31 * a + 1)
      obtain ⟨b, W', B', k1, k2⟩ := ih (i + 1) f f' W1 B1 _ (by omega) (by omega) (by omega)
      exact ⟨b, W', B', (go7 (31 * a + 1)).trans k1, g1.trans k2⟩
theorem dg_phases (X : RX m z g) {N : Nat} (hN : 11 ≤ N) (R : ∀ pf, RG (m, h, tx, pf) z g ho ct s) : ∀ (k i f7 f8 : Nat) (pf : SX3) (W B : Nat → Int32) (a : Int64), i + k = gN g → k < f7 → k < f8 → WAll pf g ho ct s → ∃ pf' b W' B', fX7_digest_L72 N f7 (m, h, tx, pf) a (nI i) = some (.inr ((m, h, tx, pf'), b)) ∧ WAll pf' g ho ct s ∧ fX8_digest_L97 N f8 (DV z S kk bu ty o om sp w W B a) (nI i) = some (DV z S kk bu ty o om sp w W' B' b) := by
  have h8 : gN g ≤ 8 := (R ((fun _ => 0), (fun _ => 0), (fun _ => 0), (fun _ => 0), (fun _ => 0), 0)).1.1
  have hph : m.1.2.2.2.2.2.2.1 = nI (gN g) := (R ((fun _ => 0), (fun _ => 0), (fun _ => 0), (fun _ => 0), (fun _ => 0), 0)).1.2.1
  have hz0 : z 0 = nI (gN g) := (R ((fun _ => 0), (fun _ => 0), (fun _ => 0), (fun _ => 0), (fun _ => 0), 0)).2.2.1.2.1
  intro k
  induction k with
  | zero =>
    intro i f7 f8 pf W B a e1 e2 e3 hw
    obtain ⟨f, rfl⟩ : ∃ f, f7 = f + 1 := ⟨f7 - 1, by omega⟩
    obtain ⟨f', rfl⟩ : ∃ f', f8 = f' + 1 := ⟨f8 - 1, by omega⟩
    have hi : i = gN g := by omega
    rw [fX7_digest_L72, fX8_digest_L97, chk0, tn0]
    dsimp only
    rw [hph, if_pos (show nI (gN g) ≤ nI i by rw [hi]; exact Int32.le_refl _), if_pos (show z 0 ≤ nI i by rw [hz0, hi]; exact Int32.le_refl _)]
    exact ⟨pf, a, W, B, rfl, hw, rfl⟩
  | succ k ih =>
    intro i f7 f8 pf W B a e1 e2 e3 hw
    obtain ⟨f, rfl⟩ : ∃ f, f7 = f + 1 := ⟨f7 - 1, by omega⟩
    obtain ⟨f', rfl⟩ : ∃ f', f8 = f' + 1 := ⟨f8 - 1, by omega⟩
    have hi : i < gN g := by omega
    have hle : ¬ nI (gN g) ≤ nI i := fun q => by rw [nI_leI (by omega) (by omega)] at q; omega
    obtain ⟨pf1, b1, p1, p2, p3⟩ := dg_phaseprops (S := S) (kk := kk) (bu := bu) (ty := ty) (o := o) (om := om) (sp := sp) (w := w) X hN W B R hi 6 0 N N pf a (by omega) (by omega) (by omega) hw
    have h4 := (R pf1).2.2.2.2.1 i hi
    obtain ⟨b2, q1, q2⟩ := dg_rules (S := S) (kk := kk) (bu := bu) (ty := ty) (o := o) (om := om) (sp := sp) (w := w) X hN W B (R pf1) hi (gR g i) 0 N N b1 (by omega) (by omega) (by omega)
    obtain ⟨b3, W1, B1, r1, r2⟩ := dg_proofs (S := S) (kk := kk) (bu := bu) (ty := ty) (o := o) (om := om) (sp := sp) (w := w) hN (R pf1) p2 hi 6 0 N N W B b2 (by omega) (by omega) (by omega)
    have p1' : fX7_mixPhase_L6 N (nI i) N (m, h, tx, pf) a 0 = _ := p1
    have p3' : fX8_mixPhase_L2 N (nI i) N (DV z S kk bu ty o om sp w W B a) 0 = _ := p3
    have q1' : fX7_mixPhase_L52 N (m, h, tx, pf1) (nI i) (nI (gR g i)) N b1 0 = _ := q1
    have q2' : fX8_mixPhase_L26 N (nI i) N (DV z S kk bu ty o om sp w W B b1) 0 = _ := q2
    have r1' : fX7_mixProofs_L6 N (m, h, tx, pf1) (nI i) N b2 0 = _ := r1
    have r2' : fX8_mixPhase_L68 N (nI i) N (DV z S kk bu ty o om sp w W B b2) 0 = _ := r2
    obtain ⟨pf', b, W', B', k1, k2, k3⟩ := ih (i + 1) f f' pf1 W1 B1 b3 (by omega) (by omega) (by omega) p2
    have hrc : rowAt 8 m.1.2.2.2.1 (nI i) = nI (gR g i) := plan_rc (R pf1).1 hi
    refine ⟨pf', b, W', B', ?_, k2, ?_⟩
    · rw [fX7_digest_L72]
      dsimp only
      rw [hph, if_neg hle]
      unfold fX7_mixPhase fX7_mixProofs
      rw [p1', Option.bind_some, onS_r]
      dsimp only
      rw [hrc, q1', Option.bind_some, onS_r, Option.bind_some, onS_r]
      dsimp only
      rw [r1', Option.bind_some, Option.bind_some, nI_1]
      exact k1
    · rw [fX8_digest_L97, chk0, tn0]
      dsimp only
      rw [if_neg (show ¬ z 0 ≤ nI i by rw [hz0]; exact hle)]
      unfold fX8_mixPhase
      rw [p3', Option.bind_some, q2', Option.bind_some, r2', Option.bind_some, Option.bind_some, nI_1]
      exact k3
theorem dg_text {N : Nat} {len : Nat} (hl : len ≤ 60) {f : Nat → Int32} {rd : SX4} (hf : ∀ x, x < len → f x = bu x) (W B : Nat → Int32) : ∀ (k i f7 f8 : Nat) (a : Int64), i + k = len → k < f7 → k < f8 → ∃ b, fX6_mixInto_L13 N (f, rd, nI len) f7 a (nI i) = some b ∧ fX8_digest_L149 N f8 (DV z S kk bu (nI len) o om sp w W B a) (nI i) = some (DV z S kk bu (nI len) o om sp w W B b) := by
  intro k
  induction k with
  | zero =>
    intro i f7 f8 a e1 e2 e3
    obtain ⟨g, rfl⟩ : ∃ g, f7 = g + 1 := ⟨f7 - 1, by omega⟩
    obtain ⟨g', rfl⟩ : ∃ g', f8 = g' + 1 := ⟨f8 - 1, by omega⟩
    have hi : i = len := by omega
    subst hi
    rw [fX6_mixInto_L13, if_pos (Int32.le_refl _), fX8_digest_L149, if_pos (Int32.le_refl _)]
    exact ⟨a, rfl, rfl⟩
  | succ k ih =>
    intro i f7 f8 a e1 e2 e3
    obtain ⟨g, rfl⟩ : ∃ g, f7 = g + 1 := ⟨f7 - 1, by omega⟩
    obtain ⟨g', rfl⟩ : ∃ g', f8 = g' + 1 := ⟨f8 - 1, by omega⟩
    have hle : ¬ nI len ≤ nI i := fun q => by rw [nI_leI (by omega) (by omega)] at q; omega
    obtain ⟨b, k1, k2⟩ := ih (i + 1) g g' (31 * a + (bu i).toInt64) (by omega) (by omega) (by omega)
    refine ⟨b, ?_, ?_⟩
    · rw [fX6_mixInto_L13]
      dsimp only
      rw [if_neg hle, rowAt_nI (show i < 60 by omega) (by decide), hf i (by omega), nI_1]
      exact k1
    · rw [fX8_digest_L149]
      dsimp only
      rw [if_neg hle, chk_nI (by omega) (by decide), nI_clamp (by omega), nI_1]
      exact k2
end DC
