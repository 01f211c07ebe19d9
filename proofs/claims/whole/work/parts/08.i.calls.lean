/-! the digest and the questions as calls -/
section QC
variable {m : SX1} {h : SX0} {tx : SX6} {pf : SX3} {t kk : Int32} {z S' : Nat → Int32} {u : U5}
theorem digest_call (S : SR (m, h, tx, pf) (t, z, S', kk, u)) {N : Nat} (hN : 900 ≤ N) : ∃ x γ' ρ', fX7_digest N (m, h, tx, pf) = some (.inr (x, γ')) ∧ fX8_digest N (t, z, S', kk, u) = some (x, ρ') ∧ SR γ' ρ' := by
  obtain ⟨n, M, H, T⟩ := SR.parts S
  obtain ⟨len, l1, l2, l3, l4⟩ := id T
  obtain ⟨o', k', ho', hk', e1, e2, e3, -⟩ := id H
  obtain ⟨f, σ0, ty6⟩ := tx
  obtain ⟨bu, ty, o, om, sp, w, W, B, hs⟩ := u
  have l2' : ty6 = nI len := l2
  have l3' : ty = nI len := l3
  subst l2'
  subst l3'
  have hf : ∀ x, x < len → f x = bu x := fun x hx => (l4 x hx).1
  obtain ⟨ho, ct, s, R0, X⟩ := M.graph (h, (f, σ0, nI len), pf)
  have R : ∀ pf', RG (m, h, (f, σ0, nI len), pf') z (Gz z n) ho ct s := fun _ => R0
  have hs2 : s < 2 ^ 31 := by have := R0.2.2.2.2.2.2.2.2; omega
  obtain ⟨pf1, a1, a2⟩ := studyAll2_eq (v := (m, h, (f, σ0, nI len), pf)) R0.1 R0.2.1 (N := N) (by omega) R0.2.2.2.2.2.2.2.1 hs2
  obtain ⟨pf2, b, b1, b2, b3⟩ := dg_counts (S := S') (kk := kk) (bu := bu) (ty := nI len) (o := o) (om := om) (sp := sp) (w := w) X (e2.trans e3.symm) (N := N) (by omega) W B R 12 0 N N pf1 2803 (by omega) (by omega) (by omega) a2
  have b1' : fX7_digest_L10 N N (m, h, (f, σ0, nI len), pf1) 2803 0 = _ := b1
  have b3' : fX8_digest_L14 N N (DV z S' kk bu (nI len) o om sp w W B 2803) 0 = _ := b3
  have hct : m.1.2.2.2.2.2.2.2 = z 1 := by
    obtain ⟨-, -, -, c, -, c1, c2⟩ := M.1
    rw [c1, c2]
  obtain ⟨c, c1, c2⟩ := dg_dirs (S := S') (kk := kk) (bu := bu) (ty := nI len) (o := o) (om := om) (sp := sp) (w := w) X (N := N) (by omega) W B (R pf2) b2 6 0 N N (31 * b + (z 1).toInt64) (by omega) (by omega) (by omega)
  have c1' : fX7_digest_L51 N (m, h, (f, σ0, nI len), pf2) N (31 * b + (z 1).toInt64) 0 = _ := c1
  have c2' : fX8_digest_L49 N N (DV z S' kk bu (nI len) o om sp w W B (31 * b + (z 1).toInt64)) 0 = _ := c2
  obtain ⟨pf3, d, W1, B1, d1, d2, d3⟩ := dg_phases (S := S') (kk := kk) (bu := bu) (ty := nI len) (o := o) (om := om) (sp := sp) (w := w) X (N := N) (by omega) R (gN (Gz z n)) 0 N N pf2 W B c (by omega) (by have := M.1.1; show n < N; omega) (by have := M.1.1; show n < N; omega) b2
  have d1' : fX7_digest_L72 N N (m, h, (f, σ0, nI len), pf2) c 0 = _ := d1
  have d3' : fX8_digest_L97 N N (DV z S' kk bu (nI len) o om sp w W B c) 0 = _ := d3
  obtain ⟨x, y, pf4, q1, q2⟩ := X7_slowest_eq (v := (m, h, (f, σ0, nI len), pf3)) R0.1 R0.2.1 (N := N) (by omega) R0.2.2.2.2.2.2.2.1 hs2
  obtain ⟨x', W2, y', r1, r2⟩ := X8_slowestOne_eq (v := DV z S' kk bu (nI len) o om sp w W1 B1 d) R0.2.2.1 R0.2.2.2.1 (N := N) (by omega) R0.2.2.2.2.2.2.1
  obtain ⟨hx, -⟩ := Slw.uniq 6 _ _ _ _ r2 q2
  subst hx
  obtain ⟨sh, s1, -, s3, s4⟩ := safeShare_same (γ := (m, h, (f, σ0, nI len), pf4)) (ρ := DV z S' kk bu (nI len) o om sp w W2 B1 (31 * d + x'.toInt64)) (R pf4) (N := N) (by omega)
  obtain ⟨bi, i1, i2⟩ := share_bits (n := n) M.1.1 s4 (N := N) (by omega)
  obtain ⟨fin, f1, f2⟩ := dg_text (S := S') (z := z) (kk := kk) (o := o) (om := om) (sp := sp) (w := w) (N := N) (rd := σ0) l1 hf W2 B1 len 0 N N (31 * (31 * (31 * d + x'.toInt64) + bi) + (nI len).toInt64) (by omega) (by omega) (by omega)
  have f1' : fX6_mixInto_L13 N (f, σ0, nI len) N (31 * (31 * (31 * d + x'.toInt64) + bi) + (nI len).toInt64) 0 = _ := f1
  have f2' : fX8_digest_L149 N N (DV z S' kk bu (nI len) o om sp w W2 B1 (31 * (31 * (31 * d + x'.toInt64) + bi) + (nI len).toInt64)) 0 = _ := f2
  refine ⟨fin, (m, h, (f, σ0, nI len), pf4), DV z S' kk bu (nI len) o om sp w W2 B1 fin, ?_, ?_, SR.mk pf4 0 M H T⟩
  · unfold fX7_digest
    rw [a1, Option.bind_some]
    dsimp only
    rw [b1', Option.bind_some, onS_r]
    dsimp only
    rw [hct]
    show ((fX7_digest_L51 N (m, h, (f, σ0, nI len), pf2) N (31 * b + (z 1).toInt64) 0).bind _) = _
    rw [c1', Option.bind_some, onS_r, d1', Option.bind_some, onS_r]
    dsimp only
    rw [q1, Option.bind_some]
    show ((fX7_safeShare N (m, h, (f, σ0, nI len), pf4)).bind _) = _
    rw [s1, Option.bind_some, i1, Option.bind_some]
    unfold fX6_mixInto
    show ((((fX6_mixInto_L13 N (f, σ0, nI len) N (31 * (31 * (31 * d + x'.toInt64) + bi) + (nI len).toInt64) 0).bind _)).bind _) = _
    rw [f1', Option.bind_some, Option.bind_some]
  · unfold fX8_digest
    show ((fX8_digest_L14 N N (DV z S' kk bu (nI len) o om sp w W B 2803) 0).bind _) = _
    rw [b3', Option.bind_some, chk1, tn1]
    show ((fX8_digest_L49 N N (DV z S' kk bu (nI len) o om sp w W B (31 * b + (z 1).toInt64)) 0).bind _) = _
    rw [c2', Option.bind_some, d3', Option.bind_some, r1, Option.bind_some]
    show ((fX8_share N (DV z S' kk bu (nI len) o om sp w W2 B1 (31 * d + x'.toInt64))).bind _) = _
    have s3' : fX8_share N (DV z S' kk bu (nI len) o om sp w W2 B1 (31 * d + x'.toInt64)) = some sh := s3
    rw [s3', Option.bind_some, i2, Option.bind_some]
    show ((fX8_digest_L149 N N (DV z S' kk bu (nI len) o om sp w W2 B1 (31 * (31 * (31 * d + x'.toInt64) + bi) + (nI len).toInt64)) 0).bind _) = _
    rw [f2', Option.bind_some]
theorem of_QSame {γ : SX7} {ρ : SX8} {E1 E2 : String} {o7 : Option ((String × SX7) ⊕ (Int32 × SX7))} {o8 : Option (Int32 × SX8)} (S : SR γ ρ) (q : QSame γ ρ E1 E2 o7 o8) : CSame [E1, E2] o7 o8 := by
  obtain ⟨x, t, a, b, w, q1, q2⟩ := q
  rcases q2 with ⟨rfl, q2⟩ | ⟨rfl, -, q2⟩ | ⟨rfl, -, q2⟩
  · exact CSame.of q1 rfl q2 S
  · exact CSame.thr 0 rfl q1 rfl q2 S
  · exact CSame.thr 1 rfl q1 rfl q2 S
/-- when both of the exceptions are the same one, the second number never comes -/
theorem of_QSame1 {γ : SX7} {ρ : SX8} {E : String} {o7 : Option ((String × SX7) ⊕ (Int32 × SX7))} {o8 : Option (Int32 × SX8)} (S : SR γ ρ) (q : QSame γ ρ E E o7 o8) (h2 : ∀ x t r, o8 = some (x, ((t : Int32), r)) → ¬ t = 2) : CSame [E] o7 o8 := by
  obtain ⟨x, t, a, b, w, q1, q2⟩ := q
  rcases q2 with ⟨rfl, q2⟩ | ⟨rfl, -, q2⟩ | ⟨rfl, -, q2⟩
  · exact CSame.of q1 rfl q2 S
  · exact CSame.thr 0 rfl q1 rfl q2 S
  · exact absurd rfl (h2 _ _ _ q1)
/-- the class's questions that leave it as it is -/
def CSame0 (Es : List String) (γ : SX7) (o7 : Option (String ⊕ Int32)) (o8 : Option (Int32 × SX8)) : Prop := ∃ x ρ', o8 = some (x, ρ') ∧ SR γ ρ' ∧ ((ρ'.1 = 0 ∧ o7 = some (.inr x)) ∨ ∃ i E, Es[i]? = some E ∧ ρ'.1 = nI (i + 1) ∧ o7 = some (.inl E))
theorem of_QSame0 {γ : SX7} {ρ : SX8} {E1 E2 : String} {o7 : Option (String ⊕ Int32)} {o8 : Option (Int32 × SX8)} (S : SR γ ρ) (q : QSame0 ρ E1 E2 o7 o8) : CSame0 [E1, E2] γ o7 o8 := by
  obtain ⟨x, t, q1, q2⟩ := q
  refine ⟨x, _, q1, S, ?_⟩
  rcases q2 with ⟨rfl, q2⟩ | ⟨rfl, -, q2⟩ | ⟨rfl, -, q2⟩
  · exact Or.inl ⟨rfl, q2⟩
  · exact Or.inr ⟨0, E1, rfl, rfl, q2⟩
  · exact Or.inr ⟨1, E2, rfl, rfl, q2⟩
theorem of_QSame01 {γ : SX7} {ρ : SX8} {E : String} {o7 : Option (String ⊕ Int32)} {o8 : Option (Int32 × SX8)} (S : SR γ ρ) (q : QSame0 ρ E E o7 o8) (h2 : ∀ x t r, o8 = some (x, ((t : Int32), r)) → ¬ t = 2) : CSame0 [E] γ o7 o8 := by
  obtain ⟨x, t, q1, q2⟩ := q
  refine ⟨x, _, q1, S, ?_⟩
  rcases q2 with ⟨rfl, q2⟩ | ⟨rfl, -, q2⟩ | ⟨rfl, -, q2⟩
  · exact Or.inl ⟨rfl, q2⟩
  · exact Or.inr ⟨0, E, rfl, rfl, q2⟩
  · exact absurd rfl (h2 _ _ _ q1)
theorem starves_call (S : SR (m, h, tx, pf) (t, z, S', kk, u)) {N : Nat} (hN : 900 ≤ N) (x1 x2 : Int32) : CSame [IOB, IAE] (fX7_starves N (m, h, tx, pf) x1 x2) (fX8_starves N (t, z, S', kk, u) x1 x2) := by
  obtain ⟨n, M, -⟩ := SR.parts S
  obtain ⟨ho, ct, s, R, X⟩ := M.graph (h, tx, pf)
  exact of_QSame S (starves_same (γ := (m, h, tx, pf)) (ρ := (t, z, S', kk, u)) R (by omega) x1 x2)
theorem waitFor_call (S : SR (m, h, tx, pf) (t, z, S', kk, u)) {N : Nat} (hN : 900 ≤ N) (x1 x2 x3 : Int32) : CSame [IOB, IAE] (fX7_waitFor N (m, h, tx, pf) x1 x2 x3) (fX8_waitFor N (t, z, S', kk, u) x1 x2 x3) := by
  obtain ⟨n, M, -⟩ := SR.parts S
  obtain ⟨ho, ct, s, R, X⟩ := M.graph (h, tx, pf)
  exact of_QSame S (waitFor_same (γ := (m, h, tx, pf)) (ρ := (t, z, S', kk, u)) R (by omega) x1 x2 x3)
theorem remedy_call (S : SR (m, h, tx, pf) (t, z, S', kk, u)) {N : Nat} (hN : 900 ≤ N) (x1 x2 : Int32) : CSame [IOB, IAE] (fX7_remedy N (m, h, tx, pf) x1 x2) (fX8_remedy N (t, z, S', kk, u) x1 x2) := by
  obtain ⟨n, M, -⟩ := SR.parts S
  obtain ⟨ho, ct, s, R, X⟩ := M.graph (h, tx, pf)
  exact of_QSame S (remedy_same (γ := (m, h, tx, pf)) (ρ := (t, z, S', kk, u)) R (by omega) x1 x2)
theorem phase_call (S : SR (m, h, tx, pf) (t, z, S', kk, u)) {N : Nat} (hN : 900 ≤ N) (x1 x2 : Int32) : CSame [IOB, IAE] (fX7_phase N (m, h, tx, pf) x1 x2) (fX8_phase N (t, z, S', kk, u) x1 x2) := by
  obtain ⟨n, M, -⟩ := SR.parts S
  obtain ⟨ho, ct, s, R, X⟩ := M.graph (h, tx, pf)
  exact of_QSame S (phase_same (γ := (m, h, tx, pf)) (ρ := (t, z, S', kk, u)) R X (by omega) x1 x2)
theorem rule_call (S : SR (m, h, tx, pf) (t, z, S', kk, u)) {N : Nat} (hN : 900 ≤ N) (x1 x2 x3 : Int32) : CSame0 [IOB, IAE] (m, h, tx, pf) (fX7_rule N (m, h, tx, pf) x1 x2 x3) (fX8_rule N (t, z, S', kk, u) x1 x2 x3) := by
  obtain ⟨n, M, -⟩ := SR.parts S
  obtain ⟨ho, ct, s, R, X⟩ := M.graph (h, tx, pf)
  exact of_QSame0 S (rule_same (γ := (m, h, tx, pf)) (ρ := (t, z, S', kk, u)) R X (by omega) x1 x2 x3)
theorem rounds_call (S : SR (m, h, tx, pf) (t, z, S', kk, u)) {N : Nat} (hN : 900 ≤ N) (x1 : Int32) : CSame [IAE] (fX7_rounds N (m, h, tx, pf) x1) (fX8_rounds N (t, z, S', kk, u) x1) := by
  obtain ⟨n, M, -⟩ := SR.parts S
  obtain ⟨ho, ct, s, R, X⟩ := M.graph (h, tx, pf)
  refine of_QSame1 S (rounds_same (γ := (m, h, tx, pf)) (ρ := (t, z, S', kk, u)) R (by omega) x1) (fun x y r hq => ?_)
  unfold fX8_rounds at hq
  obtain ⟨a, -, hq⟩ := bind_of hq
  split at hq
  · cases hq; decide
  · obtain ⟨b, -, hq⟩ := bind_of hq
    cases hq; decide
theorem count_call (S : SR (m, h, tx, pf) (t, z, S', kk, u)) {N : Nat} (hN : 900 ≤ N) (x1 : Int32) : CSame [IAE] (fX7_count N (m, h, tx, pf) x1) (fX8_count N (t, z, S', kk, u) x1) := by
  obtain ⟨n, M, H, -⟩ := SR.parts S
  obtain ⟨ho, ct, s, R, X⟩ := M.graph (h, tx, pf)
  obtain ⟨o', k', ho', hk', e1, e2, e3, -⟩ := H
  refine of_QSame1 S (count_same (γ := (m, h, tx, pf)) (ρ := (t, z, S', kk, u)) R X (e2.trans e3.symm) (by omega) x1) (fun x y r hq => ?_)
  unfold fX8_count at hq
  obtain ⟨a, -, hq⟩ := bind_of hq
  split at hq
  · cases hq; decide
  · obtain ⟨b, -, hq⟩ := bind_of hq
    cases hq; decide
theorem direction_call (S : SR (m, h, tx, pf) (t, z, S', kk, u)) {N : Nat} (hN : 900 ≤ N) (x1 x2 : Int32) : CSame0 [IAE] (m, h, tx, pf) (fX7_direction N (m, h, tx, pf) x1 x2) (fX8_direction N (t, z, S', kk, u) x1 x2) := by
  obtain ⟨n, M, -⟩ := SR.parts S
  obtain ⟨ho, ct, s, R, X⟩ := M.graph (h, tx, pf)
  refine of_QSame01 S (direction_same (γ := (m, h, tx, pf)) (ρ := (t, z, S', kk, u)) R X (by omega) x1 x2) (fun x y r hq => ?_)
  unfold fX8_direction at hq
  obtain ⟨a, -, hq⟩ := bind_of hq
  split at hq
  · cases hq; decide
  · obtain ⟨b, -, hq⟩ := bind_of hq
    split at hq
    · cases hq; decide
    · obtain ⟨b, -, hq⟩ := bind_of hq
      cases hq; decide
theorem slowest_call (S : SR (m, h, tx, pf) (t, z, S', kk, u)) {N : Nat} (hN : 900 ≤ N) : ∃ x γ' ρ', fX7_slowest N (m, h, tx, pf) = some (x, γ') ∧ fX8_slowest N (t, z, S', kk, u) = some (x, ρ') ∧ SR γ' ρ' := by
  obtain ⟨n, M, -⟩ := SR.parts S
  obtain ⟨ho, ct, s, R, X⟩ := M.graph (h, tx, pf)
  obtain ⟨x, a, w, q1, q2⟩ := slowest_same (γ := (m, h, tx, pf)) (ρ := (t, z, S', kk, u)) R (N := N) (by omega)
  exact ⟨x, _, _, q2, q1, S⟩
theorem share_call (S : SR (m, h, tx, pf) (t, z, S', kk, u)) {N : Nat} (hN : 900 ≤ N) : ∃ y ρ', fX7_safeShare N (m, h, tx, pf) = some y ∧ fX8_safeShare N (t, z, S', kk, u) = some (y, ρ') ∧ SR (m, h, tx, pf) ρ' := by
  obtain ⟨n, M, -⟩ := SR.parts S
  obtain ⟨ho, ct, s, R, X⟩ := M.graph (h, tx, pf)
  obtain ⟨y, q1, q2, -⟩ := safeShare_same (γ := (m, h, tx, pf)) (ρ := (t, z, S', kk, u)) R (N := N) (by omega)
  exact ⟨y, _, q1, q2, S⟩
end QC
