/-! the bits of a share, alike -/
theorem b15_mono : ∀ (f : Nat) (z2 : UInt64) (z4 : Int64) (r : UInt64 × Int64), fX8_bitsOf_L15 11 f z2 z4 = some r → ∀ k N, fX8_bitsOf_L15 N (f + k) z2 z4 = some r := by
  intro f
  induction f with
  | zero => intro z2 z4 r h; rw [fX8_bitsOf_L15] at h; cases h
  | succ f ih =>
    intro z2 z4 r h k N
    rw [show f + 1 + k = (f + k) + 1 by omega, fX8_bitsOf_L15]
    rw [fX8_bitsOf_L15] at h
    by_cases h2 : (Op.cmpValue (FP.dcmp z2 (4611686018427387904)) .l) < 0
    · rw [if_pos h2] at h ⊢; exact h
    · rw [if_neg h2] at h ⊢
      unfold must at h ⊢
      split at h
      · exact ih _ _ _ h k N
      · cases h
theorem b38_mono : ∀ (f : Nat) (z2 : UInt64) (z4 : Int64) (r : UInt64 × Int64), fX8_bitsOf_L38 11 f z2 z4 = some r → ∀ k N, fX8_bitsOf_L38 N (f + k) z2 z4 = some r := by
  intro f
  induction f with
  | zero => intro z2 z4 r h; rw [fX8_bitsOf_L38] at h; cases h
  | succ f ih =>
    intro z2 z4 r h k N
    rw [show f + 1 + k = (f + k) + 1 by omega, fX8_bitsOf_L38]
    rw [fX8_bitsOf_L38] at h
    by_cases h2 : 0 ≤ (Op.cmpValue (FP.dcmp z2 FP.dconst1) .g)
    · rw [if_pos h2] at h ⊢; exact h
    · rw [if_neg h2] at h ⊢
      unfold must at h ⊢
      split at h
      · exact ih _ _ _ h k N
      · cases h
theorem sbits_all : ∀ n : Fin 9, ∀ r : Fin 9, n.val = 0 ∨ n.val < r.val ∨ (fX7_bitsOfShare 11 (FP.ddiv (FP.i2d (nI n.val - nI r.val)) (FP.i2d (nI n.val))) = fX8_bitsOf 11 (FP.ddiv (FP.i2d (nI n.val - nI r.val)) (FP.i2d (nI n.val))) ∧ (fX8_bitsOf 11 (FP.ddiv (FP.i2d (nI n.val - nI r.val)) (FP.i2d (nI n.val)))).isSome = true) := by decide +kernel
theorem sbits_one : fX7_bitsOfShare 11 FP.dconst1 = fX8_bitsOf 11 FP.dconst1 ∧ (fX8_bitsOf 11 FP.dconst1).isSome = true := by decide +kernel
theorem b7_lift {y : UInt64} {b : Int64} (h : fX7_bitsOfShare 11 y = some b) {N : Nat} (hN : 11 ≤ N) : fX7_bitsOfShare N y = some b := by
  unfold fX7_bitsOfShare at h ⊢
  by_cases h1 : 0 < (Op.cmpValue (FP.dcmp y FP.dconst0) .g)
  · rw [if_pos h1] at h ⊢
    cases hL : fX7_bitsOfShare_L18 11 11 y 1023 0 with
    | none => rw [hL] at h; cases h
    | some u =>
      have h2 := b7_mono 11 _ _ _ _ hL (N - 11) N
      rw [show 11 + (N - 11) = N by omega] at h2
      rw [hL] at h
      rw [h2]
      exact h
  · rw [if_neg h1] at h ⊢
    exact h
theorem b8_lift {y : UInt64} {b : Int64} (h : fX8_bitsOf 11 y = some b) {N : Nat} (hN : 11 ≤ N) : fX8_bitsOf N y = some b := by
  unfold fX8_bitsOf at h ⊢
  by_cases h1 : (Op.cmpValue (FP.dcmp y FP.dconst0) .l) = 0
  · rw [if_pos h1] at h ⊢
    exact h
  · rw [if_neg h1] at h ⊢
    cases hL : fX8_bitsOf_L15 11 11 y 1023 with
    | none => rw [hL] at h; cases h
    | some u =>
      have h2 := b15_mono 11 _ _ _ hL (N - 11) N
      rw [show 11 + (N - 11) = N by omega] at h2
      rw [hL, Option.bind_some] at h
      rw [h2, Option.bind_some]
      cases hM : fX8_bitsOf_L38 11 11 u.1 u.2 with
      | none => rw [hM] at h; cases h
      | some w =>
        have h3 := b38_mono 11 _ _ _ hM (N - 11) N
        rw [show 11 + (N - 11) = N by omega] at h3
        rw [hM] at h
        rw [h3]
        exact h
/-- the bits of a share: the class's and the reference's -/
theorem share_bits {y : UInt64} {n : Nat} (hn : n ≤ 8) (hy : (n = 0 ∧ y = FP.dconst1) ∨ ∃ r, r ≤ n ∧ 1 ≤ n ∧ y = FP.ddiv (FP.i2d (nI n - nI r)) (FP.i2d (nI n))) {N : Nat} (hN : 11 ≤ N) : ∃ b, fX7_bitsOfShare N y = some b ∧ fX8_bitsOf N y = some b := by
  have key : fX7_bitsOfShare 11 y = fX8_bitsOf 11 y ∧ (fX8_bitsOf 11 y).isSome = true := by
    rcases hy with ⟨-, rfl⟩ | ⟨r, r1, r2, rfl⟩
    · exact sbits_one
    · rcases sbits_all ⟨n, by omega⟩ ⟨r, by omega⟩ with z | z | z
      · dsimp only at z; omega
      · dsimp only at z; omega
      · exact z
  obtain ⟨k1, k2⟩ := key
  obtain ⟨b, hb⟩ := Option.isSome_iff_exists.mp k2
  exact ⟨b, b7_lift (k1.trans hb) hN, b8_lift hb hN⟩
