/-! the bits of a share, alike -/
theorem b15_mono : ∀ (f : Nat) (z2 : UInt64) (z4 : Int64) (r : UInt64 × Int64), fX8_bitsOf_L15 11 f z2 z4 = some r → ∀ k N, fX8_bitsOf_L15 N (f + k) z2 z4 = some r := by
  intro f
  induction f with
  | zero => intro z2 z4 r h; rw [fX8_bitsOf_L15] at h; cases h
  | succ f ih =>
    intro z2 z4 r h k N
    rw [show f + 1 + k = (f + k) + 1 by omega, fX8_bitsOf_L15]
    rw [fX8_bitsOf_L15] at h
    by_cases h2 : (Op.cmpValue (FP.dcmp z2 (4611686018427387904)) .l) < 0
    · rw [if_pos h2] at h ⊢; exact h
    · rw [if_neg h2] at h ⊢
      unfold must at h ⊢
      split at h
      · exact ih _ _ _ h k N
      · cases h
theorem b38_mono : ∀ (f : Nat) (z2 : UInt64) (z4 : Int64) (r : UInt64 × Int64), fX8_bitsOf_L38 11 f z2 z4 = some r → ∀ k N, fX8_bitsOf_L38 N (f + k) z2 z4 = some r := by
  intro f
  induction f with
  | zero => intro z2 z4 r h; rw [fX8_bitsOf_L38] at h; cases h
  | succ f ih =>
    intro z2 z4 r h k N
    rw [show f + 1 + k = (f + k) + 1 by omega, fX8_bitsOf_L38]
    rw [fX8_bitsOf_L38] at h
    by_cases h2 : 0 ≤ (Op.cmpValue (FP.dcmp z2 FP.dconst1) .g)
    · rw [if_pos h2] at h ⊢; exact h
    · rw [if_neg h2] at h ⊢
      unfold must at h ⊢
      split at h
      · exact ih _ _ _ h k N
      · cases h
theorem sbits_all : ∀ n : Fin 9, ∀ r : Fin 9, n.val = 0 ∨ n.val < r.val ∨ (fX7_bitsOfShare 11 (FP.ddiv (FP.i2d (nI n.val - nI r.val)) (FP.i2d (nI n.val))) = fX8_bitsOf 11 (FP.ddiv (FP.i2d (nI n.val - nI r.val)) (FP.i2d (nI n.val))) ∧ (fX8_bitsOf 11 (FP.ddiv (FP.i2d (nI n.val - nI r.val)) (FP.i2d (nI n.val)))).isSome = true) := by decide +kernel
theorem sbits_one : fX7_bitsOfShare 11 FP.dconst1 = fX8_bitsOf 11 FP.dconst1 ∧ (fX8_bitsOf 11 FP.dconst1).isSome = true := by decide +kernel
