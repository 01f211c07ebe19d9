/-! the share alike -/
theorem share_num : ∀ n : Fin 9, ∀ r : Fin 9, n.val = 0 ∨ decide ((FP.ddiv (FP.i2d (nI n.val - nI r.val)) (FP.i2d (nI n.val))) &&& 0x7fffffffffffffff ≤ 0x7ff0000000000000) = true := by decide +kernel
section SR
variable {γ : SX7} {ρ : SX8} {g : Gr} {ho : Nat → Nat} {ct s : Nat}
theorem safeShare_same (R : RG γ ρ.2.1 g ho ct s) {N : Nat} (hN : 11 ≤ N) : ∃ y, fX7_safeShare N γ = some y ∧ fX8_safeShare N ρ = some (y, ((0 : Int32), ρ.2)) ∧ fX8_share N ((0 : Int32), ρ.2) = some y ∧ ((gN g = 0 ∧ y = FP.dconst1) ∨ ∃ r, r ≤ gN g ∧ 1 ≤ gN g ∧ y = FP.ddiv (FP.i2d (nI (gN g) - nI r)) (FP.i2d (nI (gN g)))) := by
  have R0 : RG γ ((0 : Int32), ρ.2).2.1 g ho ct s := R
  obtain ⟨M, a, b, c, hM⟩ := clash_count (v := ((0 : Int32), ρ.2)) R0 hN
  obtain ⟨hP, hH, hZ, hZH, h4, hC, hA, hs, hs8⟩ := R
  have h8 := hP.1
  have hz : ((0 : Int32), ρ.2).2.1 0 = nI (gN g) := hZ.2.1
  by_cases hn : gN g = 0
  · have e8 : fX8_share N ((0 : Int32), ρ.2) = some FP.dconst1 := by
      unfold fX8_share
      rw [chk0, tn0, hz, hn, if_pos (by decide)]
    refine ⟨FP.dconst1, ?_, ?_, e8, Or.inl ⟨hn, rfl⟩⟩
    · unfold fX7_safeShare
      rw [hP.2.1, hn, if_pos (by decide)]
    · unfold fX8_safeShare
      rw [e8]; rfl
  · have hne : ¬ nI (gN g) = 0 := fun z => by have := (nI_eq (b := 0) (by omega) (by omega)).mp z; omega
    have hr : cnt (bt M) 8 ≤ 8 := cnt_le (bt M) 8
    have hrn : cnt (bt M) 8 ≤ gN g := by
      rw [cnt_ext (P := bt M) (n := gN g) 8 h8 (fun k h1 _ => by
        cases hb : bt M k
        · rfl
        · have := ((hM k).mp hb).1; omega)]
      exact cnt_le (bt M) (gN g)
    have hm := (share_num ⟨gN g, by omega⟩ ⟨cnt (bt M) 8, by omega⟩).resolve_left hn
    dsimp only at hm
    have e8 : fX8_share N ((0 : Int32), ρ.2) = some (FP.ddiv (FP.i2d (nI (gN g) - nI (cnt (bt M) 8))) (FP.i2d (nI (gN g)))) := by
      unfold fX8_share
      rw [chk0, tn0, hz, if_neg hne, chk0, c, Option.bind_some, chk0, hm]
      rfl
    refine ⟨_, ?_, ?_, e8, Or.inr ⟨cnt (bt M) 8, hrn, by omega, rfl⟩⟩
    · unfold fX7_safeShare
      rw [hP.2.1, if_neg hne, a, Option.bind_some, b, Option.bind_some, hm]
      rfl
    · unfold fX8_safeShare
      rw [e8]; rfl
end SR
theorem b7_mono : ∀ (f : Nat) (z2 : UInt64) (z4 : Int64) (z6 : Int32) (r : UInt64 × Int64), fX7_bitsOfShare_L18 11 f z2 z4 z6 = some r → ∀ k N, fX7_bitsOfShare_L18 N (f + k) z2 z4 z6 = some r := by
  intro f
  induction f with
  | zero => intro z2 z4 z6 r h; rw [fX7_bitsOfShare_L18] at h; cases h
  | succ f ih =>
    intro z2 z4 z6 r h k N
    rw [show f + 1 + k = (f + k) + 1 by omega, fX7_bitsOfShare_L18]
    rw [fX7_bitsOfShare_L18] at h
    by_cases h1 : 1000 ≤ z6
    · rw [if_pos h1] at h ⊢; exact h
    · rw [if_neg h1] at h ⊢
      by_cases h2 : 0 ≤ (Op.cmpValue (FP.dcmp z2 FP.dconst1) .g)
      · rw [if_pos h2] at h ⊢; exact h
      · rw [if_neg h2] at h ⊢
        unfold must at h ⊢
        split at h
        · rename_i hc
          exact ih _ _ _ _ h k N
        · cases h
