/-! the share alike -/
theorem share_num : ∀ n : Fin 9, ∀ r : Fin 9, n.val = 0 ∨ decide ((FP.ddiv (FP.i2d (nI n.val - nI r.val)) (FP.i2d (nI n.val))) &&& 0x7fffffffffffffff ≤ 0x7ff0000000000000) = true := by decide +kernel
section SR
variable {γ : SX7} {ρ : SX8} {g : Gr} {ho : Nat → Nat} {ct s : Nat}
theorem safeShare_same (R : RG γ ρ.2.1 g ho ct s) {N : Nat} (hN : 11 ≤ N) : ∃ y, fX7_safeShare N γ = some y ∧ fX8_safeShare N ρ = some (y, ((0 : Int32), ρ.2)) ∧ fX8_share N ((0 : Int32), ρ.2) = some y ∧ ((gN g = 0 ∧ y = FP.dconst1) ∨ ∃ r, r ≤ 8 ∧ 1 ≤ gN g ∧ y = FP.ddiv (FP.i2d (nI (gN g) - nI r)) (FP.i2d (nI (gN g)))) := by
  have R0 : RG γ ((0 : Int32), ρ.2).2.1 g ho ct s := R
  obtain ⟨M, a, b, c, -⟩ := clash_count (v := ((0 : Int32), ρ.2)) R0 hN
  obtain ⟨hP, hH, hZ, hZH, h4, hC, hA, hs, hs8⟩ := R
  have h8 := hP.1
  have hz : ((0 : Int32), ρ.2).2.1 0 = nI (gN g) := hZ.2.1
  by_cases hn : gN g = 0
  · have e8 : fX8_share N ((0 : Int32), ρ.2) = some FP.dconst1 := by
      unfold fX8_share
      rw [chk0, tn0, hz, hn, if_pos (by decide)]
    refine ⟨FP.dconst1, ?_, ?_, e8, Or.inl ⟨hn, rfl⟩⟩
    · unfold fX7_safeShare
      rw [hP.2.1, hn, if_pos (by decide)]
    · unfold fX8_safeShare
      rw [e8]; rfl
  · have hne : ¬ nI (gN g) = 0 := fun z => by have := (nI_eq (b := 0) (by omega) (by omega)).mp z; omega
    have hr : cnt (bt M) 8 ≤ 8 := cnt_le (bt M) 8
    have hm := (share_num ⟨gN g, by omega⟩ ⟨cnt (bt M) 8, by omega⟩).resolve_left hn
    dsimp only at hm
    have e8 : fX8_share N ((0 : Int32), ρ.2) = some (FP.ddiv (FP.i2d (nI (gN g) - nI (cnt (bt M) 8))) (FP.i2d (nI (gN g)))) := by
      unfold fX8_share
      rw [chk0, tn0, hz, if_neg hne, chk0, c, Option.bind_some, chk0, hm]
      rfl
    refine ⟨_, ?_, ?_, e8, Or.inr ⟨cnt (bt M) 8, hr, by omega, rfl⟩⟩
    · unfold fX7_safeShare
      rw [hP.2.1, if_neg hne, a, Option.bind_some, b, Option.bind_some, hm]
      rfl
    · unfold fX8_safeShare
      rw [e8]; rfl
end SR
