/-! the two objects at the start -/
theorem SR_start : SR iG iZ := by
  have hb : ∀ q, bt (0 : Int32) q = true → q < 6 := fun q h => by
    exfalso
    have : bt (0 : Int32) q = false := by unfold bt; simp
    rw [this] at h; cases h
  refine ⟨⟨0, ⟨⟨by omega, rfl, rfl, 2, by omega, rfl, rfl⟩, ⟨Or.inl ⟨rfl, rfl, rfl⟩, rfl, rfl, Or.inl ⟨rfl, rfl⟩⟩, fun d hd => ?_, fun p hp => absurd hp (by omega), fun p _ _ => rfl, fun _ => rfl⟩⟩, ⟨0, 0, by omega, by omega, rfl, rfl, rfl, fun j hj => absurd hj (by omega)⟩, ⟨0, by omega, rfl, rfl, fun i hi => absurd hi (by omega)⟩⟩
  rcases (show d = 0 ∨ d = 1 ∨ d = 2 ∨ d = 3 ∨ d = 4 ∨ d = 5 by omega) with rfl | rfl | rfl | rfl | rfl | rfl <;> exact ⟨rfl, fun q h => hb q h, rfl, rfl, rfl⟩
