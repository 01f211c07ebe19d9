/-! count() alike -/
theorem tn3 : (3 : Int32).toNatClampNeg = 3 := nI_clamp (n := 3) (by decide)
theorem tn6 : (6 : Int32).toNatClampNeg = 6 := nI_clamp (n := 6) (by decide)
theorem chk3 {α : Type} (k : Option α) : chk 3 143 k = k := chk_nI (i := 3) (by decide) (by decide) k
theorem chk6 {α : Type} (k : Option α) : chk 6 143 k = k := chk_nI (i := 6) (by decide) (by decide) k
theorem in_cases (N : Nat) {k : Nat} (hk : k < 2 ^ 31) (x : Int32) : (∃ j, j ≤ k ∧ x = nI j ∧ fX8_in N x 0 (nI k) = some 1) ∨ (fX8_in N x 0 (nI k) = some 0 ∧ ∀ j, j ≤ k → ¬ x = nI j) := by
  unfold fX8_in
  by_cases h0 : x < 0
  · rw [if_pos h0]
    refine Or.inr ⟨rfl, fun j hj e => ?_⟩
    rw [e] at h0
    exact nI_pos (show j < 2 ^ 31 by omega) h0
  · rw [if_neg h0]
    obtain ⟨d, d1, rfl⟩ := nI_of h0
    by_cases hd : d ≤ k
    · rw [if_neg (fun z => by rw [nI_ltI (by omega) (by omega)] at z; omega)]
      exact Or.inl ⟨d, hd, rfl, rfl⟩
    · rw [if_pos (nI_lt (by omega) (by omega))]
      refine Or.inr ⟨rfl, fun j hj e => ?_⟩
      have := (nI_eq (by omega) (by omega)).mp e
      omega
section CT
variable {γ : SX7} {ρ : SX8} {g : Gr} {ho : Nat → Nat} {ct s : Nat}
theorem count_same (R : RG γ ρ.2.1 g ho ct s) (X : RX γ.1 ρ.2.1 g) (hk : γ.2.1.2.2 = ρ.2.2.2.1) {N : Nat} (hN : 11 ≤ N) (x1 : Int32) : QSame γ ρ IAE IAE (fX7_count N γ x1) (fX8_count N ρ x1) := by
  have R0 : RG γ ((0 : Int32), ρ.2).2.1 g ho ct s := R
  have X0 : RX γ.1 ((0 : Int32), ρ.2).2.1 g := X
  obtain ⟨hP, hH, hZ, hZH, h4, hC, hA, hs, hs8⟩ := R
  have h8 := hP.1
  rcases in_cases N (k := 11) (by decide) x1 with ⟨j, hj, rfl, e1⟩ | ⟨e1, e2⟩
  · have e1' : fX8_in N (nI j) 0 11 = some 1 := e1
    have key : ∀ x a b w, fX8_counted N ((0 : Int32), ρ.2) (nI j) = some x → qR ρ 0 a b = ((0 : Int32), ρ.2) → fX7_count N γ (nI j) = some (.inr (x, (γ.1, γ.2.1, γ.2.2.1, w))) → QSame γ ρ IAE IAE (fX7_count N γ (nI j)) (fX8_count N ρ (nI j)) := by
      intro x a b w h1 h2 h3
      refine ⟨x, 0, a, b, w, ?_, Or.inl ⟨rfl, h3⟩⟩
      unfold fX8_count
      rw [e1', Option.bind_some, if_neg (by decide), h1, Option.bind_some, h2]
    have hc : j = 0 ∨ j = 1 ∨ j = 2 ∨ j = 3 ∨ j = 4 ∨ j = 5 ∨ j = 6 ∨ j = 7 ∨ j = 8 ∨ j = 9 ∨ j = 10 ∨ j = 11 := by omega
    rcases hc with rfl | rfl | rfl | rfl | rfl | rfl | rfl | rfl | rfl | rfl | rfl | rfl
    · refine key (ρ.2.1 0) (gW ρ) (gB ρ) γ.2.2.2 (chk0 _) rfl ?_
      show some (Sum.inr (γ.1.1.2.2.2.2.2.2.1, γ)) = _
      rw [hP.2.1, hZ.2.1]
    · refine key (ρ.2.1 2) (gW ρ) (gB ρ) γ.2.2.2 (chk2 _) rfl ?_
      show (if γ.1.1.2.2.2.2.2.2.1 = 0 then some (Sum.inr (-1, γ)) else some (Sum.inr (γ.1.2.2.2.2.2.1, γ))) = _
      rw [hP.2.1, hs]
      rcases hA with ⟨n0, z2, s0⟩ | ⟨sn, z2⟩
      · rw [n0, if_pos (by decide), z2]
      · rw [if_neg (fun z => by have := (nI_eq (b := 0) (by omega) (by omega)).mp z; omega), z2]
    · obtain ⟨b, b1, b2, b3⟩ := clear_same (v := ((0 : Int32), ρ.2)) X0 N
      have hcl : fX8_counted N ((0 : Int32), ρ.2) (nI 2) = chk 2 143 (if ρ.2.1 (2 : Int32).toNatClampNeg = -1 then some (-1) else (fX8_isClearing N ((0 : Int32), ρ.2)).bind fun r8 => if r8 = 0 then chk 3 143 (some (ρ.2.1 (3 : Int32).toNatClampNeg)) else some (-1)) := rfl
      have hc7 : fX7_count N γ (nI 2) = (if γ.1.1.2.2.2.2.2.2.1 = 0 then some (Sum.inr (-1, γ)) else (fX1_isClearing N γ.1).bind fun r6 => if r6 = 0 then some (Sum.inr (γ.1.2.2.2.2.2.2.2.1, γ)) else some (Sum.inr (-1, γ))) := rfl
      rw [chk2, tn2, b2, Option.bind_some] at hcl
      rw [hP.2.1, b1, Option.bind_some] at hc7
      rcases hA with ⟨n0, z2, s0⟩ | ⟨sn, z2⟩
      · have z2' : ρ.2.1 2 = -1 := z2
        rw [if_pos z2'] at hcl
        rw [n0, if_pos (by decide)] at hc7
        exact key (-1) (gW ρ) (gB ρ) γ.2.2.2 hcl rfl hc7
      · have z2' : ¬ ρ.2.1 2 = -1 := fun z => by
          have z3 : nI s = -1 := z2.symm.trans z
          exact nI_pos (show s < 2 ^ 31 by omega) (by rw [z3]; decide)
        rw [if_neg z2'] at hcl
        rw [if_neg (fun z => by have := (nI_eq (b := 0) (by omega) (by omega)).mp z; omega)] at hc7
        rcases b3 with ⟨rfl, -, b5⟩ | ⟨rfl, -⟩
        · rw [if_pos b2i_f, chk3, tn3] at hcl
          rw [if_pos b2i_f, b5] at hc7
          exact key (ρ.2.1 3) (gW ρ) (gB ρ) γ.2.2.2 hcl rfl hc7
        · rw [if_neg b2i_t] at hcl hc7
          exact key (-1) (gW ρ) (gB ρ) γ.2.2.2 hcl rfl hc7
    · refine key (ρ.2.1 4) (gW ρ) (gB ρ) γ.2.2.2 (chk4 _) rfl ?_
      show some (Sum.inr (γ.1.2.2.2.2.2.2.2.2.1, γ)) = _
      rw [X.2.2.2.2.1]
    · obtain ⟨x, a, b⟩ := greensNow_same (v := ((0 : Int32), ρ.2)) R0 X0 N
      refine key x (gW ρ) (gB ρ) γ.2.2.2 ?_ rfl ?_
      · show (fX8_greensNow N ((0 : Int32), ρ.2)).bind (fun r => some r) = _
        rw [b]; rfl
      · show (fX1_greensNow N γ.1).bind (fun r => some (Sum.inr (r, γ))) = _
        rw [a]; rfl
    · obtain ⟨x, a, b, -⟩ := waiting_same (v := ((0 : Int32), ρ.2)) X0 (N := N) (by omega)
      refine key x (gW ρ) (gB ρ) γ.2.2.2 ?_ rfl ?_
      · show (fX8_waiting N ((0 : Int32), ρ.2)).bind (fun r => some r) = _
        rw [b]; rfl
      · show (fX1_waiting N γ.1).bind (fun r => some (Sum.inr (r, γ))) = _
        rw [a]; rfl
    · obtain ⟨M, a, b, c, -⟩ := clash_count (v := ((0 : Int32), ρ.2)) R0 hN
      refine key (nI (cnt (bt M) 8)) (gW ρ) (gB ρ) γ.2.2.2 ?_ rfl ?_
      · show (fX8_clashing N ((0 : Int32), ρ.2) 255).bind (fun r => some r) = _
        rw [c]; rfl
      · show (fX2_unsafePhases N γ.1.1).bind (fun r => (fJ6_bitCount_0f7a4 N r).bind fun q => some (Sum.inr (q, γ))) = _
        rw [a, Option.bind_some, b]; rfl
    · obtain ⟨c, w, a1, a2, a3, ⟨x, a4⟩, -⟩ := coming_count (v := ((0 : Int32), ρ.2)) R0 hN
      refine key x (gW ρ) (gB ρ) w ?_ rfl ?_
      · show (fX8_comers N ((0 : Int32), ρ.2)).bind (fun r => (fX8_bits N r).bind fun q => some q) = _
        rw [a2, Option.bind_some, a4]; rfl
      · show (fX7_comingPhases N γ).bind (fun r => (fJ6_bitCount_0f7a4 N r.1).bind fun q => some (Sum.inr (q, r.2))) = _
        rw [a1, Option.bind_some, a3, a4]; rfl
    · obtain ⟨c, w, a1, a2, -⟩ := coming_count (v := ((0 : Int32), ρ.2)) R0 hN
      obtain ⟨M, b1, -, -, b4⟩ := clash_count (v := ((0 : Int32), ρ.2)) R0 hN
      obtain ⟨c1, c2⟩ := both_count (v := ((0 : Int32), ρ.2)) R0 hN (c := c) b4
      refine key (nI (cnt (bt (c &&& M)) 8)) (gW ρ) (gB ρ) w ?_ rfl ?_
      · show (fX8_comers N ((0 : Int32), ρ.2)).bind (fun r => (fX8_clashing N ((0 : Int32), ρ.2) r).bind fun q => some q) = _
        rw [a2, Option.bind_some, c1]; rfl
      · show (fX7_comingPhases N γ).bind (fun r => (fX2_unsafePhases N r.2.1.1).bind fun u => (fJ6_bitCount_0f7a4 N (r.1 &&& u)).bind fun q => some (Sum.inr (q, r.2))) = _
        rw [a1, Option.bind_some]
        dsimp only
        rw [b1, Option.bind_some, c2]; rfl
    · refine key (ρ.2.1 6) (gW ρ) (gB ρ) γ.2.2.2 (chk6 _) rfl ?_
      show some (Sum.inr (γ.1.2.2.2.2.2.2.2.2.2, γ)) = _
      rw [X.2.2.2.2.2.1]
    · obtain ⟨w, M, a1, a2, a3⟩ := starving_both (v := ((0 : Int32), ρ.2)) R0 hN
      refine key M (gW ρ) (gB ρ) w ?_ rfl ?_
      · show (fX8_starving N ((0 : Int32), ρ.2)).bind (fun r => some r) = _
        rw [a3]; rfl
      · show (fX7_studyAll N γ).bind (fun r => (fX3_starvingDirections N r.2.2.2).bind fun q => some (Sum.inr (q, r))) = _
        rw [a1, Option.bind_some]
        dsimp only
        rw [a2]; rfl
    · refine key ρ.2.2.2.1 (gW ρ) (gB ρ) γ.2.2.2 rfl rfl ?_
      show some (Sum.inr (γ.2.1.2.2, γ)) = _
      rw [hk]
  · have e1' : fX8_in N x1 0 11 = some 0 := e1
    refine ⟨0, 1, gW ρ, gB ρ, γ.2.2.2, ?_, Or.inr (Or.inl ⟨rfl, rfl, ?_⟩)⟩
    · unfold fX8_count
      rw [e1', Option.bind_some, if_pos rfl]
    · unfold fX7_count
      rw [if_neg (show ¬ x1 = 0 from e2 0 (by omega)), if_neg (show ¬ x1 = 1 from e2 1 (by omega)), if_neg (show ¬ x1 = 2 from e2 2 (by omega)), if_neg (show ¬ x1 = 3 from e2 3 (by omega)), if_neg (show ¬ x1 = 4 from e2 4 (by omega)), if_neg (show ¬ x1 = 5 from e2 5 (by omega)), if_neg (show ¬ x1 = 6 from e2 6 (by omega)), if_neg (show ¬ x1 = 7 from e2 7 (by omega)), if_neg (show ¬ x1 = 8 from e2 8 (by omega)), if_neg (show ¬ x1 = 9 from e2 9 (by omega)), if_neg (show ¬ x1 = 10 from e2 10 (by omega)), if_neg (show ¬ x1 = 11 from e2 11 (by omega))]
end CT
