/-! phase() and rule() alike -/
section TE
variable {γ : SX7} {ρ : SX8} {g : Gr} {ho : Nat → Nat} {ct s : Nat}
theorem phase_same (R : RG γ ρ.2.1 g ho ct s) (X : RX γ.1 ρ.2.1 g) {N : Nat} (hN : 11 ≤ N) (x1 x2 : Int32) : QSame γ ρ IOB IAE (fX7_phase N γ x1 x2) (fX8_phase N ρ x1 x2) := by
  have R0 : RG γ ((0 : Int32), ρ.2).2.1 g ho ct s := R
  rcases ph_cases R N x1 with ⟨p, hp, rfl, e1, e2⟩ | ⟨e1, e2⟩
  · obtain ⟨hP, hH, hZ, hZH, h4, hC, hA, hs, hs8⟩ := R
    have h8 := hP.1
    rcases in_cases N (k := 5) (by decide) x2 with ⟨j, hj, rfl, f1⟩ | ⟨f1, f2⟩
    · have f1' : fX8_in N (nI j) 0 5 = some 1 := f1
      have key : ∀ x w, fX8_toldPhase N ((0 : Int32), ρ.2) (nI p) (nI j) = some x → fX7_phase N γ (nI p) (nI j) = some (.inr (x, (γ.1, γ.2.1, γ.2.2.1, w))) → QSame γ ρ IOB IAE (fX7_phase N γ (nI p) (nI j)) (fX8_phase N ρ (nI p) (nI j)) := by
        intro x w h1 h3
        refine ⟨x, 0, gW ρ, gB ρ, w, ?_, Or.inl ⟨rfl, h3⟩⟩
        unfold fX8_phase
        rw [e2, Option.bind_some, if_neg (by decide), f1', Option.bind_some, if_neg (by decide), h1, Option.bind_some]
      have row : ∀ (f : Nat → Int32), rowAt 8 f (nI p) = f p := fun f => rowAt_nI (by omega) (by decide) f
      have hc : j = 0 ∨ j = 1 ∨ j = 2 ∨ j = 3 ∨ j = 4 ∨ j = 5 := by omega
      rcases hc with rfl | rfl | rfl | rfl | rfl | rfl
      · refine key (gG g p) γ.2.2.2 ?_ ?_
        · show (fX8_greens N ((0 : Int32), ρ.2) (nI p)).bind (fun r => some r) = _
          rw [X8_greens_eq (v := ((0 : Int32), ρ.2)) hZ N hp]; rfl
        · unfold fX7_phase
          rw [e1]
          show some (Sum.inr (rowAt 8 γ.1.1.2.1 (nI p), γ)) = _
          rw [plan_gr hP hp]
      · refine key (nI (ho p)) γ.2.2.2 ?_ ?_
        · show (fX8_of N ((0 : Int32), ρ.2) (nI p) (nI 1)).bind (fun r => some r) = _
          rw [X8_of_eq N _ (by omega) (by omega), Option.bind_some, show 31 + 14 * p + 1 = 32 + 14 * p by omega]
          exact congrArg some (hZH.1 p hp).1
        · unfold fX7_phase
          rw [e1]
          show some (Sum.inr (rowAt 8 γ.1.1.2.2.1 (nI p), γ)) = _
          rw [row, (hH.1 p hp).1]
      · refine key (nI (gR g p)) γ.2.2.2 ?_ ?_
        · show (fX8_rules N ((0 : Int32), ρ.2) (nI p)).bind (fun r => some r) = _
          rw [X8_rules_eq (v := ((0 : Int32), ρ.2)) hZ N hp]; rfl
        · unfold fX7_phase
          rw [e1]
          show some (Sum.inr (rowAt 8 γ.1.1.2.2.2.1 (nI p), γ)) = _
          rw [plan_rc hP hp]
      · obtain ⟨b, b1, b2⟩ := X2_isUn_eq hP (N := N) (by omega) hp
        obtain ⟨b', b1', b2'⟩ := X8_doesClash_eq (v := ((0 : Int32), ρ.2)) hZ hN hp
        have hb : b' = b := b2i_eq (b2'.trans (uns_dcl hC p).symm) b2
        subst hb
        refine key (b2i b') γ.2.2.2 ?_ ?_
        · show (fX8_doesClash N ((0 : Int32), ρ.2) (nI p)).bind (fun r => if r = 0 then some 0 else some 1) = _
          rw [b1', Option.bind_some]
          cases b'
          · rw [if_pos b2i_f]; rfl
          · rw [if_neg b2i_t]; rfl
        · unfold fX7_phase
          rw [e1]
          show (fX2_isUnsafe N γ.1.1 (nI p)).bind (fun r => if r = 0 then some (Sum.inr (0, γ)) else some (Sum.inr (1, γ))) = _
          rw [b1, Option.bind_some]
          cases b'
          · rw [if_pos b2i_f]; rfl
          · rw [if_neg b2i_t]; rfl
      · obtain ⟨c, w, a1, a2, -⟩ := coming_count (v := ((0 : Int32), ρ.2)) R0 hN
        refine key (b2i (bt c p)) w ?_ ?_
        · show (fX8_comers N ((0 : Int32), ρ.2)).bind (fun r => some ((r >>> (nI p &&& 31)) &&& 1)) = _
          rw [a2, Option.bind_some, bit_b2i c (by omega)]
        · unfold fX7_phase
          rw [e1]
          show (fX7_comingPhases N γ).bind (fun r => (fX7_has N r.1 (nI p)).bind fun q => if q = 0 then some (Sum.inr (0, r.2)) else some (Sum.inr (1, r.2))) = _
          rw [a1, Option.bind_some, X7_has_eq N c (by omega), Option.bind_some]
          cases bt c p
          · rw [if_pos b2i_f]; rfl
          · rw [if_neg b2i_t]; rfl
      · refine key (ρ.2.1 (33 + 14 * p)) γ.2.2.2 ?_ ?_
        · show (fX8_of N ((0 : Int32), ρ.2) (nI p) (nI 2)).bind (fun r => some r) = _
          rw [X8_of_eq N _ (by omega) (by omega), Option.bind_some, show 31 + 14 * p + 2 = 33 + 14 * p by omega]
        · unfold fX7_phase
          rw [e1]
          show some (Sum.inr (rowAt 8 γ.1.2.2.2.2.1 (nI p), γ)) = _
          rw [row, X.2.2.2.1 p (by omega), if_pos hp]
    · have f1' : fX8_in N x2 0 5 = some 0 := f1
      refine ⟨0, 2, gW ρ, gB ρ, γ.2.2.2, ?_, Or.inr (Or.inr ⟨rfl, rfl, ?_⟩)⟩
      · unfold fX8_phase
        rw [e2, Option.bind_some, if_neg (by decide), f1', Option.bind_some, if_pos rfl]
      · unfold fX7_phase
        rw [e1, Option.bind_some]
        unfold onS
        dsimp only
        rw [if_neg (show ¬ x2 = 0 from f2 0 (by omega)), if_neg (show ¬ x2 = 1 from f2 1 (by omega)), if_neg (show ¬ x2 = 2 from f2 2 (by omega)), if_neg (show ¬ x2 = 3 from f2 3 (by omega)), if_neg (show ¬ x2 = 4 from f2 4 (by omega)), if_neg (show ¬ x2 = 5 from f2 5 (by omega))]
  · refine ⟨0, 1, gW ρ, gB ρ, γ.2.2.2, ?_, Or.inr (Or.inl ⟨rfl, rfl, ?_⟩)⟩
    · unfold fX8_phase
      rw [e2, Option.bind_some, if_pos rfl]
    · unfold fX7_phase
      rw [e1]; rfl
end TE
