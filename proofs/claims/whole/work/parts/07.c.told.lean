/-! phase(), rule() and direction() alike -/
def QSame0 (ρ : SX8) (E1 E2 : String) (o7 : Option (String ⊕ Int32)) (o8 : Option (Int32 × SX8)) : Prop := ∃ x t, o8 = some (x, ((t : Int32), ρ.2)) ∧ ((t = 0 ∧ o7 = some (.inr x)) ∨ (t = 1 ∧ x = 0 ∧ o7 = some (.inl E1)) ∨ (t = 2 ∧ x = 0 ∧ o7 = some (.inl E2)))
section TD
variable {γ : SX7} {ρ : SX8} {g : Gr} {ho : Nat → Nat} {ct s : Nat}
theorem bit_b2i (x : Int32) {k : Nat} (hk : k < 32) : (x >>> (nI k &&& 31)) &&& 1 = b2i (bt x k) := by
  rw [shr_bit x hk]
  cases bt x k <;> rfl
theorem direction_same (R : RG γ ρ.2.1 g ho ct s) (X : RX γ.1 ρ.2.1 g) {N : Nat} (hN : 11 ≤ N) (x1 x2 : Int32) : QSame0 ρ IAE IAE (fX7_direction N γ x1 x2) (fX8_direction N ρ x1 x2) := by
  have R0 : RG γ ((0 : Int32), ρ.2).2.1 g ho ct s := R
  have X0 : RX γ.1 ((0 : Int32), ρ.2).2.1 g := X
  obtain ⟨hP, hH, hZ, hZH, h4, hC, hA, hs, hs8⟩ := R
  rcases dir_cases N x1 with ⟨d, hd, rfl, e1, e2⟩ | ⟨e1, e2⟩
  · rcases in_cases N (k := 5) (by decide) x2 with ⟨j, hj, rfl, f1⟩ | ⟨f1, f2⟩
    · have f1' : fX8_in N (nI j) 0 5 = some 1 := f1
      have key : ∀ x, fX8_toldDirection N ((0 : Int32), ρ.2) (nI d) (nI j) = some x → fX7_direction N γ (nI d) (nI j) = some (.inr x) → QSame0 ρ IAE IAE (fX7_direction N γ (nI d) (nI j)) (fX8_direction N ρ (nI d) (nI j)) := by
        intro x h1 h3
        refine ⟨x, 0, ?_, Or.inl ⟨rfl, h3⟩⟩
        unfold fX8_direction
        rw [e2, Option.bind_some, if_neg (by decide), f1', Option.bind_some, if_neg (by decide), h1, Option.bind_some]
      have cell : ∀ (b : Nat) (B : Int32), B = nI b → b ≤ 25 → chk (B + nI d) 143 (some (ρ.2.1 (B + nI d).toNatClampNeg)) = some (ρ.2.1 (b + d)) := by
        intro b B hB hb
        rw [hB, nI_add, chk_nI (by omega) (by omega), nI_clamp (by omega)]
      have row : ∀ (f : Nat → Int32), rowAt 6 f (nI d) = f d := fun f => rowAt_nI hd (by decide) f
      have hc : j = 0 ∨ j = 1 ∨ j = 2 ∨ j = 3 ∨ j = 4 ∨ j = 5 := by omega
      rcases hc with rfl | rfl | rfl | rfl | rfl | rfl
      · obtain ⟨x, a, b⟩ := greensNow_same (v := ((0 : Int32), ρ.2)) R0 X0 N
        refine key (b2i (bt x d)) ?_ ?_
        · show (fX8_greensNow N ((0 : Int32), ρ.2)).bind (fun r => some ((r >>> (nI d &&& 31)) &&& 1)) = _
          rw [b, Option.bind_some, bit_b2i x (by omega)]
        · unfold fX7_direction
          rw [e1]
          show (fX1_greensNow N γ.1).bind (fun r => (fX7_has N r (nI d)).bind fun q => if q = 0 then some (Sum.inr 0) else some (Sum.inr 1)) = _
          rw [a, Option.bind_some, X7_has_eq N x (by omega), Option.bind_some]
          cases bt x d
          · rw [if_pos b2i_f]; rfl
          · rw [if_neg b2i_t]; rfl
      · refine key (ρ.2.1 (13 + d)) (cell 13 13 rfl (by omega)) ?_
        unfold fX7_direction
        rw [e1]
        show some (Sum.inr (rowAt 6 γ.1.2.1 (nI d))) = _
        rw [row, X.1 d hd]
      · refine key (ρ.2.1 (7 + d)) (cell 7 7 rfl (by omega)) ?_
        unfold fX7_direction
        rw [e1]
        show some (Sum.inr (rowAt 6 γ.1.1.1 (nI d))) = _
        rw [row, hC d hd]
      · refine key (ρ.2.1 (19 + d)) (cell 19 19 rfl (by omega)) ?_
        unfold fX7_direction
        rw [e1]
        show some (Sum.inr (rowAt 6 γ.1.2.2.1 (nI d))) = _
        rw [row, X.2.1 d hd]
      · refine key (ρ.2.1 (25 + d)) (cell 25 25 rfl (by omega)) ?_
        unfold fX7_direction
        rw [e1]
        show some (Sum.inr (rowAt 6 γ.1.2.2.2.1 (nI d))) = _
        rw [row, X.2.2.1 d hd]
      · obtain ⟨M, m1, m2⟩ := X2_phasesWith_eq hP (N := N) (by omega) (show d < 32 by omega)
        obtain ⟨M', m1', m2'⟩ := X8_phasesWith_eq (v := ((0 : Int32), ρ.2)) hZ hN (show d < 32 by omega)
        have hM : M' = M := bt_ext (fun k _ => b2i_eq (m2' k) (m2 k))
        subst hM
        refine key M' ?_ ?_
        · show (fX8_phasesWith N ((0 : Int32), ρ.2) (nI d)).bind (fun r => some r) = _
          rw [m1']; rfl
        · unfold fX7_direction
          rw [e1]
          show (fX2_phasesWith N γ.1.1 (nI d)).bind (fun r => some (Sum.inr r)) = _
          rw [m1]; rfl
    · have f1' : fX8_in N x2 0 5 = some 0 := f1
      refine ⟨0, 1, ?_, Or.inr (Or.inl ⟨rfl, rfl, ?_⟩)⟩
      · unfold fX8_direction
        rw [e2, Option.bind_some, if_neg (by decide), f1', Option.bind_some, if_pos rfl]
      · unfold fX7_direction
        rw [e1, Option.bind_some]
        unfold onS
        dsimp only
        rw [if_neg (show ¬ x2 = 0 from f2 0 (by omega)), if_neg (show ¬ x2 = 1 from f2 1 (by omega)), if_neg (show ¬ x2 = 2 from f2 2 (by omega)), if_neg (show ¬ x2 = 3 from f2 3 (by omega)), if_neg (show ¬ x2 = 4 from f2 4 (by omega)), if_neg (show ¬ x2 = 5 from f2 5 (by omega))]
  · refine ⟨0, 1, ?_, Or.inr (Or.inl ⟨rfl, rfl, ?_⟩)⟩
    · unfold fX8_direction
      rw [e2, Option.bind_some, if_pos rfl]
    · unfold fX7_direction
      rw [e1]; rfl
end TD
