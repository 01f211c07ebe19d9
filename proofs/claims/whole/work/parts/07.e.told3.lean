/-! rule() alike -/
section TF
variable {γ : SX7} {ρ : SX8} {g : Gr} {ho : Nat → Nat} {ct s : Nat}
theorem rules_in (N : Nat) {n : Nat} (hn : n ≤ 8) (x : Int32) : (∃ r, r < n ∧ x = nI r ∧ fX8_in N x 0 (nI n - 1) = some 1) ∨ (fX8_in N x 0 (nI n - 1) = some 0 ∧ (x < 0 ∨ (¬ x < 0 ∧ ¬ x < nI n))) := by
  cases n with
  | zero =>
    refine Or.inr ?_
    unfold fX8_in
    by_cases h0 : x < 0
    · rw [if_pos h0]; exact ⟨rfl, Or.inl h0⟩
    · rw [if_neg h0]
      obtain ⟨d, d1, rfl⟩ := nI_of h0
      have h1 : nI 0 - 1 < nI d := Int32.lt_of_lt_of_le (show nI 0 - 1 < (0 : Int32) by decide) (nI_le (a := 0) (by omega) d1)
      rw [if_pos h1]
      exact ⟨rfl, Or.inr ⟨h0, fun z => by rw [nI_ltI (by omega) (by omega)] at z; omega⟩⟩
  | succ k =>
    rw [show nI (k + 1) - 1 = nI k by rw [Int32.sub_eq_add_neg]; exact nI_m1 k]
    rcases in_cases N (k := k) (by omega) x with ⟨j, hj, rfl, f1⟩ | ⟨f1, f2⟩
    · exact Or.inl ⟨j, by omega, rfl, f1⟩
    · refine Or.inr ⟨f1, ?_⟩
      by_cases h0 : x < 0
      · exact Or.inl h0
      · obtain ⟨d, d1, rfl⟩ := nI_of h0
        exact Or.inr ⟨h0, fun z => by
          rw [nI_ltI (by omega) (by omega)] at z
          exact f2 d (by omega) rfl⟩
theorem rule_same (R : RG γ ρ.2.1 g ho ct s) (X : RX γ.1 ρ.2.1 g) {N : Nat} (hN : 11 ≤ N) (x1 x2 x3 : Int32) : QSame0 ρ IOB IAE (fX7_rule N γ x1 x2 x3) (fX8_rule N ρ x1 x2 x3) := by
  have R0 : RG γ ((0 : Int32), ρ.2).2.1 g ho ct s := R
  have X0 : RX γ.1 ((0 : Int32), ρ.2).2.1 g := X
  rcases ph_cases R N x1 with ⟨p, hp, rfl, e1, e2⟩ | ⟨e1, e2⟩
  · obtain ⟨hP, hH, hZ, hZH, h4, hC, hA, hs, hs8⟩ := R
    have h8 := hP.1
    have hr4 := h4 p hp
    rcases rules_in N (show gR g p ≤ 8 by omega) x2 with ⟨r, hr, rfl, f1⟩ | ⟨f1, f2⟩
    · rcases in_cases N (k := 2) (by decide) x3 with ⟨j, hj, rfl, k1⟩ | ⟨k1, k2⟩
      · have k1' : fX8_in N (nI j) 0 2 = some 1 := k1
        have key : ∀ x, fX8_toldRule N ((0 : Int32), ρ.2) (nI p) (nI r) (nI j) = some x → fX7_rule N γ (nI p) (nI r) (nI j) = some (.inr x) → QSame0 ρ IOB IAE (fX7_rule N γ (nI p) (nI r) (nI j)) (fX8_rule N ρ (nI p) (nI r) (nI j)) := by
          intro x h1 h3
          refine ⟨x, 0, ?_, Or.inl ⟨rfl, h3⟩⟩
          unfold fX8_rule
          rw [e2, Option.bind_some, if_neg (by decide), X8_rules_eq hZ N hp, Option.bind_some, f1, Option.bind_some, if_neg (by decide), k1', Option.bind_some, if_neg (by decide), h1, Option.bind_some]
        have go : ∀ o, (if nI j = 0 then (fX2_goalOf N γ.1.1 (nI p) (nI r)).bind (fun r7 => some (Sum.inr r7)) else if nI j = 1 then (fX2_askersOf N γ.1.1 (nI p) (nI r)).bind (fun r10 => some (Sum.inr r10)) else if nI j = 2 then (fX1_waiting N γ.1).bind (fun r13 => (fX1_ruleHolds N γ.1 (nI p) (nI r) r13).bind fun r15 => if r15 = 0 then some (Sum.inr 0) else some (Sum.inr 1)) else some (Sum.inl IAE)) = o → fX7_rule N γ (nI p) (nI r) (nI j) = o := by
          intro o ho2
          unfold fX7_rule
          rw [e1, Option.bind_some]
          unfold onS
          dsimp only
          rw [if_neg (nI_pos (by omega)), plan_rc hP hp, if_pos (nI_lt hr (by omega))]
          exact ho2
        have hc : j = 0 ∨ j = 1 ∨ j = 2 := by omega
        rcases hc with rfl | rfl | rfl
        · refine key (nI (gO g p r)) ?_ (go _ ?_)
          · show (fX8_goal N ((0 : Int32), ρ.2) (nI p) (nI r)).bind (fun q => some q) = _
            rw [X8_goal_eq (v := ((0 : Int32), ρ.2)) hZ N hp hr]; rfl
          · rw [if_pos (by decide), X2_goalOf_eq hP N hp hr]; rfl
        · refine key (gA g p r) ?_ (go _ ?_)
          · show (fX8_askers N ((0 : Int32), ρ.2) (nI p) (nI r)).bind (fun q => some q) = _
            rw [X8_askers_eq (v := ((0 : Int32), ρ.2)) hZ N hp hr]; rfl
          · rw [if_neg (by decide), if_pos (by decide), X2_askersOf_eq hP N hp hr]; rfl
        · obtain ⟨x, a, b, -⟩ := waiting_same (v := ((0 : Int32), ρ.2)) X0 (N := N) (by omega)
          obtain ⟨c, c1, c2⟩ := holds_same (v := ((0 : Int32), ρ.2)) R0 X0 (N := N) (by omega) hp hr b
          refine key (b2i c) ?_ (go _ ?_)
          · show (fX8_holds N ((0 : Int32), ρ.2) (nI p) (nI r)).bind (fun q => if q = 0 then some 0 else some 1) = _
            rw [c2, Option.bind_some]
            cases c
            · rw [if_pos b2i_f]; rfl
            · rw [if_neg b2i_t]; rfl
          · rw [if_neg (by decide), if_neg (by decide), if_pos (by decide), a, Option.bind_some, c1, Option.bind_some]
            cases c
            · rw [if_pos b2i_f]; rfl
            · rw [if_neg b2i_t]; rfl
      · have k1' : fX8_in N x3 0 2 = some 0 := k1
        refine ⟨0, 2, ?_, Or.inr (Or.inr ⟨rfl, rfl, ?_⟩)⟩
        · unfold fX8_rule
          rw [e2, Option.bind_some, if_neg (by decide), X8_rules_eq hZ N hp, Option.bind_some, f1, Option.bind_some, if_neg (by decide), k1', Option.bind_some, if_pos rfl]
        · unfold fX7_rule
          rw [e1, Option.bind_some]
          unfold onS
          dsimp only
          rw [if_neg (nI_pos (by omega)), plan_rc hP hp, if_pos (nI_lt hr (by omega)), if_neg (show ¬ x3 = 0 from k2 0 (by omega)), if_neg (show ¬ x3 = 1 from k2 1 (by omega)), if_neg (show ¬ x3 = 2 from k2 2 (by omega))]
    · refine ⟨0, 1, ?_, Or.inr (Or.inl ⟨rfl, rfl, ?_⟩)⟩
      · unfold fX8_rule
        rw [e2, Option.bind_some, if_neg (by decide), X8_rules_eq hZ N hp, Option.bind_some, f1, Option.bind_some, if_pos rfl]
      · unfold fX7_rule
        rw [e1, Option.bind_some]
        unfold onS
        dsimp only
        rcases f2 with f2 | ⟨f2, f3⟩
        · rw [if_pos f2]
        · rw [if_neg f2, plan_rc hP hp, if_neg f3]
  · refine ⟨0, 1, ?_, Or.inr (Or.inl ⟨rfl, rfl, ?_⟩)⟩
    · unfold fX8_rule
      rw [e2, Option.bind_some, if_pos rfl]
    · unfold fX7_rule
      rw [e1]; rfl
end TF
