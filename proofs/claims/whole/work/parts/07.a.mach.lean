/-! the machine and its row: the relation, and what both tell of the present -/
/-- the rest of a machine against a row of 143 -/
def RX (m : SX1) (z : Nat → Int32) (g : Gr) : Prop := (∀ d, d < 6 → m.2.1 d = z (13 + d)) ∧ (∀ d, d < 6 → m.2.2.1 d = z (19 + d)) ∧ (∀ d, d < 6 → m.2.2.2.1 d = z (25 + d)) ∧ (∀ p, p < 8 → m.2.2.2.2.1 p = if p < gN g then z (33 + 14 * p) else 0) ∧ m.2.2.2.2.2.2.2.2.1 = z 4 ∧ m.2.2.2.2.2.2.2.2.2 = z 6 ∧ ((z 4 = 0 ∧ m.2.2.2.2.2.2.2.1 = z 3) ∨ ∃ l, 1 ≤ l ∧ l ≤ 5 ∧ z 4 = nI l ∧ ∃ p, p < gN g ∧ m.2.2.2.2.2.2.1 = nI p ∧ z 5 = nI p) ∧ (∀ p, p < gN g → ∀ q, bt (gG g p) q = true → q < 6) ∧ (∀ p, p < gN g → ∀ r, r < gR g p → (∀ q, bt (gA g p r) q = true → q < 6) ∧ ¬ gO g p r = p) ∧ (∀ d, d < 6 → ∀ q, bt (z (7 + d)) q = true → q < 6) ∧ (gN g = 0 → m.1.2.1 0 = 0)
theorem tn4 : (4 : Int32).toNatClampNeg = 4 := nI_clamp (n := 4) (by decide)
theorem tn5 : (5 : Int32).toNatClampNeg = 5 := nI_clamp (n := 5) (by decide)
theorem chk4 {α : Type} (k : Option α) : chk 4 143 k = k := chk_nI (i := 4) (by decide) (by decide) k
theorem chk5 {α : Type} (k : Option α) : chk 5 143 k = k := chk_nI (i := 5) (by decide) (by decide) k
section MA
variable {γ : SX7} {v : SX8} {g : Gr} {ho : Nat → Nat} {ct s : Nat}
theorem clear_same (X : RX γ.1 v.2.1 g) (N : Nat) : ∃ b : Bool, fX1_isClearing N γ.1 = some (b2i b) ∧ fX8_isClearing N v = some (b2i b) ∧ ((b = false ∧ v.2.1 4 = 0 ∧ γ.1.2.2.2.2.2.2.2.1 = v.2.1 3) ∨ (b = true ∧ ∃ l, 1 ≤ l ∧ l ≤ 5 ∧ v.2.1 4 = nI l ∧ ∃ p, p < gN g ∧ γ.1.2.2.2.2.2.2.1 = nI p ∧ v.2.1 5 = nI p)) := by
  obtain ⟨-, -, -, -, x4, -, x7, -⟩ := X
  unfold fX1_isClearing fX8_isClearing
  rw [chk4, tn4, x4]
  rcases x7 with ⟨z0, z1⟩ | ⟨l, l1, l2, l3, l4⟩
  · rw [z0, if_pos (by decide)]
    exact ⟨false, rfl, rfl, Or.inl ⟨rfl, rfl, z1⟩⟩
  · have hn : ¬ v.2.1 4 ≤ 0 := fun z => by
      rw [l3] at z
      have z2 : nI l ≤ nI 0 := z
      rw [nI_leI (by omega) (by omega)] at z2; omega
    rw [if_neg hn]
    exact ⟨true, rfl, rfl, Or.inr ⟨rfl, l, l1, l2, l3, l4⟩⟩
theorem greensNow_same (R : RG γ v.2.1 g ho ct s) (X : RX γ.1 v.2.1 g) (N : Nat) : ∃ x, fX1_greensNow N γ.1 = some x ∧ fX8_greensNow N v = some x := by
  obtain ⟨hP, hH, hZ, hZH, h4, hC, hA, hs, hs8⟩ := R
  have h8 := hP.1
  obtain ⟨b, b1, b2, b3⟩ := clear_same X N
  unfold fX1_greensNow fX8_greensNow
  rw [b1, Option.bind_some, chk2, tn2]
  rcases hA with ⟨n0, z2, s0⟩ | ⟨sn, z2⟩
  · rw [if_pos z2]
    rcases b3 with ⟨rfl, -⟩ | ⟨-, l, -, -, -, p, p1, -⟩
    · rw [if_pos b2i_f, hs, rowAt_nI (by omega) (by decide), s0, X.2.2.2.2.2.2.2.2.2.2 n0]
      exact ⟨0, rfl, rfl⟩
    · omega
  · rw [if_neg (show ¬ v.2.1 2 = -1 from fun z => by rw [z2] at z; exact nI_pos (show s < 2 ^ 31 by omega) (by rw [z]; decide)), b2, Option.bind_some, hs, plan_gr hP sn, z2]
    rcases b3 with ⟨rfl, -⟩ | ⟨rfl, l, -, -, -, p, p1, p2, p3⟩
    · rw [if_pos b2i_f, if_pos b2i_f, chk2, X8_greens_eq hZ N sn]
      exact ⟨_, rfl, rfl⟩
    · rw [if_neg b2i_t, if_neg b2i_t, chk2, X8_greens_eq hZ N sn, Option.bind_some, chk5, tn5, p3, X8_greens_eq hZ N p1, p2, plan_gr hP p1]
      exact ⟨_, rfl, rfl⟩
theorem waiting_same (X : RX γ.1 v.2.1 g) {N : Nat} (hN : 9 ≤ N) : ∃ x, fX1_waiting N γ.1 = some x ∧ fX8_waiting N v = some x ∧ ∀ q, bt x q = true ↔ (q < 6 ∧ ¬ v.2.1 (13 + q) = -1) := by
  obtain ⟨x1, -⟩ := X
  obtain ⟨M, a1, a2⟩ := fill_eq (F := fX1_waiting_L4 N γ.1) (n := 6) (P := fun q => ¬ v.2.1 (13 + q) = -1) (by omega) (fun f m => by rw [fX1_waiting_L4, if_pos (by decide)]) (fun i f m hi => by
    rw [fX1_waiting_L4, if_neg (le6 hi), rowAt_nI hi (by decide), x1 i hi, nI_1]
    by_cases hx : v.2.1 (13 + i) = -1
    · rw [if_pos hx]
      exact ⟨false, ⟨fun z => (by cases z), fun z => absurd hx z⟩, by rw [if_neg (by decide), Int32.or_zero]⟩
    · rw [if_neg hx]
      exact ⟨true, ⟨fun _ => hx, fun _ => rfl⟩, by rw [if_pos rfl]⟩) (fuel := N) (by omega)
  obtain ⟨M', a1', a2'⟩ := fill_eq (F := fX8_waiting_L4 N v) (n := 6) (P := fun q => ¬ v.2.1 (13 + q) = -1) (by omega) (fun f m => by rw [fX8_waiting_L4, if_pos (by decide)]) (fun i f m hi => by
    rw [fX8_waiting_L4, if_neg (le6 hi), show (13 : Int32) = nI 13 from rfl, nI_add, chk_nI (by omega) (by omega), nI_clamp (by omega), nI_1]
    by_cases hx : v.2.1 (13 + i) = -1
    · rw [if_pos hx]
      exact ⟨false, ⟨fun z => (by cases z), fun z => absurd hx z⟩, by rw [if_neg (by decide)]⟩
    · rw [if_neg hx]
      exact ⟨true, ⟨fun _ => hx, fun _ => rfl⟩, by rw [if_pos rfl]⟩) (fuel := N) (by omega)
  have hM : M' = M := bt_ext (fun k _ => b2i_eq (a2' k) (a2 k))
  subst hM
  exact ⟨M', by unfold fX1_waiting; rw [a1]; rfl, by unfold fX8_waiting; rw [a1']; rfl, a2⟩
theorem holds_same (R : RG γ v.2.1 g ho ct s) (X : RX γ.1 v.2.1 g) {N : Nat} (hN : 9 ≤ N) {p r : Nat} (hp : p < gN g) (hr : r < gR g p) {x : Int32} (hx : fX8_waiting N v = some x) : ∃ b : Bool, fX1_ruleHolds N γ.1 (nI p) (nI r) x = some (b2i b) ∧ fX8_holds N v (nI p) (nI r) = some (b2i b) := by
  obtain ⟨hP, hH, hZ, hZH, h4, hC, hA, hs, hs8⟩ := R
  unfold fX1_ruleHolds fX8_holds
  rw [X2_askersOf_eq hP N hp hr, Option.bind_some, X8_askers_eq hZ N hp hr, Option.bind_some]
  by_cases h0 : gA g p r = 0
  · rw [if_pos h0, if_pos h0]; exact ⟨true, rfl, rfl⟩
  · rw [if_neg h0, if_neg h0, Option.bind_some, hx, Option.bind_some]
    by_cases h1 : gA g p r &&& x = 0
    · rw [if_pos h1]; exact ⟨false, rfl, rfl⟩
    · rw [if_neg h1]; exact ⟨true, rfl, rfl⟩
end MA
