/-! more edits -/
theorem drop_mach {m : SX1} {z : Nat → Int32} {n p k : Nat} (M : MR m z n) (hpn : p < n) (hk : k < 4) (hr : z (34 + 14 * p) = nI (k + 1)) : ∃ v' g, (∀ N, fX2_removeRule N m.1 (nI p) = some (g, v')) ∧ z (35 + 14 * p + 2 * k) = g ∧ MR (v', m.2) (upd (upd (upd z (34 + 14 * p) (nI k)) (35 + 14 * p + 2 * k) 0) (36 + 14 * p + 2 * k) 0) n := by
  obtain ⟨⟨n8, n1, n2, ct, n3, n4, n5⟩, ⟨a1, a2, a3, a4⟩, hd, hp, har, h0⟩ := M
  have h8 : p < 8 := by omega
  obtain ⟨b1, b2, b3, b4, rc', c1, c2, c3, c4⟩ := hp p hpn
  have hrr : rc' = k + 1 := by
    have : nI rc' = nI (k + 1) := c3.symm.trans hr
    exact (nI_eq (by omega) (by omega)).mp this
  subst hrr
  obtain ⟨⟨g, g1, g2, g3, g4⟩, -, -⟩ := c4 k (by omega)
  refine ⟨(m.1.1, m.1.2.1, m.1.2.2.1, upd m.1.2.2.2.1 p (nI k), m.1.2.2.2.2), nI g, fun N => ?_, g4, ?_⟩
  · unfold fX2_removeRule fX2_goalOf
    rw [rowAt_nI h8 (by decide), c2, nI_pred, rowPut_nI h8 (by decide), cell4, rowAt_nI (by omega) (by decide), g3]
    rfl
  · have zz : ∀ x, ¬ x = 34 + 14 * p → ¬ x = 35 + 14 * p + 2 * k → ¬ x = 36 + 14 * p + 2 * k → upd (upd (upd z (34 + 14 * p) (nI k)) (35 + 14 * p + 2 * k) 0) (36 + 14 * p + 2 * k) 0 x = z x := fun x d1 d2 d3 => by rw [upd_ne d3, upd_ne d2, upd_ne d1]
    refine ⟨⟨n8, n1, by rw [zz 0 (by omega) (by omega) (by omega), n2], ct, n3, n4, by rw [zz 1 (by omega) (by omega) (by omega), n5]⟩, ⟨by rw [zz 2 (by omega) (by omega) (by omega)]; exact a1, by rw [zz 4 (by omega) (by omega) (by omega)]; exact a2, by rw [zz 6 (by omega) (by omega) (by omega)]; exact a3, by rw [zz 4 (by omega) (by omega) (by omega), zz 3 (by omega) (by omega) (by omega), zz 5 (by omega) (by omega) (by omega)]; exact a4⟩, fun d hd6 => (hd d hd6).congr rfl rfl rfl rfl (zz _ (by omega) (by omega) (by omega)) (zz _ (by omega) (by omega) (by omega)) (zz _ (by omega) (by omega) (by omega)) (zz _ (by omega) (by omega) (by omega)), fun p' hpn' => ?_, har, h0⟩
    by_cases hpe : p' = p
    · subst hpe
      refine ⟨by rw [zz _ (by omega) (by omega) (by omega)]; exact b1, by rw [zz _ (by omega) (by omega) (by omega)]; exact b2, by rw [zz _ (by omega) (by omega) (by omega)]; exact b3, by rw [zz _ (by omega) (by omega) (by omega)]; exact b4, k, by omega, upd_same, by rw [upd_ne (by omega), upd_ne (by omega), upd_same], fun r hr' => ?_⟩
      rw [zz (35 + 14 * p' + 2 * r) (by omega) (by omega) (by omega), zz (36 + 14 * p' + 2 * r) (by omega) (by omega) (by omega)]
      exact c4 r (by omega)
    · exact (hp p' hpn').congr (Nat.le_refl _) ⟨rfl, rfl, upd_ne hpe, fun r hr4 => ⟨rfl, rfl⟩⟩ rfl (fun w hw => zz _ (by omega) (by omega) (by omega))
theorem change_mach {m : SX1} {z : Nat → Int32} {n p h : Nat} {G : Int32} (M : MR m z n) (hpn : p < n) (h1 : 1 ≤ h) (h9 : h ≤ 9) (hG : ∀ q, bt G q = true → q < 6) : m.1.2.1 p = z (31 + 14 * p) ∧ MR ((m.1.1, upd m.1.2.1 p G, upd m.1.2.2.1 p (nI h), m.1.2.2.2), m.2) (upd (upd z (31 + 14 * p) G) (32 + 14 * p) (nI h)) n := by
  obtain ⟨⟨n8, n1, n2, ct, n3, n4, n5⟩, ⟨a1, a2, a3, a4⟩, hd, hp, har, h0⟩ := M
  obtain ⟨b1, b2, b3, b4, rc', c1, c2, c3, c4⟩ := hp p hpn
  have zz : ∀ x, ¬ x = 31 + 14 * p → ¬ x = 32 + 14 * p → upd (upd z (31 + 14 * p) G) (32 + 14 * p) (nI h) x = z x := fun x d1 d2 => by rw [upd_ne d2, upd_ne d1]
  refine ⟨b1, ⟨n8, n1, by rw [zz 0 (by omega) (by omega), n2], ct, n3, n4, by rw [zz 1 (by omega) (by omega), n5]⟩, ⟨by rw [zz 2 (by omega) (by omega)]; exact a1, by rw [zz 4 (by omega) (by omega)]; exact a2, by rw [zz 6 (by omega) (by omega)]; exact a3, by rw [zz 4 (by omega) (by omega), zz 3 (by omega) (by omega), zz 5 (by omega) (by omega)]; exact a4⟩, fun d hd6 => (hd d hd6).congr rfl rfl rfl rfl (zz _ (by omega) (by omega)) (zz _ (by omega) (by omega)) (zz _ (by omega) (by omega)) (zz _ (by omega) (by omega)), fun p' hpn' => ?_, har, fun q => by omega⟩
  by_cases hpe : p' = p
  · subst hpe
    have zg : upd (upd z (31 + 14 * p') G) (32 + 14 * p') (nI h) (31 + 14 * p') = G := by rw [upd_ne (by omega), upd_same]
    refine ⟨upd_same.trans zg.symm, by rw [zg]; exact hG, ⟨h, h1, h9, upd_same, upd_same⟩, by rw [zz _ (by omega) (by omega)]; exact b4, rc', c1, c2, by rw [zz _ (by omega) (by omega)]; exact c3, fun r hr' => ?_⟩
    rw [zz (35 + 14 * p' + 2 * r) (by omega) (by omega), zz (36 + 14 * p' + 2 * r) (by omega) (by omega)]
    exact c4 r hr'
  · exact (hp p' hpn').congr (Nat.le_refl _) ⟨upd_ne hpe, upd_ne hpe, rfl, fun r hr4 => ⟨rfl, rfl⟩⟩ rfl (fun w hw => zz _ (by omega) (by omega))
theorem set_mach {m : SX1} {z : Nat → Int32} {n c : Nat} (M : MR m z n) (hc : c ≤ 5) : m.1.2.2.2.2.2.2.2 = z 1 ∧ MR ((m.1.1, m.1.2.1, m.1.2.2.1, m.1.2.2.2.1, m.1.2.2.2.2.1, m.1.2.2.2.2.2.1, m.1.2.2.2.2.2.2.1, nI c), m.2) (upd z 1 (nI c)) n := by
  obtain ⟨⟨n8, n1, n2, ct, n3, n4, n5⟩, ⟨a1, a2, a3, a4⟩, hd, hp, har, h0⟩ := M
  have zz : ∀ x, ¬ x = 1 → upd z 1 (nI c) x = z x := fun x d1 => upd_ne d1
  exact ⟨n4.trans n5.symm, ⟨n8, n1, by rw [zz 0 (by omega), n2], c, hc, rfl, upd_same⟩, ⟨by rw [zz 2 (by omega)]; exact a1, by rw [zz 4 (by omega)]; exact a2, by rw [zz 6 (by omega)]; exact a3, by rw [zz 4 (by omega), zz 3 (by omega), zz 5 (by omega)]; exact a4⟩, fun d hd6 => (hd d hd6).congr rfl rfl rfl rfl (zz _ (by omega)) (zz _ (by omega)) (zz _ (by omega)) (zz _ (by omega)), fun p' hpn' => (hp p' hpn').congr (Nat.le_refl _) ⟨rfl, rfl, rfl, fun r hr4 => ⟨rfl, rfl⟩⟩ rfl (fun w hw => zz _ (by omega)), har, h0⟩
/-- the text's buffers -/
def TR (x : SX6) (bu : Nat → Int32) (ty : Int32) : Prop := ∃ len, len ≤ 60 ∧ x.2.2 = nI len ∧ ty = nI len ∧ ∀ i, i < len → x.1 i = bu i ∧ ∃ c, 33 ≤ c ∧ c ≤ 126 ∧ bu i = nI c
/-- the relation of the two objects -/
def SR (γ : SX7) (ρ : SX8) : Prop := (∃ n, MR γ.1 ρ.2.1 n) ∧ HiS γ.2.1 ρ.2.2.2.1 ρ.2.2.1 ∧ TR γ.2.2.1 ρ.2.2.2.2.1 ρ.2.2.2.2.2.1
abbrev ISE : String := "java/lang/IllegalStateException"
/-- a call that both answer alike: a value, or the reference's number of the class's exception -/
def CSame (Es : List String) (o7 : Option ((String × SX7) ⊕ (Int32 × SX7))) (o8 : Option (Int32 × SX8)) : Prop := ∃ x ρ', o8 = some (x, ρ') ∧ ((ρ'.1 = 0 ∧ ∃ γ', o7 = some (.inr (x, γ')) ∧ SR γ' ρ') ∨ ∃ i E γ', Es[i]? = some E ∧ ρ'.1 = nI (i + 1) ∧ o7 = some (.inl (E, γ')) ∧ SR γ' ρ')
theorem CSame.of {Es : List String} {o7 : Option ((String × SX7) ⊕ (Int32 × SX7))} {o8 : Option (Int32 × SX8)} {x : Int32} {ρ' : SX8} {γ' : SX7} (h8 : o8 = some (x, ρ')) (h0 : ρ'.1 = 0) (h7 : o7 = some (.inr (x, γ'))) (h : SR γ' ρ') : CSame Es o7 o8 := ⟨x, ρ', h8, Or.inl ⟨h0, γ', h7, h⟩⟩
theorem CSame.thr {Es : List String} {o7 : Option ((String × SX7) ⊕ (Int32 × SX7))} {o8 : Option (Int32 × SX8)} {x : Int32} {ρ' : SX8} {γ' : SX7} (i : Nat) {E : String} (hE : Es[i]? = some E) (h8 : o8 = some (x, ρ')) (h0 : ρ'.1 = nI (i + 1)) (h7 : o7 = some (.inl (E, γ'))) (h : SR γ' ρ') : CSame Es o7 o8 := ⟨x, ρ', h8, Or.inr ⟨i, E, γ', hE, h0, h7, h⟩⟩
theorem mask_bits {j : Nat} (h : j ≤ 63) : ∀ q, bt (nI j) q = true → q < 6 := by
  intro q hq
  by_cases h32 : q < 32
  · have : ∀ j : Fin 64, ∀ q : Fin 32, bt (nI j.val) q.val = true → q.val < 6 := by decide +kernel
    exact this ⟨j, by omega⟩ ⟨q, h32⟩ hq
  · rw [bt_ge (by omega)] at hq; cases hq
theorem mask_cases (N : Nat) (x : Int32) : ((∀ q, bt x q = true → q < 6) ∧ fX7_checkMask N x = some (.inr ()) ∧ fX8_in N x 0 63 = some 1) ∨ (fX7_checkMask N x = some (.inl IAE) ∧ fX8_in N x 0 63 = some 0) := by
  unfold fX7_checkMask fX8_in
  by_cases h0 : x < 0
  · rw [if_pos h0, if_pos h0]; exact Or.inr ⟨rfl, rfl⟩
  · rw [if_neg h0, if_neg h0]
    obtain ⟨d, d1, rfl⟩ := nI_of h0
    by_cases hd : d ≤ 63
    · rw [if_pos (show nI d ≤ (63 : Int32) from nI_le (b := 63) hd (by omega)), if_neg (fun q => by have q2 : nI 63 < nI d := q; rw [nI_ltI (by omega) (by omega)] at q2; omega)]
      exact Or.inl ⟨mask_bits hd, rfl, rfl⟩
    · rw [if_neg (fun q => by have q2 : nI d ≤ nI 63 := q; rw [nI_leI (by omega) (by omega)] at q2; omega), if_pos (show (63 : Int32) < nI d from nI_lt (a := 63) (by omega) (by omega))]
      exact Or.inr ⟨rfl, rfl⟩
theorem in_lh (N : Nat) {a b : Nat} (ha : a < 2 ^ 31) (hb : b < 2 ^ 31) (x : Int32) : (∃ j, a ≤ j ∧ j ≤ b ∧ x = nI j ∧ fX8_in N x (nI a) (nI b) = some 1 ∧ ¬ x < nI a ∧ x ≤ nI b) ∨ (fX8_in N x (nI a) (nI b) = some 0 ∧ (x < nI a ∨ (¬ x < nI a ∧ ¬ x ≤ nI b))) := by
  unfold fX8_in
  by_cases h0 : x < nI a
  · rw [if_pos h0]; exact Or.inr ⟨rfl, Or.inl h0⟩
  · rw [if_neg h0]
    by_cases h1 : nI b < x
    · rw [if_pos h1]; exact Or.inr ⟨rfl, Or.inr ⟨h0, Int32.not_le.mpr h1⟩⟩
    · rw [if_neg h1]
      have h2 := Int32.not_lt.mp h1
      have hn : ¬ x < 0 := fun q => h0 (Int32.lt_of_lt_of_le q (nI_pos' ha))
      obtain ⟨d, d1, rfl⟩ := nI_of hn
      refine Or.inl ⟨d, ?_, ?_, rfl, rfl, h0, h2⟩
      · rw [nI_ltI (by omega) (by omega)] at h0; omega
      · rw [nI_leI (by omega) (by omega)] at h2; exact h2
theorem hold_cases (N : Nat) (x : Int32) : (∃ h, 1 ≤ h ∧ h ≤ 9 ∧ x = nI h ∧ fX7_checkHold N x = some (.inr ()) ∧ fX8_in N x 1 9 = some 1) ∨ (fX7_checkHold N x = some (.inl IAE) ∧ fX8_in N x 1 9 = some 0) := by
  unfold fX7_checkHold
  rcases in_lh N (a := 1) (b := 9) (by decide) (by decide) x with ⟨j, j1, j2, j3, e1, e2, e3⟩ | ⟨e1, e2⟩
  · exact Or.inl ⟨j, j1, j2, j3, by rw [if_neg (show ¬ x < 1 from e2), if_pos (show x ≤ 9 from e3)], e1⟩
  · refine Or.inr ⟨?_, e1⟩
    rcases e2 with e2 | ⟨e2, e3⟩
    · rw [if_pos (show x < 1 from e2)]
    · rw [if_neg (show ¬ x < 1 from e2), if_neg (show ¬ x ≤ 9 from e3)]
