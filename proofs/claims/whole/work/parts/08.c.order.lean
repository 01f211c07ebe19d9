/-! one order read by the reference, and what the class's reader knows then -/
/-- an order of the row of orders is the one that the reader has read last -/
def tz_ord (o : Nat → Int32) (j : Nat) (σ : SX4) : Prop := o (4 * j) = σ.2.1 ∧ ((σ.2.1 = 112 ∧ o (4 * j + 1) = σ.2.2.2.2.1 ∧ o (4 * j + 2) = σ.2.2.2.1 ∧ (∀ b, bt σ.2.2.2.2.1 b = true → b < 6) ∧ ∃ h, 1 ≤ h ∧ h ≤ 9 ∧ σ.2.2.2.1 = nI h) ∨ (σ.2.1 = 114 ∧ o (4 * j + 1) = σ.2.2.1 ∧ o (4 * j + 2) = σ.2.2.2.1 ∧ o (4 * j + 3) = σ.2.2.2.2.1 ∧ (∀ b, bt σ.2.2.2.2.1 b = true → b < 6)) ∨ (σ.2.1 = 120 ∧ ∃ a b, a < b ∧ b ≤ 5 ∧ o (4 * j + 1) = nI a ∧ σ.2.2.1 = nI a ∧ o (4 * j + 2) = nI b ∧ σ.2.2.2.1 = nI b))
/-- a text may end behind i characters, and goes on with ';' alone -/
def tz_fin (c : Nat → Int32) (len : Nat) (σ : SX4) (i : Nat) : Prop := (σ.1 = 6 ∨ σ.1 = 8 ∨ σ.1 = 11) ∧ (i < len → ¬ c i = 59 → ∃ σ', fX4_take 0 σ (c i) = some (0, σ'))
def tz_res (c : Nat → Int32) (len : Nat) (σ0 : SX4) (j lo st : Nat) (o : Nat → Int32) (i : Nat) (w : Int32) : Prop := (∃ e, e ≤ 60 ∧ w = nI e ∧ tz_bad c len σ0 e) ∨ (w = -1 ∧ lo ≤ i ∧ i ≤ len ∧ (∀ x, st ≤ x → x < i → ¬ c x = 59) ∧ ∃ σ, tz_rdr c σ0 i = some σ ∧ tz_fin c len σ i ∧ tz_ord o j σ)
theorem tz_res.back {c : Nat → Int32} {len : Nat} {σ0 : SX4} {j lo st : Nat} {o : Nat → Int32} {i : Nat} {w : Int32} (h : tz_res c len σ0 j lo (st + 1) o i w) (h59 : ¬ c st = 59) : tz_res c len σ0 j lo st o i w := by
  rcases h with h | ⟨h1, h2, h3, h4, h5⟩
  · exact Or.inl h
  · refine Or.inr ⟨h1, h2, h3, fun x x1 x2 => ?_, h5⟩
    by_cases hx : x = st
    · rw [hx]; exact h59
    · exact h4 x (by omega) x2
section TO
variable {t kk om w : Int32} {z S c o : Nat → Int32} {len i j : Nat} {q : Q8} {σ0 : SX4}
theorem tz_to (k : Nat) : nI (4 * j) + nI k = nI (4 * j + k) := nI_add _ _
theorem tz_ruleT_F (N : Nat) (hl : len ≤ 60) (hi : i < 2 ^ 31) (hj : j ≤ 15) (hw : ¬ w = -1) : ∃ o', tz_ruleT N (t, z, S, kk, c, nI len, o, om, nI i, w, q) (nI (4 * j)) = some (t, z, S, kk, c, nI len, o', om, nI i, w, q) ∧ ∀ x, x < 4 * j → o' x = o x := by
  unfold tz_ruleT
  rw [tz_digitF N hl hi hw, Option.bind_some, show (2 : Int32) = nI 2 from rfl, show (3 : Int32) = nI 3 from rfl, tz_to, tz_to, chk_nI (by omega) (by decide), nI_clamp (by omega)]
  unfold nmd
  dsimp only
  rw [chk_nI (by omega) (by decide), nI_clamp (by omega), if_neg hw]
  exact ⟨_, rfl, fun x hx => by rw [upd_ne (by omega), upd_ne (by omega)]⟩
theorem tz_ruleT_ok {N : Nat} (hN : 7 ≤ N) (hl : len ≤ 60) (hi : i ≤ len) (hj : j ≤ 15) {f s : Int32} (hr : tz_rdr c σ0 i = some (5, 114, f, s, 0, 0)) (ho : o (4 * j) = 114) (ho1 : o (4 * j + 1) = f) : ∃ o' i' w', tz_ruleT N (t, z, S, kk, c, nI len, o, om, nI i, -1, q) (nI (4 * j)) = some (t, z, S, kk, c, nI len, o', om, nI i', w', q) ∧ (∀ x, x < 4 * j → o' x = o x) ∧ tz_res c len σ0 j (i + 1) i o' i' w' := by
  unfold tz_ruleT
  rw [tz_digit N hl (by omega), Option.bind_some, show (2 : Int32) = nI 2 from rfl, show (3 : Int32) = nI 3 from rfl, tz_to, tz_to, chk_nI (by omega) (by decide), nI_clamp (by omega)]
  unfold nmd
  dsimp only
  rw [chk_nI (by omega) (by decide), nI_clamp (by omega)]
  rcases tz_step (P := fun x => tz_inb (x - 48) 0 7) (g := fun x => (6, 114, f, x - 48, 0, 0)) hr hi (tz_ce (by decide) (by decide) (by decide) _) (fun x => tz_take_5 (114, f, s, 0, 0) x) (tz_inb_end (a := 0) (by decide) 7) (tz_inb_semi 0 (b := 7) (by decide)) with ⟨p1, p2, p3, p4, p5⟩ | ⟨p1, p2⟩
  · have p1' : tz_inb (tz_lt c len i - 48) 0 7 = true := p1
    rw [p1', if_pos rfl, if_pos rfl, tz_letter N hl (by omega), Option.bind_some]
    by_cases h63 : tz_lt c len (i + 1) = 63
    · have hl1 : i + 1 < len := by
        apply Decidable.byContradiction
        intro hl2
        unfold tz_lt at h63
        rw [if_neg hl2] at h63
        exact absurd h63 (by decide)
      have ec : tz_lt c len (i + 1) = c (i + 1) := by unfold tz_lt; rw [if_pos hl1]
      have c63 : c (i + 1) = 63 := ec.symm.trans h63
      have t6 := tz_take_6 (114, f, tz_lt c len i - 48, 0, 0) (x := c (i + 1)) (by rw [c63]; decide)
      rw [decide_eq_true c63, if_pos rfl] at t6
      have hr2 := tz_next p5 t6
      obtain ⟨i', ms', a', e', g1, g2, g3, g4, g5, g6, g7, g8, g9⟩ := tz_dirs (t := t) (z := z) (S := S) (kk := kk) (om := om) (o := upd (upd o (4 * j + 2) (tz_lt c len i - 48)) (4 * j + 3) 0) (q := q) hN hl (i := i + 1 + 1) (nx := 8) (by omega) (fun r x hx _ _ => by rw [tz_take_7, hx, if_pos rfl]; rfl) (fun r x hx _ h59 => by rw [tz_take_8 r h59, hx, if_pos rfl]; rfl) hr2
      rw [if_pos h63, nI_1, g1, Option.bind_some]
      dsimp only
      rw [upd_same, chk_nI (show 4 * j + 3 < 68 by omega) (by decide), chk_nI (show 4 * j + 3 < 68 by omega) (by decide)]
      by_cases hz : ms' = 0
      · rw [if_pos hz, tz_wants, Option.bind_some, if_pos rfl]
        refine ⟨_, _, _, rfl, fun x hx => by rw [upd_ne (by omega), upd_ne (by omega), upd_ne (by omega)], Or.inl ⟨i', by omega, rfl, ?_⟩⟩
        have he : e' = 7 := by
          rcases g8 with ⟨-, y2, -⟩ | ⟨-, -, y3⟩
          · exact y2
          · exact absurd hz y3
        subst he
        by_cases hl3 : i' < len
        · refine Or.inl ⟨hl3, _, (7, 114, f, tz_lt c len i - 48, ms', nI a'), g5, ?_⟩
          have e3 : tz_lt c len i' = c i' := by unfold tz_lt; rw [if_pos hl3]
          rw [e3] at g7
          rw [tz_take_7, g7]
          rfl
        · have hi2 : i' = len := by omega
          subst hi2
          exact Or.inr ⟨rfl, _, g5, tz_ce (by decide) (by decide) (by decide) _⟩
      · rw [if_neg hz]
        have he : e' = 8 := by
          rcases g8 with ⟨-, -, y3⟩ | ⟨-, y2, -⟩
          · exact absurd y3 hz
          · exact y2
        subst he
        refine ⟨_, _, _, rfl, fun x hx => by rw [upd_ne (by omega), upd_ne (by omega), upd_ne (by omega)], Or.inr ⟨rfl, by omega, g3, fun x x1 x2 => ?_, _, g5, ⟨Or.inr (Or.inl rfl), fun hl3 h59 => ?_⟩, ?_⟩⟩
        · by_cases hx : x = i
          · rw [hx]; exact p4
          · by_cases hx2 : x = i + 1
            · rw [hx2, c63]; decide
            · exact g4 x (by omega) x2
        · have e3 : tz_lt c len i' = c i' := by unfold tz_lt; rw [if_pos hl3]
          rw [e3] at g7
          refine ⟨(8, 114, f, tz_lt c len i - 48, ms', nI a'), ?_⟩
          rw [tz_take_8 _ h59, g7]; rfl
        · refine ⟨?_, Or.inr (Or.inl ⟨rfl, ?_, ?_, ?_, g9⟩)⟩
          · rw [upd_ne (by omega), upd_ne (by omega), upd_ne (by omega)]; exact ho
          · rw [upd_ne (by omega), upd_ne (by omega), upd_ne (by omega)]; exact ho1
          · rw [upd_ne (by omega), upd_ne (by omega), upd_same]
          · rw [upd_same]
    · rw [if_neg h63]
      refine ⟨_, _, _, rfl, fun x hx => by rw [upd_ne (by omega), upd_ne (by omega)], Or.inr ⟨rfl, Nat.le_refl _, by omega, fun x x1 x2 => ?_, _, p5, ⟨Or.inl rfl, fun hl3 h59 => ?_⟩, ?_⟩⟩
      · have hx : x = i := by omega
        rw [hx]; exact p4
      · have e3 : tz_lt c len (i + 1) = c (i + 1) := by unfold tz_lt; rw [if_pos hl3]
        rw [e3] at h63
        refine ⟨(6, 114, f, tz_lt c len i - 48, 0, 0), ?_⟩
        have t6 := tz_take_6 (114, f, tz_lt c len i - 48, 0, 0) (x := c (i + 1)) h59
        rw [decide_eq_false h63] at t6
        exact t6
      · refine ⟨?_, Or.inr (Or.inl ⟨rfl, ?_, ?_, ?_, fun b hb => by rw [bt_0] at hb; cases hb⟩)⟩
        · rw [upd_ne (by omega), upd_ne (by omega)]; exact ho
        · rw [upd_ne (by omega), upd_ne (by omega)]; exact ho1
        · rw [upd_ne (by omega), upd_same]
        · rw [upd_same]
  · have p1' : tz_inb (tz_lt c len i - 48) 0 7 = false := p1
    rw [p1', if_neg (show ¬ false = true by decide), if_neg (nI_ne_m1 (by omega))]
    exact ⟨_, _, _, rfl, fun x hx => by rw [upd_ne (by omega), upd_ne (by omega)], Or.inl ⟨i, by omega, rfl, p2⟩⟩
theorem tz_rule_eq (N : Nat) (v : SX8) (x1 : Int32) : fX8_readRule N v x1 = (fX8_digit N v 0 7).bind fun r1 => chk (x1 + 1) 68 (nmd (upd r1.2.2.2.2.2.2.2.1 (x1 + 1).toNatClampNeg r1.1) fun f4 => (fX8_letter N (r1.2.1, r1.2.2.1, r1.2.2.2.1, r1.2.2.2.2.1, r1.2.2.2.2.2.1, r1.2.2.2.2.2.2.1, f4, r1.2.2.2.2.2.2.2.2.1, r1.2.2.2.2.2.2.2.2.2.1, r1.2.2.2.2.2.2.2.2.2.2.1, r1.2.2.2.2.2.2.2.2.2.2.2)).bind fun r6 => if r6 = 62 then (fX8_wants N (r1.2.1, r1.2.2.1, r1.2.2.2.1, r1.2.2.2.2.1, r1.2.2.2.2.2.1, r1.2.2.2.2.2.2.1, f4, r1.2.2.2.2.2.2.2.2.1, r1.2.2.2.2.2.2.2.2.2.1, r1.2.2.2.2.2.2.2.2.2.2.1, r1.2.2.2.2.2.2.2.2.2.2.2) 1).bind fun r => tz_ruleT N r x1 else (fX8_wants N (r1.2.1, r1.2.2.1, r1.2.2.2.1, r1.2.2.2.2.1, r1.2.2.2.2.2.1, r1.2.2.2.2.2.2.1, f4, r1.2.2.2.2.2.2.2.2.1, r1.2.2.2.2.2.2.2.2.2.1, r1.2.2.2.2.2.2.2.2.2.2.1, r1.2.2.2.2.2.2.2.2.2.2.2) 0).bind fun r => tz_ruleT N r x1) := rfl
theorem tz_rule {N : Nat} (hN : 7 ≤ N) (hl : len ≤ 60) (hi : i ≤ len) (hj : j ≤ 15) {f s : Int32} (hr : tz_rdr c σ0 i = some (3, 114, f, s, 0, 0)) (ho : o (4 * j) = 114) : ∃ o' i' w', fX8_readRule N (t, z, S, kk, c, nI len, o, om, nI i, -1, q) (nI (4 * j)) = some (t, z, S, kk, c, nI len, o', om, nI i', w', q) ∧ (∀ x, x < 4 * j → o' x = o x) ∧ tz_res c len σ0 j (i + 3) i o' i' w' := by
  rw [tz_rule_eq, tz_digit N hl (by omega), Option.bind_some, nI_1 (4 * j), chk_nI (by omega) (by decide), nI_clamp (by omega)]
  unfold nmd
  dsimp only
  rw [tz_letter N hl (by omega), Option.bind_some]
  rcases tz_step (P := fun x => tz_inb (x - 48) 0 7) (g := fun x => (4, 114, x - 48, s, 0, 0)) hr hi (tz_ce (by decide) (by decide) (by decide) _) (fun x => tz_take_3 (114, f, s, 0, 0) x) (tz_inb_end (a := 0) (by decide) 7) (tz_inb_semi 0 (b := 7) (by decide)) with ⟨p1, p2, p3, p4, p5⟩ | ⟨p1, p2⟩
  · have p1' : tz_inb (tz_lt c len i - 48) 0 7 = true := p1
    rw [p1', if_pos rfl]
    rcases tz_step (P := fun x => decide (x = 62)) (g := fun _ => (5, 114, tz_lt c len i - 48, s, 0, 0)) p5 (show i + 1 ≤ len by omega) (tz_ce (by decide) (by decide) (by decide) _) (fun x => tz_take_4 (114, tz_lt c len i - 48, s, 0, 0) x) (by decide) (by decide) with ⟨k1, k2, k3, k4, k5⟩ | ⟨k1, k2⟩
    · have k1' : tz_lt c len (i + 1) = 62 := of_decide_eq_true k1
      rw [if_pos k1', tz_wants, Option.bind_some, if_neg (show ¬ (1 : Int32) = 0 by decide)]
      obtain ⟨o', i', w', g1, g2, g3⟩ := tz_ruleT_ok (t := t) (z := z) (S := S) (kk := kk) (om := om) (q := q) (o := upd o (4 * j + 1) (tz_lt c len i - 48)) hN hl (i := i + 1 + 1) (by omega) hj k5 (by rw [upd_ne (by omega)]; exact ho) upd_same
      exact ⟨o', i', w', g1, fun x hx => (g2 x hx).trans (upd_ne (by omega)), (g3.back k4).back p4⟩
    · have k1' : ¬ tz_lt c len (i + 1) = 62 := of_decide_eq_false k1
      rw [if_neg k1', tz_wants, Option.bind_some, if_pos rfl]
      obtain ⟨o', g1, g2⟩ := tz_ruleT_F (t := t) (z := z) (S := S) (kk := kk) (om := om) (q := q) (o := upd o (4 * j + 1) (tz_lt c len i - 48)) (c := c) N hl (i := i + 1 + 1) (by omega) hj (nI_ne_m1 (show i + 1 < 2 ^ 31 by omega))
      exact ⟨o', _, _, g1, fun x hx => (g2 x hx).trans (upd_ne (by omega)), Or.inl ⟨i + 1, by omega, rfl, k2⟩⟩
  · have p1' : tz_inb (tz_lt c len i - 48) 0 7 = false := p1
    have hw : ¬ nI i = -1 := nI_ne_m1 (by omega)
    rw [p1', if_neg (show ¬ false = true by decide)]
    obtain ⟨o', g1, g2⟩ := tz_ruleT_F (t := t) (z := z) (S := S) (kk := kk) (om := om) (q := q) (o := upd o (4 * j + 1) (tz_lt c len i - 48)) (c := c) N hl (i := i + 1) (by omega) hj hw
    refine ⟨o', i + 1, nI i, ?_, fun x hx => (g2 x hx).trans (upd_ne (by omega)), Or.inl ⟨i, by omega, rfl, p2⟩⟩
    by_cases h62 : tz_lt c len (i + 1) = 62
    · rw [if_pos h62, tz_wantsF N _ hw, Option.bind_some]; exact g1
    · rw [if_neg h62, tz_wantsF N _ hw, Option.bind_some]; exact g1
end TO
