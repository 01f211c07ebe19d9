/-! one order read: all kinds -/
section TP
variable {t kk w : Int32} {z S c o : Nat → Int32} {len i j : Nat} {q : Q8} {σ0 : SX4}
theorem tz_PT_F (N : Nat) (hl : len ≤ 60) (hi : i < 2 ^ 31) (hj : j ≤ 15) (hw : ¬ w = -1) : ∃ o', tz_orderPT N (t, z, S, kk, c, nI len, o, nI j, nI i, w, q) (nI (4 * j)) = some (t, z, S, kk, c, nI len, o', nI (j + 1), nI i, w, q) ∧ ∀ x, x < 4 * j → o' x = o x := by
  unfold tz_orderPT
  rw [tz_digitF N hl hi hw, Option.bind_some, show (2 : Int32) = nI 2 from rfl, tz_to, chk_nI (by omega) (by decide), nI_clamp (by omega)]
  unfold nmd
  dsimp only
  rw [nI_1]
  exact ⟨_, rfl, fun x hx => by rw [upd_ne (by omega)]⟩
theorem tz_PT_ok {N : Nat} (hl : len ≤ 60) (hi : i ≤ len) (hj : j ≤ 15) {f s ms a : Int32} (hr : tz_rdr c σ0 i = some (2, 112, f, s, ms, a)) (ho : o (4 * j) = 112) (ho1 : o (4 * j + 1) = ms) (hb : ∀ b, bt ms b = true → b < 6) : ∃ o' i' w', tz_orderPT N (t, z, S, kk, c, nI len, o, nI j, nI i, -1, q) (nI (4 * j)) = some (t, z, S, kk, c, nI len, o', nI (j + 1), nI i', w', q) ∧ (∀ x, x < 4 * j → o' x = o x) ∧ tz_res c len σ0 j (i + 1) i o' i' w' := by
  unfold tz_orderPT
  rw [tz_digit N hl (by omega), Option.bind_some, show (2 : Int32) = nI 2 from rfl, tz_to, chk_nI (by omega) (by decide), nI_clamp (by omega)]
  unfold nmd
  dsimp only
  rw [nI_1]
  rcases tz_step (P := fun x => tz_inb (x - 48) 1 9) (g := fun x => (11, 112, f, x - 48, ms, a)) hr hi (tz_ce (by decide) (by decide) (by decide) _) (fun x => tz_take_2 (112, f, s, ms, a) x) (tz_inb_end (a := 1) (by decide) 9) (tz_inb_semi 1 (b := 9) (by decide)) with ⟨p1, p2, p3, p4, p5⟩ | ⟨p1, p2⟩
  · have p1' : tz_inb (tz_lt c len i - 48) 1 9 = true := p1
    obtain ⟨h, h1, h2, h3⟩ := tz_inb_nI (a := 1) (b := 9) (by decide) (by decide) p1'
    rw [p1', if_pos rfl]
    refine ⟨_, _, _, rfl, fun x hx => by rw [upd_ne (by omega)], Or.inr ⟨rfl, Nat.le_refl _, by omega, fun x x1 x2 => ?_, _, p5, ⟨Or.inr (Or.inr rfl), fun hl3 h59 => ⟨_, tz_take_11 _ h59⟩⟩, ?_, Or.inl ⟨rfl, ?_, ?_, hb, h, h1, h2, h3⟩⟩⟩
    · rw [show x = i by omega]; exact p4
    · rw [upd_ne (by omega)]; exact ho
    · rw [upd_ne (by omega)]; exact ho1
    · rw [upd_same]
  · have p1' : tz_inb (tz_lt c len i - 48) 1 9 = false := p1
    rw [p1', if_neg (show ¬ false = true by decide)]
    exact ⟨_, _, _, rfl, fun x hx => by rw [upd_ne (by omega)], Or.inl ⟨i, by omega, rfl, p2⟩⟩
theorem tz_X_F (N : Nat) (hl : len ≤ 60) (hi : i < 2 ^ 31) (hj : j ≤ 15) (hw : ¬ w = -1) : ∃ o', tz_orderX N (t, z, S, kk, c, nI len, o, nI j, nI i, w, q) (nI (4 * j)) = some (t, z, S, kk, c, nI len, o', nI (j + 1), nI i, w, q) ∧ ∀ x, x < 4 * j → o' x = o x := by
  unfold tz_orderX
  rw [tz_digitF N hl hi hw, Option.bind_some, nI_1 (4 * j), chk_nI (by omega) (by decide), nI_clamp (by omega)]
  unfold nmd
  dsimp only
  rw [chk_nI (by omega) (by decide), tz_digitF N hl hi hw, Option.bind_some, show (2 : Int32) = nI 2 from rfl, tz_to, chk_nI (by omega) (by decide), nI_clamp (by omega)]
  dsimp only
  rw [nI_1]
  exact ⟨_, rfl, fun x hx => by rw [upd_ne (by omega), upd_ne (by omega)]⟩
theorem tz_X_ok {N : Nat} (hl : len ≤ 60) (hi : i ≤ len) (hj : j ≤ 15) {f s : Int32} (hr : tz_rdr c σ0 i = some (9, 120, f, s, 0, 0)) (ho : o (4 * j) = 120) : ∃ o' i' w', tz_orderX N (t, z, S, kk, c, nI len, o, nI j, nI i, -1, q) (nI (4 * j)) = some (t, z, S, kk, c, nI len, o', nI (j + 1), nI i', w', q) ∧ (∀ x, x < 4 * j → o' x = o x) ∧ tz_res c len σ0 j (i + 2) i o' i' w' := by
  unfold tz_orderX
  rw [tz_digit N hl (by omega), Option.bind_some, nI_1 (4 * j), chk_nI (by omega) (by decide), nI_clamp (by omega)]
  unfold nmd
  dsimp only
  rw [chk_nI (by omega) (by decide), upd_same]
  rcases tz_step (P := fun x => tz_inb (x - 48) 0 4) (g := fun x => (10, 120, x - 48, s, 0, 0)) hr hi (tz_ce (by decide) (by decide) (by decide) _) (fun x => tz_take_9 (120, f, s, 0, 0) x) (tz_inb_end (a := 0) (by decide) 4) (tz_inb_semi 0 (b := 4) (by decide)) with ⟨p1, p2, p3, p4, p5⟩ | ⟨p1, p2⟩
  · have p1' : tz_inb (tz_lt c len i - 48) 0 4 = true := p1
    obtain ⟨a, a1, a2, a3⟩ := tz_inb_nI (a := 0) (b := 4) (by decide) (by decide) p1'
    rw [p1', if_pos rfl, a3, nI_1 a, tz_digit N hl (by omega), Option.bind_some, show (2 : Int32) = nI 2 from rfl, tz_to, chk_nI (by omega) (by decide), nI_clamp (by omega)]
    dsimp only
    rw [nI_1 j]
    have p5' : tz_rdr c σ0 (i + 1) = some (10, 120, nI a, s, 0, 0) := by rw [p5, a3]
    have ht : ∀ x, fX4_take 0 (10, 120, nI a, s, 0, 0) x = some (b2i (tz_inb (x - 48) (nI (a + 1)) 5), if tz_inb (x - 48) (nI (a + 1)) 5 = true then (11, 120, nI a, x - 48, 0, 0) else (10, 120, nI a, s, 0, 0)) := fun x => by
      have := tz_take_10 (120, nI a, s, 0, 0) x
      dsimp only at this
      rw [nI_1] at this
      exact this
    rcases tz_step (P := fun x => tz_inb (x - 48) (nI (a + 1)) 5) (g := fun x => (11, 120, nI a, x - 48, 0, 0)) p5' (show i + 1 ≤ len by omega) (tz_ce (by decide) (by decide) (by decide) _) ht (tz_inb_end (a := a + 1) (by omega) 5) (tz_inb_semi (nI (a + 1)) (b := 5) (by decide)) with ⟨k1, k2, k3, k4, k5⟩ | ⟨k1, k2⟩
    · have k1' : tz_inb (tz_lt c len (i + 1) - 48) (nI (a + 1)) 5 = true := k1
      obtain ⟨b, b1, b2, b3⟩ := tz_inb_nI (a := a + 1) (b := 5) (by omega) (by decide) k1'
      rw [k1', if_pos rfl]
      refine ⟨_, _, _, rfl, fun x hx => by rw [upd_ne (by omega), upd_ne (by omega)], Or.inr ⟨rfl, Nat.le_refl _, by omega, fun x x1 x2 => ?_, _, k5, ⟨Or.inr (Or.inr rfl), fun hl3 h59 => ⟨_, tz_take_11 _ h59⟩⟩, ?_, Or.inr (Or.inr ⟨rfl, a, b, by omega, b2, ?_, rfl, ?_, b3⟩)⟩⟩
      · by_cases hx : x = i
        · rw [hx]; exact p4
        · rw [show x = i + 1 by omega]; exact k4
      · rw [upd_ne (by omega), upd_ne (by omega)]; exact ho
      · rw [upd_ne (by omega), upd_same]
      · rw [upd_same]; exact b3
    · have k1' : tz_inb (tz_lt c len (i + 1) - 48) (nI (a + 1)) 5 = false := k1
      rw [k1', if_neg (show ¬ false = true by decide)]
      exact ⟨_, _, _, rfl, fun x hx => by rw [upd_ne (by omega), upd_ne (by omega)], Or.inl ⟨i + 1, by omega, rfl, k2⟩⟩
  · have p1' : tz_inb (tz_lt c len i - 48) 0 4 = false := p1
    rw [p1', if_neg (show ¬ false = true by decide), tz_digitF N hl (by omega) (nI_ne_m1 (by omega)), Option.bind_some, show (2 : Int32) = nI 2 from rfl, tz_to, chk_nI (by omega) (by decide), nI_clamp (by omega)]
    dsimp only
    rw [nI_1 j]
    exact ⟨_, _, _, rfl, fun x hx => by rw [upd_ne (by omega), upd_ne (by omega)], Or.inl ⟨i, by omega, rfl, p2⟩⟩
theorem tz_4 (j : Nat) : (4 : Int32) * nI j = nI (4 * j) := nI_mul 4 j
theorem tz_order {N : Nat} (hN : 7 ≤ N) (hl : len ≤ 60) (hi : i ≤ len) (hj : 4 * j ≤ i) {r : Int32 × Int32 × Int32 × Int32 × Int32} (hr : tz_rdr c σ0 i = some (0, r)) : ∃ o' i' w', fX8_readOrder N (t, z, S, kk, c, nI len, o, nI j, nI i, -1, q) = some (t, z, S, kk, c, nI len, o', nI (j + 1), nI i', w', q) ∧ (∀ x, x < 4 * j → o' x = o x) ∧ tz_res c len σ0 j (i + 3) i o' i' w' := by
  have hj15 : j ≤ 15 := by omega
  unfold fX8_readOrder
  dsimp only
  rw [tz_letter N hl (by omega), Option.bind_some, tz_4, chk_nI (by omega) (by decide), nI_clamp (by omega)]
  unfold nmd
  dsimp only
  rcases tz_step (P := fun x => tz_isk x) (g := fun x => (tz_k x, x, r.2.1, r.2.2.1, 0, 0)) hr hi (tz_ce (by decide) (by decide) (by decide) _) (fun x => tz_take_0 r x) (by decide) (by decide) with ⟨p1, p2, p3, p4, p5⟩ | ⟨p1, p2⟩
  · have p1' : tz_lt c len i = 112 ∨ tz_lt c len i = 114 ∨ tz_lt c len i = 120 := of_decide_eq_true p1
    rcases p1' with e | e | e
    · have p5' : tz_rdr c σ0 (i + 1) = some (1, 112, r.2.1, r.2.2.1, 0, 0) := by
        rw [p5, e]; rfl
      rw [e, if_pos rfl, tz_wants, Option.bind_some, if_neg (show ¬ (1 : Int32) = 0 by decide), if_pos rfl]
      obtain ⟨i', ms', a', e', g1, g2, g3, g4, g5, g6, g7, g8, g9⟩ := tz_dirs (t := t) (z := z) (S := S) (kk := kk) (om := nI j) (o := upd o (4 * j) 112) (q := q) hN hl (i := i + 1) (nx := 1) (by omega) (fun r x hx h42 _ => by rw [tz_take_1 r h42, hx, if_pos rfl]; rfl) (fun r x hx h42 _ => by rw [tz_take_1 r h42, hx, if_pos rfl]; rfl) p5'
      have he : e' = 1 := by
        rcases g8 with ⟨-, y2, -⟩ | ⟨-, y2, -⟩
        · exact y2
        · exact y2
      subst he
      rw [g1, Option.bind_some, nI_1 (4 * j), chk_nI (by omega) (by decide), nI_clamp (by omega)]
      dsimp only
      rw [tz_letter N hl (by omega), Option.bind_some]
      by_cases h42 : tz_lt c len i' = 42
      · have hl1 : i' < len := by
          apply Decidable.byContradiction
          intro hl2
          unfold tz_lt at h42
          rw [if_neg hl2] at h42
          exact absurd h42 (by decide)
        have ec : tz_lt c len i' = c i' := by unfold tz_lt; rw [if_pos hl1]
        have c42 : c i' = 42 := ec.symm.trans h42
        have t1 := tz_take_1s (112, r.2.1, r.2.2.1, ms', nI a')
        rw [← c42] at t1
        have hr2 := tz_next g5 t1
        rw [if_pos h42, tz_wants, Option.bind_some, if_neg (show ¬ (1 : Int32) = 0 by decide)]
        obtain ⟨o', i3, w', k1, k2, k3⟩ := tz_PT_ok (t := t) (z := z) (S := S) (kk := kk) (q := q) (N := N) (o := upd (upd o (4 * j) 112) (4 * j + 1) ms') hl (i := i' + 1) (by omega) hj15 hr2 (by rw [upd_ne (by omega), upd_same]) upd_same g9
        refine ⟨o', i3, w', k1, fun x hx => (k2 x hx).trans (by rw [upd_ne (by omega), upd_ne (by omega)]), ?_⟩
        rcases k3 with k3 | ⟨m1, m2, m3, m4, m5⟩
        · exact Or.inl k3
        · refine Or.inr ⟨m1, by omega, m3, fun x x1 x2 => ?_, m5⟩
          by_cases hx : x = i
          · rw [hx]; exact p4
          · by_cases hx2 : x < i'
            · exact g4 x (by omega) hx2
            · by_cases hx3 : x = i'
              · rw [hx3, c42]; decide
              · exact m4 x (by omega) x2
      · rw [if_neg h42, tz_wants, Option.bind_some, if_pos rfl]
        obtain ⟨o', k1, k2⟩ := tz_PT_F (t := t) (z := z) (S := S) (kk := kk) (q := q) (c := c) N (o := upd (upd o (4 * j) 112) (4 * j + 1) ms') hl (i := i' + 1) (by omega) hj15 (nI_ne_m1 (show i' < 2 ^ 31 by omega))
        refine ⟨o', i' + 1, nI i', k1, fun x hx => (k2 x hx).trans (by rw [upd_ne (by omega), upd_ne (by omega)]), Or.inl ⟨i', by omega, rfl, ?_⟩⟩
        by_cases hl3 : i' < len
        · refine Or.inl ⟨hl3, _, (1, 112, r.2.1, r.2.2.1, ms', nI a'), g5, ?_⟩
          have e3 : tz_lt c len i' = c i' := by unfold tz_lt; rw [if_pos hl3]
          rw [e3] at g7 h42
          rw [tz_take_1 _ h42, g7]
          rfl
        · have hi2 : i' = len := by omega
          subst hi2
          exact Or.inr ⟨rfl, _, g5, tz_ce (by decide) (by decide) (by decide) _⟩
    · have p5' : tz_rdr c σ0 (i + 1) = some (3, 114, r.2.1, r.2.2.1, 0, 0) := by
        rw [p5, e]; rfl
      rw [e, if_neg (show ¬ (114 : Int32) = 112 by decide), if_pos rfl, tz_wants, Option.bind_some, if_neg (show ¬ (1 : Int32) = 0 by decide), if_neg (show ¬ (114 : Int32) = 112 by decide), if_pos rfl]
      obtain ⟨o', i3, w', k1, k2, k3⟩ := tz_rule (t := t) (z := z) (S := S) (kk := kk) (q := q) (om := nI j) (o := upd o (4 * j) 114) hN hl (i := i + 1) (by omega) hj15 p5' upd_same
      rw [k1, Option.bind_some]
      dsimp only
      rw [nI_1 j]
      refine ⟨o', i3, w', rfl, fun x hx => (k2 x hx).trans (upd_ne (by omega)), ?_⟩
      rcases k3 with k3 | ⟨m1, m2, m3, m4, m5⟩
      · exact Or.inl k3
      · exact tz_res.back (Or.inr ⟨m1, by omega, m3, m4, m5⟩) p4
    · have p5' : tz_rdr c σ0 (i + 1) = some (9, 120, r.2.1, r.2.2.1, 0, 0) := by
        rw [p5, e]; rfl
      rw [e, if_neg (show ¬ (120 : Int32) = 112 by decide), if_neg (show ¬ (120 : Int32) = 114 by decide), if_pos rfl, tz_wants, Option.bind_some, if_neg (show ¬ (1 : Int32) = 0 by decide), if_neg (show ¬ (120 : Int32) = 112 by decide), if_neg (show ¬ (120 : Int32) = 114 by decide)]
      obtain ⟨o', i3, w', k1, k2, k3⟩ := tz_X_ok (t := t) (z := z) (S := S) (kk := kk) (q := q) (N := N) (o := upd o (4 * j) 120) hl (i := i + 1) (by omega) hj15 p5' upd_same
      refine ⟨o', i3, w', k1, fun x hx => (k2 x hx).trans (upd_ne (by omega)), ?_⟩
      rcases k3 with k3 | ⟨m1, m2, m3, m4, m5⟩
      · exact Or.inl k3
      · exact tz_res.back (Or.inr ⟨m1, by omega, m3, m4, m5⟩) p4
  · have p1' : ¬ (tz_lt c len i = 112 ∨ tz_lt c len i = 114 ∨ tz_lt c len i = 120) := of_decide_eq_false p1
    have n1 : ¬ tz_lt c len i = 112 := fun h => p1' (Or.inl h)
    have n2 : ¬ tz_lt c len i = 114 := fun h => p1' (Or.inr (Or.inl h))
    have n3 : ¬ tz_lt c len i = 120 := fun h => p1' (Or.inr (Or.inr h))
    rw [if_neg n1, if_neg n2, if_neg n3, tz_wants, Option.bind_some, if_pos rfl, if_neg n1, if_neg n2]
    obtain ⟨o', k1, k2⟩ := tz_X_F (t := t) (z := z) (S := S) (kk := kk) (q := q) (c := c) N (o := upd o (4 * j) (tz_lt c len i)) hl (i := i + 1) (by omega) hj15 (nI_ne_m1 (show i < 2 ^ 31 by omega))
    exact ⟨o', i + 1, nI i, k1, fun x hx => (k2 x hx).trans (upd_ne (by omega)), Or.inl ⟨i, by omega, rfl, p2⟩⟩
end TP
