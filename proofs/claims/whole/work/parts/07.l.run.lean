/-! a tick of both machines -/
theorem ix13 (a : Nat) : (13 : Int32) + nI a = nI (13 + a) := nI_add 13 a
theorem ix19 (a : Nat) : (19 : Int32) + nI a = nI (19 + a) := nI_add 19 a
theorem ix25 (a : Nat) : (25 : Int32) + nI a = nI (25 + a) := nI_add 25 a
/-- cells of the directions alone are changed -/
theorem MR.dirs {m : SX1} {z z' w s l : Nat → Int32} {n : Nat} (M : MR m z n) (hz : ∀ x, x < 13 ∨ 31 ≤ x → z' x = z x) (hd : ∀ d, d < 6 → w d = z' (13 + d) ∧ s d = z' (19 + d) ∧ l d = z' (25 + d)) : MR (m.1, w, s, l, m.2.2.2.2) z' n := by
  obtain ⟨⟨n8, n1, n2, ct, n3, n4, n5⟩, ⟨a1, a2, a3, a4⟩, hd0, hp, har, h0⟩ := M
  refine ⟨⟨n8, n1, by rw [hz 0 (by omega), n2], ct, n3, n4, by rw [hz 1 (by omega), n5]⟩, ⟨by rw [hz 2 (by omega)]; exact a1, by rw [hz 4 (by omega)]; exact a2, by rw [hz 6 (by omega)]; exact a3, by rw [hz 4 (by omega), hz 3 (by omega), hz 5 (by omega)]; exact a4⟩, fun d h => ⟨?_, ?_, (hd d h).1, (hd d h).2.1, (hd d h).2.2⟩, fun p h => (hp p h).congr (Nat.le_refl _) ⟨rfl, rfl, rfl, fun _ _ => ⟨rfl, rfl⟩⟩ rfl (fun w hw => hz _ (by omega)), har, h0⟩
  · rw [hz (7 + d) (by omega)]; exact (hd0 d h).1
  · rw [hz (7 + d) (by omega)]; exact (hd0 d h).2.1
/-- one direction's cells are changed -/
theorem MR.dir {m : SX1} {z : Nat → Int32} {n d : Nat} (M : MR m z n) (hd : d < 6) (w s l : Int32) : MR (m.1, upd m.2.1 d w, upd m.2.2.1 d s, upd m.2.2.2.1 d l, m.2.2.2.2) (upd (upd (upd z (19 + d) s) (25 + d) l) (13 + d) w) n := by
  refine M.dirs (fun x hx => by rw [upd_ne (by omega), upd_ne (by omega), upd_ne (by omega)]) (fun e he => ?_)
  obtain ⟨-, -, c1, c2, c3⟩ := M.2.2.1 e he
  by_cases hde : e = d
  · subst hde
    refine ⟨by rw [upd_same, upd_same], ?_, ?_⟩
    · rw [upd_same, upd_ne (show ¬ 19 + e = 13 + e by omega), upd_ne (show ¬ 19 + e = 25 + e by omega), upd_same]
    · rw [upd_same, upd_ne (show ¬ 25 + e = 13 + e by omega), upd_same]
  · refine ⟨?_, ?_, ?_⟩
    · rw [upd_ne hde, upd_ne (show ¬ 13 + e = 13 + d by omega), upd_ne (show ¬ 13 + e = 25 + d by omega), upd_ne (show ¬ 13 + e = 19 + d by omega), c1]
    · rw [upd_ne hde, upd_ne (show ¬ 19 + e = 13 + d by omega), upd_ne (show ¬ 19 + e = 25 + d by omega), upd_ne (show ¬ 19 + e = 19 + d by omega), c2]
    · rw [upd_ne hde, upd_ne (show ¬ 25 + e = 13 + d by omega), upd_ne (show ¬ 25 + e = 25 + d by omega), upd_ne (show ¬ 25 + e = 19 + d by omega), c3]
theorem MR.wait {m : SX1} {z : Nat → Int32} {n d : Nat} (M : MR m z n) (hd : d < 6) (w : Int32) : MR (m.1, upd m.2.1 d w, m.2.2) (upd z (13 + d) w) n := by
  have h := M.dir hd w (z (19 + d)) (z (25 + d))
  obtain ⟨-, -, c1, c2, c3⟩ := M.2.2.1 d hd
  rw [upd_id z (19 + d), upd_id z (25 + d), ← c2, ← c3, upd_id, upd_id] at h
  exact h
theorem passWaits_L (N : Nat) (G : Int32) (n : Nat) (t : Int32) (u : U8) : ∀ (j i fuel : Nat) (m : SX1) (z : Nat → Int32), i + j = 6 → j < fuel → MR m z n → ∃ m' z', fX1_passWaits_L7 N G fuel m (nI i) = some m' ∧ fX8_serve_L7 N G fuel (t, z, u) (nI i) = some (t, z', u) ∧ MR m' z' n ∧ m'.1 = m.1 ∧ m'.2.2.2.2 = m.2.2.2.2 ∧ ∀ x, x < 13 → z' x = z x := by
  intro j
  induction j with
  | zero =>
    intro i fuel m z e1 e2 M
    obtain ⟨f, rfl⟩ : ∃ f, fuel = f + 1 := ⟨fuel - 1, by omega⟩
    have hi : i = 6 := by omega
    subst hi
    refine ⟨m, z, ?_, ?_, M, rfl, rfl, fun _ _ => rfl⟩
    · rw [fX1_passWaits_L7, if_pos (by decide)]
    · rw [fX8_serve_L7, if_pos (by decide)]
  | succ j ih =>
    intro i fuel m z e1 e2 M
    obtain ⟨f, rfl⟩ : ∃ f, fuel = f + 1 := ⟨fuel - 1, by omega⟩
    have hi : i < 6 := by omega
    obtain ⟨-, -, c1, c2, c3⟩ := M.2.2.1 i hi
    have r7 : fX1_passWaits_L7 N G (f + 1) m (nI i) = (if z (13 + i) = -1 then fX1_passWaits_L7 N G f m (nI (i + 1)) else if bt G i = true then fX1_passWaits_L7 N G f (m.1, upd m.2.1 i (-1), upd m.2.2.1 i (z (19 + i) + 1), upd m.2.2.2.1 i (imax (z (25 + i)) (z (13 + i))), m.2.2.2.2) (nI (i + 1)) else fX1_passWaits_L7 N G f (m.1, upd m.2.1 i (z (13 + i) + 1), m.2.2) (nI (i + 1))) := by
      rw [fX1_passWaits_L7, if_neg (le6 hi), rowAt_nI hi (by decide), rowAt_nI hi (by decide), rowAt_nI hi (by decide), c1, c2, c3, X7_has_eq N _ (by omega), Option.bind_some, nI_1, rowPut_nI hi (by decide), rowPut_nI hi (by decide), rowPut_nI hi (by decide), rowPut_nI hi (by decide)]
      cases bt G i
      · rw [if_pos b2i_f, if_neg (show ¬ false = true by decide)]
      · rw [if_neg b2i_t, if_pos (show true = true from rfl)]
    have r8 : fX8_serve_L7 N G (f + 1) (t, z, u) (nI i) = (if z (13 + i) = -1 then fX8_serve_L7 N G f (t, z, u) (nI (i + 1)) else if bt G i = true then fX8_serve_L7 N G f (t, upd (upd (upd z (19 + i) (z (19 + i) + 1)) (25 + i) (imax (z (25 + i)) (z (13 + i)))) (13 + i) (-1), u) (nI (i + 1)) else fX8_serve_L7 N G f (t, upd z (13 + i) (z (13 + i) + 1), u) (nI (i + 1))) := by
      rw [fX8_serve_L7, if_neg (le6 hi)]
      dsimp only
      simp only [ix13, ix19, ix25, nI_1, chk_nI (show 13 + i < 143 by omega) (by decide), chk_nI (show 19 + i < 143 by omega) (by decide), chk_nI (show 25 + i < 143 by omega) (by decide), nI_clamp (show 13 + i < 2 ^ 31 by omega), nI_clamp (show 19 + i < 2 ^ 31 by omega), nI_clamp (show 25 + i < 2 ^ 31 by omega), nmd]
      by_cases h1 : z (13 + i) = -1
      · rw [if_pos h1, if_pos h1, if_pos h1]
      · rw [if_neg h1, if_neg h1, if_neg h1, ite_bit G (by omega)]
        cases hb : bt G i
        · rw [if_neg (by decide), if_neg (by decide)]
        · rw [if_pos rfl, if_pos rfl, upd_ne (show ¬ 25 + i = 19 + i by omega)]
          unfold imax
          by_cases h2 : z (13 + i) ≤ z (25 + i)
          · rw [if_pos h2, if_neg (Int32.not_lt.mpr h2)]
          · rw [if_neg h2, if_pos (Int32.not_le.mp h2)]
    rw [r7, r8]
    by_cases h1 : z (13 + i) = -1
    · rw [if_pos h1, if_pos h1]
      exact ih (i + 1) f m z (by omega) (by omega) M
    · rw [if_neg h1, if_neg h1]
      cases hb : bt G i
      · rw [if_neg (by decide), if_neg (by decide)]
        obtain ⟨m', z', a1, a2, a3, a4, a5, a6⟩ := ih (i + 1) f _ _ (by omega) (by omega) (M.wait hi (z (13 + i) + 1))
        exact ⟨m', z', a1, a2, a3, a4, a5, fun x hx => (a6 x hx).trans (upd_ne (by omega))⟩
      · rw [if_pos rfl, if_pos rfl]
        obtain ⟨m', z', a1, a2, a3, a4, a5, a6⟩ := ih (i + 1) f _ _ (by omega) (by omega) (M.dir hi (-1) (z (19 + i) + 1) (imax (z (25 + i)) (z (13 + i))))
        exact ⟨m', z', a1, a2, a3, a4, a5, fun x hx => (a6 x hx).trans (by rw [upd_ne (by omega), upd_ne (by omega), upd_ne (by omega)])⟩
/-- the row when the machine has come into a phase -/
def arrv (z : Nat → Int32) (q : Nat) : Nat → Int32 := upd (upd (upd (upd (upd z 2 (nI q)) 3 0) 4 0) 5 (-1)) (33 + 14 * q) (z (33 + 14 * q) + 1)
theorem X8_arrive_eq (N : Nat) (t : Int32) (z : Nat → Int32) (u : U8) {q : Nat} (hq : q < 8) : fX8_arrive N (t, z, u) (nI q) = some (t, arrv z q, u) := by
  unfold fX8_arrive arrv nmd
  dsimp only
  rw [show (((31 : Int32) + ((14 : Int32) * nI q)) + 2) = nI (33 + 14 * q) by rw [show (2 : Int32) = nI 2 from rfl, ix14, show 31 + 14 * q + 2 = 33 + 14 * q by omega], chk2, chk3, chk4, chk5, tn2, tn3, tn4, tn5, chk_nI (by omega) (by decide), chk_nI (by omega) (by decide), nI_clamp (by omega)]
  rw [upd_ne (show ¬ 33 + 14 * q = 5 by omega), upd_ne (show ¬ 33 + 14 * q = 4 by omega), upd_ne (show ¬ 33 + 14 * q = 3 by omega), upd_ne (show ¬ 33 + 14 * q = 2 by omega)]
theorem arrv_ne {z : Nat → Int32} {q x : Nat} (h2 : ¬ x = 2) (h3 : ¬ x = 3) (h4 : ¬ x = 4) (h5 : ¬ x = 5) (h6 : ¬ x = 33 + 14 * q) : arrv z q x = z x := by
  unfold arrv
  rw [upd_ne h6, upd_ne h5, upd_ne h4, upd_ne h3, upd_ne h2]
theorem arrv_4 (z : Nat → Int32) (q : Nat) (y : Int32) : arrv (upd z 4 y) q = arrv z q := by
  funext x
  unfold arrv
  by_cases h6 : x = 33 + 14 * q
  · subst h6; rw [upd_same, upd_same, upd_ne (by omega)]
  · rw [upd_ne h6, upd_ne h6]
    by_cases h5 : x = 5
    · subst h5; rw [upd_same, upd_same]
    · rw [upd_ne h5, upd_ne h5]
      by_cases h4 : x = 4
      · subst h4; rw [upd_same, upd_same]
      · rw [upd_ne h4, upd_ne h4]
        by_cases h3 : x = 3
        · subst h3; rw [upd_same, upd_same]
        · rw [upd_ne h3, upd_ne h3]
          by_cases h2 : x = 2
          · subst h2; rw [upd_same, upd_same]
          · rw [upd_ne h2, upd_ne h2, upd_ne h4]
theorem MR.arrive {m : SX1} {z : Nat → Int32} {n q : Nat} (M : MR m z n) (hq : q < n) (lv : Int32) : MR (m.1, m.2.1, m.2.2.1, m.2.2.2.1, upd m.2.2.2.2.1 q (m.2.2.2.2.1 q + 1), nI q, lv, 0, 0, m.2.2.2.2.2.2.2.2.2) (arrv z q) n := by
  obtain ⟨⟨n8, n1, n2, ct, n3, n4, n5⟩, ⟨a1, a2, a3, a4⟩, hd, hp, har, h0⟩ := M
  have e2 : arrv z q 2 = nI q := by unfold arrv; rw [upd_ne (by omega), upd_ne (by omega), upd_ne (by omega), upd_ne (by omega), upd_same]
  have e3 : arrv z q 3 = 0 := by unfold arrv; rw [upd_ne (by omega), upd_ne (by omega), upd_ne (by omega), upd_same]
  have e4 : arrv z q 4 = 0 := by unfold arrv; rw [upd_ne (by omega), upd_ne (by omega), upd_same]
  have zz : ∀ x, (x < 2 ∨ 6 ≤ x) → ¬ x = 33 + 14 * q → arrv z q x = z x := fun x h1 h2 => arrv_ne (by omega) (by omega) (by omega) (by omega) h2
  refine ⟨⟨n8, n1, by rw [zz 0 (by omega) (by omega), n2], ct, n3, n4, by rw [zz 1 (by omega) (by omega), n5]⟩, ⟨Or.inr ⟨q, hq, e2, rfl⟩, e4.symm, by rw [zz 6 (by omega) (by omega)]; exact a3, Or.inl ⟨e4, e3.symm⟩⟩, fun d h => (hd d h).congr rfl rfl rfl rfl (zz _ (by omega) (by omega)) (zz _ (by omega) (by omega)) (zz _ (by omega) (by omega)) (zz _ (by omega) (by omega)), fun p hpn => ?_, fun p h8 hpn => (upd_ne (by omega)).trans (har p h8 hpn), h0⟩
  by_cases hpq : p = q
  · subst hpq
    obtain ⟨b1, b2, b3, b4, rc, c1, c2, c3, c4⟩ := hp p hpn
    refine ⟨by rw [zz _ (by omega) (by omega)]; exact b1, by rw [zz _ (by omega) (by omega)]; exact b2, by rw [zz _ (by omega) (by omega)]; exact b3, ?_, rc, c1, c2, by rw [zz _ (by omega) (by omega)]; exact c3, fun r hr => ?_⟩
    · show upd m.2.2.2.2.1 p (m.2.2.2.2.1 p + 1) p = _
      unfold arrv
      rw [upd_same, upd_same, b4]
    · rw [zz (35 + 14 * p + 2 * r) (by omega) (by omega), zz (36 + 14 * p + 2 * r) (by omega) (by omega)]
      exact c4 r hr
  · exact (hp p hpn).congr (Nat.le_refl _) ⟨rfl, rfl, rfl, fun _ _ => ⟨rfl, rfl⟩⟩ (upd_ne hpq) (fun w hw => zz _ (by omega) (by omega))
/-- the machine begins to clear -/
theorem MR.leave {m : SX1} {z : Nat → Int32} {n s q c : Nat} (M : MR m z n) (hs : s < n) (hq : q < n) (h1 : 1 ≤ c) (h5 : c ≤ 5) (st : Int32) : MR (m.1, m.2.1, m.2.2.1, m.2.2.2.1, m.2.2.2.2.1, nI q, nI s, st, nI c, m.2.2.2.2.2.2.2.2.2) (upd (upd (upd (upd z 2 (nI q)) 5 (nI s)) 3 0) 4 (nI c)) n := by
  obtain ⟨⟨n8, n1, n2, ct, n3, n4, n5⟩, ⟨a1, a2, a3, a4⟩, hd, hp, har, h0⟩ := M
  have zz : ∀ x, (x < 2 ∨ 6 ≤ x) → upd (upd (upd (upd z 2 (nI q)) 5 (nI s)) 3 0) 4 (nI c) x = z x := fun x h1 => by rw [upd_ne (by omega), upd_ne (by omega), upd_ne (by omega), upd_ne (by omega)]
  refine ⟨⟨n8, n1, by rw [zz 0 (by omega), n2], ct, n3, n4, by rw [zz 1 (by omega), n5]⟩, ⟨Or.inr ⟨q, hq, ?_, rfl⟩, upd_same.symm, by rw [zz 6 (by omega)]; exact a3, Or.inr ⟨c, h1, h5, upd_same, s, hs, rfl, ?_⟩⟩, fun d h => (hd d h).congr rfl rfl rfl rfl (zz _ (by omega)) (zz _ (by omega)) (zz _ (by omega)) (zz _ (by omega)), fun p hpn => (hp p hpn).congr (Nat.le_refl _) ⟨rfl, rfl, rfl, fun _ _ => ⟨rfl, rfl⟩⟩ rfl (fun w hw => zz _ (by omega)), har, h0⟩
  · rw [upd_ne (by omega), upd_ne (by omega), upd_ne (by omega), upd_same]
  · rw [upd_ne (by omega), upd_ne (by omega), upd_same]
/-- the machine's own count of ticks, of ticks in its phase, of ticks of clearing -/
theorem MR.gone {m : SX1} {z : Nat → Int32} {n : Nat} (M : MR m z n) : MR (m.1, m.2.1, m.2.2.1, m.2.2.2.1, m.2.2.2.2.1, m.2.2.2.2.2.1, m.2.2.2.2.2.2.1, m.2.2.2.2.2.2.2.1, m.2.2.2.2.2.2.2.2.1, m.2.2.2.2.2.2.2.2.2 + 1) (upd z 6 (z 6 + 1)) n := by
  obtain ⟨⟨n8, n1, n2, ct, n3, n4, n5⟩, ⟨a1, a2, a3, a4⟩, hd, hp, har, h0⟩ := M
  have zz : ∀ x, ¬ x = 6 → upd z 6 (z 6 + 1) x = z x := fun x h1 => upd_ne h1
  refine ⟨⟨n8, n1, by rw [zz 0 (by omega), n2], ct, n3, n4, by rw [zz 1 (by omega), n5]⟩, ⟨by rw [zz 2 (by omega)]; exact a1, by rw [zz 4 (by omega)]; exact a2, ?_, by rw [zz 4 (by omega), zz 3 (by omega), zz 5 (by omega)]; exact a4⟩, fun d h => (hd d h).congr rfl rfl rfl rfl (zz _ (by omega)) (zz _ (by omega)) (zz _ (by omega)) (zz _ (by omega)), fun p hpn => (hp p hpn).congr (Nat.le_refl _) ⟨rfl, rfl, rfl, fun _ _ => ⟨rfl, rfl⟩⟩ rfl (fun w hw => zz _ (by omega)), har, h0⟩
  rw [upd_same, ← a3]
theorem MR.stay {m : SX1} {z : Nat → Int32} {n : Nat} (M : MR m z n) (h4 : z 4 = 0) : MR (m.1, m.2.1, m.2.2.1, m.2.2.2.1, m.2.2.2.2.1, m.2.2.2.2.2.1, m.2.2.2.2.2.2.1, z 3 + 1, m.2.2.2.2.2.2.2.2.1, m.2.2.2.2.2.2.2.2.2) (upd z 3 (z 3 + 1)) n := by
  obtain ⟨⟨n8, n1, n2, ct, n3, n4, n5⟩, ⟨a1, a2, a3, a4⟩, hd, hp, har, h0⟩ := M
  have zz : ∀ x, ¬ x = 3 → upd z 3 (z 3 + 1) x = z x := fun x h1 => upd_ne h1
  exact ⟨⟨n8, n1, by rw [zz 0 (by omega), n2], ct, n3, n4, by rw [zz 1 (by omega), n5]⟩, ⟨by rw [zz 2 (by omega)]; exact a1, by rw [zz 4 (by omega)]; exact a2, by rw [zz 6 (by omega)]; exact a3, Or.inl ⟨by rw [zz 4 (by omega), h4], upd_same.symm⟩⟩, fun d h => (hd d h).congr rfl rfl rfl rfl (zz _ (by omega)) (zz _ (by omega)) (zz _ (by omega)) (zz _ (by omega)), fun p hpn => (hp p hpn).congr (Nat.le_refl _) ⟨rfl, rfl, rfl, fun _ _ => ⟨rfl, rfl⟩⟩ rfl (fun w hw => zz _ (by omega)), har, h0⟩
theorem MR.less {m : SX1} {z : Nat → Int32} {n l p : Nat} (M : MR m z n) (h1 : 1 ≤ l) (h5 : l ≤ 5) (hp0 : p < n) (hl : m.2.2.2.2.2.2.1 = nI p) (hz : z 5 = nI p) : MR (m.1, m.2.1, m.2.2.1, m.2.2.2.1, m.2.2.2.2.1, m.2.2.2.2.2.1, m.2.2.2.2.2.2.1, m.2.2.2.2.2.2.2.1, nI l, m.2.2.2.2.2.2.2.2.2) (upd z 4 (nI l)) n := by
  obtain ⟨⟨n8, n1, n2, ct, n3, n4, n5⟩, ⟨a1, a2, a3, a4⟩, hd, hp, har, h0⟩ := M
  have zz : ∀ x, ¬ x = 4 → upd z 4 (nI l) x = z x := fun x h1 => upd_ne h1
  exact ⟨⟨n8, n1, by rw [zz 0 (by omega), n2], ct, n3, n4, by rw [zz 1 (by omega), n5]⟩, ⟨by rw [zz 2 (by omega)]; exact a1, upd_same.symm, by rw [zz 6 (by omega)]; exact a3, Or.inr ⟨l, h1, h5, upd_same, p, hp0, hl, by rw [zz 5 (by omega)]; exact hz⟩⟩, fun d h => (hd d h).congr rfl rfl rfl rfl (zz _ (by omega)) (zz _ (by omega)) (zz _ (by omega)) (zz _ (by omega)), fun p hpn => (hp p hpn).congr (Nat.le_refl _) ⟨rfl, rfl, rfl, fun _ _ => ⟨rfl, rfl⟩⟩ rfl (fun w hw => zz _ (by omega)), har, h0⟩
