/-! the law's run of somebody who waits -/
section SV
variable {g : Gr} {ho : Nat → Nat} {ct : Nat}
theorem L175_eq (N : Nat) (sn : Nat) (sx : Nat → Int32) (z2 z5 z6 z7 z8 z9 : Int32) {d : Nat} (hd : d < 6) : ∀ (j i fuel : Nat) (v : SX7), i + j = 6 → j < fuel → HB v.2.1 → ∃ w' h', HB h' ∧ fL_served_L175 N sn sx z2 (nI d) z5 z6 z7 z8 z9 fuel v (nI i) = some ((v.1.1, w', v.1.2.2), h', v.2.2) ∧ (∀ B, WB v.1.2.1 B → WB w' B) ∧ (∀ e, e < 6 → ¬ v.1.2.1 e = -1 → ¬ w' e = -1) ∧ (i ≤ d → ¬ w' d = -1) := by
  intro j
  induction j with
  | zero =>
    intro i fuel v e1 e2 H
    obtain ⟨f, rfl⟩ : ∃ f, fuel = f + 1 := ⟨fuel - 1, by omega⟩
    have hi : i = 6 := by omega
    subst hi
    exact ⟨v.1.2.1, v.2.1, H, by rw [fL_served_L175, if_pos (by decide)], fun B h => h, fun e _ h => h, fun z => absurd z (by omega)⟩
  | succ j ih =>
    intro i fuel v e1 e2 H
    obtain ⟨f, rfl⟩ : ∃ f, fuel = f + 1 := ⟨fuel - 1, by omega⟩
    have hi : i < 6 := by omega
    have came : ∃ w' h', HB h' ∧ ((rt (fX7_come N v (nI i))).bind fun r => fL_served_L175 N sn sx z2 (nI d) z5 z6 z7 z8 z9 f r.2 (nI (i + 1))) = some ((v.1.1, w', v.1.2.2), h', v.2.2) ∧ (∀ B, WB v.1.2.1 B → WB w' B) ∧ (∀ e, e < 6 → ¬ v.1.2.1 e = -1 → ¬ w' e = -1) ∧ (i ≤ d → ¬ w' d = -1) := by
      obtain ⟨h1, k1, k2⟩ := come_eq H N hi
      have hw2 : ∀ e, ¬ v.1.2.1 e = -1 → ¬ (if v.1.2.1 i = -1 then upd v.1.2.1 i 0 else v.1.2.1) e = -1 := fun e he => by
        by_cases z : v.1.2.1 i = -1
        · rw [if_pos z]
          by_cases ze : e = i
          · rw [ze, upd_same]; decide
          · rw [upd_ne ze]; exact he
        · rw [if_neg z]; exact he
      have hwi : ¬ (if v.1.2.1 i = -1 then upd v.1.2.1 i 0 else v.1.2.1) i = -1 := by
        by_cases z : v.1.2.1 i = -1
        · rw [if_pos z, upd_same]; decide
        · rw [if_neg z]; exact z
      have hwB : ∀ B, WB v.1.2.1 B → WB (if v.1.2.1 i = -1 then upd v.1.2.1 i 0 else v.1.2.1) B := fun B hB e he => by
        by_cases z : v.1.2.1 i = -1
        · rw [if_pos z]
          by_cases ze : e = i
          · rw [ze, upd_same]; exact Or.inr ⟨0, Nat.zero_le _, rfl⟩
          · rw [upd_ne ze]; exact hB e he
        · rw [if_neg z]; exact hB e he
      obtain ⟨w', h', q1, q2, q3, q4, q5⟩ := ih (i + 1) f ((v.1.1, (if v.1.2.1 i = -1 then upd v.1.2.1 i 0 else v.1.2.1), v.1.2.2), h1, v.2.2) (by omega) (by omega) k1
      refine ⟨w', h', q1, ?_, fun B hB => q3 B (hwB B hB), fun e he1 he2 => q4 e he1 (hw2 e he2), fun hid => ?_⟩
      · rw [k2, Option.bind_some]
        exact q2
      · by_cases z : i = d
        · rw [← z]; exact q4 i hi hwi
        · exact q5 (by omega)
    rw [fL_served_L175, if_neg (le6 hi), nI_1]
    by_cases hid : nI i = nI d
    · rw [if_pos hid]; exact came
    · rw [if_neg hid]
      have hne : ¬ i = d := fun z => hid (by rw [z])
      by_cases hb : ((z9 >>> (nI i &&& 31)) &&& 1) = 1
      · rw [if_pos hb]; exact came
      · rw [if_neg hb]
        obtain ⟨w', h', q1, q2, q3, q4, q5⟩ := ih (i + 1) f v (by omega) (by omega) H
        exact ⟨w', h', q1, q2, q3, q4, fun hid2 => q5 (by omega)⟩
theorem SIm.waits {d p t s l f : Nat} {m : SX1} (h : SIm g ho ct d p m t s l f) (w : Nat → Int32) : SIm g ho ct d p (m.1, w, m.2.2) t s l f := h
theorem L132_eq {N : Nat} (hN : 1000 ≤ N) {sn : Nat} (hs : sn ≤ 260) (sx : Nat → Int32) {base : Nat} (hb : base < 1000) (z5 z6 z7 : Int32) {d p : Nat} (hd : d < 6) : ∀ (j t fuel : Nat) (v : SX7) (s l f : Nat), t + j = 60 → j < fuel → PI v.1.1 g ho ct → HB v.2.1 → WB v.1.2.1 t → SIm g ho ct d p v.1 t s l f →
    ∃ v' T s' l' f', fL_served_L132 N sn sx (nI base) (nI d) z5 z6 z7 fuel v (nI t) = some (v', nI T) ∧ T ≤ 60 ∧ v'.1.1 = v.1.1 ∧ HB v'.2.1 ∧ SIm g ho ct d p v'.1 T s' l' f' ∧ (T = 60 ∨ bt (gnow v'.1) d = true) := by
  intro j
  induction j with
  | zero =>
    intro t fuel v s l f e1 e2 hI H hW S
    obtain ⟨x, rfl⟩ : ∃ x, fuel = x + 1 := ⟨fuel - 1, by omega⟩
    have ht : t = 60 := by omega
    subst ht
    exact ⟨v, 60, s, l, f, by rw [fL_served_L132, if_pos (by decide)], Nat.le_refl _, rfl, H, S, Or.inl rfl⟩
  | succ j ih =>
    intro t fuel v s l f e1 e2 hI H hW S
    obtain ⟨x, rfl⟩ : ∃ x, fuel = x + 1 := ⟨fuel - 1, by omega⟩
    have ht : t < 60 := by omega
    have h60 : ¬ (60 : Int32) ≤ nI t := fun z => by
      have z2 : nI 60 ≤ nI t := z
      rw [nI_leI (by omega) (by omega)] at z2; omega
    rw [fL_served_L132, if_neg h60, count4, Option.bind_some]
    dsimp only
    cases hg : bt (gnow v.1) d
    · rw [if_pos (by rw [bit_b2i _ (show d < 32 by omega), hg]; rfl)]
      obtain ⟨r, hr⟩ := cell_eq N (show sn < 2 ^ 31 by omega) sx (show base + t / 5 < 2 ^ 31 by omega)
      rw [show (5 : Int32) = nI 5 from rfl, nI_rem (show t < 2 ^ 31 by omega) (by omega), nI_div (show t < 2 ^ 31 by omega) (by omega), nI_add, hr, Option.bind_some]
      obtain ⟨w', h', q1, q2, q3, q4, q5⟩ := L175_eq N sn sx (nI base) z5 z6 z7 (nI t) (r >>> (((6 : Int32) * nI (t % 5)) &&& 31)) hd 6 0 N v rfl (by omega) H
      have q2' : fL_served_L175 N sn sx (nI base) (nI d) z5 z6 z7 (nI t) (r >>> (((6 : Int32) * nI (t % 5)) &&& 31)) N v 0 = some ((v.1.1, w', v.1.2.2), h', v.2.2) := q2
      rw [q2', Option.bind_some]
      have hS1 : SIm g ho ct d p (v.1.1, w', v.1.2.2) t s l f := S.waits w'
      have hg1 : gnow (v.1.1, w', v.1.2.2) = gnow v.1 := rfl
      obtain ⟨m', h2, s', l', f', c, a1, a2, a3⟩ := run1_eq (v := ((v.1.1, w', v.1.2.2), h', v.2.2)) hI q1 hN hS1.1
      have hS2 := sim_step (m := (v.1.1, w', v.1.2.2)) hI hd ht hS1 (by rw [hg1, hg]; decide) (q3 t hW) (by omega) (q5 (Nat.zero_le _)) a3
      have hp1 : m'.1 = v.1.1 := a3.1
      have hW2 : WB m'.2.1 (t + 1) := WB.pw (q3 t hW) (gnow (v.1.1, w', v.1.2.2)) (fun e he => (a3.2.2.1 e he).1)
      rw [a2, Option.bind_some, nI_1]
      obtain ⟨v2, T, s2, l2, f2, b1, b2, b3, b4, b5, b6⟩ := ih (t + 1) x (m', h2, v.2.2) s' l' f' (by omega) (by omega) (by show PI m'.1 g ho ct; rw [hp1]; exact hI) a1 hW2 hS2
      exact ⟨v2, T, s2, l2, f2, b1, b2, b3.trans hp1, b4, b5, b6⟩
    · rw [if_neg (by rw [bit_b2i _ (show d < 32 by omega), hg]; decide)]
      exact ⟨v, t, s, l, f, rfl, by omega, rfl, H, S, Or.inr hg⟩
end SV
