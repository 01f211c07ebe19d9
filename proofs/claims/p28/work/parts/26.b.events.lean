/-! the law's thirty events -/
def LI (v : SX7) (a1 : SQ5) (a2 : SQ18) (a3 : SQ8) (g : Gr) (ho : Nat → Nat) (ct s l f B : Nat) : Prop := PI v.1.1 g ho ct ∧ HB v.2.1 ∧ Now v.1 g s l f ∧ WB v.1.2.1 B ∧ LM v.1 a1 a2 a3 g s l f
theorem L147_eq (N : Nat) (sn : Nat) (sx : Nat → Int32) (v : SX7) (a1 : SQ5) (a3 : SQ8) (z2 : Int32) : ∀ (j i fuel : Nat) (a2 : SQ18), i + j = 6 → j < fuel → ∃ b2, fL_law_L147 N sn sx v a1 a3 z2 fuel a2 (nI i) = some b2 ∧ (∀ d, i ≤ d → d < 6 → b2 d = -1) ∧ ∀ d, (d < i ∨ 6 ≤ d) → b2 d = a2 d := by
  intro j
  induction j with
  | zero =>
    intro i fuel a2 e1 e2
    obtain ⟨f, rfl⟩ : ∃ f, fuel = f + 1 := ⟨fuel - 1, by omega⟩
    have hi : i = 6 := by omega
    subst hi
    exact ⟨a2, by rw [fL_law_L147, if_pos (by decide)], fun d h1 h2 => absurd h1 (by omega), fun _ _ => rfl⟩
  | succ j ih =>
    intro i fuel a2 e1 e2
    obtain ⟨f, rfl⟩ : ∃ f, fuel = f + 1 := ⟨fuel - 1, by omega⟩
    have hi : i < 6 := by omega
    rw [fL_law_L147, if_neg (le6 hi), chk_nI (show i < 18 by omega) (by decide), nI_clamp (show i < 2 ^ 31 by omega), nI_1]
    obtain ⟨b2, c1, c2, c3⟩ := ih (i + 1) f (upd a2 i (-1)) (by omega) (by omega)
    refine ⟨b2, c1, fun d h1 h2 => ?_, fun d h => ?_⟩
    · by_cases z : d = i
      · rw [c3 d (Or.inl (by omega)), z, upd_same]
      · exact c2 d (by omega) h2
    · rw [c3 d (h.elim (fun z => Or.inl (by omega)) Or.inr), upd_ne (by omega)]
section EV
theorem L212_eq {N : Nat} (sn : Nat) (sx : Nat → Int32) {a1 : SQ5} {a3 : SQ8} (z2 z6 z7 : Int32) {g : Gr} {ho : Nat → Nat} {ct s l f B : Nat} (hB : B < 2 ^ 30) : ∀ (j i fuel : Nat) (v : SX7) (a2 : SQ18), i + j = 2 → j < fuel → LI v a1 a2 a3 g ho ct s l f B → ∃ v' b2, fL_law_L212 N sn sx a1 a3 z2 z6 z7 fuel v a2 (nI i) = some (v', b2) ∧ LI v' a1 b2 a3 g ho ct s l f B := by
  intro j
  induction j with
  | zero =>
    intro i fuel v a2 e1 e2 hL
    obtain ⟨x, rfl⟩ : ∃ x, fuel = x + 1 := ⟨fuel - 1, by omega⟩
    have hi : i = 2 := by omega
    subst hi
    exact ⟨v, a2, by rw [fL_law_L212, if_pos (by decide)], hL⟩
  | succ j ih =>
    intro i fuel v a2 e1 e2 hL
    obtain ⟨x, rfl⟩ : ∃ x, fuel = x + 1 := ⟨fuel - 1, by omega⟩
    have hi : i < 2 := by omega
    have h2 : ¬ (2 : Int32) ≤ nI i := fun z => by
      have z2 : nI 2 ≤ nI i := z
      rw [nI_leI (by omega) (by omega)] at z2; omega
    obtain ⟨k, k1, k2⟩ := low_eq N (z7 >>> (((3 : Int32) * nI i) &&& 31)) (n := 7) (by omega) (by omega)
    have k2' : fL_low N (z7 >>> (((3 : Int32) * nI i) &&& 31)) 7 = some (nI k) := k2
    rw [fL_law_L212, if_neg h2, k2', Option.bind_some]
    by_cases h6 : k < 6
    · rw [if_neg (le6 h6)]
      obtain ⟨hI, H, hNw, hW, hLM⟩ := hL
      obtain ⟨hA, l1, l4, lw, la⟩ := hLM
      obtain ⟨w1, w2, w3⟩ := lw k h6
      have hneg := neg_wait (hW.lt hB k h6)
      have b18 : ∀ {α : Type} (q : Option α), chk (nI k) 18 q = q := fun q => chk_nI (by omega) (by decide) q
      obtain ⟨h', c1, c2⟩ := come_eq (v := v) H N h6
      simp only [b18, nI_clamp (show k < 2 ^ 31 by omega), nI_1, nmd, upd_same, c2, Option.bind_some]
      by_cases hm : v.1.2.1 k = -1
      · rw [if_pos hm, if_pos hm] at c2
        simp only [w1, hm, if_true]
        rw [if_neg (show ¬ (0 : Int32) ≤ -1 by decide)]
        refine ih (i + 1) x ((v.1.1, upd v.1.2.1 k 0, v.1.2.2), h', v.2.2) (upd a2 k 0) (by omega) (by omega) ⟨hI, c1, hNw, fun e he => ?_, hA, l1, l4, fun e he => ?_, la⟩
        · show upd v.1.2.1 k 0 e = -1 ∨ ∃ q, q ≤ B ∧ upd v.1.2.1 k 0 e = nI q
          by_cases z : e = k
          · rw [z, upd_same]; exact Or.inr ⟨0, Nat.zero_le _, rfl⟩
          · rw [upd_ne z]; exact hW e he
        · obtain ⟨y1, y2, y3⟩ := lw e he
          show upd a2 k 0 e = upd v.1.2.1 k 0 e ∧ upd a2 k 0 (6 + e) = _ ∧ upd a2 k 0 (12 + e) = _
          rw [upd_ne (show ¬ 6 + e = k by omega), upd_ne (show ¬ 12 + e = k by omega)]
          refine ⟨?_, y2, y3⟩
          by_cases z : e = k
          · rw [z, upd_same, upd_same]
          · rw [upd_ne z, upd_ne z, y1]
      · simp only [w1, if_neg hm]
        rw [if_pos (Int32.not_lt.mp (fun z => hm (hneg.mp z))), if_true]
        refine ih (i + 1) x ((v.1.1, v.1.2.1, v.1.2.2), h', v.2.2) (upd a2 k (v.1.2.1 k)) (by omega) (by omega) ⟨hI, c1, hNw, hW, hA, l1, l4, fun e he => ?_, la⟩
        obtain ⟨y1, y2, y3⟩ := lw e he
        show upd a2 k (v.1.2.1 k) e = v.1.2.1 e ∧ upd a2 k (v.1.2.1 k) (6 + e) = _ ∧ upd a2 k (v.1.2.1 k) (12 + e) = _
        rw [upd_ne (show ¬ 6 + e = k by omega), upd_ne (show ¬ 12 + e = k by omega)]
        refine ⟨?_, y2, y3⟩
        by_cases z : e = k
        · rw [z, upd_same]
        · rw [upd_ne z, y1]
    · have hk : k = 6 := by omega
      rw [if_pos (show (6 : Int32) ≤ nI k by rw [hk]; decide), nI_1]
      exact ih (i + 1) x v a2 (by omega) (by omega) hL
theorem ticks_low (N : Nat) (x r : Int32) : ∃ k, k < 20 ∧ fL_low N x (if r = 0 then (20 : Int32) else (4 : Int32)) = some (nI k) := by
  by_cases h : r = 0
  · rw [if_pos h]
    obtain ⟨k, k1, k2⟩ := low_eq N x (n := 20) (by omega) (by omega)
    exact ⟨k, k1, k2⟩
  · rw [if_neg h]
    obtain ⟨k, k1, k2⟩ := low_eq N x (n := 4) (by omega) (by omega)
    exact ⟨k, by omega, k2⟩
theorem L191_eq {N : Nat} (hN : 1000 ≤ N) {sn : Nat} (hsn : sn ≤ 260) (sx : Nat → Int32) : ∀ (j i fuel : Nat) (v : SX7) (a1 : SQ5) (a2 : SQ18) (a3 : SQ8) (g : Gr) (ho : Nat → Nat) (ct s l f B : Nat), i + j = 30 → j < fuel → LI v a1 a2 a3 g ho ct s l f B → B + 21 * j < 2 ^ 20 → ∃ v' b1 b2 b3 g' ho' ct' s' l' f' B', fL_law_L191 N sn sx fuel v a1 a2 a3 (nI ct) (nI i) = some (v', b1, b2, b3) ∧ LI v' b1 b2 b3 g' ho' ct' s' l' f' B' := by
  intro j
  induction j with
  | zero =>
    intro i fuel v a1 a2 a3 g ho ct s l f B e1 e2 hL hB
    obtain ⟨x, rfl⟩ : ∃ x, fuel = x + 1 := ⟨fuel - 1, by omega⟩
    have hi : i = 30 := by omega
    subst hi
    exact ⟨v, a1, a2, a3, g, ho, ct, s, l, f, B, by rw [fL_law_L191, if_pos (by decide)], hL⟩
  | succ j ih =>
    intro i fuel v a1 a2 a3 g ho ct s l f B e1 e2 hL hB
    obtain ⟨x, rfl⟩ : ∃ x, fuel = x + 1 := ⟨fuel - 1, by omega⟩
    have hi : i < 30 := by omega
    have h30 : ¬ (30 : Int32) ≤ nI i := fun z => by
      have z2 : nI 30 ≤ nI i := z
      rw [nI_leI (by omega) (by omega)] at z2; omega
    obtain ⟨r, hr⟩ := cell_eq N (show sn < 2 ^ 31 by omega) sx (show 50 + i < 2 ^ 31 by omega)
    have hr' : fL_cell N sn sx ((50 : Int32) + nI i) = some r := by
      rw [show (50 : Int32) = nI 50 from rfl, nI_add]; exact hr
    obtain ⟨v1, b2, c1, c2⟩ := L212_eq (N := N) sn sx (a1 := a1) (a3 := a3) (nI ct) (nI i) r (show B < 2 ^ 30 by omega) 2 0 N v a2 rfl (by omega) hL
    have c1' : fL_law_L212 N sn sx a1 a3 (nI ct) (nI i) r N v a2 0 = some (v1, b2) := c1
    obtain ⟨t, -, t2⟩ := low_eq N (r >>> (9 &&& 31)) (n := 4) (by omega) (by omega)
    have t2' : fL_low N (r >>> (9 &&& 31)) 4 = some (nI t) := t2
    obtain ⟨k, k1, k2⟩ := ticks_low N (r >>> (6 &&& 31)) (nI t)
    have hk : (1 : Int32) + nI k = nI (1 + k) := nI_add 1 k
    obtain ⟨hI, H, hNw, hW, hLM⟩ := c2
    obtain ⟨m', h', s1, l1, f1, d1, d2, d3, c, q1, q2, q3, q4, q5, q6, q7, q8⟩ := event_eq (v := v1) hI H hN sn sx (nI i) r (k := 1 + k) (by omega) (by omega) hNw hW (by omega) hLM
    have hI2 : PI m'.1 g ho ct := by rw [q5]; exact hI
    have T1 := tells_eq (v := (m', h', v1.2.2)) hI2 (show 11 ≤ N by omega) q6 q8 q7 (by omega)
    obtain ⟨w, -, w2⟩ := low_eq N (r >>> (12 &&& 31)) (n := 9) (by omega) (by omega)
    have w2' : fL_low N (r >>> (12 &&& 31)) 9 = some (nI w) := w2
    have tail : ∀ (u : SX7) (g2 : Gr) (ho2 : Nat → Nat), LI u d1 d2 d3 g2 ho2 ct s1 l1 f1 (B + (1 + k)) → ∃ v' b1 b2 b3 g' ho' ct' s' l' f' B', ((fL_low N (r >>> (15 &&& 31)) 9).bind fun r91 => if r91 = 0 then (fL_low N (r >>> (20 &&& 31)) 6).bind fun r94 => (rt (fX7_set N u r94)).bind fun r96 => if 0 ≤ r96.1 then fL_law_L191 N sn sx x r96.2 d1 d2 d3 r94 (nI i + 1) else none else fL_law_L191 N sn sx x u d1 d2 d3 (nI ct) (nI i + 1)) = some (v', b1, b2, b3) ∧ LI v' b1 b2 b3 g' ho' ct' s' l' f' B' := by
      intro u g2 ho2 hu
      obtain ⟨y, -, y2⟩ := low_eq N (r >>> (15 &&& 31)) (n := 9) (by omega) (by omega)
      have y2' : fL_low N (r >>> (15 &&& 31)) 9 = some (nI y) := y2
      obtain ⟨z, z1, z2⟩ := low_eq N (r >>> (20 &&& 31)) (n := 6) (by omega) (by omega)
      have z2' : fL_low N (r >>> (20 &&& 31)) 6 = some (nI z) := z2
      rw [y2', Option.bind_some, nI_1]
      by_cases hy : nI y = 0
      · obtain ⟨hI3, H3, hNw3, hW3, hLM3⟩ := hu
        obtain ⟨h3, p1, p2⟩ := set_eq (v := u) H3 N (show z ≤ 5 by omega)
        rw [if_pos hy, z2', Option.bind_some, p2, Option.bind_some]
        dsimp only
        rw [show u.1.1.2.2.2.2.2.2.2 = nI ct from hI3.2.1.2.1, if_pos (show (0 : Int32) ≤ nI ct from by
          have h5 := hI3.2.1.2.2
          show nI 0 ≤ nI ct
          exact (nI_leI (by omega) (by omega)).mpr (Nat.zero_le _))]
        exact ih (i + 1) x _ d1 d2 d3 g2 ho2 z s1 l1 f1 (B + (1 + k)) (by omega) (by omega) ⟨set_PI hI3 (show z ≤ 5 by omega), p1, hNw3, hW3, hLM3⟩ (by omega)
      · rw [if_neg hy]
        exact ih (i + 1) x u d1 d2 d3 g2 ho2 ct s1 l1 f1 (B + (1 + k)) (by omega) (by omega) hu (by omega)
    rw [fL_law_L191, if_neg h30, hr', Option.bind_some, c1', Option.bind_some]
    dsimp only
    rw [t2', Option.bind_some, k2, Option.bind_some, hk, q3, Option.bind_some]
    dsimp only
    rw [q4, Option.bind_some, q2, Option.bind_some]
    dsimp only
    rw [if_pos rfl, T1, Option.bind_some]
    dsimp only
    rw [if_neg (show ¬ (1 : Int32) = 0 by decide), w2', Option.bind_some]
    by_cases hw : nI w = 0
    · have hn := q6.1
      have h8 := hI2.1.1
      obtain ⟨p, p1, p2⟩ := low_eq N (r >>> (16 &&& 31)) (n := gN g) (by omega) (by omega)
      obtain ⟨e, g1, g3⟩ := low_eq N (r >>> (19 &&& 31)) (n := 64) (by omega) (by omega)
      have g3' : fL_low N (r >>> (19 &&& 31)) 64 = some (nI e) := g3
      obtain ⟨o, o1, o2⟩ := low_eq N (r >>> (25 &&& 31)) (n := 5) (by omega) (by omega)
      have o2' : fL_low N (r >>> (25 &&& 31)) 5 = some (nI o) := o2
      have ho1 : (1 : Int32) + nI o = nI (1 + o) := nI_add 1 o
      obtain ⟨h2, x1, x2, x3⟩ := change_eq (v := (m', h', v1.2.2)) hI2 q1 N p1 (mask_bits (show e ≤ 63 by omega)) (k := 1 + o) (by omega) (by omega)
      have hq6 : Now ((m'.1.1, upd m'.1.2.1 p (nI e), upd m'.1.2.2.1 p (nI (1 + o)), m'.1.2.2.2), m'.2) (gCh g p (nI e)) s1 l1 f1 := q6
      have hq8 : LM ((m'.1.1, upd m'.1.2.1 p (nI e), upd m'.1.2.2.1 p (nI (1 + o)), m'.1.2.2.2), m'.2) d1 d2 d3 (gCh g p (nI e)) s1 l1 f1 := q8
      have T2 := tells_eq (v := (((m'.1.1, upd m'.1.2.1 p (nI e), upd m'.1.2.2.1 p (nI (1 + o)), m'.1.2.2.2), m'.2), h2, v1.2.2)) x3 (show 11 ≤ N by omega) hq6 hq8 q7 (by omega)
      have P2 := phase0 (v := (((m'.1.1, upd m'.1.2.1 p (nI e), upd m'.1.2.2.1 p (nI (1 + o)), m'.1.2.2.2), m'.2), h2, v1.2.2)) x3.1 N (show p < gN (gCh g p (nI e)) from p1)
      rw [show gG (gCh g p (nI e)) p = nI e from if_pos rfl] at P2
      rw [if_pos hw, count0 (v := (m', h', v1.2.2)) hI2.1, Option.bind_some]
      dsimp only
      rw [p2, Option.bind_some, g3', Option.bind_some, phase0 (v := (m', h', v1.2.2)) hI2.1 N p1, Option.bind_some]
      dsimp only
      rw [o2', Option.bind_some, ho1, x2, Option.bind_some]
      dsimp only
      rw [if_pos rfl, P2, Option.bind_some]
      dsimp only
      rw [if_pos rfl, T2, Option.bind_some]
      dsimp only
      rw [if_neg (show ¬ (1 : Int32) = 0 by decide)]
      exact tail _ (gCh g p (nI e)) _ ⟨x3, x1, hq6, q7, hq8⟩
    · rw [if_neg hw]
      exact tail (m', h', v1.2.2) g ho ⟨hI2, q1, q6, q7, q8⟩
theorem L555_eq {N : Nat} (hN : 1000 ≤ N) {sn : Nat} (hsn : sn ≤ 260) (sx : Nat → Int32) (a1 : SQ5) (a2 : SQ18) (a3 : SQ8) {g : Gr} {ho : Nat → Nat} {ct : Nat} : ∀ (j i fuel : Nat) (v : SX7) (s : Nat), i + j = 6 → j < fuel → PI v.1.1 g ho ct → HB v.2.1 → v.1.2.2.2.2.2.1 = nI s → s < gN g → ∃ v', fL_law_L555 N sn sx a1 a2 a3 fuel v (nI i) = some v' := by
  intro j
  induction j with
  | zero =>
    intro i fuel v s e1 e2 hI H hs hs2
    obtain ⟨x, rfl⟩ : ∃ x, fuel = x + 1 := ⟨fuel - 1, by omega⟩
    have hi : i = 6 := by omega
    subst hi
    exact ⟨v, by rw [fL_law_L555, if_pos (by decide)]⟩
  | succ j ih =>
    intro i fuel v s e1 e2 hI H hs hs2
    obtain ⟨x, rfl⟩ : ∃ x, fuel = x + 1 := ⟨fuel - 1, by omega⟩
    have hi : i < 6 := by omega
    have h8 := hI.1.1
    obtain ⟨r, hr⟩ := cell_eq N (show sn < 2 ^ 31 by omega) sx (show 80 < 2 ^ 31 by omega)
    have hr' : fL_cell N sn sx 80 = some r := hr
    obtain ⟨p, p1, p2⟩ := low_eq N (r >>> (((4 : Int32) * nI i) &&& 31)) (n := gN g) (by omega) (by omega)
    have hb : (81 : Int32) + ((13 : Int32) * nI i) = nI (81 + 13 * i) := by
      rw [show (13 : Int32) = nI 13 from rfl, nI_mul, show (81 : Int32) = nI 81 from rfl, nI_add]
    obtain ⟨v', s', q1, q2, q3, q4, q5⟩ := served_eq (v := v) hI H hN hsn sx (show 81 + 13 * i < 1000 by omega) hs (show s < 2 ^ 31 by omega) hi p1
    rw [fL_law_L555, if_neg (le6 hi), hr', Option.bind_some, count0 hI.1, Option.bind_some]
    dsimp only
    rw [p2, Option.bind_some, hb, q1, Option.bind_some]
    dsimp only
    rw [if_neg (show ¬ (1 : Int32) = 0 by decide), nI_1]
    exact ih (i + 1) x v' s' (by omega) (by omega) (by rw [q2]; exact hI) q3 q4 q5
end EV
