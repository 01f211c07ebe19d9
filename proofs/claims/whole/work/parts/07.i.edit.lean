/-! what edits do to both machines -/
abbrev U8 : Type := (Nat → Int32) × Int32 × (Nat → Int32) × Int32 × (Nat → Int32) × Int32 × Int32 × Int32 × (Nat → Int32) × (Nat → Int32) × Int64
theorem shl_0 : ∀ k : Fin 32, (0 : Int32) <<< (nI k.val &&& 31) = 0 := by decide +kernel
theorem b2i_1 : b2i true = 1 := rfl
theorem b2i_0 : b2i false = 0 := rfl
/-- a clash put into a mask -/
def cbit (x : Int32) (b : Nat) (i : Bool) : Int32 := (x &&& (((1 : Int32) <<< (nI b &&& 31)) ^^^ (-1))) ||| (b2i i <<< (nI b &&& 31))
theorem cbit_f (x : Int32) {b : Nat} (h : b < 32) : cbit x b false = (x &&& (((1 : Int32) <<< (nI b &&& 31)) ^^^ (-1))) := by
  unfold cbit
  rw [b2i_0, shl_0 ⟨b, h⟩, Int32.or_zero]
theorem cbit_lt {x : Int32} {b : Nat} (hb : b < 6) (i : Bool) (hx : ∀ q, bt x q = true → q < 6) : ∀ q, bt (cbit x b i) q = true → q < 6 := by
  intro q hq
  cases i
  · rw [cbit_f x (by omega), bt_and, Bool.and_eq_true] at hq
    exact hx q hq.1
  · unfold cbit at hq
    rw [bt_or, bt_and, Bool.or_eq_true, Bool.and_eq_true, b2i_1, bt_shl1 (by omega), decide_eq_true_eq] at hq
    rcases hq with hq | hq
    · exact hx q hq.1
    · omega
theorem ix7 (a : Nat) : (7 : Int32) + nI a = nI (7 + a) := nI_add 7 a
theorem clash_mach {m : SX1} {z : Nat → Int32} {n a b : Nat} (M : MR m z n) (ha : a < 6) (hb : b < 6) (hab : ¬ a = b) (i : Bool) : ∃ v' z', (∀ N, fX2_putClash N m.1 (nI a) (nI b) (b2i i) = some v') ∧ (∀ N (t : Int32) (u : U8), fX8_setClash N (t, z, u) (nI a) (nI b) (b2i i) = some (t, z', u)) ∧ MR (v', m.2) z' n := by
  obtain ⟨hN, hA, hd, hp, har, h0⟩ := M
  have da := (hd a ha).1
  have db := (hd b hb).1
  refine ⟨(upd (upd m.1.1 a (cbit (m.1.1 a) b i)) b (cbit (m.1.1 b) a i), m.1.2), upd (upd z (7 + a) (cbit (z (7 + a)) b i)) (7 + b) (cbit (z (7 + b)) a i), fun N => ?_, fun N t u => ?_, ?_⟩
  · unfold fX2_putClash
    rw [rowAt_nI ha (by decide), rowAt_nI hb (by decide)]
    cases i
    · rw [b2i_0, if_pos rfl, if_pos rfl, rowPut_nI ha (by decide), rowPut_nI hb (by decide), cbit_f _ (by omega), cbit_f _ (by omega)]
    · rw [b2i_1, if_neg (by decide), if_neg (by decide), rowPut_nI ha (by decide), rowPut_nI hb (by decide)]
      rfl
  · unfold fX8_setClash
    rw [ix7, ix7, chk_nI (by omega) (by decide), chk_nI (by omega) (by decide), nI_clamp (by omega), nI_clamp (by omega)]
    unfold nmd
    dsimp only
    rw [chk_nI (by omega) (by decide), chk_nI (by omega) (by decide), upd_ne (by omega)]
    rfl
  · have e1 : ∀ d, d < 6 → upd (upd m.1.1 a (cbit (m.1.1 a) b i)) b (cbit (m.1.1 b) a i) d = upd (upd z (7 + a) (cbit (z (7 + a)) b i)) (7 + b) (cbit (z (7 + b)) a i) (7 + d) := by
      intro d hd6
      by_cases h1 : d = b
      · subst h1; rw [upd_same, upd_same, db]
      · rw [upd_ne h1, upd_ne (show ¬ 7 + d = 7 + b by omega)]
        by_cases h2 : d = a
        · subst h2; rw [upd_same, upd_same, da]
        · rw [upd_ne h2, upd_ne (show ¬ 7 + d = 7 + a by omega)]
          exact (hd d hd6).1
    have e2 : ∀ d, d < 6 → ∀ q, bt (upd (upd z (7 + a) (cbit (z (7 + a)) b i)) (7 + b) (cbit (z (7 + b)) a i) (7 + d)) q = true → q < 6 := by
      intro d hd6
      by_cases h1 : d = b
      · subst h1; rw [upd_same]; exact cbit_lt ha i (hd d hd6).2.1
      · rw [upd_ne (show ¬ 7 + d = 7 + b by omega)]
        by_cases h2 : d = a
        · subst h2; rw [upd_same]; exact cbit_lt hb i (hd d hd6).2.1
        · rw [upd_ne (show ¬ 7 + d = 7 + a by omega)]; exact (hd d hd6).2.1
    have zz : ∀ x, ¬ x = 7 + a → ¬ x = 7 + b → upd (upd z (7 + a) (cbit (z (7 + a)) b i)) (7 + b) (cbit (z (7 + b)) a i) x = z x := fun x h1 h2 => by rw [upd_ne h2, upd_ne h1]
    obtain ⟨n8, n1, n2, ct, n3, n4, n5⟩ := hN
    obtain ⟨a1, a2, a3, a4⟩ := hA
    refine ⟨⟨n8, n1, by rw [zz 0 (by omega) (by omega), n2], ct, n3, n4, by rw [zz 1 (by omega) (by omega), n5]⟩, ⟨by rw [zz 2 (by omega) (by omega)]; exact a1, by rw [zz 4 (by omega) (by omega)]; exact a2, by rw [zz 6 (by omega) (by omega)]; exact a3, by rw [zz 4 (by omega) (by omega), zz 3 (by omega) (by omega), zz 5 (by omega) (by omega)]; exact a4⟩, fun d hd6 => ⟨e1 d hd6, e2 d hd6, ?_, ?_, ?_⟩, fun p hpn => (hp p hpn).congr (Nat.le_refl _) ⟨rfl, rfl, rfl, fun _ _ => ⟨rfl, rfl⟩⟩ rfl (fun w hw => zz _ (by omega) (by omega)), har, h0⟩
    · rw [zz _ (by omega) (by omega)]; exact (hd d hd6).2.2.1
    · rw [zz _ (by omega) (by omega)]; exact (hd d hd6).2.2.2.1
    · rw [zz _ (by omega) (by omega)]; exact (hd d hd6).2.2.2.2
/-- cells of a block set to 0 -/
def zer (z : Nat → Int32) (b i : Nat) : Nat → Int32 := fun j => if b + i ≤ j ∧ j < b + 14 then 0 else z j
theorem added_L10 (N : Nat) (y1 y2 : Int32) {n : Nat} (hn : n < 8) (t : Int32) (u : U8) : ∀ (j i fuel : Nat) (z : Nat → Int32), i + j = 14 → j < fuel → fX8_phaseAdded_L10 N y1 y2 (nI n) fuel (t, z, u) (nI i) = some (t, zer z (31 + 14 * n) i, u) := by
  intro j
  induction j with
  | zero =>
    intro i fuel z e1 e2
    obtain ⟨f, rfl⟩ : ∃ f, fuel = f + 1 := ⟨fuel - 1, by omega⟩
    have hi : i = 14 := by omega
    subst hi
    rw [fX8_phaseAdded_L10, if_pos (by decide)]
    refine congrArg some (Prod.ext rfl (Prod.ext ?_ rfl))
    funext x
    show z x = zer z (31 + 14 * n) 14 x
    unfold zer
    rw [if_neg (by omega)]
  | succ j ih =>
    intro i fuel z e1 e2
    obtain ⟨f, rfl⟩ : ∃ f, fuel = f + 1 := ⟨fuel - 1, by omega⟩
    have hi : i < 14 := by omega
    rw [fX8_phaseAdded_L10, if_neg (show ¬ (14 : Int32) ≤ nI i from fun q => by
      have q2 : nI 14 ≤ nI i := q
      rw [nI_leI (by omega) (by omega)] at q2; omega), ix14, chk_nI (by omega) (by omega), nI_clamp (show 31 + 14 * n + i < 2 ^ 31 by omega)]
    unfold nmd
    dsimp only
    rw [nI_1, ih (i + 1) f _ (by omega) (by omega)]
    refine congrArg some (Prod.ext rfl (Prod.ext ?_ rfl))
    funext x
    show zer (upd z (31 + 14 * n + i) 0) (31 + 14 * n) (i + 1) x = zer z (31 + 14 * n) i x
    unfold zer
    by_cases h1 : x = 31 + 14 * n + i
    · subst h1
      rw [if_neg (by omega), if_pos (by omega), upd_same]
    · by_cases h2 : 31 + 14 * n + (i + 1) ≤ x ∧ x < 31 + 14 * n + 14
      · rw [if_pos h2, if_pos (by omega)]
      · rw [if_neg h2, if_neg (by omega), upd_ne h1]
theorem phase_mach {m : SX1} {z : Nat → Int32} {n h : Nat} {G : Int32} (M : MR m z n) (hn : n < 8) (h1 : 1 ≤ h) (h9 : h ≤ 9) (hG : ∀ q, bt G q = true → q < 6) : ∃ v' z', (∀ N, fX2_appendPhase N m.1 G (nI h) = some (nI n, v')) ∧ (∀ N (t : Int32) (u : U8), 900 ≤ N → fX8_phaseAdded N (t, z, u) G (nI h) = some (nI n, (t, z', u))) ∧ MR (v', m.2) z' (n + 1) := by
  obtain ⟨⟨n8, n1, n2, ct, n3, n4, n5⟩, ⟨a1, a2, a3, a4⟩, hd, hp, har, h0⟩ := M
  refine ⟨(m.1.1, upd m.1.2.1 n G, upd m.1.2.2.1 n (nI h), upd m.1.2.2.2.1 n 0, m.1.2.2.2.2.1, m.1.2.2.2.2.2.1, nI (n + 1), m.1.2.2.2.2.2.2.2), upd (upd (upd (upd (zer z (31 + 14 * n) 0) (31 + 14 * n) G) (32 + 14 * n) (nI h)) 0 (nI (n + 1))) 2 (if n = 0 then 0 else z 2), fun N => ?_, fun N t u hN => ?_, ?_⟩
  · unfold fX2_appendPhase
    rw [n1, rowPut_nI hn (by decide), rowPut_nI hn (by decide), rowPut_nI hn (by decide), nI_1]
  · have e0 : ((31 : Int32) + ((14 : Int32) * nI n)) + 0 = nI (31 + 14 * n) := ix14 n 0
    have e1 : ((31 : Int32) + ((14 : Int32) * nI n)) + 1 = nI (32 + 14 * n) := by
      rw [show (1 : Int32) = nI 1 from rfl, ix14, show 31 + 14 * n + 1 = 32 + 14 * n by omega]
    have hl := added_L10 N G (nI h) hn t u 14 0 N z (by omega) (by omega)
    have hl' : fX8_phaseAdded_L10 N G (nI h) (nI n) N (t, z, u) 0 = _ := hl
    have z0 : upd (upd (zer z (31 + 14 * n) 0) (31 + 14 * n) G) (32 + 14 * n) (nI h) 0 = nI n := by
      rw [upd_ne (by omega), upd_ne (by omega)]
      unfold zer
      rw [if_neg (by omega), n2]
    have z2 : upd (upd (upd (zer z (31 + 14 * n) 0) (31 + 14 * n) G) (32 + 14 * n) (nI h)) 0 (nI (n + 1)) 2 = z 2 := by
      rw [upd_ne (by omega), upd_ne (by omega), upd_ne (by omega)]
      unfold zer
      rw [if_neg (by omega)]
    unfold fX8_phaseAdded
    rw [chk0, tn0]
    show (fX8_phaseAdded_L10 N G (nI h) (z 0) N (t, z, u) 0).bind _ = _
    dsimp only
    simp only [n2]
    rw [hl', Option.bind_some, e0, e1, chk_nI (by omega) (by decide), nI_clamp (by omega)]
    unfold nmd
    dsimp only
    rw [chk_nI (by omega) (by decide), nI_clamp (by omega), chk0, chk0, z0, nI_1]
    by_cases hz : n = 0
    · rw [if_pos (by rw [hz]; decide), chk2, tn2, if_pos hz]
    · rw [if_neg (show ¬ nI n = 0 from fun q => hz ((nI_eq (b := 0) (by omega) (by omega)).mp q)), chk2, chk2, tn2, if_neg hz, z2]
  · have zz : ∀ x, x < 31 + 14 * n → ¬ x = 0 → ¬ x = 2 → upd (upd (upd (upd (zer z (31 + 14 * n) 0) (31 + 14 * n) G) (32 + 14 * n) (nI h)) 0 (nI (n + 1))) 2 (if n = 0 then 0 else z 2) x = z x := fun x c1 c2 c3 => by
      rw [upd_ne c3, upd_ne c2, upd_ne (by omega), upd_ne (by omega)]
      unfold zer
      rw [if_neg (by omega)]
    have zb : ∀ w, w < 12 → upd (upd (upd (upd (zer z (31 + 14 * n) 0) (31 + 14 * n) G) (32 + 14 * n) (nI h)) 0 (nI (n + 1))) 2 (if n = 0 then 0 else z 2) (33 + 14 * n + w) = 0 := fun w hw => by
      rw [upd_ne (by omega), upd_ne (by omega), upd_ne (by omega), upd_ne (by omega)]
      unfold zer
      rw [if_pos (by omega)]
    have zg : upd (upd (upd (upd (zer z (31 + 14 * n) 0) (31 + 14 * n) G) (32 + 14 * n) (nI h)) 0 (nI (n + 1))) 2 (if n = 0 then 0 else z 2) (31 + 14 * n) = G := by
      rw [upd_ne (by omega), upd_ne (by omega), upd_ne (by omega), upd_same]
    have zh : upd (upd (upd (upd (zer z (31 + 14 * n) 0) (31 + 14 * n) G) (32 + 14 * n) (nI h)) 0 (nI (n + 1))) 2 (if n = 0 then 0 else z 2) (32 + 14 * n) = nI h := by
      rw [upd_ne (by omega), upd_ne (by omega), upd_same]
    refine ⟨⟨by omega, rfl, by rw [upd_ne (by omega), upd_same], ct, n3, n4, by rw [zz 1 (by omega) (by omega) (by omega), n5]⟩, ⟨?_, by rw [zz 4 (by omega) (by omega) (by omega)]; exact a2, by rw [zz 6 (by omega) (by omega) (by omega)]; exact a3, ?_⟩, fun d hd6 => (hd d hd6).congr rfl rfl rfl rfl (zz _ (by omega) (by omega) (by omega)) (zz _ (by omega) (by omega) (by omega)) (zz _ (by omega) (by omega) (by omega)) (zz _ (by omega) (by omega) (by omega)), fun p hpn => ?_, fun p h8 hpn => har p h8 (by omega), fun q => by omega⟩
    · refine Or.inr ?_
      rcases a1 with ⟨c1, c2, c3⟩ | ⟨s, c1, c2, c3⟩
      · exact ⟨0, by omega, by rw [upd_same, if_pos c1]; rfl, c3⟩
      · exact ⟨s, by omega, by rw [upd_same, if_neg (by omega), c2], c3⟩
    · rw [zz 4 (by omega) (by omega) (by omega), zz 3 (by omega) (by omega) (by omega), zz 5 (by omega) (by omega) (by omega)]
      rcases a4 with c | ⟨l, l1, l2, l3, p, p1, p2⟩
      · exact Or.inl c
      · exact Or.inr ⟨l, l1, l2, l3, p, by omega, p2⟩
    · by_cases hpe : p = n
      · subst hpe
        refine ⟨by rw [zg]; exact upd_same, by rw [zg]; exact hG, ⟨h, h1, h9, upd_same, zh⟩, ?_, 0, by omega, upd_same, ?_, fun r hr => by omega⟩
        · exact (har p hn (Nat.le_refl _)).trans (zb 0 (by omega)).symm
        · have := zb 1 (by omega)
          rw [show 33 + 14 * p + 1 = 34 + 14 * p by omega] at this
          exact this
      · exact (hp p (by omega)).congr (by omega) ⟨upd_ne hpe, upd_ne hpe, upd_ne hpe, fun _ _ => ⟨rfl, rfl⟩⟩ rfl (fun w hw => zz _ (by omega) (by omega) (by omega))
theorem ix4r (p r : Nat) : (((31 : Int32) + ((14 : Int32) * nI p)) + 4) + ((2 : Int32) * nI r) = nI (35 + 14 * p + 2 * r) := by
  rw [show (4 : Int32) = nI 4 from rfl, ix14, show (2 : Int32) = nI 2 from rfl, nI_mul, nI_add, show 31 + 14 * p + 4 + 2 * r = 35 + 14 * p + 2 * r by omega]
theorem ix3 (p : Nat) : ((31 : Int32) + ((14 : Int32) * nI p)) + 3 = nI (34 + 14 * p) := by
  rw [show (3 : Int32) = nI 3 from rfl, ix14, show 31 + 14 * p + 3 = 34 + 14 * p by omega]
theorem rules_of (N : Nat) (v : SX8) {p k : Nat} (hp : p < 8) (h : v.2.1 (34 + 14 * p) = nI k) : fX8_rules N v (nI p) = some (nI k) := by
  unfold fX8_rules
  rw [show (3 : Int32) = nI 3 from rfl, X8_of_eq N v hp (by omega), Option.bind_some, show 31 + 14 * p + 3 = 34 + 14 * p by omega, h]
theorem cell4 (p r : Nat) : nI p * 4 + nI r = nI (4 * p + r) := by
  rw [show (4 : Int32) = nI 4 from rfl, nI_mul, nI_add, Nat.mul_comm p 4]
theorem rule_mach {m : SX1} {z : Nat → Int32} {n p q rc : Nat} {A : Int32} (M : MR m z n) (hpn : p < n) (hqn : q < n) (hqp : ¬ q = p) (hrc : rc < 4) (hr : z (34 + 14 * p) = nI rc) (hA : ∀ q, bt A q = true → q < 6) : ∃ v' z', (∀ N, fX2_appendRule N m.1 (nI p) (nI q) A = some (nI (rc + 1), v')) ∧ (∀ N (t : Int32) (u : U8), fX8_ruleAdded N (t, z, u) (nI p) (nI q) A = some (nI (rc + 1), (t, z', u))) ∧ MR (v', m.2) z' n := by
  obtain ⟨⟨n8, n1, n2, ct, n3, n4, n5⟩, ⟨a1, a2, a3, a4⟩, hd, hp, har, h0⟩ := M
  have h8 : p < 8 := by omega
  obtain ⟨b1, b2, b3, b4, rc', c1, c2, c3, c4⟩ := hp p hpn
  have hrr : rc' = rc := by
    have : nI rc' = nI rc := c3.symm.trans hr
    exact (nI_eq (by omega) (by omega)).mp this
  subst hrr
  refine ⟨(m.1.1, m.1.2.1, m.1.2.2.1, upd m.1.2.2.2.1 p (nI (rc' + 1)), upd m.1.2.2.2.2.1 (4 * p + rc') (nI q), upd m.1.2.2.2.2.2.1 (4 * p + rc') A, m.1.2.2.2.2.2.2), upd (upd (upd z (35 + 14 * p + 2 * rc') (nI q)) (36 + 14 * p + 2 * rc') A) (34 + 14 * p) (nI (rc' + 1)), fun N => ?_, fun N t u => ?_, ?_⟩
  · unfold fX2_appendRule
    rw [rowAt_nI h8 (by decide), c2, nI_1, rowPut_nI h8 (by decide), cell4, rowPut_nI (by omega) (by decide), rowPut_nI (by omega) (by decide)]
  · unfold fX8_ruleAdded
    rw [rules_of N (t, z, u) h8 hr, Option.bind_some, ix4r, chk_nI (by omega) (by decide), nI_clamp (by omega)]
    unfold nmd
    dsimp only
    rw [rules_of N (t, upd z (35 + 14 * p + 2 * rc') (nI q), u) h8 (show upd z (35 + 14 * p + 2 * rc') (nI q) (34 + 14 * p) = nI rc' by rw [upd_ne (by omega), hr]), Option.bind_some, ix4r, nI_1, chk_nI (by omega) (by decide), nI_clamp (by omega), ix3, chk_nI (by omega) (by decide), chk_nI (by omega) (by decide), nI_clamp (by omega), show 35 + 14 * p + 2 * rc' + 1 = 36 + 14 * p + 2 * rc' by omega, show upd (upd z (35 + 14 * p + 2 * rc') (nI q)) (36 + 14 * p + 2 * rc') A (34 + 14 * p) = nI rc' by rw [upd_ne (by omega), upd_ne (by omega), hr], nI_1, rules_of N (t, _, u) h8 (show upd (upd (upd z (35 + 14 * p + 2 * rc') (nI q)) (36 + 14 * p + 2 * rc') A) (34 + 14 * p) (nI (rc' + 1)) (34 + 14 * p) = nI (rc' + 1) from upd_same), Option.bind_some]
  · have zz : ∀ x, ¬ x = 34 + 14 * p → ¬ x = 35 + 14 * p + 2 * rc' → ¬ x = 36 + 14 * p + 2 * rc' → upd (upd (upd z (35 + 14 * p + 2 * rc') (nI q)) (36 + 14 * p + 2 * rc') A) (34 + 14 * p) (nI (rc' + 1)) x = z x := fun x d1 d2 d3 => by rw [upd_ne d1, upd_ne d3, upd_ne d2]
    refine ⟨⟨n8, n1, by rw [zz 0 (by omega) (by omega) (by omega), n2], ct, n3, n4, by rw [zz 1 (by omega) (by omega) (by omega), n5]⟩, ⟨by rw [zz 2 (by omega) (by omega) (by omega)]; exact a1, by rw [zz 4 (by omega) (by omega) (by omega)]; exact a2, by rw [zz 6 (by omega) (by omega) (by omega)]; exact a3, by rw [zz 4 (by omega) (by omega) (by omega), zz 3 (by omega) (by omega) (by omega), zz 5 (by omega) (by omega) (by omega)]; exact a4⟩, fun d hd6 => (hd d hd6).congr rfl rfl rfl rfl (zz _ (by omega) (by omega) (by omega)) (zz _ (by omega) (by omega) (by omega)) (zz _ (by omega) (by omega) (by omega)) (zz _ (by omega) (by omega) (by omega)), fun p' hpn' => ?_, har, h0⟩
    by_cases hpe : p' = p
    · subst hpe
      refine ⟨by rw [zz _ (by omega) (by omega) (by omega)]; exact b1, by rw [zz _ (by omega) (by omega) (by omega)]; exact b2, by rw [zz _ (by omega) (by omega) (by omega)]; exact b3, by rw [zz _ (by omega) (by omega) (by omega)]; exact b4, rc' + 1, by omega, upd_same, upd_same, fun r hr' => ?_⟩
      by_cases hre : r = rc'
      · subst hre
        refine ⟨⟨q, hqn, hqp, upd_same, by rw [upd_ne (by omega), upd_ne (by omega), upd_same]⟩, ?_, ?_⟩
        · rw [upd_ne (by omega), upd_same]; exact upd_same
        · rw [upd_ne (by omega), upd_same]; exact hA
      · have hr3 : r < rc' := by omega
        obtain ⟨⟨q', q1, q2, q3, q4⟩, d2, d3⟩ := c4 r hr3
        rw [zz (35 + 14 * p' + 2 * r) (by omega) (by omega) (by omega), zz (36 + 14 * p' + 2 * r) (by omega) (by omega) (by omega)]
        exact ⟨⟨q', q1, q2, (upd_ne (by omega)).trans q3, q4⟩, (upd_ne (by omega)).trans d2, d3⟩
    · exact (hp p' hpn').congr (Nat.le_refl _) ⟨rfl, rfl, upd_ne hpe, fun r hr4 => ⟨upd_ne (by omega), upd_ne (by omega)⟩⟩ rfl (fun w hw => zz _ (by omega) (by omega) (by omega))
