/-! the machine that the law builds -/
theorem mask_bits {j : Nat} (h : j ≤ 63) : ∀ q, bt (nI j) q = true → q < 6 := by
  intro q hq
  by_cases h32 : q < 32
  · have : ∀ j : Fin 64, ∀ q : Fin 32, bt (nI j.val) q.val = true → q.val < 6 := by decide +kernel
    exact this ⟨j, by omega⟩ ⟨q, h32⟩ hq
  · rw [bt_ge (by omega)] at hq; cases hq
theorem low64 (N : Nat) (x y : Int32) : ∃ a b, fL_low N x 64 = some a ∧ fL_low N y 64 = some b ∧ ∀ q, bt (a &&& b) q = true → q < 6 := by
  obtain ⟨a, a1, a2⟩ := low_eq N x (n := 64) (by omega) (by omega)
  obtain ⟨b, b1, b2⟩ := low_eq N y (n := 64) (by omega) (by omega)
  refine ⟨nI a, nI b, a2, b2, fun q hq => ?_⟩
  rw [bt_and, Bool.and_eq_true] at hq
  exact mask_bits (by omega) q hq.1
theorem must_t {α : Type} (k : Option α) : must true k = k := rfl
theorem one_sub (b : Bool) : (1 : Int32) - b2i b = b2i (!b) := by cases b <;> rfl
section BD
variable {g : Gr} {ho : Nat → Nat} {ct : Nat}
theorem L70_eq (N : Nat) (sn : Nat) (sx : Nat → Int32) (z2 z3 z4 z5 : Int32) : ∀ (j i fuel : Nat) (v : SX7), i + j = 4 → j < fuel → PI v.1.1 g ho ct → HB v.2.1 → ∃ v', fL_build_L70 N sn sx z2 z3 z4 z5 fuel v 1 (nI i) = some (v', 1) ∧ PI v'.1.1 g ho ct ∧ HB v'.2.1 ∧ v'.1.2 = v.1.2 := by
  intro j
  induction j with
  | zero =>
    intro i fuel v e1 e2 hI H
    obtain ⟨f, rfl⟩ : ∃ f, fuel = f + 1 := ⟨fuel - 1, by omega⟩
    have hi : i = 4 := by omega
    subst hi
    exact ⟨v, by rw [fL_build_L70, if_pos (by decide)], hI, H, rfl⟩
  | succ j ih =>
    intro i fuel v e1 e2 hI H
    obtain ⟨f, rfl⟩ : ∃ f, fuel = f + 1 := ⟨fuel - 1, by omega⟩
    have hi : i < 4 := by omega
    have h4 : ¬ (4 : Int32) ≤ nI i := fun z => by
      have z2 : nI 4 ≤ nI i := z
      rw [nI_leI (by omega) (by omega)] at z2; omega
    obtain ⟨a, a1, a2⟩ := low_eq N (z4 >>> (((8 : Int32) + ((3 : Int32) * nI i)) &&& 31)) (n := 6) (by omega) (by omega)
    obtain ⟨e, c1, c2⟩ := low_eq N (z4 >>> (((20 : Int32) + nI i) &&& 31)) (n := 5) (by omega) (by omega)
    have a2' : fL_low N (z4 >>> (((8 : Int32) + ((3 : Int32) * nI i)) &&& 31)) 6 = some (nI a) := a2
    have c2' : fL_low N (z4 >>> (((20 : Int32) + nI i) &&& 31)) 5 = some (nI e) := c2
    have ho' : ((nI a + 1) + nI e) - ((nI a + 1) + nI e) / 6 * 6 = nI ((a + 1 + e) % 6) := by
      rw [nI_1, nI_add]
      exact nI_rem (n := 6) (by omega) (by omega)
    have hb6 : (a + 1 + e) % 6 < 6 := Nat.mod_lt _ (by omega)
    have hab : ¬ a = (a + 1 + e) % 6 := by omega
    obtain ⟨C', h', k1, k2, k3⟩ := clash_eq (v := v) H N a1 hb6 hab
    rw [fL_build_L70, if_neg h4, if_neg (show ¬ (1 : Int32) = 0 by decide), a2', Option.bind_some, c2', Option.bind_some, ho', dir2 v N a1, Option.bind_some, k2, Option.bind_some]
    dsimp only
    rw [bit_b2i _ (show (a + 1 + e) % 6 < 32 by omega), one_sub, if_pos rfl, dir2 ((((C', v.1.1.2), v.1.2), h', v.2.2) : SX7) N hb6, Option.bind_some]
    dsimp only
    rw [bit_b2i _ (show a < 32 by omega), k3, if_pos rfl, nI_1]
    obtain ⟨v', q1, q2, q3, q4⟩ := ih (i + 1) f (((C', v.1.1.2), v.1.2), h', v.2.2) (by omega) (by omega) hI k1
    exact ⟨v', q1, q2, q3, q4⟩
theorem hold_eq (N : Nat) (x r : Int32) : ∃ k, k < 9 ∧ fL_low N x (if r = 0 then (9 : Int32) else (3 : Int32)) = some (nI k) := by
  by_cases h : r = 0
  · rw [if_pos h]
    obtain ⟨k, k1, k2⟩ := low_eq N x (n := 9) (by omega) (by omega)
    exact ⟨k, k1, k2⟩
  · rw [if_neg h]
    obtain ⟨k, k1, k2⟩ := low_eq N x (n := 3) (by omega) (by omega)
    exact ⟨k, by omega, k2⟩
theorem L184_eq (N : Nat) {sn : Nat} (hs : sn ≤ 260) (sx : Nat → Int32) (z3 : Int32) {n : Nat} (hn : n ≤ 8) : ∀ (j i fuel : Nat) (v : SX7) (g : Gr) (ho : Nat → Nat), i + j = n → j < fuel → gN g = i → (∀ p, p < gN g → gR g p = 0) → PI v.1.1 g ho ct → HB v.2.1 → ∃ v' g' ho', fL_build_L184 N sn sx 0 z3 (nI n) fuel v 1 (nI i) = some (v', 1) ∧ gN g' = n ∧ (∀ p, p < gN g' → gR g' p = 0) ∧ PI v'.1.1 g' ho' ct ∧ HB v'.2.1 ∧ v'.1.2 = v.1.2 := by
  intro j
  induction j with
  | zero =>
    intro i fuel v g ho e1 e2 hg hR hI H
    obtain ⟨f, rfl⟩ : ∃ f, fuel = f + 1 := ⟨fuel - 1, by omega⟩
    have hi : i = n := by omega
    subst hi
    exact ⟨v, g, ho, by rw [fL_build_L184, if_pos ((nI_leI (by omega) (by omega)).mpr (Nat.le_refl _))], hg, hR, hI, H, rfl⟩
  | succ j ih =>
    intro i fuel v g ho e1 e2 hg hR hI H
    obtain ⟨f, rfl⟩ : ∃ f, fuel = f + 1 := ⟨fuel - 1, by omega⟩
    have hi : i < n := by omega
    obtain ⟨r, hr⟩ := cell_eq N (show sn < 2 ^ 31 by omega) sx (show 1 + i < 2 ^ 31 by omega)
    have hr' : fL_cell N sn sx ((0 + 1) + nI i) = some r := by
      rw [show ((0 : Int32) + 1) = nI 1 from rfl, nI_add]; exact hr
    obtain ⟨a, b, b1, b2, b3⟩ := low64 N r (r >>> (6 &&& 31))
    obtain ⟨t, -, t2⟩ := low_eq N (r >>> (16 &&& 31)) (n := 3) (by omega) (by omega)
    have t2' : fL_low N (r >>> (16 &&& 31)) 3 = some (nI t) := t2
    obtain ⟨k, k1, k2⟩ := hold_eq N (r >>> (12 &&& 31)) (nI t)
    have hk : (1 : Int32) + nI k = nI (1 + k) := nI_add 1 k
    obtain ⟨u, h', q1, q2, q3, q4⟩ := addPhase_eq (v := v) hI H N (by omega) b3 (k := 1 + k) (by omega) (by omega)
    have hin : gN g < gN (gAdd g (a &&& b)) := Nat.lt_succ_self _
    have p0 := phase0 (v := ((u, v.1.2), h', v.2.2)) q3.1 N hin
    have p1 := phase1 (v := ((u, v.1.2), h', v.2.2)) q3.1 q3.2.1 N hin
    have p2 := phase2 (v := ((u, v.1.2), h', v.2.2)) q3.1 N hin
    rw [show gG (gAdd g (a &&& b)) (gN g) = a &&& b from if_pos rfl] at p0
    rw [show (if gN g = gN g then 1 + k else ho (gN g)) = 1 + k from if_pos rfl] at p1
    rw [show gR (gAdd g (a &&& b)) (gN g) = 0 from if_pos rfl] at p2
    rw [hg] at q2 p0 p1 p2
    rw [fL_build_L184, if_neg (fun z => by rw [nI_leI (by omega) (by omega)] at z; omega), if_neg (show ¬ (1 : Int32) = 0 by decide), hr', Option.bind_some, b1, Option.bind_some, b2, Option.bind_some, t2', Option.bind_some, k2, Option.bind_some, hk, q2, Option.bind_some]
    dsimp only
    rw [if_pos rfl, p0, Option.bind_some]
    dsimp only
    rw [if_pos rfl, p1, Option.bind_some]
    dsimp only
    rw [if_pos rfl, p2, Option.bind_some]
    dsimp only
    rw [if_pos (show nI 0 = 0 from rfl), nI_1]
    obtain ⟨v', g', ho', x1, x2, x3, x4, x5, x6⟩ := ih (i + 1) f ((u, v.1.2), h', v.2.2) (gAdd g (a &&& b)) _ (by omega) (by omega) (by show gN g + 1 = i + 1; rw [hg]) (fun p hp => by
      show (if p = gN g then 0 else gR g p) = 0
      have hp2 : p < gN g + 1 := hp
      by_cases z : p = gN g
      · rw [if_pos z]
      · rw [if_neg z]; exact hR p (by omega)) q3 q1
    exact ⟨v', g', ho', x1, x2, x3, x4, x5, x6⟩
theorem goal_ne {n p e : Nat} (hp : p < n) (he : e < n - 1) : ¬ p = (p + 1 + e) % n ∧ (p + 1 + e) % n < n := by
  have hn : 0 < n := by omega
  refine ⟨fun z => ?_, Nat.mod_lt _ hn⟩
  by_cases h : p + 1 + e < n
  · rw [Nat.mod_eq_of_lt h] at z; omega
  · rw [Nat.mod_eq_sub_mod (by omega), Nat.mod_eq_of_lt (by omega)] at z; omega
theorem L361_eq (N : Nat) {sn : Nat} (hs : sn ≤ 260) (sx : Nat → Int32) (z3 : Int32) {n : Nat} (hn : n ≤ 8) (h2 : 2 ≤ n) {p : Nat} (hp : p < n) {m : Nat} (hm : m ≤ 4) : ∀ (j i fuel : Nat) (v : SX7) (g : Gr), i + j = m → j < fuel → gN g = n → gR g p = i → PI v.1.1 g ho ct → HB v.2.1 → ∃ v' g', fL_build_L361 N sn sx 0 z3 (nI n) (nI p) (nI m) fuel v 1 (nI i) = some (v', 1) ∧ gN g' = n ∧ (∀ q, ¬ q = p → gR g' q = gR g q) ∧ PI v'.1.1 g' ho ct ∧ HB v'.2.1 ∧ v'.1.2 = v.1.2 := by
  intro j
  induction j with
  | zero =>
    intro i fuel v g e1 e2 hg hR hI H
    obtain ⟨f, rfl⟩ : ∃ f, fuel = f + 1 := ⟨fuel - 1, by omega⟩
    have hi : i = m := by omega
    subst hi
    exact ⟨v, g, by rw [fL_build_L361, if_pos ((nI_leI (by omega) (by omega)).mpr (Nat.le_refl _))], hg, fun _ _ => rfl, hI, H, rfl⟩
  | succ j ih =>
    intro i fuel v g e1 e2 hg hR hI H
    obtain ⟨f, rfl⟩ : ∃ f, fuel = f + 1 := ⟨fuel - 1, by omega⟩
    have hi : i < m := by omega
    obtain ⟨r, hr⟩ := cell_eq N (show sn < 2 ^ 31 by omega) sx (show 17 + 4 * p + i < 2 ^ 31 by omega)
    have hr' : fL_cell N sn sx (((0 + 17) + ((4 : Int32) * nI p)) + nI i) = some r := by
      rw [show ((0 : Int32) + 17) = nI 17 from rfl, show (4 : Int32) = nI 4 from rfl, nI_mul, nI_add, nI_add]; exact hr
    obtain ⟨e, c1, c2⟩ := low_eq N r (n := n - 1) (by omega) (by omega)
    have c2' : fL_low N r (nI n - 1) = some (nI e) := by
      rw [show nI n - 1 = nI (n - 1) from nI_sub (b := 1) (by omega)]; exact c2
    have hn0 : ¬ nI n = 0 := fun z => by
      have z2 : nI n = nI 0 := z
      rw [nI_eq (by omega) (by omega)] at z2; omega
    have hgo : ((nI p + 1) + nI e) - ((nI p + 1) + nI e) / nI n * nI n = nI ((p + 1 + e) % n) := by
      rw [nI_1, nI_add]
      exact nI_rem (by omega) (by omega)
    obtain ⟨g1, g2⟩ := goal_ne hp c1
    obtain ⟨t, -, t2⟩ := low_eq N (r >>> (4 &&& 31)) (n := 5) (by omega) (by omega)
    have t2' : fL_low N (r >>> (4 &&& 31)) 5 = some (nI t) := t2
    obtain ⟨a, b, b1, b2, b3⟩ := low64 N (r >>> (7 &&& 31)) (r >>> (13 &&& 31))
    have step : ∀ A : Int32, (∀ q, bt A q = true → q < 6) → ∃ v' g', ((rt (fX7_addRule N v (nI p) (nI ((p + 1 + e) % n)) A)).bind fun r75 => if r75.1 = (nI i + 1) then (rt (fX7_rule N r75.2 (nI p) (nI i) 0)).bind fun r78 => if r78 = nI ((p + 1 + e) % n) then (rt (fX7_rule N r75.2 (nI p) (nI i) 1)).bind fun r81 => if r81 = A then fL_build_L361 N sn sx 0 z3 (nI n) (nI p) (nI m) f r75.2 1 (nI i + 1) else fL_build_L361 N sn sx 0 z3 (nI n) (nI p) (nI m) f r75.2 0 (nI i + 1) else fL_build_L361 N sn sx 0 z3 (nI n) (nI p) (nI m) f r75.2 0 (nI i + 1) else fL_build_L361 N sn sx 0 z3 (nI n) (nI p) (nI m) f r75.2 0 (nI i + 1)) = some (v', 1) ∧ gN g' = n ∧ (∀ q, ¬ q = p → gR g' q = gR g q) ∧ PI v'.1.1 g' ho ct ∧ HB v'.2.1 ∧ v'.1.2 = v.1.2 := by
      intro A hA
      obtain ⟨u, h', q1, q2, q3, q4⟩ := addRule_eq (v := v) hI H N (p := p) (q := (p + 1 + e) % n) (by omega) (by omega) g1 (by omega) hA
      have hpn : p < gN (gRul g p ((p + 1 + e) % n) A) := by show p < gN g; omega
      have hrn : i < gR (gRul g p ((p + 1 + e) % n) A) p := by
        show i < (if p = p then gR g p + 1 else gR g p)
        rw [if_pos rfl]; omega
      have s0 := rule0 (v := ((u, v.1.2), h', v.2.2)) q3.1 N hpn hrn
      have s1 := rule1 (v := ((u, v.1.2), h', v.2.2)) q3.1 N hpn hrn
      rw [show gO (gRul g p ((p + 1 + e) % n) A) p i = (p + 1 + e) % n from if_pos ⟨rfl, hR.symm⟩] at s0
      rw [show gA (gRul g p ((p + 1 + e) % n) A) p i = A from if_pos ⟨rfl, hR.symm⟩] at s1
      rw [q2, Option.bind_some]
      dsimp only
      rw [hR, nI_1, if_pos rfl, s0, Option.bind_some, if_pos rfl, s1, Option.bind_some, if_pos rfl]
      obtain ⟨v', g', x1, x2, x3, x4, x5, x6⟩ := ih (i + 1) f ((u, v.1.2), h', v.2.2) (gRul g p ((p + 1 + e) % n) A) (by omega) (by omega) hg (by
        show (if p = p then gR g p + 1 else gR g p) = i + 1
        rw [if_pos rfl, hR]) q3 q1
      refine ⟨v', g', x1, x2, fun q hq => ?_, x4, x5, x6⟩
      rw [x3 q hq]
      exact if_neg hq
    rw [fL_build_L361, if_neg (fun z => by rw [nI_leI (by omega) (by omega)] at z; omega), if_neg (show ¬ (1 : Int32) = 0 by decide), hr', Option.bind_some, c2', Option.bind_some, hgo, decide_eq_true hn0]
    rw [must_t, t2', Option.bind_some]
    by_cases ht : nI t = 0
    · rw [if_pos ht]
      exact step 0 (fun q hq => by rw [bt_0] at hq; cases hq)
    · rw [if_neg ht, b1, Option.bind_some, b2, Option.bind_some]
      exact step _ b3
theorem L321_eq (N : Nat) (hN : 100 ≤ N) {sn : Nat} (hs : sn ≤ 260) (sx : Nat → Int32) {n : Nat} (hn : n ≤ 8) : ∀ (j i fuel : Nat) (v : SX7) (g : Gr), i + j = n → j < fuel → gN g = n → (∀ q, i ≤ q → q < n → gR g q = 0) → PI v.1.1 g ho ct → HB v.2.1 → ∃ v' g', fL_build_L321 N sn sx 0 4 (nI n) fuel v 1 (nI i) = some (v', 1) ∧ gN g' = n ∧ PI v'.1.1 g' ho ct ∧ HB v'.2.1 ∧ v'.1.2 = v.1.2 := by
  intro j
  induction j with
  | zero =>
    intro i fuel v g e1 e2 hg hR hI H
    obtain ⟨f, rfl⟩ : ∃ f, fuel = f + 1 := ⟨fuel - 1, by omega⟩
    have hi : i = n := by omega
    subst hi
    exact ⟨v, g, by rw [fL_build_L321, if_pos ((nI_leI (by omega) (by omega)).mpr (Nat.le_refl _))], hg, hI, H, rfl⟩
  | succ j ih =>
    intro i fuel v g e1 e2 hg hR hI H
    obtain ⟨f, rfl⟩ : ∃ f, fuel = f + 1 := ⟨fuel - 1, by omega⟩
    have hi : i < n := by omega
    rw [fL_build_L321, if_neg (fun z => by rw [nI_leI (by omega) (by omega)] at z; omega)]
    by_cases h1 : n ≤ 1
    · rw [if_pos (show nI n ≤ (1 : Int32) from (nI_leI (b := 1) (by omega) (by omega)).mpr h1)]
      exact ⟨v, g, rfl, hg, hI, H, rfl⟩
    · rw [if_neg (fun z => by
        have z2 : nI n ≤ nI 1 := z
        rw [nI_leI (by omega) (by omega)] at z2; omega), if_neg (show ¬ (1 : Int32) = 0 by decide)]
      obtain ⟨r, hr⟩ := cell_eq N (show sn < 2 ^ 31 by omega) sx (show 9 + i < 2 ^ 31 by omega)
      have hr' : fL_cell N sn sx ((0 + 9) + nI i) = some r := by
        rw [show ((0 : Int32) + 9) = nI 9 from rfl, nI_add]; exact hr
      obtain ⟨m, m1, m2⟩ := low_eq N r (n := 5) (by omega) (by omega)
      have m2' : fL_low N r ((4 : Int32) + 1) = some (nI m) := m2
      obtain ⟨v1, g1, x1, x2, x3, x4, x5, x6⟩ := L361_eq (ho := ho) (ct := ct) N hs sx 4 hn (by omega) hi (show m ≤ 4 by omega) m 0 N v g (by omega) (by omega) hg (hR i (Nat.le_refl _) hi) hI H
      have x1' : fL_build_L361 N sn sx 0 4 (nI n) (nI i) (nI m) N v 1 0 = some (v1, 1) := x1
      rw [hr', Option.bind_some, m2', Option.bind_some, x1', Option.bind_some]
      dsimp only
      rw [nI_1]
      obtain ⟨v', g', y1, y2, y3, y4, y5⟩ := ih (i + 1) f v1 g1 (by omega) (by omega) x2 (fun q q1 q2 => by rw [x3 q (by omega)]; exact hR q (by omega) q2) x4 x5
      exact ⟨v', g', y1, y2, y3, y4, y5.trans x6⟩
theorem build_eq {N : Nat} (hN : 100 ≤ N) {sn : Nat} (hs : sn ≤ 260) (sx : Nat → Int32) {v : SX7} (hg : gN g = 0) (hI : PI v.1.1 g ho 2) (H : HB v.2.1) (hat : v.1.2.2.2.2.2.1 = 0) : ∃ v' g' ho' c r, fL_build N sn sx v 0 4 = some (1, v') ∧ fL_cell N sn sx 0 = some r ∧ fL_low N (r >>> (6 &&& 31)) 4 = some (nI c) ∧ 1 ≤ gN g' ∧ PI v'.1.1 g' ho' c ∧ HB v'.2.1 ∧ v'.1.2 = v.1.2 := by
  obtain ⟨r, hr⟩ := cell_eq N (show sn < 2 ^ 31 by omega) sx (k := 0) (by omega)
  have hr' : fL_cell N sn sx 0 = some r := hr
  obtain ⟨n, n1, n2⟩ := low_eq N r (n := 8) (by omega) (by omega)
  have n2' : fL_low N r 8 = some (nI n) := n2
  obtain ⟨c0, c1, c2⟩ := low_eq N (r >>> (3 &&& 31)) (n := 6) (by omega) (by omega)
  have c2' : fL_low N (r >>> (3 &&& 31)) 6 = some (nI c0) := c2
  obtain ⟨d0, d1, d2⟩ := low_eq N (r >>> (6 &&& 31)) (n := 4) (by omega) (by omega)
  have d2' : fL_low N (r >>> (6 &&& 31)) 4 = some (nI d0) := d2
  obtain ⟨h1, k1, k2⟩ := set_eq (v := v) H N (show c0 ≤ 5 by omega)
  have I1 := set_PI hI (show c0 ≤ 5 by omega)
  obtain ⟨h2, k3, k4⟩ := set_eq (v := (((v.1.1.1, v.1.1.2.1, v.1.1.2.2.1, v.1.1.2.2.2.1, v.1.1.2.2.2.2.1, v.1.1.2.2.2.2.2.1, v.1.1.2.2.2.2.2.2.1, nI c0), v.1.2), h1, v.2.2)) k1 N (show d0 ≤ 5 by omega)
  have I2 := set_PI I1 (show d0 ≤ 5 by omega)
  obtain ⟨v1, a1, a2, a3, a4⟩ := L70_eq (g := g) (ho := ho) (ct := d0) N sn sx 0 4 r (nI (1 + n)) 4 0 N (((v.1.1.1, v.1.1.2.1, v.1.1.2.2.1, v.1.1.2.2.2.1, v.1.1.2.2.2.2.1, v.1.1.2.2.2.2.2.1, v.1.1.2.2.2.2.2.2.1, nI d0), v.1.2), h2, v.2.2) rfl (by omega) I2 k3
  obtain ⟨v2, g2, ho2, b1, b2, b3, b4, b5, b6⟩ := L184_eq (ct := d0) N hs sx 4 (show 1 + n ≤ 8 by omega) (1 + n) 0 N v1 g ho (by omega) (by omega) hg (fun p hp => by rw [hg] at hp; omega) a2 a3
  obtain ⟨v3, g3, e1, e2, e3, e4, e5⟩ := L321_eq (ho := ho2) (ct := d0) N hN hs sx (show 1 + n ≤ 8 by omega) (1 + n) 0 N v2 g2 (by omega) (by omega) b2 (fun q _ hq => b3 q (by rw [b2]; exact hq)) b4 b5
  refine ⟨v3, g3, ho2, d0, r, ?_, hr', d2', by omega, e3, e4, ?_⟩
  · unfold fL_build
    rw [hr', Option.bind_some, n2', Option.bind_some, c2', Option.bind_some, k2, Option.bind_some]
    dsimp only
    rw [show v.1.1.2.2.2.2.2.2.2 = nI 2 from hI.2.1.2.1, if_pos (show nI 2 = 2 from rfl), d2', Option.bind_some, k4, Option.bind_some]
    dsimp only
    rw [Option.bind_some, if_pos rfl, show (1 : Int32) + nI n = nI (1 + n) from nI_add 1 n]
    have a1' := a1
    rw [show nI 0 = 0 from rfl] at a1' b1 e1
    rw [a1', Option.bind_some]
    dsimp only
    rw [b1, Option.bind_some]
    dsimp only
    rw [e1, Option.bind_some]
    dsimp only
    rw [if_neg (show ¬ (1 : Int32) = 0 by decide), count0 e3.1, Option.bind_some]
    dsimp only
    rw [e2, if_pos rfl, count1 e3.1 (by omega) N, Option.bind_some]
    dsimp only
    rw [if_pos ?_]
    show v3.1.2.2.2.2.2.1 = 0
    rw [e5, b6, a4]
    exact hat
  · rw [e5, b6, a4]
end BD
