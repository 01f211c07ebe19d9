/-! orders done by both, and the calls of the text -/
theorem mask_of {x : Int32} (h : ∀ q, bt x q = true → q < 6) (N : Nat) : fX8_in N x 0 63 = some 1 := by
  have hx : ∃ i, i < 64 ∧ x = nI i := by
    refine ⟨x.toBitVec.toNat, ?_, (nI_toNat x).symm⟩
    refine Nat.lt_pow_two_of_testBit (n := 6) _ (fun i hi => ?_)
    cases hb : bt x i
    · exact hb
    · have := h i hb; omega
  obtain ⟨i, hi, rfl⟩ := hx
  rcases in_lh N (a := 0) (b := 63) (by decide) (by decide) (nI i) with ⟨j, j1, j2, j3, e1, -⟩ | ⟨e1, e2⟩
  · exact e1
  · rcases e2 with e2 | ⟨e2, e3⟩
    · exact absurd e2 (nI_pos (show i < 2 ^ 31 by omega))
    · exact absurd (nI_le (a := i) (b := 63) (by omega) (by omega)) e3
theorem hold_of {h : Nat} (h1 : 1 ≤ h) (h9 : h ≤ 9) (N : Nat) : fX8_in N (nI h) 1 9 = some 1 := by
  rcases in_lh N (a := 1) (b := 9) (by decide) (by decide) (nI h) with ⟨j, j1, j2, j3, e1, -⟩ | ⟨e1, e2⟩
  · exact e1
  · rcases e2 with e2 | ⟨e2, e3⟩
    · rw [nI_ltI (by omega) (by omega)] at e2; omega
    · exact absurd (nI_le (a := h) (b := 9) (by omega) (by omega)) e3
theorem hp2 {m : SX1} {z : Nat → Int32} {n : Nat} (M : MR m z n) (N : Nat) (t : Int32) (u : U8) (x : Int32) : (∃ p, p < n ∧ x = nI p ∧ fX2_hasPhase N m.1 x = some 1 ∧ fX8_isPhase N (t, z, u) x = some 1) ∨ (fX2_hasPhase N m.1 x = some 0 ∧ fX8_isPhase N (t, z, u) x = some 0) := by
  obtain ⟨ho, ct, s, R, X⟩ := M.graph (((fun _ => m), 0, 0), ((fun _ => 0), (0, 0, 0, 0, 0, 0), 0), ((fun _ => 0), (fun _ => 0), (fun _ => 0), (fun _ => 0), (fun _ => 0), 0))
  have h := X2_hasPhase_eq R.1 N x
  have h' : fX2_hasPhase N m.1 x = some (if ∃ p, p < n ∧ x = nI p then 1 else 0) := h
  rcases ph2 M N (((fun _ => m), 0, 0), ((fun _ => 0), (0, 0, 0, 0, 0, 0), 0), ((fun _ => 0), (fun _ => 0), (fun _ => 0), (fun _ => 0), (fun _ => 0), 0)) t u x with ⟨p, hp, rfl, e1, e2⟩ | ⟨e1, e2⟩
  · rw [if_pos ⟨p, hp, rfl⟩] at h'
    exact Or.inl ⟨p, hp, rfl, h', e2⟩
  · refine Or.inr ⟨?_, e2⟩
    by_cases hx : ∃ p, p < n ∧ x = nI p
    · rw [if_pos hx] at h'
      unfold fX7_checkPhase at e1
      dsimp only at e1
      rw [h', Option.bind_some, if_neg (by decide)] at e1
      cases e1
    · rw [if_neg hx] at h'
      exact h'
section BO
variable {m : SX1} {z S c o : Nat → Int32} {n j : Nat} {t kk ty om sp w : Int32} {q : Q8}
theorem order_mach (M : MR m z n) (hj : j ≤ 15) {σ : SX4} (h : tz_ord o j σ) {N : Nat} (hN : 900 ≤ N) : ∃ (b : Bool) (v' : SX2) (z' : Nat → Int32) (n' : Nat), fX4_doOrder N σ m.1 = some (b2i b, v') ∧ fX8_does N (t, z, S, kk, c, ty, o, om, sp, w, q) (nI j) = some (b2i b, (t, z', S, kk, c, ty, o, om, sp, w, q)) ∧ MR (v', m.2) z' n' := by
  obtain ⟨n8, n1, n2, -⟩ := M.1
  have d8 : fX8_does N (t, z, S, kk, c, ty, o, om, sp, w, q) (nI j) = (if o (4 * j) = 120 then (fX8_setClash N (t, z, S, kk, c, ty, o, om, sp, w, q) (o (4 * j + 1)) (o (4 * j + 2)) 1).bind fun r22 => some (1, r22) else if o (4 * j) = 112 then (fX8_whyNotPhase N (t, z, S, kk, c, ty, o, om, sp, w, q) (o (4 * j + 1)) (o (4 * j + 2))).bind fun r15 => if r15 = 0 then (fX8_phaseAdded N (t, z, S, kk, c, ty, o, om, sp, w, q) (o (4 * j + 1)) (o (4 * j + 2))).bind fun r20 => some (1, r20.2) else some (0, (t, z, S, kk, c, ty, o, om, sp, w, q)) else (fX8_whyNotRule N (t, z, S, kk, c, ty, o, om, sp, w, q) (o (4 * j + 1)) (o (4 * j + 2)) (o (4 * j + 3))).bind fun r8 => if r8 = 0 then (fX8_ruleAdded N (t, z, S, kk, c, ty, o, om, sp, w, q) (o (4 * j + 1)) (o (4 * j + 2)) (o (4 * j + 3))).bind fun r13 => some (1, r13.2) else some (0, (t, z, S, kk, c, ty, o, om, sp, w, q))) := by
    unfold fX8_does
    dsimp only
    rw [tz_4, nI_1 (4 * j), show (2 : Int32) = nI 2 from rfl, show (3 : Int32) = nI 3 from rfl, tz_to, tz_to, chk_nI (by omega) (by decide), chk_nI (by omega) (by decide), chk_nI (by omega) (by decide), chk_nI (by omega) (by decide), chk_nI (by omega) (by decide), nI_clamp (show 4 * j + 1 < 2 ^ 31 by omega), nI_clamp (show 4 * j + 2 < 2 ^ 31 by omega), nI_clamp (show 4 * j + 3 < 2 ^ 31 by omega), nI_clamp (show 4 * j < 2 ^ 31 by omega)]
  rw [d8]
  unfold fX4_doOrder
  obtain ⟨h0, ⟨hk, h1, h2, h3, hh, hh1, hh9, hhe⟩ | ⟨hk, h1, h2, h3, h4⟩ | ⟨hk, a, b, hab, hb5, h1, h2, h3, h4⟩⟩ := h
  · rw [h0, hk, if_neg (show ¬ (112 : Int32) = 120 by decide), if_pos rfl, if_pos rfl, h1, h2, hhe]
    have w8 : fX8_whyNotPhase N (t, z, S, kk, c, ty, o, om, sp, w, q) σ.2.2.2.2.1 (nI hh) = if z 0 = 8 then some 2 else some 0 := by
      unfold fX8_whyNotPhase
      rw [mask_of h3 N, Option.bind_some, if_neg (by decide), hold_of hh1 hh9 N, Option.bind_some, if_neg (by decide), chk0, tn0]
    rw [n2] at w8
    unfold fX2_isFull
    rw [n1]
    by_cases hn : n = 8
    · subst hn
      rw [if_pos (by decide)] at w8
      refine ⟨false, m.1, z, 8, ?_, ?_, M⟩
      · rw [if_neg (by decide), Option.bind_some, if_neg (by decide)]; rfl
      · rw [w8, Option.bind_some, if_neg (by decide)]; rfl
    · have hlt : n < 8 := by omega
      rw [if_neg (show ¬ nI n = 8 from fun q => hn ((nI_eq (b := 8) (by omega) (by omega)).mp q))] at w8
      obtain ⟨v', z', c1, c2, c3⟩ := phase_mach M hlt hh1 hh9 h3
      refine ⟨true, v', z', n + 1, ?_, ?_, c3⟩
      · rw [if_pos (show nI n < (8 : Int32) from nI_lt (b := 8) hlt (by omega)), Option.bind_some, if_pos rfl, c1 N]; rfl
      · rw [w8, Option.bind_some, if_pos rfl, c2 N t (S, kk, c, ty, o, om, sp, w, q) hN]; rfl
  · rw [h0, hk, if_neg (show ¬ (114 : Int32) = 120 by decide), if_neg (show ¬ (114 : Int32) = 112 by decide), if_neg (show ¬ (114 : Int32) = 112 by decide), if_pos rfl, h1, h2, h3]
    have no : ∀ k : Int32, ¬ k = 0 → fX8_whyNotRule N (t, z, S, kk, c, ty, o, om, sp, w, q) σ.2.2.1 σ.2.2.2.1 σ.2.2.2.2.1 = some k → ((fX8_whyNotRule N (t, z, S, kk, c, ty, o, om, sp, w, q) σ.2.2.1 σ.2.2.2.1 σ.2.2.2.2.1).bind fun r8 => if r8 = 0 then (fX8_ruleAdded N (t, z, S, kk, c, ty, o, om, sp, w, q) σ.2.2.1 σ.2.2.2.1 σ.2.2.2.2.1).bind fun r13 => some (1, r13.2) else some (0, (t, z, S, kk, c, ty, o, om, sp, w, q))) = some (b2i false, (t, z, S, kk, c, ty, o, om, sp, w, q)) := fun k hk hw => by
      rw [hw, Option.bind_some, if_neg hk]; rfl
    rcases hp2 M N t (S, kk, c, ty, o, om, sp, w, q) σ.2.2.1 with ⟨p, hp, hpe, e1, e2⟩ | ⟨e1, e2⟩
    · rcases hp2 M N t (S, kk, c, ty, o, om, sp, w, q) σ.2.2.2.1 with ⟨g, hg, hge, e3, e4⟩ | ⟨e3, e4⟩
      · rw [hpe, hge] at no ⊢
        rw [hpe] at e1 e2
        rw [hge] at e3 e4
        by_cases hpq : p = g
        · subst hpq
          refine ⟨false, m.1, z, n, ?_, no 2 (by decide) ?_, M⟩
          · rw [e1, Option.bind_some, if_neg (by decide), Option.bind_some, if_neg (by decide), if_pos rfl]; rfl
          · unfold fX8_whyNotRule
            rw [e2, Option.bind_some, if_neg (by decide), Option.bind_some, if_neg (by decide), if_pos rfl]
        · have hne : ¬ nI p = nI g := fun c => hpq ((nI_eq (by omega) (by omega)).mp c)
          obtain ⟨rc, r1, r2, r3⟩ := M.rules hp
          have w8 : fX8_whyNotRule N (t, z, S, kk, c, ty, o, om, sp, w, q) (nI p) (nI g) σ.2.2.2.2.1 = if nI rc = 4 then some 3 else some 0 := by
            unfold fX8_whyNotRule
            rw [e2, Option.bind_some, if_neg (by decide), e4, Option.bind_some, if_neg (by decide), if_neg hne, mask_of h4 N, Option.bind_some, if_neg (by decide), rules_of N (t, z, S, kk, c, ty, o, om, sp, w, q) (by omega) r3, Option.bind_some]
          unfold fX2_isFullOfRules
          by_cases hr4 : rc = 4
          · subst hr4
            rw [if_pos (by decide)] at w8
            refine ⟨false, m.1, z, n, ?_, no 3 (by decide) w8, M⟩
            rw [e1, Option.bind_some, if_neg (by decide), e3, Option.bind_some, if_neg (by decide), if_neg hne, rowAt_nI (by omega) (by decide), r2, if_neg (by decide), Option.bind_some, if_neg (by decide)]; rfl
          · have hlt : rc < 4 := by omega
            rw [if_neg (show ¬ nI rc = 4 from fun c => hr4 ((nI_eq (b := 4) (by omega) (by omega)).mp c))] at w8
            obtain ⟨v', z', c1, c2, c3⟩ := rule_mach M hp hg (fun c => hpq c.symm) hlt r3 h4
            refine ⟨true, v', z', n, ?_, ?_, c3⟩
            · rw [e1, Option.bind_some, if_neg (by decide), e3, Option.bind_some, if_neg (by decide), if_neg hne, rowAt_nI (by omega) (by decide), r2, if_pos (show nI rc < (4 : Int32) from nI_lt (b := 4) hlt (by omega)), Option.bind_some, if_pos rfl, c1 N]; rfl
            · rw [w8, Option.bind_some, if_pos rfl, c2 N t (S, kk, c, ty, o, om, sp, w, q)]; rfl
      · refine ⟨false, m.1, z, n, ?_, no 1 (by decide) ?_, M⟩
        · rw [hpe] at e1 ⊢
          rw [e1, Option.bind_some, if_neg (by decide), e3, Option.bind_some, if_pos rfl]; rfl
        · rw [hpe] at e2 ⊢
          unfold fX8_whyNotRule
          rw [e2, Option.bind_some, if_neg (by decide), e4, Option.bind_some, if_pos rfl]
    · refine ⟨false, m.1, z, n, ?_, no 1 (by decide) ?_, M⟩
      · rw [e1, Option.bind_some, if_pos rfl]; rfl
      · unfold fX8_whyNotRule
        rw [e2, Option.bind_some, if_pos rfl]
  · rw [h0, hk, if_pos rfl, if_neg (show ¬ (120 : Int32) = 112 by decide), if_neg (show ¬ (120 : Int32) = 114 by decide), h1, h2, h3, h4]
    obtain ⟨v', z', c1, c2, c3⟩ := clash_mach M (show a < 6 by omega) (show b < 6 by omega) (by omega) true
    have c1' : fX2_putClash N m.1 (nI a) (nI b) 1 = _ := c1 N
    have c2' : fX8_setClash N (t, z, S, kk, c, ty, o, om, sp, w, q) (nI a) (nI b) 1 = _ := c2 N t (S, kk, c, ty, o, om, sp, w, q)
    refine ⟨true, v', z', n, ?_, ?_, c3⟩
    · rw [c1']; rfl
    · rw [c2']; rfl
end BO
section BL
variable {S c f o : Nat → Int32} {len : Nat} {t kk ty sp w : Int32} {q : Q8} {σ0 : SX4}
/-- the class goes on to the next ';' or the end -/
theorem tz_L11 (N : Nat) (hl : len ≤ 60) (hf : ∀ x, x < len → f x = c x) {e : Nat} {σe : SX4} (he : tz_rdr c σ0 e = some σe) (hel : e ≤ len) (v1 : SX2) (d : Int32) : ∀ (k i fuel : Nat) (σ : SX4), i + k = e → (∀ x, i ≤ x → x < e → ¬ c x = 59) → tz_rdr c σ0 i = some σ → fX6_doOrders_L11 N (fuel + k) (f, σ, nI len) v1 d (nI i) = fX6_doOrders_L11 N fuel (f, σe, nI len) v1 d (nI e) := by
  intro k
  induction k with
  | zero =>
    intro i fuel σ e1 _ h
    have hi : i = e := by omega
    subst hi
    rw [h] at he
    have : σ = σe := some_of he
    subst this
    rfl
  | succ k ih =>
    intro i fuel σ e1 hs h
    obtain ⟨r, σ', h1, h2, h3⟩ := tz_go h he (by omega)
    rw [show fuel + (k + 1) = (fuel + k) + 1 by omega, fX6_doOrders_L11]
    dsimp only
    rw [if_neg (fun p => by rw [nI_leI (by omega) (by omega)] at p; omega), rowAt_nI (show i < 60 by omega) (by decide), hf i (by omega), if_neg (hs i (by omega) (by omega)), tz_take_n, h1, Option.bind_some, nI_1]
    exact ih (i + 1) fuel σ' (by omega) (fun x x1 x2 => hs x (by omega) x2) h3
def tz_endL (N : Nat) (u11 : (Int32 × SX6 × SX2) ⊕ (SX6 × SX2 × Int32)) : Option (Int32 × SX6 × SX2) := onS u11 (fun r => some r) fun q14 => (fX4_doOrder N q14.1.2.1 q14.2.1).bind fun r16 => if r16.1 = 0 then some (q14.2.2, q14.1, r16.2) else some ((q14.2.2 + 1), q14.1, r16.2)
theorem tz_run_len : ∀ (n j i : Nat), tz_run c len σ0 o n j i → i + n ≤ len := by
  intro n
  induction n with
  | zero => intro j i h; exact absurd h id
  | succ n ih =>
    intro j i h
    obtain ⟨e, h1, h2, h3, σ, h4, h5, h6, h7 | ⟨-, -, h7⟩⟩ := h
    · omega
    · have := ih (j + 1) (e + 1) h7; omega
theorem build_L {N : Nat} (hN : 900 ≤ N) (hl : len ≤ 60) (hf : ∀ x, x < len → f x = c x) : ∀ (n j i fu7 fu8 : Nat) (m : SX1) (z : Nat → Int32) (nn : Nat) (σ : SX4), tz_run c len σ0 o (n + 1) j i → 4 * j ≤ i → i ≤ len → tz_rdr c σ0 i = some σ → len < i + fu7 → n + 1 < fu8 → MR m z nn → ∃ d v' z' nn' σ', ((fX6_doOrders_L11 N fu7 (f, σ, nI len) m.1 (nI j) (nI i)).bind fun u11 => tz_endL N u11) = some (d, (f, σ', nI len), v') ∧ fX8_build_L32 N fu8 (t, z, S, kk, c, ty, o, nI (j + (n + 1)), sp, w, q) (nI j) = some ((t, z', S, kk, c, ty, o, nI (j + (n + 1)), sp, w, q), d) ∧ MR (v', m.2) z' nn' := by
  intro n
  induction n with
  | zero =>
    intro j i fu7 fu8 m z nn σ hr hj hil h hf7 hf8 M
    have hrl := tz_run_len _ _ _ hr
    obtain ⟨e, h1, h2, h3, σe, h4, h5, h6, h7 | ⟨-, -, h7⟩⟩ := hr
    · have he := h7.2
      subst he
      obtain ⟨b, v', z', n', b1, b2, M'⟩ := order_mach (t := t) (S := S) (kk := kk) (c := c) (ty := ty) (om := nI (j + (0 + 1))) (sp := sp) (w := w) (q := q) M (show j ≤ 15 by omega) h6 hN
      obtain ⟨g, rfl⟩ : ∃ g, fu7 = (g + 1) + (e - i) := ⟨fu7 - (e - i) - 1, by omega⟩
      obtain ⟨g8, rfl⟩ : ∃ g8, fu8 = g8 + 1 + 1 := ⟨fu8 - 2, by omega⟩
      have hL := tz_L11 (σ0 := σ0) N hl hf h4 h2 m.1 (nI j) (e - i) i (g + 1) σ (by omega) h3 h
      rw [hL, fX6_doOrders_L11]
      dsimp only
      rw [if_pos (Int32.le_refl _), Option.bind_some]
      unfold tz_endL
      rw [onS_r]
      dsimp only
      rw [b1, Option.bind_some, fX8_build_L32]
      dsimp only
      rw [if_neg (show ¬ nI (j + (0 + 1)) ≤ nI j from fun p => by rw [nI_leI (by omega) (by omega)] at p; omega), b2, Option.bind_some]
      dsimp only
      cases b
      · rw [if_pos b2i_f, if_pos b2i_f]
        exact ⟨_, _, _, _, _, rfl, rfl, M'⟩
      · rw [if_neg b2i_t, if_neg b2i_t, fX8_build_L32]
        dsimp only
        rw [nI_1, if_pos (Int32.le_refl _)]
        exact ⟨_, _, _, _, _, rfl, rfl, M'⟩
    · exact absurd h7 id
  | succ n ih =>
    intro j i fu7 fu8 m z nn σ hr hj hil h hf7 hf8 M
    have hrl := tz_run_len _ _ _ hr
    obtain ⟨e, h1, h2, h3, σe, h4, h5, h6, h7 | ⟨hlt, h59, h7⟩⟩ := hr
    · exact absurd h7.1 (by omega)
    · obtain ⟨b, v', z', n', b1, b2, M'⟩ := order_mach (t := t) (S := S) (kk := kk) (c := c) (ty := ty) (om := nI (j + (n + 1 + 1))) (sp := sp) (w := w) (q := q) M (show j ≤ 15 by omega) h6 hN
      obtain ⟨g, rfl⟩ : ∃ g, fu7 = (g + 1) + (e - i) := ⟨fu7 - (e - i) - 1, by omega⟩
      obtain ⟨g8, rfl⟩ : ∃ g8, fu8 = g8 + 1 := ⟨fu8 - 1, by omega⟩
      have hL := tz_L11 (σ0 := σ0) N hl hf h4 h2 m.1 (nI j) (e - i) i (g + 1) σ (by omega) h3 h
      have ht : fX4_take 0 σe (c e) = some (1, (0, σe.2)) := by rw [h59]; exact tz_take_end h5 σe.2
      rw [hL, fX6_doOrders_L11]
      dsimp only
      rw [if_neg (fun p => by rw [nI_leI (by omega) (by omega)] at p; omega), rowAt_nI (show e < 60 by omega) (by decide), hf e hlt, if_pos h59, b1, Option.bind_some, fX8_build_L32]
      dsimp only
      rw [if_neg (show ¬ nI (j + (n + 1 + 1)) ≤ nI j from fun p => by rw [nI_leI (by omega) (by omega)] at p; omega), b2, Option.bind_some]
      dsimp only
      cases b
      · rw [if_pos b2i_f, if_pos b2i_f, Option.bind_some]
        unfold tz_endL
        rw [onS_l]
        exact ⟨_, _, _, _, _, rfl, rfl, M'⟩
      · rw [if_neg b2i_t, if_neg b2i_t, tz_take_n, ht, Option.bind_some, nI_1, nI_1]
        obtain ⟨d, v2, z2, nn2, σ2, k1, k2, k3⟩ := ih (j + 1) (e + 1) g g8 (v', m.2) z' n' (0, σe.2) h7 (by omega) (by omega) (tz_next h4 ht) (by omega) (by omega) M'
        rw [show j + 1 + (n + 1) = j + (n + 1 + 1) by omega] at k2
        exact ⟨d, v2, z2, nn2, σ2, k1, k2, k3⟩
end BL
section TC
variable {m : SX1} {h : SX0} {tx : SX6} {pf : SX3} {t kk : Int32} {z S' : Nat → Int32} {u : U5}
theorem append_call (S : SR (m, h, tx, pf) (t, z, S', kk, u)) (N : Nat) (x1 : Int32) : CSame [IAE, ISE] (fX7_append N (m, h, tx, pf) x1) (fX8_append N (t, z, S', kk, u) x1) := by
  obtain ⟨n, M, H, T⟩ := SR.parts S
  obtain ⟨len, l1, l2, l3, l4⟩ := id T
  have e6 : (t, z, S', kk, u).2.2.2.2.2.1 = nI len := l3
  have e7 : (m, h, tx, pf).2.2.1.2.2 = nI len := l2
  rcases in_lh N (a := 33) (b := 126) (by decide) (by decide) x1 with ⟨j, j1, j2, rfl, e1, e2, e3⟩ | ⟨e1, e2⟩
  · have e1' : fX8_in N (nI j) 33 126 = some 1 := e1
    by_cases h60 : len = 60
    · subst h60
      refine CSame.thr 1 rfl (x := 0) (ρ' := (2, z, S', kk, u)) (γ' := (m, h, tx, pf)) ?_ rfl ?_ (SR.mk pf 2 M H T)
      · unfold fX8_append
        rw [e1', Option.bind_some, if_neg (by decide), e6, if_pos (by decide)]
      · unfold fX7_append
        rw [if_neg (show ¬ nI j < 33 from e2), if_pos (show nI j ≤ 126 from e3), e7, if_neg (by decide)]
    · have hlt : len < 60 := by omega
      refine CSame.of (x := nI (len + 1)) (ρ' := (0, z, S', kk, upd u.1 len (nI j), nI (len + 1), u.2.2)) (γ' := (m, h, (upd tx.1 len (nI j), tx.2.1, nI (len + 1)), pf)) ?_ rfl ?_ (SR.mk pf 0 M H ⟨len + 1, by omega, rfl, rfl, fun i hi => ?_⟩)
      · unfold fX8_append
        rw [e1', Option.bind_some, if_neg (by decide), e6, if_neg (show ¬ nI len = 60 from fun p => h60 ((nI_eq (b := 60) (by omega) (by omega)).mp p)), chk_nI hlt (by decide), nI_clamp (by omega), nI_1]
        rfl
      · unfold fX7_append fX6_add
        dsimp only
        rw [if_neg (show ¬ nI j < 33 from e2), if_pos (show nI j ≤ 126 from e3), l2, if_pos (show nI len < (60 : Int32) from nI_lt (b := 60) hlt (by omega)), Option.bind_some, rowPut_nI hlt (by decide), nI_1]
      · by_cases hil : i = len
        · subst hil
          exact ⟨upd_same.trans upd_same.symm, j, j1, j2, upd_same⟩
        · obtain ⟨a1, a2⟩ := l4 i (by omega)
          exact ⟨(upd_ne hil).trans (a1.trans (upd_ne hil).symm), by
            obtain ⟨cc, c1, c2, c3⟩ := a2
            exact ⟨cc, c1, c2, (upd_ne hil).trans c3⟩⟩
  · have e1' : fX8_in N x1 33 126 = some 0 := e1
    refine CSame.thr 0 rfl (x := 0) (ρ' := (1, z, S', kk, u)) (γ' := (m, h, tx, pf)) ?_ rfl ?_ (SR.mk pf 1 M H T)
    · unfold fX8_append
      rw [e1', Option.bind_some, if_pos rfl]
    · unfold fX7_append
      rcases e2 with e2 | ⟨e2, e3⟩
      · rw [if_pos (show x1 < 33 from e2)]
      · rw [if_neg (show ¬ x1 < 33 from e2), if_neg (show ¬ x1 ≤ 126 from e3)]
theorem clearBuffer_call (S : SR (m, h, tx, pf) (t, z, S', kk, u)) (N : Nat) : ∃ x γ' ρ', fX7_clearBuffer N (m, h, tx, pf) = some (x, γ') ∧ fX8_clearBuffer N (t, z, S', kk, u) = some (x, ρ') ∧ SR γ' ρ' := by
  obtain ⟨n, M, H, T⟩ := SR.parts S
  obtain ⟨len, l1, l2, l3, l4⟩ := id T
  refine ⟨nI len, (m, h, (tx.1, tx.2.1, 0), pf), (0, z, S', kk, u.1, 0, u.2.2), ?_, ?_, SR.mk pf 0 M H ⟨0, by omega, rfl, rfl, fun i hi => by omega⟩⟩
  · rw [← l2]; rfl
  · rw [← l3]; rfl
theorem firstError_call (S : SR (m, h, tx, pf) (t, z, S', kk, u)) {N : Nat} (hN : 900 ≤ N) : ∃ x γ' ρ', fX7_firstError N (m, h, tx, pf) = some (x, γ') ∧ fX8_firstError N (t, z, S', kk, u) = some (x, ρ') ∧ SR γ' ρ' := by
  obtain ⟨n, M, H, T⟩ := SR.parts S
  obtain ⟨len, l1, l2, l3, l4⟩ := id T
  obtain ⟨f, σ0, ty6⟩ := tx
  obtain ⟨bu, ty, o, om, sp, w, q⟩ := u
  have l2' : ty6 = nI len := l2
  have l3' : ty = nI len := l3
  subst l2'
  subst l3'
  have hf : ∀ x, x < len → f x = bu x := fun x hx => (l4 x hx).1
  obtain ⟨c1, c2⟩ := tz_complete (N := N) (σ0 := σ0) (by omega) l1 hf
  obtain ⟨o', j', i', w', k1, k2⟩ := tz_buffer (t := 0) (z := z) (S := S') (kk := kk) (c := bu) (q := q) hN l1 o om sp w σ0
  unfold fX7_firstError fX8_firstError
  dsimp only
  rw [k1, Option.bind_some]
  dsimp only
  rcases k2 with ⟨e, h1, rfl, h2⟩ | ⟨rfl, nn, -, h2⟩
  · obtain ⟨σ', s1, -⟩ := c1 e h2
    rw [s1, Option.bind_some, if_neg (nI_ne_m1 (by omega))]
    exact ⟨_, _, _, rfl, rfl, SR.mk pf 0 M H ⟨len, l1, rfl, rfl, l4⟩⟩
  · obtain ⟨σ, s1, s2⟩ := tz_run_end nn 0 0 h2
    obtain ⟨s3, -⟩ := c2 σ s1 s2
    rw [s3, Option.bind_some, if_pos rfl]
    exact ⟨_, _, _, rfl, rfl, SR.mk pf 0 M H ⟨len, l1, rfl, rfl, l4⟩⟩
theorem build_call (S : SR (m, h, tx, pf) (t, z, S', kk, u)) {N : Nat} (hN : 900 ≤ N) : CSame [IAE] (fX7_build N (m, h, tx, pf)) (fX8_build N (t, z, S', kk, u)) := by
  obtain ⟨n, M, H, T⟩ := SR.parts S
  obtain ⟨len, l1, l2, l3, l4⟩ := id T
  obtain ⟨f, σ0, ty6⟩ := tx
  obtain ⟨bu, ty, o, om, sp, w, q⟩ := u
  have l2' : ty6 = nI len := l2
  have l3' : ty = nI len := l3
  subst l2'
  subst l3'
  have hf : ∀ x, x < len → f x = bu x := fun x hx => (l4 x hx).1
  obtain ⟨c1, c2⟩ := tz_complete (N := N) (σ0 := σ0) (by omega) l1 hf
  obtain ⟨o', j', i', w', k1, k2⟩ := tz_buffer (t := t) (z := z) (S := S') (kk := kk) (c := bu) (q := q) hN l1 o om sp w σ0
  rcases k2 with ⟨e, h1, rfl, h2⟩ | ⟨rfl, nn, rfl, h2⟩
  · obtain ⟨σ', -, s1⟩ := c1 e h2
    refine CSame.thr 0 rfl (x := 0) (ρ' := (1, z, S', kk, bu, nI len, o', nI j', nI i', nI e, q)) (γ' := (m, h, (f, σ', nI len), pf)) ?_ rfl ?_ (SR.mk pf 1 M H ⟨len, l1, rfl, rfl, l4⟩)
    · unfold fX8_build
      rw [k1, Option.bind_some]
      dsimp only
      rw [if_neg (nI_ne_m1 (by omega))]
    · unfold fX7_build
      dsimp only
      rw [s1, Option.bind_some]
      dsimp only
      rw [if_pos rfl]
  · obtain ⟨σ, s1, s2⟩ := tz_run_end nn 0 0 h2
    obtain ⟨-, s3⟩ := c2 σ s1 s2
    -- read once more, from where the reader stands now
    obtain ⟨o2, j2, i2, w2, g1, g2⟩ := tz_buffer (t := t) (z := z) (S := S') (kk := kk) (c := bu) (q := q) hN l1 o om sp w σ
    rw [k1] at g1
    have ge := some_of g1
    injection ge with ge1 ge2
    injection ge2 with _ ge2
    injection ge2 with _ ge2
    injection ge2 with _ ge2
    injection ge2 with _ ge2
    injection ge2 with _ ge2
    injection ge2 with _ ge2
    injection ge2 with geo ge2
    injection ge2 with gej ge2
    subst geo
    subst ge1
    have hrun : tz_run bu len σ o' (nn + 1) 0 0 := by
      rcases g2 with ⟨e, h1, h3, -⟩ | ⟨-, n2, h3, h4⟩
      · exact absurd h3.symm (nI_ne_m1 (by omega))
      · subst h3
        have hl1 := tz_run_len _ _ _ h2
        have hl2 := tz_run_len _ _ _ h4
        have he : nn + 1 = n2 + 1 := (nI_eq (by omega) (by omega)).mp gej
        rw [he]
        exact h4
    obtain ⟨h', S2, kk', q1, q2, q3⟩ := keep_save (t := 0) (u := (bu, nI len, o', nI (nn + 1), nI i', -1, q)) H M hN
    obtain ⟨d, v', z', nn', σ', b1, b2, M'⟩ := build_L (S := S2) (c := bu) (f := f) (o := o') (len := len) (t := 0) (kk := kk') (ty := nI len) (sp := nI i') (w := -1) (q := q) (σ0 := σ) hN l1 hf nn 0 0 N N m z n (0, σ.2) hrun (by omega) (by omega) rfl (by omega) (by have := tz_run_len _ _ _ hrun; omega) M
    have b1' : ((fX6_doOrders_L11 N N (f, (0, σ.2), nI len) m.1 0 0).bind fun u11 => tz_endL N u11) = _ := b1
    have b2' : fX8_build_L32 N N (0, z, S2, kk', bu, nI len, o', nI (nn + 1), nI i', -1, q) 0 = some ((0, z', S2, kk', bu, nI len, o', nI (nn + 1), nI i', -1, q), d) := by
      rw [Nat.zero_add] at b2
      exact b2
    have dO : fX6_doOrders N (f, σ, nI len) m.1 = some (d, (f, σ', nI len), v') := b1'
    refine CSame.of (x := d) (ρ' := (0, z', S2, kk', bu, 0, o', nI (nn + 1), nI i', -1, q)) (γ' := ((v', m.2), h', (f, σ', 0), pf)) ?_ rfl ?_ (SR.mk pf 0 M' q3 ⟨0, by omega, rfl, rfl, fun i hi => by omega⟩)
    · unfold fX8_build
      rw [k1, Option.bind_some]
      dsimp only
      rw [if_pos rfl, q2, Option.bind_some, b2', Option.bind_some]
    · unfold fX7_build
      dsimp only
      rw [s3, Option.bind_some]
      dsimp only
      rw [if_neg (by decide), q1, Option.bind_some, dO, Option.bind_some]
      rfl
end TC
