/-! the calls that edit, alike -/
abbrev U5 : Type := (Nat → Int32) × Int32 × (Nat → Int32) × Int32 × Int32 × Int32 × (Nat → Int32) × (Nat → Int32) × Int64
theorem onS_l {R Q T : Type} {r : R} {f : R → Option T} {g : Q → Option T} : onS (.inl r) f g = f r := rfl
theorem onS_r {R Q T : Type} {q : Q} {f : R → Option T} {g : Q → Option T} : onS (.inr q) f g = g q := rfl
theorem SR.parts {m : SX1} {h : SX0} {tx : SX6} {pf : SX3} {t kk : Int32} {z S' : Nat → Int32} {u : U5} (S : SR (m, h, tx, pf) (t, z, S', kk, u)) : ∃ n, MR m z n ∧ HiS h kk S' ∧ TR tx u.1 u.2.1 := by
  obtain ⟨⟨n, M⟩, H, T⟩ := S
  exact ⟨n, M, H, T⟩
theorem SR.mk {m : SX1} {h : SX0} {tx : SX6} (pf : SX3) {kk : Int32} (t : Int32) {z S' : Nat → Int32} {u : U5} {n : Nat} (M : MR m z n) (H : HiS h kk S') (T : TR tx u.1 u.2.1) : SR (m, h, tx, pf) (t, z, S', kk, u) := ⟨⟨n, M⟩, H, T⟩
theorem ph2 {m : SX1} {z : Nat → Int32} {n : Nat} (M : MR m z n) (N : Nat) (rest : SX0 × SX6 × SX3) (t : Int32) (u : U8) (x : Int32) : (∃ p, p < n ∧ x = nI p ∧ fX7_checkPhase N (m, rest) x = some (.inr ()) ∧ fX8_isPhase N (t, z, u) x = some 1) ∨ (fX7_checkPhase N (m, rest) x = some (.inl IOB) ∧ fX8_isPhase N (t, z, u) x = some 0) := by
  obtain ⟨ho, ct, s, R, X⟩ := M.graph rest
  exact ph_cases (γ := (m, rest)) (ρ := (t, z, u)) R N x
theorem MR.rules {m : SX1} {z : Nat → Int32} {n p : Nat} (M : MR m z n) (hp : p < n) : ∃ rc, rc ≤ 4 ∧ m.1.2.2.2.1 p = nI rc ∧ z (34 + 14 * p) = nI rc := by
  obtain ⟨-, -, -, -, rc, c1, c2, c3, -⟩ := M.2.2.2.1 p hp
  exact ⟨rc, c1, c2, c3⟩
section KC
variable {m : SX1} {h : SX0} {tx : SX6} {pf : SX3} {t kk : Int32} {z S' : Nat → Int32} {u : U5}
theorem clash_call (S : SR (m, h, tx, pf) (t, z, S', kk, u)) {N : Nat} (hN : 900 ≤ N) (x1 x2 : Int32) : CSame [IAE] (fX7_clash N (m, h, tx, pf) x1 x2) (fX8_clash N (t, z, S', kk, u) x1 x2) := by
  obtain ⟨n, M, H, T⟩ := SR.parts S
  have bad : SR (m, h, tx, pf) (1, z, S', kk, u) := SR.mk pf 1 M H T
  rcases dir_cases N x1 with ⟨a, ha, rfl, e1, e2⟩ | ⟨e1, e2⟩
  · rcases dir_cases N x2 with ⟨b, hb, rfl, e3, e4⟩ | ⟨e3, e4⟩
    · by_cases hab : a = b
      · subst hab
        refine CSame.thr 0 rfl (x := 0) (ρ' := (1, z, S', kk, u)) (γ' := (m, h, tx, pf)) ?_ rfl ?_ bad
        · unfold fX8_clash
          rw [e2, Option.bind_some, if_neg (by decide), Option.bind_some, if_neg (by decide), if_pos rfl]
        · unfold fX7_clash
          rw [e1, Option.bind_some, onS_r, Option.bind_some, onS_r, if_pos rfl]
      · obtain ⟨h', S2, kk', k1, k2, k3⟩ := keep_save (t := 0) (u := u) H M hN
        have hne : ¬ nI a = nI b := fun q => hab ((nI_eq (by omega) (by omega)).mp q)
        have hda := (M.2.2.1 a ha).1
        have key : ∀ i : Bool, bt (z (7 + a)) b = !i → CSame [IAE] (fX7_clash N (m, h, tx, pf) (nI a) (nI b)) (fX8_clash N (t, z, S', kk, u) (nI a) (nI b)) := by
          intro i hi
          obtain ⟨v', z', c1, c2, c3⟩ := clash_mach M ha hb hab i
          refine CSame.of (x := b2i i) (ρ' := (0, z', S2, kk', u)) (γ' := ((v', m.2), h', tx, pf)) ?_ rfl ?_ (SR.mk pf 0 c3 k3 T)
          · unfold fX8_clash
            rw [e2, Option.bind_some, if_neg (by decide), e4, Option.bind_some, if_neg (by decide), if_neg hne]
            dsimp only
            rw [k2, Option.bind_some]
            unfold fX8_doClash
            dsimp only
            rw [ix7, chk_nI (by omega) (by decide), nI_clamp (by omega), ite_bit _ (by omega), hi]
            cases i
            · have c2' : fX8_setClash N (0, z, S2, kk', u) (nI a) (nI b) 0 = _ := c2 N 0 (S2, kk', u)
              rw [if_pos (by decide), Option.bind_some, if_neg (by decide), c2']
              rfl
            · have c2' : fX8_setClash N (0, z, S2, kk', u) (nI a) (nI b) 1 = _ := c2 N 0 (S2, kk', u)
              rw [if_neg (by decide), Option.bind_some, if_pos rfl, c2']
              rfl
          · unfold fX7_clash
            dsimp only
            rw [e1, Option.bind_some, onS_r, e3, Option.bind_some, onS_r, if_neg hne, k1, Option.bind_some, rowAt_nI ha (by decide), X7_has_eq N _ (by omega), Option.bind_some, hda, hi]
            cases i
            · have c1' : fX2_putClash N m.1 (nI a) (nI b) 0 = _ := c1 N
              rw [if_neg (by decide), c1']
              rfl
            · have c1' : fX2_putClash N m.1 (nI a) (nI b) 1 = _ := c1 N
              rw [if_pos (by decide), c1']
              rfl
        cases hb2 : bt (z (7 + a)) b
        · exact key true hb2
        · exact key false hb2
    · refine CSame.thr 0 rfl (x := 0) (ρ' := (1, z, S', kk, u)) (γ' := (m, h, tx, pf)) ?_ rfl ?_ bad
      · unfold fX8_clash
        rw [e2, Option.bind_some, if_neg (by decide), e4, Option.bind_some, if_pos rfl]
      · unfold fX7_clash
        rw [e1, Option.bind_some, onS_r, e3, Option.bind_some, onS_l]
  · refine CSame.thr 0 rfl (x := 0) (ρ' := (1, z, S', kk, u)) (γ' := (m, h, tx, pf)) ?_ rfl ?_ bad
    · unfold fX8_clash
      rw [e2, Option.bind_some, if_pos rfl]
    · unfold fX7_clash
      rw [e1, Option.bind_some, onS_l]
theorem addPhase_call (S : SR (m, h, tx, pf) (t, z, S', kk, u)) {N : Nat} (hN : 900 ≤ N) (x1 x2 : Int32) : CSame [IAE, ISE] (fX7_addPhase N (m, h, tx, pf) x1 x2) (fX8_addPhase N (t, z, S', kk, u) x1 x2) := by
  obtain ⟨n, M, H, T⟩ := SR.parts S
  obtain ⟨n8, n1, n2, -⟩ := M.1
  rcases mask_cases N x1 with ⟨hG, e1, e2⟩ | ⟨e1, e2⟩
  · rcases hold_cases N x2 with ⟨b, h1, h9, rfl, e3, e4⟩ | ⟨e3, e4⟩
    · have w8 : fX8_whyNotPhase N (t, z, S', kk, u) x1 (nI b) = if z 0 = 8 then some 2 else some 0 := by
        unfold fX8_whyNotPhase
        rw [e2, Option.bind_some, if_neg (by decide), e4, Option.bind_some, if_neg (by decide), chk0, tn0]
      rw [n2] at w8
      by_cases hn : n = 8
      · subst hn
        rw [if_pos (by decide)] at w8
        refine CSame.thr 1 rfl (x := 0) (ρ' := (2, z, S', kk, u)) (γ' := (m, h, tx, pf)) ?_ rfl ?_ (SR.mk pf 2 M H T)
        · unfold fX8_addPhase
          rw [w8, Option.bind_some, if_neg (by decide)]
        · unfold fX7_addPhase fX2_isFull
          dsimp only
          rw [e1, Option.bind_some, onS_r, e3, Option.bind_some, onS_r, n1, if_neg (by decide), Option.bind_some, if_neg (by decide)]
      · have hlt : n < 8 := by omega
        rw [if_neg (show ¬ nI n = 8 from fun q => hn ((nI_eq (b := 8) (by omega) (by omega)).mp q))] at w8
        obtain ⟨h', S2, kk', k1, k2, k3⟩ := keep_save (t := 0) (u := u) H M hN
        obtain ⟨v', z', c1, c2, c3⟩ := phase_mach M hlt h1 h9 hG
        refine CSame.of (x := nI n) (ρ' := (0, z', S2, kk', u)) (γ' := ((v', m.2), h', tx, pf)) ?_ rfl ?_ (SR.mk pf 0 c3 k3 T)
        · unfold fX8_addPhase
          rw [w8, Option.bind_some, if_pos (by decide)]
          dsimp only
          rw [k2, Option.bind_some, c2 N 0 (S2, kk', u) hN]
          rfl
        · unfold fX7_addPhase fX2_isFull
          dsimp only
          rw [e1, Option.bind_some, onS_r, e3, Option.bind_some, onS_r, n1, if_pos (show nI n < (8 : Int32) from nI_lt (b := 8) hlt (by omega)), Option.bind_some, if_pos rfl, k1, Option.bind_some, c1 N]
          rfl
    · refine CSame.thr 0 rfl (x := 0) (ρ' := (1, z, S', kk, u)) (γ' := (m, h, tx, pf)) ?_ rfl ?_ (SR.mk pf 1 M H T)
      · unfold fX8_addPhase fX8_whyNotPhase
        rw [e2, Option.bind_some, if_neg (by decide), e4, Option.bind_some, if_pos rfl, Option.bind_some, if_neg (by decide)]
      · unfold fX7_addPhase
        rw [e1, Option.bind_some, onS_r, e3, Option.bind_some, onS_l]
  · refine CSame.thr 0 rfl (x := 0) (ρ' := (1, z, S', kk, u)) (γ' := (m, h, tx, pf)) ?_ rfl ?_ (SR.mk pf 1 M H T)
    · unfold fX8_addPhase fX8_whyNotPhase
      rw [e2, Option.bind_some, if_pos rfl, Option.bind_some, if_neg (by decide)]
    · unfold fX7_addPhase
      rw [e1, Option.bind_some, onS_l]
theorem addRule_call (S : SR (m, h, tx, pf) (t, z, S', kk, u)) {N : Nat} (hN : 900 ≤ N) (x1 x2 x3 : Int32) : CSame [IOB, IAE, ISE] (fX7_addRule N (m, h, tx, pf) x1 x2 x3) (fX8_addRule N (t, z, S', kk, u) x1 x2 x3) := by
  obtain ⟨n, M, H, T⟩ := SR.parts S
  obtain ⟨n8, n1, n2, -⟩ := M.1
  have no : ∀ (i : Nat) (k : Int32) (E : String), [IOB, IAE, ISE][i]? = some E → k = nI (i + 1) → ¬ k ≤ 0 → fX8_whyNotRule N (t, z, S', kk, u) x1 x2 x3 = some k → fX7_addRule N (m, h, tx, pf) x1 x2 x3 = some (.inl (E, (m, h, tx, pf))) → CSame [IOB, IAE, ISE] (fX7_addRule N (m, h, tx, pf) x1 x2 x3) (fX8_addRule N (t, z, S', kk, u) x1 x2 x3) := by
    intro i k E hE hk hk0 h8 h7
    refine CSame.thr i hE (x := 0) (ρ' := (k, z, S', kk, u)) (γ' := (m, h, tx, pf)) ?_ hk h7 (SR.mk pf k M H T)
    unfold fX8_addRule
    rw [h8, Option.bind_some, if_neg hk0]
  rcases ph2 M N (h, tx, pf) t (S', kk, u) x1 with ⟨p, hp, rfl, e1, e2⟩ | ⟨e1, e2⟩
  · rcases ph2 M N (h, tx, pf) t (S', kk, u) x2 with ⟨q, hq, rfl, e3, e4⟩ | ⟨e3, e4⟩
    · by_cases hpq : p = q
      · subst hpq
        refine no 1 2 IAE rfl rfl (by decide) ?_ ?_
        · unfold fX8_whyNotRule
          rw [e2, Option.bind_some, if_neg (by decide), Option.bind_some, if_neg (by decide), if_pos rfl]
        · unfold fX7_addRule
          rw [e1, Option.bind_some, onS_r, Option.bind_some, onS_r, if_pos rfl]
      · have hne : ¬ nI p = nI q := fun c => hpq ((nI_eq (by omega) (by omega)).mp c)
        rcases mask_cases N x3 with ⟨hG, e5, e6⟩ | ⟨e5, e6⟩
        · obtain ⟨rc, r1, r2, r3⟩ := M.rules hp
          have w8 : fX8_whyNotRule N (t, z, S', kk, u) (nI p) (nI q) x3 = if nI rc = 4 then some 3 else some 0 := by
            unfold fX8_whyNotRule
            rw [e2, Option.bind_some, if_neg (by decide), e4, Option.bind_some, if_neg (by decide), if_neg hne, e6, Option.bind_some, if_neg (by decide), rules_of N (t, z, S', kk, u) (by omega) r3, Option.bind_some]
          by_cases h4 : rc = 4
          · subst h4
            rw [if_pos (by decide)] at w8
            refine no 2 3 ISE rfl rfl (by decide) w8 ?_
            unfold fX7_addRule fX2_isFullOfRules
            dsimp only
            rw [e1, Option.bind_some, onS_r, e3, Option.bind_some, onS_r, if_neg hne, e5, Option.bind_some, onS_r, rowAt_nI (by omega) (by decide), r2, if_neg (by decide), Option.bind_some, if_neg (by decide)]
          · have hlt : rc < 4 := by omega
            rw [if_neg (show ¬ nI rc = 4 from fun c => h4 ((nI_eq (b := 4) (by omega) (by omega)).mp c))] at w8
            obtain ⟨h', S2, kk', k1, k2, k3⟩ := keep_save (t := 0) (u := u) H M hN
            obtain ⟨v', z', c1, c2, c3⟩ := rule_mach M hp hq (fun c => hpq c.symm) hlt r3 hG
            refine CSame.of (x := nI (rc + 1)) (ρ' := (0, z', S2, kk', u)) (γ' := ((v', m.2), h', tx, pf)) ?_ rfl ?_ (SR.mk pf 0 c3 k3 T)
            · unfold fX8_addRule
              rw [w8, Option.bind_some, if_pos (by decide)]
              dsimp only
              rw [k2, Option.bind_some, c2 N 0 (S2, kk', u)]
              rfl
            · unfold fX7_addRule fX2_isFullOfRules
              dsimp only
              rw [e1, Option.bind_some, onS_r, e3, Option.bind_some, onS_r, if_neg hne, e5, Option.bind_some, onS_r, rowAt_nI (by omega) (by decide), r2, if_pos (show nI rc < (4 : Int32) from nI_lt (b := 4) hlt (by omega)), Option.bind_some, if_pos rfl, k1, Option.bind_some, c1 N]
              rfl
        · refine no 1 2 IAE rfl rfl (by decide) ?_ ?_
          · unfold fX8_whyNotRule
            rw [e2, Option.bind_some, if_neg (by decide), e4, Option.bind_some, if_neg (by decide), if_neg hne, e6, Option.bind_some, if_pos rfl]
          · unfold fX7_addRule
            rw [e1, Option.bind_some, onS_r, e3, Option.bind_some, onS_r, if_neg hne, e5, Option.bind_some, onS_l]
    · refine no 0 1 IOB rfl rfl (by decide) ?_ ?_
      · unfold fX8_whyNotRule
        rw [e2, Option.bind_some, if_neg (by decide), e4, Option.bind_some, if_pos rfl]
      · unfold fX7_addRule
        rw [e1, Option.bind_some, onS_r, e3, Option.bind_some, onS_l]
  · refine no 0 1 IOB rfl rfl (by decide) ?_ ?_
    · unfold fX8_whyNotRule
      rw [e2, Option.bind_some, if_pos rfl]
    · unfold fX7_addRule
      rw [e1, Option.bind_some, onS_l]
theorem dropRule_call (S : SR (m, h, tx, pf) (t, z, S', kk, u)) {N : Nat} (hN : 900 ≤ N) (x1 : Int32) : CSame [IOB, ISE] (fX7_dropRule N (m, h, tx, pf) x1) (fX8_dropRule N (t, z, S', kk, u) x1) := by
  obtain ⟨n, M, H, T⟩ := SR.parts S
  obtain ⟨n8, n1, n2, -⟩ := M.1
  rcases ph2 M N (h, tx, pf) t (S', kk, u) x1 with ⟨p, hp, rfl, e1, e2⟩ | ⟨e1, e2⟩
  · obtain ⟨rc, r1, r2, r3⟩ := M.rules hp
    have h8 : p < 8 := by omega
    cases rc with
    | zero =>
      refine CSame.thr 1 rfl (x := 0) (ρ' := (2, z, S', kk, u)) (γ' := (m, h, tx, pf)) ?_ rfl ?_ (SR.mk pf 2 M H T)
      · unfold fX8_dropRule
        rw [e2, Option.bind_some, if_neg (by decide), rules_of N (t, z, S', kk, u) h8 r3, Option.bind_some, if_pos (by decide)]
      · unfold fX7_dropRule
        dsimp only
        rw [e1, Option.bind_some, onS_r, rowAt_nI h8 (by decide), r2, if_pos (by decide)]
    | succ k =>
      have hk0 : ¬ nI (k + 1) = 0 := nI_ne0 (by omega) (by omega)
      obtain ⟨h', S2, kk', k1, k2, k3⟩ := keep_save (t := 0) (u := u) H M hN
      obtain ⟨v', g, c1, c2, c3⟩ := drop_mach M hp (show k < 4 by omega) r3
      refine CSame.of (x := g) (ρ' := (0, _, S2, kk', u)) (γ' := ((v', m.2), h', tx, pf)) ?_ rfl ?_ (SR.mk pf 0 c3 k3 T)
      · unfold fX8_dropRule
        rw [e2, Option.bind_some, if_neg (by decide), rules_of N (t, z, S', kk, u) h8 r3, Option.bind_some, if_neg hk0]
        dsimp only
        rw [k2, Option.bind_some, ix3, chk_nI (by omega) (by decide), chk_nI (by omega) (by decide), nI_clamp (by omega)]
        unfold nmd
        dsimp only
        rw [r3, nI_pred, rules_of N (0, upd z (34 + 14 * p) (nI k), S2, kk', u) h8 upd_same, Option.bind_some, ix4r, nI_1, chk_nI (by omega) (by decide), chk_nI (by omega) (by decide), nI_clamp (by omega), chk_nI (by omega) (by decide), nI_clamp (by omega), show 35 + 14 * p + 2 * k + 1 = 36 + 14 * p + 2 * k by omega, upd_ne (show ¬ 35 + 14 * p + 2 * k = 34 + 14 * p by omega), c2]
      · unfold fX7_dropRule
        dsimp only
        rw [e1, Option.bind_some, onS_r, rowAt_nI h8 (by decide), r2, if_neg hk0, k1, Option.bind_some, c1 N]
        rfl
  · refine CSame.thr 0 rfl (x := 0) (ρ' := (1, z, S', kk, u)) (γ' := (m, h, tx, pf)) ?_ rfl ?_ (SR.mk pf 1 M H T)
    · unfold fX8_dropRule
      rw [e2, Option.bind_some, if_pos rfl]
    · unfold fX7_dropRule
      rw [e1, Option.bind_some, onS_l]
theorem change_call (S : SR (m, h, tx, pf) (t, z, S', kk, u)) {N : Nat} (hN : 900 ≤ N) (x1 x2 x3 : Int32) : CSame [IOB, IAE] (fX7_change N (m, h, tx, pf) x1 x2 x3) (fX8_change N (t, z, S', kk, u) x1 x2 x3) := by
  obtain ⟨n, M, H, T⟩ := SR.parts S
  obtain ⟨n8, n1, n2, -⟩ := M.1
  rcases ph2 M N (h, tx, pf) t (S', kk, u) x1 with ⟨p, hp, rfl, e1, e2⟩ | ⟨e1, e2⟩
  · have h8 : p < 8 := by omega
    rcases mask_cases N x2 with ⟨hG, e3, e4⟩ | ⟨e3, e4⟩
    · rcases hold_cases N x3 with ⟨b, h1, h9, rfl, e5, e6⟩ | ⟨e5, e6⟩
      · obtain ⟨h', S2, kk', k1, k2, k3⟩ := keep_save (t := 0) (u := u) H M hN
        obtain ⟨c1, c3⟩ := change_mach M hp h1 h9 hG
        refine CSame.of (x := z (31 + 14 * p)) (ρ' := (0, _, S2, kk', u)) (γ' := (_, h', tx, pf)) ?_ rfl ?_ (SR.mk pf 0 c3 k3 T)
        · unfold fX8_change
          rw [e2, Option.bind_some, if_neg (by decide), e4, Option.bind_some, if_neg (by decide), e6, Option.bind_some, if_neg (by decide)]
          dsimp only
          rw [k2, Option.bind_some]
          unfold fX8_greens
          rw [show (0 : Int32) = nI 0 from rfl, X8_of_eq N _ h8 (by omega), Option.bind_some, Option.bind_some, ix14, show (1 : Int32) = nI 1 from rfl, ix14, Nat.add_zero, show 31 + 14 * p + 1 = 32 + 14 * p by omega, chk_nI (by omega) (by decide), nI_clamp (by omega)]
          unfold nmd
          dsimp only
          rw [chk_nI (by omega) (by decide), nI_clamp (by omega)]
        · unfold fX7_change
          dsimp only
          rw [e1, Option.bind_some, onS_r, e3, Option.bind_some, onS_r, e5, Option.bind_some, onS_r, k1, Option.bind_some, rowAt_nI h8 (by decide), rowPut_nI h8 (by decide), rowPut_nI h8 (by decide), c1]
      · refine CSame.thr 1 rfl (x := 0) (ρ' := (2, z, S', kk, u)) (γ' := (m, h, tx, pf)) ?_ rfl ?_ (SR.mk pf 2 M H T)
        · unfold fX8_change
          rw [e2, Option.bind_some, if_neg (by decide), e4, Option.bind_some, if_neg (by decide), e6, Option.bind_some, if_pos rfl]
        · unfold fX7_change
          rw [e1, Option.bind_some, onS_r, e3, Option.bind_some, onS_r, e5, Option.bind_some, onS_l]
    · refine CSame.thr 1 rfl (x := 0) (ρ' := (2, z, S', kk, u)) (γ' := (m, h, tx, pf)) ?_ rfl ?_ (SR.mk pf 2 M H T)
      · unfold fX8_change
        rw [e2, Option.bind_some, if_neg (by decide), e4, Option.bind_some, if_pos rfl]
      · unfold fX7_change
        rw [e1, Option.bind_some, onS_r, e3, Option.bind_some, onS_l]
  · refine CSame.thr 0 rfl (x := 0) (ρ' := (1, z, S', kk, u)) (γ' := (m, h, tx, pf)) ?_ rfl ?_ (SR.mk pf 1 M H T)
    · unfold fX8_change
      rw [e2, Option.bind_some, if_pos rfl]
    · unfold fX7_change
      rw [e1, Option.bind_some, onS_l]
theorem chk1 {α : Type} (k : Option α) : chk 1 143 k = k := chk_nI (i := 1) (by decide) (by decide) k
theorem tn1 : (1 : Int32).toNatClampNeg = 1 := nI_clamp (n := 1) (by decide)
theorem set_call (S : SR (m, h, tx, pf) (t, z, S', kk, u)) {N : Nat} (hN : 900 ≤ N) (x1 : Int32) : CSame [IAE] (fX7_set N (m, h, tx, pf) x1) (fX8_set N (t, z, S', kk, u) x1) := by
  obtain ⟨n, M, H, T⟩ := SR.parts S
  rcases in_lh N (a := 0) (b := 5) (by decide) (by decide) x1 with ⟨j, j1, j2, rfl, e1, e2, e3⟩ | ⟨e1, e2⟩
  · obtain ⟨h', S2, kk', k1, k2, k3⟩ := keep_save (t := 0) (u := u) H M hN
    obtain ⟨c1, c3⟩ := set_mach M j2
    have e1' : fX8_in N (nI j) 0 5 = some 1 := e1
    refine CSame.of (x := z 1) (ρ' := (0, _, S2, kk', u)) (γ' := (_, h', tx, pf)) ?_ rfl ?_ (SR.mk pf 0 c3 k3 T)
    · unfold fX8_set
      rw [e1', Option.bind_some, if_neg (by decide)]
      dsimp only
      rw [k2, Option.bind_some, chk1, chk1, tn1]
      rfl
    · unfold fX7_set
      dsimp only
      rw [if_neg (show ¬ nI j < 0 from e2), if_pos (show nI j ≤ 5 from e3), k1, Option.bind_some, c1]
  · have e1' : fX8_in N x1 0 5 = some 0 := e1
    refine CSame.thr 0 rfl (x := 0) (ρ' := (1, z, S', kk, u)) (γ' := (m, h, tx, pf)) ?_ rfl ?_ (SR.mk pf 1 M H T)
    · unfold fX8_set
      rw [e1', Option.bind_some, if_pos rfl]
    · unfold fX7_set
      rcases e2 with e2 | ⟨e2, e3⟩
      · rw [if_pos (show x1 < 0 from e2)]
      · rw [if_neg (show ¬ x1 < 0 from e2), if_neg (show ¬ x1 ≤ 5 from e3)]
end KC
