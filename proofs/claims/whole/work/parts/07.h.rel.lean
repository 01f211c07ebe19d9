/-! the relation of the two machines, cell by cell -/
/-- a phase of the plan against its fourteen cells -/
def PR (v : SX2) (ar z : Nat → Int32) (n p : Nat) : Prop := v.2.1 p = z (31 + 14 * p) ∧ (∀ q, bt (z (31 + 14 * p)) q = true → q < 6) ∧ (∃ h, 1 ≤ h ∧ h ≤ 9 ∧ v.2.2.1 p = nI h ∧ z (32 + 14 * p) = nI h) ∧ ar p = z (33 + 14 * p) ∧ ∃ rc, rc ≤ 4 ∧ v.2.2.2.1 p = nI rc ∧ z (34 + 14 * p) = nI rc ∧ ∀ r, r < rc → (∃ q, q < n ∧ ¬ q = p ∧ v.2.2.2.2.1 (4 * p + r) = nI q ∧ z (35 + 14 * p + 2 * r) = nI q) ∧ v.2.2.2.2.2.1 (4 * p + r) = z (36 + 14 * p + 2 * r) ∧ (∀ q, bt (z (36 + 14 * p + 2 * r)) q = true → q < 6)
/-- a direction against its four cells -/
def DR (m : SX1) (z : Nat → Int32) (d : Nat) : Prop := m.1.1 d = z (7 + d) ∧ (∀ q, bt (z (7 + d)) q = true → q < 6) ∧ m.2.1 d = z (13 + d) ∧ m.2.2.1 d = z (19 + d) ∧ m.2.2.2.1 d = z (25 + d)
/-- where the machine is -/
def AR (m : SX1) (z : Nat → Int32) (n : Nat) : Prop := ((n = 0 ∧ z 2 = -1 ∧ m.2.2.2.2.2.1 = 0) ∨ ∃ s, s < n ∧ z 2 = nI s ∧ m.2.2.2.2.2.1 = nI s) ∧ m.2.2.2.2.2.2.2.2.1 = z 4 ∧ m.2.2.2.2.2.2.2.2.2 = z 6 ∧ ((z 4 = 0 ∧ m.2.2.2.2.2.2.2.1 = z 3) ∨ ∃ l, 1 ≤ l ∧ l ≤ 5 ∧ z 4 = nI l ∧ ∃ p, p < n ∧ m.2.2.2.2.2.2.1 = nI p ∧ z 5 = nI p)
def NR (v : SX2) (z : Nat → Int32) (n : Nat) : Prop := n ≤ 8 ∧ v.2.2.2.2.2.2.1 = nI n ∧ z 0 = nI n ∧ ∃ ct, ct ≤ 5 ∧ v.2.2.2.2.2.2.2 = nI ct ∧ z 1 = nI ct
def MR (m : SX1) (z : Nat → Int32) (n : Nat) : Prop := NR m.1 z n ∧ AR m z n ∧ (∀ d, d < 6 → DR m z d) ∧ (∀ p, p < n → PR m.1 m.2.2.2.2.1 z n p) ∧ (∀ p, p < 8 → n ≤ p → m.2.2.2.2.1 p = 0) ∧ (n = 0 → m.1.2.1 0 = 0)
theorem PR.congr {v v' : SX2} {ar ar' z z' : Nat → Int32} {n n' p : Nat} (h : PR v ar z n p) (hn : n ≤ n') (hv : v'.2.1 p = v.2.1 p ∧ v'.2.2.1 p = v.2.2.1 p ∧ v'.2.2.2.1 p = v.2.2.2.1 p ∧ (∀ r, r < 4 → v'.2.2.2.2.1 (4 * p + r) = v.2.2.2.2.1 (4 * p + r) ∧ v'.2.2.2.2.2.1 (4 * p + r) = v.2.2.2.2.2.1 (4 * p + r))) (ha : ar' p = ar p) (hz : ∀ w, w < 14 → z' (31 + 14 * p + w) = z (31 + 14 * p + w)) : PR v' ar' z' n' p := by
  obtain ⟨a1, a2, ⟨h0, b1, b2, b3, b4⟩, a4, rc, c1, c2, c3, c4⟩ := h
  obtain ⟨v1, v2, v3, v4⟩ := hv
  have z0 : z' (31 + 14 * p) = z (31 + 14 * p) := hz 0 (by omega)
  have z1 : z' (32 + 14 * p) = z (32 + 14 * p) := by have := hz 1 (by omega); rwa [show 31 + 14 * p + 1 = 32 + 14 * p by omega] at this
  have z2 : z' (33 + 14 * p) = z (33 + 14 * p) := by have := hz 2 (by omega); rwa [show 31 + 14 * p + 2 = 33 + 14 * p by omega] at this
  have z3 : z' (34 + 14 * p) = z (34 + 14 * p) := by have := hz 3 (by omega); rwa [show 31 + 14 * p + 3 = 34 + 14 * p by omega] at this
  refine ⟨by rw [v1, z0, a1], by rw [z0]; exact a2, ⟨h0, b1, b2, by rw [v2, b3], by rw [z1, b4]⟩, by rw [ha, z2, a4], rc, c1, by rw [v3, c2], by rw [z3, c3], fun r hr => ?_⟩
  obtain ⟨⟨q, q1, q2, q3, q4⟩, d2, d3⟩ := c4 r hr
  have w1 : z' (35 + 14 * p + 2 * r) = z (35 + 14 * p + 2 * r) := by have := hz (4 + 2 * r) (by omega); rwa [show 31 + 14 * p + (4 + 2 * r) = 35 + 14 * p + 2 * r by omega] at this
  have w2 : z' (36 + 14 * p + 2 * r) = z (36 + 14 * p + 2 * r) := by have := hz (5 + 2 * r) (by omega); rwa [show 31 + 14 * p + (5 + 2 * r) = 36 + 14 * p + 2 * r by omega] at this
  refine ⟨⟨q, by omega, q2, by rw [(v4 r (by omega)).1, q3], by rw [w1, q4]⟩, by rw [(v4 r (by omega)).2, w2, d2], by rw [w2]; exact d3⟩
theorem DR.congr {m m' : SX1} {z z' : Nat → Int32} {d : Nat} (h : DR m z d) (h1 : m'.1.1 d = m.1.1 d) (h2 : m'.2.1 d = m.2.1 d) (h3 : m'.2.2.1 d = m.2.2.1 d) (h4 : m'.2.2.2.1 d = m.2.2.2.1 d) (z1 : z' (7 + d) = z (7 + d)) (z2 : z' (13 + d) = z (13 + d)) (z3 : z' (19 + d) = z (19 + d)) (z4 : z' (25 + d) = z (25 + d)) : DR m' z' d := by
  obtain ⟨a, b, c, e, f⟩ := h
  exact ⟨by rw [h1, z1, a], by rw [z1]; exact b, by rw [h2, z2, c], by rw [h3, z3, e], by rw [h4, z4, f]⟩
/-- the relation looks at the first 143 cells alone -/
theorem MR.row {m : SX1} {z z' : Nat → Int32} {n : Nat} (h : MR m z n) (hz : ∀ x, x < 143 → z' x = z x) : MR m z' n := by
  obtain ⟨⟨n8, n1, n2, ct, n3, n4, n5⟩, ⟨a1, a2, a3, a4⟩, hd, hp, ha, h0⟩ := h
  refine ⟨⟨n8, n1, by rw [hz 0 (by omega), n2], ct, n3, n4, by rw [hz 1 (by omega), n5]⟩, ⟨by rw [hz 2 (by omega)]; exact a1, by rw [hz 4 (by omega)]; exact a2, by rw [hz 6 (by omega)]; exact a3, by rw [hz 4 (by omega), hz 3 (by omega), hz 5 (by omega)]; exact a4⟩, fun d h => (hd d h).congr rfl rfl rfl rfl (hz _ (by omega)) (hz _ (by omega)) (hz _ (by omega)) (hz _ (by omega)), fun p h => (hp p h).congr (Nat.le_refl _) ⟨rfl, rfl, rfl, fun _ _ => ⟨rfl, rfl⟩⟩ rfl (fun w hw => hz _ (by omega)), ha, h0⟩
/-- the graph of a row -/
def Gz (z : Nat → Int32) (n : Nat) : Gr := (n, fun p => z (31 + 14 * p), fun p => (z (34 + 14 * p)).toNatClampNeg, fun p r => (z (35 + 14 * p + 2 * r)).toNatClampNeg, fun p r => z (36 + 14 * p + 2 * r))
theorem MR.graph {m : SX1} {z : Nat → Int32} {n : Nat} (h : MR m z n) (u : SX0 × SX6 × SX3) : ∃ ho ct s, RG (m, u) z (Gz z n) ho ct s ∧ RX m z (Gz z n) := by
  obtain ⟨⟨n8, n1, n2, ct, n3, n4, n5⟩, ⟨a1, a2, a3, a4⟩, hd, hp, ha, h0⟩ := h
  have key : ∃ s, AtS z (Gz z n) s ∧ m.2.2.2.2.2.1 = nI s ∧ s < 8 := by
    rcases a1 with ⟨e1, e2, e3⟩ | ⟨s, e1, e2, e3⟩
    · exact ⟨0, Or.inl ⟨e1, e2, rfl⟩, e3, by omega⟩
    · exact ⟨s, Or.inr ⟨e1, e2⟩, e3, by omega⟩
  obtain ⟨s, s1, s2, s3⟩ := key
  have hG : ∀ p, p < n → gR (Gz z n) p ≤ 4 ∧ z (34 + 14 * p) = nI (gR (Gz z n) p) ∧ m.1.2.2.2.1 p = nI (gR (Gz z n) p) ∧ ∀ r, r < gR (Gz z n) p → gO (Gz z n) p r < n ∧ ¬ gO (Gz z n) p r = p ∧ m.1.2.2.2.2.1 (4 * p + r) = nI (gO (Gz z n) p r) ∧ z (35 + 14 * p + 2 * r) = nI (gO (Gz z n) p r) ∧ m.1.2.2.2.2.2.1 (4 * p + r) = z (36 + 14 * p + 2 * r) ∧ (∀ q, bt (z (36 + 14 * p + 2 * r)) q = true → q < 6) := by
    intro p hpn
    obtain ⟨-, -, -, -, rc, c1, c2, c3, c4⟩ := hp p hpn
    have e : gR (Gz z n) p = rc := by
      show (z (34 + 14 * p)).toNatClampNeg = rc
      rw [c3, nI_clamp (by omega)]
    rw [e]
    refine ⟨c1, c3, c2, fun r hr => ?_⟩
    obtain ⟨⟨q, q1, q2, q3, q4⟩, d2, d3⟩ := c4 r hr
    have e2 : gO (Gz z n) p r = q := by
      show (z (35 + 14 * p + 2 * r)).toNatClampNeg = q
      rw [q4, nI_clamp (by omega)]
    rw [e2]
    exact ⟨q1, q2, q3, q4, d2, d3⟩
  have hH : ∀ p, p < n → z (32 + 14 * p) = nI (z (32 + 14 * p)).toNatClampNeg ∧ m.1.2.2.1 p = nI (z (32 + 14 * p)).toNatClampNeg ∧ 1 ≤ (z (32 + 14 * p)).toNatClampNeg ∧ (z (32 + 14 * p)).toNatClampNeg ≤ 9 := by
    intro p hpn
    obtain ⟨-, -, ⟨h0, b1, b2, b3, b4⟩, -⟩ := hp p hpn
    have e : (z (32 + 14 * p)).toNatClampNeg = h0 := by rw [b4, nI_clamp (by omega)]
    rw [e]
    exact ⟨b4, b3, b1, b2⟩
  refine ⟨fun p => (z (32 + 14 * p)).toNatClampNeg, ct, s, ⟨⟨n8, n1, fun p hpn => ⟨(hp p hpn).1, (hG p hpn).2.2.1, (hG p hpn).1, fun r hr => ?_⟩⟩, ⟨fun p hpn => (hH p hpn).2, n4, n3⟩, ⟨n8, n2, fun p hpn => ⟨rfl, (hG p hpn).2.1, by have := (hG p hpn).1; omega, fun r hr => ?_⟩⟩, ⟨fun p hpn => ⟨(hH p hpn).1, (hH p hpn).2.2⟩, n5, n3⟩, fun p hpn => (hG p hpn).1, fun d hd6 => (hd d hd6).1, s1, s2, s3⟩, fun d h => (hd d h).2.2.1, fun d h => (hd d h).2.2.2.1, fun d h => (hd d h).2.2.2.2, fun p h8 => ?_, a2, a3, a4, fun p hpn => (hp p hpn).2.1, fun p hpn r hr => ⟨((hG p hpn).2.2.2 r hr).2.2.2.2.2, ((hG p hpn).2.2.2 r hr).2.1⟩, fun d h => (hd d h).2.1, h0⟩
  · obtain ⟨x1, x2, x3, x4, x5, x6⟩ := (hG p hpn).2.2.2 r hr
    exact ⟨x3, x1, x5⟩
  · obtain ⟨x1, x2, x3, x4, x5, x6⟩ := (hG p hpn).2.2.2 r hr
    exact ⟨x4, x1, rfl⟩
  · by_cases hpn : p < gN (Gz z n)
    · rw [if_pos hpn]; exact (hp p hpn).2.2.2.1
    · rw [if_neg hpn]; exact ha p h8 (Nat.le_of_not_lt hpn)
/-! saving -/
theorem slot_eq : ∀ o : Fin 6, ∀ k : Fin 7, slotI (nI o.val) (nI k.val) = nI ((o.val + k.val) % 6) := by decide +kernel
def HiS (h : SX0) (kk : Int32) (S : Nat → Int32) : Prop := ∃ o k, o < 6 ∧ k ≤ 6 ∧ h.2.1 = nI o ∧ h.2.2 = nI k ∧ kk = nI k ∧ ∀ j, j < k → ∃ n, MR (h.1 ((o + j) % 6)) (fun x => S (143 * j + x)) n
/-- a row copied to a place -/
def cpyS (S z : Nat → Int32) (b i : Nat) : Nat → Int32 := fun j => if b + i ≤ j ∧ j < b + 143 then z (j - b) else S j
theorem save_L52 (N : Nat) (z : Nat → Int32) {k : Nat} (hk : k ≤ 5) (t : Int32) (u : (Nat → Int32) × Int32 × (Nat → Int32) × Int32 × Int32 × Int32 × (Nat → Int32) × (Nat → Int32) × Int64) : ∀ (j i fuel : Nat) (S : Nat → Int32), i + j = 143 → j < fuel → fX8_save_L52 N fuel (t, z, S, nI k, u) (nI i) = some (t, z, cpyS S z (143 * k) i, nI k, u) := by
  intro j
  induction j with
  | zero =>
    intro i fuel S e1 e2
    obtain ⟨f, rfl⟩ : ∃ f, fuel = f + 1 := ⟨fuel - 1, by omega⟩
    have hi : i = 143 := by omega
    subst hi
    rw [fX8_save_L52, if_pos (by decide)]
    refine congrArg some (Prod.ext rfl (Prod.ext rfl (Prod.ext ?_ rfl)))
    funext x
    show S x = cpyS S z (143 * k) 143 x
    unfold cpyS
    rw [if_neg (by omega)]
  | succ j ih =>
    intro i fuel S e1 e2
    obtain ⟨f, rfl⟩ : ∃ f, fuel = f + 1 := ⟨fuel - 1, by omega⟩
    have hi : i < 143 := by omega
    rw [fX8_save_L52, if_neg (show ¬ (143 : Int32) ≤ nI i from fun q => by
      have q2 : nI 143 ≤ nI i := q
      rw [nI_leI (by omega) (by omega)] at q2; omega)]
    dsimp only
    rw [show (143 : Int32) = nI 143 from rfl, nI_mul, nI_add, chk_nI (by omega) (by omega), chk_nI (by omega) (by omega), nI_clamp (show k * 143 + i < 2 ^ 31 by omega), nI_clamp (show i < 2 ^ 31 by omega)]
    unfold nmd
    dsimp only
    rw [nI_1, ih (i + 1) f _ (by omega) (by omega)]
    refine congrArg some (Prod.ext rfl (Prod.ext rfl (Prod.ext ?_ rfl)))
    funext x
    show cpyS (upd S (k * 143 + i) (z i)) z (143 * k) (i + 1) x = cpyS S z (143 * k) i x
    unfold cpyS
    by_cases h1 : x = k * 143 + i
    · subst h1
      rw [if_neg (by omega), if_pos (by omega), upd_same, show k * 143 + i - 143 * k = i by omega]
    · by_cases h2 : 143 * k + (i + 1) ≤ x ∧ x < 143 * k + 143
      · rw [if_pos h2, if_pos (by omega)]
      · rw [if_neg h2, if_neg (by omega), upd_ne h1]
def dwn (S : Nat → Int32) (i : Nat) : Nat → Int32 := fun j => if i ≤ j ∧ j < 715 then S (j + 143) else S j
theorem save_L11 (N : Nat) (z : Nat → Int32) (t kk : Int32) (u : (Nat → Int32) × Int32 × (Nat → Int32) × Int32 × Int32 × Int32 × (Nat → Int32) × (Nat → Int32) × Int64) : ∀ (j i fuel : Nat) (S : Nat → Int32), i + j = 715 → j < fuel → fX8_save_L11 N fuel (t, z, S, kk, u) (nI i) = some (t, z, dwn S i, kk, u) := by
  intro j
  induction j with
  | zero =>
    intro i fuel S e1 e2
    obtain ⟨f, rfl⟩ : ∃ f, fuel = f + 1 := ⟨fuel - 1, by omega⟩
    have hi : i = 715 := by omega
    subst hi
    rw [fX8_save_L11, if_pos (by decide)]
    refine congrArg some (Prod.ext rfl (Prod.ext rfl (Prod.ext ?_ rfl)))
    funext x
    show S x = dwn S 715 x
    unfold dwn
    rw [if_neg (by omega)]
  | succ j ih =>
    intro i fuel S e1 e2
    obtain ⟨f, rfl⟩ : ∃ f, fuel = f + 1 := ⟨fuel - 1, by omega⟩
    have hi : i < 715 := by omega
    rw [fX8_save_L11, if_neg (show ¬ (715 : Int32) ≤ nI i from fun q => by
      have q2 : nI 715 ≤ nI i := q
      rw [nI_leI (by omega) (by omega)] at q2; omega)]
    dsimp only
    rw [show (143 : Int32) = nI 143 from rfl, nI_add, chk_nI (by omega) (by omega), chk_nI (by omega) (by omega), nI_clamp (show i + 143 < 2 ^ 31 by omega), nI_clamp (show i < 2 ^ 31 by omega)]
    unfold nmd
    dsimp only
    rw [nI_1, ih (i + 1) f _ (by omega) (by omega)]
    refine congrArg some (Prod.ext rfl (Prod.ext rfl (Prod.ext ?_ rfl)))
    funext x
    show dwn (upd S i (S (i + 143))) (i + 1) x = dwn S i x
    unfold dwn
    by_cases h1 : x = i
    · subst h1
      rw [if_neg (by omega), if_pos (by omega), upd_same]
    · by_cases h2 : i + 1 ≤ x ∧ x < 715
      · rw [if_pos h2, if_pos (by omega), upd_ne (by omega)]
      · rw [if_neg h2, if_neg (by omega), upd_ne h1]
/-- both save alike -/
theorem keep_save {h : SX0} {m : SX1} {t kk : Int32} {z S : Nat → Int32} {n : Nat} {u : (Nat → Int32) × Int32 × (Nat → Int32) × Int32 × Int32 × Int32 × (Nat → Int32) × (Nat → Int32) × Int64} (H : HiS h kk S) (M : MR m z n) {N : Nat} (hN : 900 ≤ N) : ∃ h' S' kk', fX0_keep N h m = some h' ∧ fX8_save N (t, z, S, kk, u) = some (t, z, S', kk', u) ∧ HiS h' kk' S' := by
  obtain ⟨o, k, ho, hk, e1, e2, rfl, hj⟩ := H
  have hsl : slotI h.2.1 h.2.2 = nI ((o + k) % 6) := by
    rw [e1, e2]; exact slot_eq ⟨o, ho⟩ ⟨k, by omega⟩
  have hmod : (o + k) % 6 < 6 := Nat.mod_lt _ (by decide)
  unfold fX0_keep fX8_save
  rw [hsl, chk_nI hmod (by decide), nI_clamp (by omega), e2]
  by_cases h6 : k = 6
  · subst h6
    refine ⟨(updM h.1 ((o + 6) % 6) m, slotI h.2.1 1, nI 6), cpyS (dwn S 0) z (143 * 5) 0, nI 6, by rw [if_pos (by decide)], ?_, ?_⟩
    · dsimp only
      rw [if_pos (by decide), show (0 : Int32) = nI 0 from rfl, save_L11 N z t (nI 6) u 715 0 N S (by omega) (by omega), Option.bind_some]
      dsimp only
      rw [show nI 6 - 1 = nI 5 by decide, save_L52 N z (by omega) t u 143 0 N _ (by omega) (by omega), Option.bind_some]
      rfl
    · refine ⟨(o + 1) % 6, 6, Nat.mod_lt _ (by decide), Nat.le_refl _, ?_, rfl, rfl, fun j hj6 => ?_⟩
      · show slotI h.2.1 1 = _
        rw [e1]
        exact slot_eq ⟨o, ho⟩ ⟨1, by omega⟩
      · show ∃ n, MR (updM h.1 ((o + 6) % 6) m (((o + 1) % 6 + j) % 6)) _ n
        unfold updM
        by_cases hj5 : j = 5
        · subst hj5
          rw [if_pos (by omega)]
          refine ⟨n, M.row (fun x hx => ?_)⟩
          unfold cpyS
          rw [if_pos (by omega), show 143 * 5 + x - 143 * 5 = x by omega]
        · rw [if_neg (by omega), show ((o + 1) % 6 + j) % 6 = (o + (j + 1)) % 6 by omega]
          obtain ⟨n', M'⟩ := hj (j + 1) (by omega)
          refine ⟨n', M'.row (fun x hx => ?_)⟩
          unfold cpyS dwn
          rw [if_neg (by omega), if_pos (by omega), show 143 * j + x + 143 = 143 * (j + 1) + x by omega]
  · have hk6 : ¬ nI k = 6 := fun z => h6 ((nI_eq (b := 6) (by omega) (by omega)).mp z)
    refine ⟨(updM h.1 ((o + k) % 6) m, nI o, nI k + 1), cpyS S z (143 * k) 0, nI k + 1, by rw [if_neg hk6, e1], ?_, ?_⟩
    · dsimp only
      rw [if_neg hk6, show (0 : Int32) = nI 0 from rfl, save_L52 N z (by omega) t u 143 0 N _ (by omega) (by omega), Option.bind_some]
    · rw [nI_1]
      refine ⟨o, k + 1, ho, by omega, rfl, rfl, rfl, fun j hj6 => ?_⟩
      show ∃ n, MR (updM h.1 ((o + k) % 6) m ((o + j) % 6)) _ n
      unfold updM
      by_cases hj5 : j = k
      · subst hj5
        rw [if_pos rfl]
        refine ⟨n, M.row (fun x hx => ?_)⟩
        unfold cpyS
        rw [if_pos (by omega), show 143 * j + x - 143 * j = x by omega]
      · rw [if_neg (by omega)]
        obtain ⟨n', M'⟩ := hj j (by omega)
        refine ⟨n', M'.row (fun x hx => ?_)⟩
        unfold cpyS
        rw [if_neg (by omega)]
