/-! the class's plan, read as a graph -/
abbrev Gr : Type := Nat × (Nat → Int32) × (Nat → Nat) × (Nat → Nat → Nat) × (Nat → Nat → Int32)
abbrev gN (g : Gr) : Nat := g.1
abbrev gG (g : Gr) : Nat → Int32 := g.2.1
abbrev gR (g : Gr) : Nat → Nat := g.2.2.1
abbrev gO (g : Gr) : Nat → Nat → Nat := g.2.2.2.1
abbrev gA (g : Gr) : Nat → Nat → Int32 := g.2.2.2.2
def PG (v : SX2) (g : Gr) : Prop := gN g ≤ 8 ∧ v.2.2.2.2.2.2.1 = nI (gN g) ∧ ∀ p, p < gN g → v.2.1 p = gG g p ∧ v.2.2.2.1 p = nI (gR g p) ∧ gR g p ≤ 4 ∧ ∀ r, r < gR g p → v.2.2.2.2.1 (4 * p + r) = nI (gO g p r) ∧ gO g p r < gN g ∧ v.2.2.2.2.2.1 (4 * p + r) = gA g p r
theorem rowAt_nI {n i : Nat} (h : i < n) (hn : n < 2 ^ 31) (f : Nat → Int32) : rowAt n f (nI i) = f i := by
  have hi : i < 2 ^ 31 := by omega
  unfold rowAt
  rw [nI_clamp hi, if_neg (fun q => q.elim (nI_pos hi) (by omega))]
theorem rowPut_nI {n i : Nat} (h : i < n) (hn : n < 2 ^ 31) (f : Nat → Int32) (x : Int32) : rowPut n f (nI i) x = upd f i x := by
  have hi : i < 2 ^ 31 := by omega
  unfold rowPut
  rw [nI_clamp hi, if_neg (fun q => q.elim (nI_pos hi) (by omega))]
theorem nI_mul (a b : Nat) : nI a * nI b = nI (a * b) := (Int32.ofNat_mul a b).symm
theorem ix4 (p r : Nat) : nI p * 4 + nI r = nI (4 * p + r) := by
  rw [show (4 : Int32) = nI 4 from rfl, nI_mul, nI_add, Nat.mul_comm]
theorem ix8 (p r : Nat) : nI p * 8 + nI r = nI (8 * p + r) := by
  rw [show (8 : Int32) = nI 8 from rfl, nI_mul, nI_add, Nat.mul_comm]
theorem X2_goalOf_eq {v : SX2} {g : Gr} (h : PG v g) (N : Nat) {p r : Nat} (hp : p < gN g) (hr : r < gR g p) : fX2_goalOf N v (nI p) (nI r) = some (nI (gO g p r)) := by
  obtain ⟨h1, h2, h3⟩ := h
  obtain ⟨h4, h5, h6, h7⟩ := h3 p hp
  unfold fX2_goalOf
  rw [ix4, rowAt_nI (by omega) (by decide), (h7 r hr).1]
theorem X2_askersOf_eq {v : SX2} {g : Gr} (h : PG v g) (N : Nat) {p r : Nat} (hp : p < gN g) (hr : r < gR g p) : fX2_askersOf N v (nI p) (nI r) = some (gA g p r) := by
  obtain ⟨h1, h2, h3⟩ := h
  obtain ⟨h4, h5, h6, h7⟩ := h3 p hp
  unfold fX2_askersOf
  rw [ix4, rowAt_nI (by omega) (by decide), (h7 r hr).2.2]
theorem plan_rc {v : SX2} {g : Gr} (h : PG v g) {p : Nat} (hp : p < gN g) : rowAt 8 v.2.2.2.1 (nI p) = nI (gR g p) := by
  obtain ⟨h1, h2, h3⟩ := h
  rw [rowAt_nI (by omega) (by decide), (h3 p hp).2.1]
theorem plan_gr {v : SX2} {g : Gr} (h : PG v g) {p : Nat} (hp : p < gN g) : rowAt 8 v.2.1 (nI p) = gG g p := by
  obtain ⟨h1, h2, h3⟩ := h
  rw [rowAt_nI (by omega) (by decide), (h3 p hp).1]
theorem X2_hasPhase_eq {v : SX2} {g : Gr} (h : PG v g) (N : Nat) (x : Int32) : fX2_hasPhase N v x = some (if ∃ p, p < gN g ∧ x = nI p then 1 else 0) := by
  obtain ⟨h1, h2, h3⟩ := h
  unfold fX2_hasPhase
  rw [h2]
  by_cases hx : x < 0
  · rw [if_pos hx, if_neg]
    rintro ⟨p, hp, rfl⟩
    exact nI_pos (by omega) hx
  · rw [if_neg hx]
    obtain ⟨j, hj, rfl⟩ := nI_of hx
    by_cases hl : gN g ≤ j
    · rw [if_pos (nI_le hl hj), if_neg]
      rintro ⟨p, hp, e⟩
      rw [nI_eq hj (by omega)] at e
      omega
    · rw [if_neg (fun z => by rw [nI_leI (by omega) hj] at z; omega), if_pos ⟨j, by omega, rfl⟩]
/-! the graph for a direction d -/
def sur (g : Gr) (d p r : Nat) : Bool := decide (gA g p r = 0) || bt (gA g p r) d
def fre (g : Gr) (d p : Nat) : Nat → Bool
  | 0 => true
  | r + 1 => fre g d p r && !sur g d p r
def ahd (g : Gr) (p : Nat) : Nat → Int32
  | 0 => 0
  | r + 1 => ahd g p r ||| gA g p r
def fol (g : Gr) (d p r : Nat) : Bool := fre g d p r && (sur g d p r || decide (¬ (gA g p r &&& (ahd g p r ^^^ (-1))) = 0))
def sty (g : Gr) (d p : Nat) : Bool := fre g d p (gR g p)
def Edg (g : Gr) (d p q : Nat) : Prop := ∃ r, r < gR g p ∧ fol g d p r = true ∧ gO g p r = q
def grn (g : Gr) (d p : Nat) : Bool := bt (gG g p) d
theorem fre_of {g : Gr} {d p : Nat} : ∀ {a b : Nat}, a ≤ b → fre g d p b = true → fre g d p a = true := by
  intro a b h
  induction h with
  | refl => exact id
  | @step m _ ih =>
    intro hb
    have hb2 : (fre g d p m && !sur g d p m) = true := hb
    rw [Bool.and_eq_true] at hb2
    exact ih hb2.1
theorem fre_stop {g : Gr} {d p r : Nat} (h : sur g d p r = true) : ∀ {b : Nat}, r < b → fre g d p b = false := by
  intro b hb
  cases hf : fre g d p b
  · rfl
  · have h1 : (fre g d p r && !sur g d p r) = true := fre_of (a := r + 1) hb hf
    rw [h] at h1
    simp at h1
theorem bt_setk {m : Int32} {k : Nat} (hk : k < 32) (q : Nat) : bt (m ||| ((1 : Int32) <<< (nI k &&& 31))) q = (bt m q || decide (q = k)) := by
  rw [bt_or, bt_shl1 hk]
/-- what waysFrom finds up to the rule r -/
def WI (g : Gr) (d p r : Nat) (m : Int32) : Prop := ∀ q, bt m q = true ↔ ∃ k, k < r ∧ fol g d p k = true ∧ gO g p k = q
theorem WI_step {g : Gr} {d p r : Nat} {m : Int32} (hO : gO g p r < 32) (h : WI g d p r m) : WI g d p (r + 1) (if fol g d p r then m ||| ((1 : Int32) <<< (nI (gO g p r) &&& 31)) else m) := by
  intro q
  cases hf : fol g d p r
  · rw [if_neg (by decide)]
    rw [h q]
    constructor
    · rintro ⟨k, k1, k2⟩
      exact ⟨k, by omega, k2⟩
    · rintro ⟨k, k1, k2, k3⟩
      by_cases hk : k = r
      · subst hk; rw [hf] at k2; cases k2
      · exact ⟨k, by omega, k2, k3⟩
  · rw [if_pos rfl, bt_setk hO, Bool.or_eq_true, h q, decide_eq_true_eq]
    constructor
    · rintro (⟨k, k1, k2⟩ | rfl)
      · exact ⟨k, by omega, k2⟩
      · exact ⟨r, by omega, hf, rfl⟩
    · rintro ⟨k, k1, k2, k3⟩
      by_cases hk : k = r
      · subst hk; exact Or.inr k3.symm
      · exact Or.inl ⟨k, by omega, k2, k3⟩
theorem X3_waysFrom_L {v : SX3} {v1 : SX2} {g : Gr} (h : PG v1 g) (N : Nat) {d p : Nat} (hd : d < 6) (hp : p < gN g) : ∀ (k r fuel : Nat) (m : Int32), r + k = gR g p → k < fuel → fre g d p r = true → WI g d p r m →
    ∃ u, fX3_waysFrom_L19 N v v1 (nI d) (nI p) (nI (gR g p)) fuel m (ahd g p r) (nI r) = some u ∧ ((∃ m', u = .inl m' ∧ sty g d p = false ∧ WI g d p (gR g p) m') ∨ (∃ m', u = .inr m' ∧ sty g d p = true ∧ WI g d p (gR g p) m')) := by
  obtain ⟨h4, h5, h6, h7⟩ := h.2.2 p hp
  have h1 := h.1
  intro k
  induction k with
  | zero =>
    intro r fuel m e1 e2 e3 e4
    obtain ⟨f, rfl⟩ : ∃ f, fuel = f + 1 := ⟨fuel - 1, by omega⟩
    rw [fX3_waysFrom_L19]
    have hr : r = gR g p := by omega
    subst hr
    rw [if_pos (Int32.le_refl _)]
    exact ⟨_, rfl, Or.inr ⟨m, rfl, e3, e4⟩⟩
  | succ k ih =>
    intro r fuel m e1 e2 e3 e4
    obtain ⟨f, rfl⟩ : ∃ f, fuel = f + 1 := ⟨fuel - 1, by omega⟩
    rw [fX3_waysFrom_L19]
    have hr : r < gR g p := by omega
    rw [if_neg (fun z => by rw [nI_leI (by omega) (by omega)] at z; omega), X2_askersOf_eq h N hp hr]
    obtain ⟨g1, g2, g3⟩ := h7 r hr
    have st := WI_step (g := g) (d := d) (p := p) (r := r) (m := m) (by omega) e4
    have stop : sur g d p r = true → sty g d p = false ∧ WI g d p (gR g p) (m ||| ((1 : Int32) <<< (nI (gO g p r) &&& 31))) := by
      intro hs
      refine ⟨fre_stop hs hr, ?_⟩
      have hf : fol g d p r = true := by
        unfold fol
        rw [e3, hs]
        rfl
      rw [hf, if_pos rfl] at st
      intro q
      rw [st q]
      constructor
      · rintro ⟨j, j1, j2⟩
        exact ⟨j, by omega, j2⟩
      · rintro ⟨j, j1, j2, j3⟩
        by_cases hj : j < r + 1
        · exact ⟨j, hj, j2, j3⟩
        · unfold fol at j2
          rw [fre_stop hs (by omega : r < j)] at j2
          simp at j2
    by_cases ha : gA g p r = 0
    · have hs : sur g d p r = true := by unfold sur; simp [ha]
      simp only [Option.bind_some]
      rw [if_pos ha, X2_goalOf_eq h N hp hr]
      exact ⟨_, rfl, Or.inl ⟨_, rfl, stop hs⟩⟩
    · simp only [Option.bind_some]
      rw [if_neg ha, X7_has_eq N _ (by omega)]
      cases hb : bt (gA g p r) d
      · have hs : sur g d p r = false := by unfold sur; rw [hb]; simp [ha]
        have e5 : fre g d p (r + 1) = true := by
          show (fre g d p r && !sur g d p r) = true
          rw [e3, hs]; rfl
        simp only [Option.bind_some]
        rw [if_pos b2i_f]
        by_cases hm : (gA g p r &&& (ahd g p r ^^^ (-1))) = 0
        · rw [if_pos hm, nI_1]
          have hf : fol g d p r = false := by unfold fol; rw [hs, decide_eq_false (fun z => z hm), Bool.or_false, Bool.and_false]
          rw [hf, if_neg (by decide)] at st
          exact ih (r + 1) f m (by omega) (by omega) e5 st
        · rw [if_neg hm, X2_goalOf_eq h N hp hr]
          have hf : fol g d p r = true := by unfold fol; rw [hs, e3, decide_eq_true hm]; rfl
          rw [hf, if_pos rfl] at st
          simp only [Option.bind_some]
          rw [nI_1]
          exact ih (r + 1) f _ (by omega) (by omega) e5 st
      · have hs : sur g d p r = true := by unfold sur; rw [hb]; simp
        simp only [Option.bind_some]
        rw [if_neg b2i_t, X2_goalOf_eq h N hp hr]
        exact ⟨_, rfl, Or.inl ⟨_, rfl, stop hs⟩⟩
theorem bt_256 (q : Nat) : bt 256 q = decide (q = 8) := by
  by_cases hq : q < 32
  · have : ∀ j : Fin 32, bt 256 j.val = decide (j.val = 8) := by decide
    exact this ⟨q, hq⟩
  · rw [bt_ge (by omega)]
    have : ¬ q = 8 := by omega
    simp [this]
/-- the goals that can be followed, and 8 for staying -/
theorem X3_waysFrom_eq {v : SX3} {v1 : SX2} {g : Gr} (h : PG v1 g) {N : Nat} (hN : 5 ≤ N) {d p : Nat} (hd : d < 6) (hp : p < gN g) : ∃ m, fX3_waysFrom N v v1 (nI d) (nI p) = some m ∧ ∀ q, bt m q = true ↔ (Edg g d p q ∨ (q = 8 ∧ sty g d p = true)) := by
  have h6 := (h.2.2 p hp).2.2.1
  obtain ⟨u, hu, hc⟩ := X3_waysFrom_L (v := v) h N hd hp (gR g p) 0 N 0 (by omega) (by omega) rfl (fun q => by rw [bt_0]; constructor <;> intro z; cases z; obtain ⟨k, hk, -⟩ := z; exact absurd hk (Nat.not_lt_zero k))
  unfold fX3_waysFrom
  rw [plan_rc h hp]
  have hu2 : fX3_waysFrom_L19 N v v1 (nI d) (nI p) (nI (gR g p)) N 0 0 0 = some u := hu
  rw [hu2]
  rcases hc with ⟨m, rfl, h1, h2⟩ | ⟨m, rfl, h1, h2⟩
  · refine ⟨m, rfl, fun q => ?_⟩
    rw [h2 q, h1]
    constructor
    · intro z; exact Or.inl z
    · rintro (z | ⟨-, z⟩)
      · exact z
      · cases z
  · refine ⟨m ||| 256, rfl, fun q => ?_⟩
    rw [bt_or, Bool.or_eq_true, h2 q, bt_256, decide_eq_true_eq, h1]
    constructor
    · rintro (z | z)
      · exact Or.inl z
      · exact Or.inr ⟨z, rfl⟩
    · rintro (z | ⟨z, -⟩)
      · exact Or.inl z
      · exact Or.inr z
