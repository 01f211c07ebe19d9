/-! the class's starvingWith -/
theorem andn_iff (x m : Int32) : (x &&& (m ^^^ (-1))) = 0 ↔ ∀ q, bt x q = true → bt m q = true := by
  constructor
  · intro h q hq
    by_cases h32 : q < 32
    · have h1 : bt (x &&& (m ^^^ (-1))) q = false := by rw [h, bt_0]
      rw [bt_and, hq, bt_not m h32] at h1
      cases hm : bt m q
      · rw [hm] at h1; cases h1
      · rfl
    · rw [bt_ge (by omega)] at hq; cases hq
  · intro h
    apply bt_ext
    intro q hq
    rw [bt_and, bt_not m hq, bt_0]
    cases hx : bt x q
    · rfl
    · rw [h q hx]; rfl
theorem HH_step {n : Nat} {E : Nat → Nat → Prop} {st gn : Nat → Prop} {p : Nat} (h1 : ¬ st p) (h2 : ∀ q, q < n → E p q → ∃ k, Hlp n E st gn k q) : ∃ k, Hlp n E st gn k p := by
  obtain ⟨K, hK⟩ := stage (P := fun k r => E p r → Hlp n E st gn k r) (fun a b r hab h z => (h z).mono hab) n (fun q hq => by
    by_cases he : E p q
    · obtain ⟨k, hk⟩ := h2 q hq he
      exact ⟨k, fun _ => hk⟩
    · exact ⟨0, fun z => absurd z he⟩)
  exact ⟨K + 1, Or.inr ⟨h1, fun q hq he => hK q hq he⟩⟩
def outM (v : SX3) (x3 x4 : Int32) (d p : Nat) : Int32 := if nI p = x3 then (1 : Int32) <<< (x4 &&& 31) else v.2.1 (8 * d + p)
def OutS (n : Nat) (E : Nat → Nat → Prop) (st : Nat → Prop) (out : Nat → Int32) : Prop := ∀ p, p < n → ∀ q, bt (out p) q = true ↔ ((q < n ∧ E p q) ∨ (q = 8 ∧ st p))
theorem out_cond {n : Nat} {E : Nat → Nat → Prop} {st : Nat → Prop} {out : Nat → Int32} (hn : n ≤ 8) (hO : OutS n E st out) {p : Nat} (hp : p < n) {m : Int32} (hm : ∀ q, bt m q = true → q < n) : (out p &&& (m ^^^ (-1))) = 0 ↔ (¬ st p ∧ ∀ q, q < n → E p q → bt m q = true) := by
  rw [andn_iff]
  constructor
  · intro h
    refine ⟨fun hs => ?_, fun q hq he => h q ((hO p hp q).mpr (Or.inl ⟨hq, he⟩))⟩
    have := hm 8 (h 8 ((hO p hp 8).mpr (Or.inr ⟨rfl, hs⟩)))
    omega
  · rintro ⟨h1, h2⟩ q hq
    rcases (hO p hp q).mp hq with ⟨h3, h4⟩ | ⟨-, h4⟩
    · exact h2 q h3 h4
    · exact absurd h4 h1
theorem X3_cell_eq (N a b : Nat) : fX3_cell N (nI a) (nI b) = some (nI (8 * a + b)) := by
  unfold fX3_cell
  rw [ix8]
section SW
variable {v : SX3} {v1 : SX2} {g : Gr} {d : Nat} {x3 x4 : Int32} {E : Nat → Nat → Prop} {st gn : Nat → Prop}
theorem SW_in (h : PG v1 g) (N : Nat) (hd : d < 6) (hO : OutS (gN g) E st (outM v x3 x4 d)) (a b c : Int32) : ∀ (k i fuel : Nat) (m : Int32), i + k = gN g → k < fuel → (∀ q, bt m q = true → q < gN g) →
    ∃ m', fX3_starvingWith_L44 N v v1 (nI d) x3 x4 a b c fuel m (nI i) = some m' ∧ (∀ q, bt m' q = true → q < gN g) ∧ (∀ q, bt m q = true → bt m' q = true) ∧ ((∀ q, bt m q = true → ∃ k, Hlp (gN g) E st gn k q) → ∀ q, bt m' q = true → ∃ k, Hlp (gN g) E st gn k q) ∧
      (m' = m → ∀ p, i ≤ p → p < gN g → (¬ st p ∧ ∀ q, q < gN g → E p q → bt m q = true) → bt m p = true) := by
  have h8 := h.1
  have hn := h.2.1
  intro k
  induction k with
  | zero =>
    intro i fuel m e1 e2 e3
    obtain ⟨f, rfl⟩ : ∃ f, fuel = f + 1 := ⟨fuel - 1, by omega⟩
    rw [fX3_starvingWith_L44, hn, if_pos (nI_le (by omega) (by omega))]
    exact ⟨m, rfl, e3, fun _ z => z, fun z => z, fun _ p h1 h2 => by omega⟩
  | succ k ih =>
    intro i fuel m e1 e2 e3
    obtain ⟨f, rfl⟩ : ∃ f, fuel = f + 1 := ⟨fuel - 1, by omega⟩
    have hi : i < gN g := by omega
    rw [fX3_starvingWith_L44, hn, if_neg (fun z => by rw [nI_leI (by omega) (by omega)] at z; omega)]
    have body : (if nI i = x3 then if ((1 : Int32) <<< (x4 &&& 31)) &&& (m ^^^ (-1)) = 0 then fX3_starvingWith_L44 N v v1 (nI d) x3 x4 a b c f (m ||| ((1 : Int32) <<< (nI i &&& 31))) (nI i + 1) else fX3_starvingWith_L44 N v v1 (nI d) x3 x4 a b c f m (nI i + 1)
        else (fX3_cell N (nI d) (nI i)).bind fun r7 => if (rowAt 48 v.2.1 r7) &&& (m ^^^ (-1)) = 0 then fX3_starvingWith_L44 N v v1 (nI d) x3 x4 a b c f (m ||| ((1 : Int32) <<< (nI i &&& 31))) (nI i + 1) else fX3_starvingWith_L44 N v v1 (nI d) x3 x4 a b c f m (nI i + 1)) =
        (if outM v x3 x4 d i &&& (m ^^^ (-1)) = 0 then fX3_starvingWith_L44 N v v1 (nI d) x3 x4 a b c f (m ||| ((1 : Int32) <<< (nI i &&& 31))) (nI i + 1) else fX3_starvingWith_L44 N v v1 (nI d) x3 x4 a b c f m (nI i + 1)) := by
      unfold outM
      by_cases hx : nI i = x3
      · rw [if_pos hx, if_pos hx]
      · rw [if_neg hx, if_neg hx, X3_cell_eq, Option.bind_some, rowAt_nI (by omega) (by decide)]
    rw [body, nI_1]
    have cond := out_cond h8 hO hi e3
    by_cases hc : outM v x3 x4 d i &&& (m ^^^ (-1)) = 0
    · rw [if_pos hc]
      have e3' : ∀ q, bt (m ||| ((1 : Int32) <<< (nI i &&& 31))) q = true → q < gN g := by
        intro q hq
        rw [bt_setk (by omega), Bool.or_eq_true, decide_eq_true_eq] at hq
        rcases hq with hq | rfl
        · exact e3 q hq
        · exact hi
      obtain ⟨m', h1, h2, h3, h4, h5⟩ := ih (i + 1) f _ (by omega) (by omega) e3'
      have sub : ∀ q, bt m q = true → bt (m ||| ((1 : Int32) <<< (nI i &&& 31))) q = true := fun q hq => by rw [bt_or, hq]; rfl
      refine ⟨m', h1, h2, fun q hq => h3 q (sub q hq), fun hs => h4 (fun q hq => ?_), fun he p hp1 hp2 hp3 => ?_⟩
      · rw [bt_setk (by omega), Bool.or_eq_true, decide_eq_true_eq] at hq
        rcases hq with hq | rfl
        · exact hs q hq
        · obtain ⟨c1, c2⟩ := cond.mp hc
          exact HH_step c1 (fun r hr her => hs r (c2 r hr her))
      · have hb : bt m i = true := by
          have := h3 i (by rw [bt_setk (by omega)]; simp)
          rw [he] at this
          exact this
        have hm : m ||| ((1 : Int32) <<< (nI i &&& 31)) = m := by
          apply bt_ext
          intro q _
          rw [bt_setk (by omega)]
          by_cases hq : q = i
          · subst hq; rw [hb]; rfl
          · simp [hq]
        by_cases hpi : p = i
        · subst hpi; exact hb
        · rw [hm] at h5
          exact h5 he p (by omega) hp2 hp3
    · rw [if_neg hc]
      obtain ⟨m', h1, h2, h3, h4, h5⟩ := ih (i + 1) f m (by omega) (by omega) e3
      refine ⟨m', h1, h2, h3, h4, fun he p hp1 hp2 hp3 => ?_⟩
      by_cases hpi : p = i
      · subst hpi; exact absurd (cond.mpr hp3) hc
      · exact h5 he p (by omega) hp2 hp3
/-- the mask holds just those that are helped -/
def HM (n : Nat) (E : Nat → Nat → Prop) (st gn : Nat → Prop) (m : Int32) : Prop := (∀ q, bt m q = true → q < n) ∧ ∀ p, p < n → (bt m p = true ↔ ∃ k, Hlp n E st gn k p)
theorem HM_of {n : Nat} {m : Int32} (h1 : ∀ q, bt m q = true → q < n) (h2 : ∀ q, bt m q = true → ∃ k, Hlp n E st gn k q) (h3 : ∀ q, q < n → gn q → bt m q = true) (h4 : ∀ p, p < n → (¬ st p ∧ ∀ q, q < n → E p q → bt m q = true) → bt m p = true) : HM n E st gn m := by
  refine ⟨h1, fun p hp => ⟨h2 p, ?_⟩⟩
  rintro ⟨k, hk⟩
  have key : ∀ k p, p < n → Hlp n E st gn k p → bt m p = true := by
    intro k
    induction k with
    | zero => intro p hp hk; exact h3 p hp hk
    | succ k ih =>
      intro p hp hk
      rcases hk with hk | ⟨k1, k2⟩
      · exact ih p hp hk
      · exact h4 p hp ⟨k1, fun q hq he => ih q hq (k2 q hq he)⟩
  exact key k p hp hk
theorem cnt_grow {n : Nat} {m m' : Int32} (h1 : ∀ q, bt m' q = true → q < n) (h2 : ∀ q, bt m q = true → bt m' q = true) (h3 : ¬ m' = m) : cnt (bt m) n < cnt (bt m') n := by
  apply cnt_lt n (fun k _ => h2 k)
  refine Classical.byContradiction fun hc => h3 (bt_ext fun q _ => ?_)
  cases hq : bt m q
  · cases hq' : bt m' q
    · rfl
    · exact absurd ⟨q, h1 q hq', hq, hq'⟩ hc
  · exact h2 q hq
theorem SW_out (h : PG v1 g) {N : Nat} (hN : 9 ≤ N) (hd : d < 6) (hO : OutS (gN g) E st (outM v x3 x4 d)) (a : Int32) : ∀ (k i fuel : Nat) (m fl : Int32), i + k = gN g → k < fuel → (∀ q, bt m q = true → q < gN g) → (∀ q, bt m q = true → ∃ k, Hlp (gN g) E st gn k q) → (∀ q, q < gN g → gn q → bt m q = true) →
    ((fl = 0 ∧ ∀ p, p < gN g → (¬ st p ∧ ∀ q, q < gN g → E p q → bt m q = true) → bt m p = true) ∨ (fl = 1 ∧ i ≤ cnt (bt m) (gN g))) → ∃ m', fX3_starvingWith_L23 N v v1 (nI d) x3 x4 a fuel m fl (nI i) = some m' ∧ HM (gN g) E st gn m' := by
  have h8 := h.1
  have hn := h.2.1
  intro k
  induction k with
  | zero =>
    intro i fuel m fl e1 e2 e3 e4 e5 e6
    obtain ⟨f, rfl⟩ : ∃ f, fuel = f + 1 := ⟨fuel - 1, by omega⟩
    rw [fX3_starvingWith_L23, hn, if_pos (nI_le (by omega) (by omega))]
    refine ⟨m, rfl, HM_of e3 e4 e5 ?_⟩
    rcases e6 with ⟨-, e6⟩ | ⟨-, e6⟩
    · exact e6
    · intro p hp _
      exact cnt_full (gN g) (by omega) p hp
  | succ k ih =>
    intro i fuel m fl e1 e2 e3 e4 e5 e6
    obtain ⟨f, rfl⟩ : ∃ f, fuel = f + 1 := ⟨fuel - 1, by omega⟩
    rw [fX3_starvingWith_L23, hn, if_neg (fun z => by rw [nI_leI (by omega) (by omega)] at z; omega)]
    rcases e6 with ⟨rfl, e6⟩ | ⟨rfl, e6⟩
    · rw [if_pos rfl]
      exact ⟨m, rfl, HM_of e3 e4 e5 e6⟩
    · rw [if_neg (by decide)]
      obtain ⟨m', h1, h2, h3, h4, h5⟩ := SW_in (gn := gn) h N hd hO a (nI i) m (gN g) 0 N m (by omega) (by omega) e3
      have h1' : fX3_starvingWith_L44 N v v1 (nI d) x3 x4 a (nI i) m N m 0 = some m' := h1
      rw [h1', Option.bind_some, nI_1]
      by_cases he : m' = m
      · rw [if_pos he]
        subst he
        exact ih (i + 1) f m' 0 (by omega) (by omega) e3 e4 e5 (Or.inl ⟨rfl, fun p hp hc => h5 rfl p (Nat.zero_le _) hp hc⟩)
      · rw [if_neg he]
        have := cnt_grow h2 h3 he
        exact ih (i + 1) f m' 1 (by omega) (by omega) h2 (h4 e4) (fun q hq hg => h3 q (e5 q hq hg)) (Or.inr ⟨rfl, by omega⟩)
end SW
