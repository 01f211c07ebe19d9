/-! the reference's reader, its steps said apart -/
abbrev Q8 : Type := (Nat → Int32) × (Nat → Int32) × Int64
def tz_ruleT (N : Nat) (v : SX8) (x1 : Int32) : Option SX8 :=
  (fX8_digit N v 0 7).bind fun r11 =>
    chk (x1 + 2) 68 (
      nmd (upd r11.2.2.2.2.2.2.2.1 (x1 + 2).toNatClampNeg r11.1) fun f14 =>
      chk (x1 + 3) 68 (
        nmd (upd f14 (x1 + 3).toNatClampNeg (0 : Int32)) fun f17 =>
        if r11.2.2.2.2.2.2.2.2.2.2.1 = (-1) then
          (fX8_letter N (r11.2.1, r11.2.2.1, r11.2.2.2.1, r11.2.2.2.2.1, r11.2.2.2.2.2.1, r11.2.2.2.2.2.2.1, f17, r11.2.2.2.2.2.2.2.2.1, r11.2.2.2.2.2.2.2.2.2.1, r11.2.2.2.2.2.2.2.2.2.2.1, r11.2.2.2.2.2.2.2.2.2.2.2.1, r11.2.2.2.2.2.2.2.2.2.2.2.2.1, r11.2.2.2.2.2.2.2.2.2.2.2.2.2)).bind fun r20 =>
            if r20 = 63 then
              (fX8_directions N (r11.2.1, r11.2.2.1, r11.2.2.2.1, r11.2.2.2.2.1, r11.2.2.2.2.2.1, r11.2.2.2.2.2.2.1, f17, r11.2.2.2.2.2.2.2.2.1, (r11.2.2.2.2.2.2.2.2.2.1 + 1), r11.2.2.2.2.2.2.2.2.2.2.1, r11.2.2.2.2.2.2.2.2.2.2.2.1, r11.2.2.2.2.2.2.2.2.2.2.2.2.1, r11.2.2.2.2.2.2.2.2.2.2.2.2.2)).bind fun r23 =>
                chk (x1 + 3) 68 (
                  nmd (upd r23.2.2.2.2.2.2.2.1 (x1 + 3).toNatClampNeg r23.1) fun f26 =>
                  chk (x1 + 3) 68 (
                    if (f26 (x1 + 3).toNatClampNeg) = 0 then
                      (fX8_wants N (r23.2.1, r23.2.2.1, r23.2.2.2.1, r23.2.2.2.2.1, r23.2.2.2.2.2.1, r23.2.2.2.2.2.2.1, f26, r23.2.2.2.2.2.2.2.2.1, r23.2.2.2.2.2.2.2.2.2.1, r23.2.2.2.2.2.2.2.2.2.2.1, r23.2.2.2.2.2.2.2.2.2.2.2.1, r23.2.2.2.2.2.2.2.2.2.2.2.2.1, r23.2.2.2.2.2.2.2.2.2.2.2.2.2) 0).bind fun r30 =>
                        some r30
                    else
                      some (r23.2.1, r23.2.2.1, r23.2.2.2.1, r23.2.2.2.2.1, r23.2.2.2.2.2.1, r23.2.2.2.2.2.2.1, f26, r23.2.2.2.2.2.2.2.2.1, r23.2.2.2.2.2.2.2.2.2.1, r23.2.2.2.2.2.2.2.2.2.2.1, r23.2.2.2.2.2.2.2.2.2.2.2.1, r23.2.2.2.2.2.2.2.2.2.2.2.2.1, r23.2.2.2.2.2.2.2.2.2.2.2.2.2)
                  )
                )
            else
              some (r11.2.1, r11.2.2.1, r11.2.2.2.1, r11.2.2.2.2.1, r11.2.2.2.2.2.1, r11.2.2.2.2.2.2.1, f17, r11.2.2.2.2.2.2.2.2.1, r11.2.2.2.2.2.2.2.2.2.1, r11.2.2.2.2.2.2.2.2.2.2.1, r11.2.2.2.2.2.2.2.2.2.2.2.1, r11.2.2.2.2.2.2.2.2.2.2.2.2.1, r11.2.2.2.2.2.2.2.2.2.2.2.2.2)
        else
          some (r11.2.1, r11.2.2.1, r11.2.2.2.1, r11.2.2.2.2.1, r11.2.2.2.2.2.1, r11.2.2.2.2.2.2.1, f17, r11.2.2.2.2.2.2.2.2.1, r11.2.2.2.2.2.2.2.2.2.1, r11.2.2.2.2.2.2.2.2.2.2.1, r11.2.2.2.2.2.2.2.2.2.2.2.1, r11.2.2.2.2.2.2.2.2.2.2.2.2.1, r11.2.2.2.2.2.2.2.2.2.2.2.2.2)
      )
    )
def tz_orderPT (N : Nat) (v : SX8) (to : Int32) : Option SX8 :=
  (fX8_digit N v 1 9).bind fun r41 =>
    chk (to + 2) 68 (
      nmd (upd r41.2.2.2.2.2.2.2.1 (to + 2).toNatClampNeg r41.1) fun f44 =>
      some (r41.2.1, r41.2.2.1, r41.2.2.2.1, r41.2.2.2.2.1, r41.2.2.2.2.2.1, r41.2.2.2.2.2.2.1, f44, (r41.2.2.2.2.2.2.2.2.1 + 1), r41.2.2.2.2.2.2.2.2.2.1, r41.2.2.2.2.2.2.2.2.2.2.1, r41.2.2.2.2.2.2.2.2.2.2.2.1, r41.2.2.2.2.2.2.2.2.2.2.2.2.1, r41.2.2.2.2.2.2.2.2.2.2.2.2.2)
    )
def tz_orderX (N : Nat) (v : SX8) (to : Int32) : Option SX8 :=
  (fX8_digit N v 0 4).bind fun r11 =>
    chk (to + 1) 68 (
      nmd (upd r11.2.2.2.2.2.2.2.1 (to + 1).toNatClampNeg r11.1) fun f14 =>
      chk (to + 1) 68 (
        (fX8_digit N (r11.2.1, r11.2.2.1, r11.2.2.2.1, r11.2.2.2.2.1, r11.2.2.2.2.2.1, r11.2.2.2.2.2.2.1, f14, r11.2.2.2.2.2.2.2.2.1, r11.2.2.2.2.2.2.2.2.2.1, r11.2.2.2.2.2.2.2.2.2.2.1, r11.2.2.2.2.2.2.2.2.2.2.2.1, r11.2.2.2.2.2.2.2.2.2.2.2.2.1, r11.2.2.2.2.2.2.2.2.2.2.2.2.2) ((f14 (to + 1).toNatClampNeg) + 1) 5).bind fun r17 =>
          chk (to + 2) 68 (
            nmd (upd r17.2.2.2.2.2.2.2.1 (to + 2).toNatClampNeg r17.1) fun f20 =>
            some (r17.2.1, r17.2.2.1, r17.2.2.2.1, r17.2.2.2.2.1, r17.2.2.2.2.2.1, r17.2.2.2.2.2.2.1, f20, (r17.2.2.2.2.2.2.2.2.1 + 1), r17.2.2.2.2.2.2.2.2.2.1, r17.2.2.2.2.2.2.2.2.2.2.1, r17.2.2.2.2.2.2.2.2.2.2.2.1, r17.2.2.2.2.2.2.2.2.2.2.2.2.1, r17.2.2.2.2.2.2.2.2.2.2.2.2.2)
          )
      )
    )
/-- what the reader knows after i characters -/
def tz_rdr (c : Nat → Int32) (σ0 : SX4) : Nat → Option SX4
  | 0 => some (0, σ0.2)
  | i + 1 => (tz_rdr c σ0 i).bind fun σ => (fX4_take 0 σ (c i)).bind fun r => if r.1 = 0 then none else some r.2
def tz_err (c : Nat → Int32) (len : Nat) (σ0 : SX4) (e : Nat) : Prop := e < len ∧ ∃ σ σ', tz_rdr c σ0 e = some σ ∧ fX4_take 0 σ (c e) = some (0, σ')
def tz_bad (c : Nat → Int32) (len : Nat) (σ0 : SX4) (e : Nat) : Prop := tz_err c len σ0 e ∨ (e = len ∧ ∃ σ, tz_rdr c σ0 len = some σ ∧ fX4_canEnd 0 σ = some 0)
def tz_lt (c : Nat → Int32) (len i : Nat) : Int32 := if i < len then c i else -1
theorem tz_next {c : Nat → Int32} {σ0 σ σ' : SX4} {i : Nat} (h : tz_rdr c σ0 i = some σ) (ht : fX4_take 0 σ (c i) = some (1, σ')) : tz_rdr c σ0 (i + 1) = some σ' := by
  unfold tz_rdr
  rw [h, Option.bind_some, ht, Option.bind_some, if_neg (show ¬ (1 : Int32) = 0 by decide)]
theorem tz_step {c : Nat → Int32} {len i : Nat} {σ0 σ : SX4} {P : Int32 → Bool} {g : Int32 → SX4} (hr : tz_rdr c σ0 i = some σ) (hi : i ≤ len) (hce : fX4_canEnd 0 σ = some 0) (ht : ∀ x, fX4_take 0 σ x = some (b2i (P x), if P x = true then g x else σ)) (hend : P (-1) = false) (h59 : P 59 = false) : (P (tz_lt c len i) = true ∧ i < len ∧ tz_lt c len i = c i ∧ ¬ c i = 59 ∧ tz_rdr c σ0 (i + 1) = some (g (tz_lt c len i))) ∨ (P (tz_lt c len i) = false ∧ tz_bad c len σ0 i) := by
  by_cases hl : i < len
  · have e : tz_lt c len i = c i := by unfold tz_lt; rw [if_pos hl]
    rw [e]
    have hx := ht (c i)
    cases hP : P (c i)
    · rw [hP, if_neg (by decide)] at hx
      exact Or.inr ⟨rfl, Or.inl ⟨hl, σ, σ, hr, hx⟩⟩
    · rw [hP, if_pos rfl] at hx
      exact Or.inl ⟨rfl, hl, rfl, (fun q => by rw [q, h59] at hP; cases hP), tz_next hr hx⟩
  · have e : tz_lt c len i = -1 := by unfold tz_lt; rw [if_neg hl]
    have hi2 : i = len := by omega
    subst hi2
    rw [e]
    exact Or.inr ⟨hend, Or.inr ⟨rfl, σ, hr, hce⟩⟩
section TZ
variable {t kk om w : Int32} {z S c o : Nat → Int32} {len i : Nat} {q : Q8}
theorem tz_letter (N : Nat) (hl : len ≤ 60) (hi : i < 2 ^ 31) : fX8_letter N (t, z, S, kk, c, nI len, o, om, nI i, w, q) = some (tz_lt c len i) := by
  unfold fX8_letter tz_lt
  dsimp only
  by_cases h : i < len
  · rw [if_neg (fun p => by rw [nI_leI (by omega) (by omega)] at p; omega), chk_nI (by omega) (by decide), nI_clamp hi, if_pos h]
  · rw [if_pos (nI_le (by omega) hi), if_neg h]
theorem tz_wants (N : Nat) (b : Int32) : fX8_wants N (t, z, S, kk, c, nI len, o, om, nI i, -1, q) b = some (t, z, S, kk, c, nI len, o, om, nI (i + 1), if b = 0 then nI i else -1, q) := by
  unfold fX8_wants
  dsimp only
  rw [if_pos rfl, nI_1]
  by_cases h : b = 0
  · rw [if_pos h, if_pos h]
  · rw [if_neg h, if_neg h]
theorem tz_wantsF (N : Nat) (b : Int32) (hw : ¬ w = -1) : fX8_wants N (t, z, S, kk, c, nI len, o, om, nI i, w, q) b = some (t, z, S, kk, c, nI len, o, om, nI i, w, q) := by
  unfold fX8_wants
  dsimp only
  rw [if_neg hw]
theorem tz_digit (N : Nat) (hl : len ≤ 60) (hi : i < 2 ^ 31) (lo hh : Int32) : fX8_digit N (t, z, S, kk, c, nI len, o, om, nI i, -1, q) lo hh = some (tz_lt c len i - 48, (t, z, S, kk, c, nI len, o, om, nI (i + 1), if tz_inb (tz_lt c len i - 48) lo hh = true then -1 else nI i, q)) := by
  unfold fX8_digit
  rw [tz_letter N hl hi, Option.bind_some, tz_in, Option.bind_some, tz_wants, Option.bind_some]
  cases tz_inb (tz_lt c len i - 48) lo hh
  · rw [if_pos b2i_f, if_neg (by decide)]
  · rw [if_neg b2i_t, if_pos rfl]
theorem tz_digitF (N : Nat) (hl : len ≤ 60) (hi : i < 2 ^ 31) (hw : ¬ w = -1) (lo hh : Int32) : fX8_digit N (t, z, S, kk, c, nI len, o, om, nI i, w, q) lo hh = some (tz_lt c len i - 48, (t, z, S, kk, c, nI len, o, om, nI i, w, q)) := by
  unfold fX8_digit
  rw [tz_letter N hl hi, Option.bind_some, tz_in, Option.bind_some, tz_wantsF N _ hw, Option.bind_some]
theorem tz_dirsF {N : Nat} (hN : 1 ≤ N) (hw : ¬ w = -1) : fX8_directions N (t, z, S, kk, c, nI len, o, om, nI i, w, q) = some (0, (t, z, S, kk, c, nI len, o, om, nI i, w, q)) := by
  obtain ⟨f, rfl⟩ : ∃ f, N = f + 1 := ⟨N - 1, by omega⟩
  unfold fX8_directions fX8_directions_L4
  dsimp only
  rw [if_neg hw]
  rfl
theorem nI_ne_m1 {k : Nat} (h : k < 2 ^ 31) : ¬ nI k = -1 := fun q => nI_pos h (by rw [q]; decide)
theorem tz_dirs_L {N : Nat} (hl : len ≤ 60) (σ0 : SX4) (nx k f s : Int32) : ∀ (j a i fuel : Nat) (e ms z2 : Int32), 6 ≤ a + j → a ≤ 6 → j < fuel → i ≤ len → z2 + 1 = nI a → (∀ r x, tz_inb (x - 48) r.2.2.2.2 5 = true → ¬ x = 42 → ¬ x = 59 → fX4_take 0 (e, r) x = some (1, (nx, r.1, r.2.1, r.2.2.1, r.2.2.2.1 ||| ((1 : Int32) <<< ((x - 48) &&& 31)), (x - 48) + 1))) → (∀ r x, tz_inb (x - 48) r.2.2.2.2 5 = true → ¬ x = 42 → ¬ x = 59 → fX4_take 0 (nx, r) x = some (1, (nx, r.1, r.2.1, r.2.2.1, r.2.2.2.1 ||| ((1 : Int32) <<< ((x - 48) &&& 31)), (x - 48) + 1))) → tz_rdr c σ0 i = some (e, k, f, s, ms, nI a) → (∀ b, bt ms b = true → b < 6) → ∃ i' ms' a' e', fX8_directions_L4 N fuel (t, z, S, kk, c, nI len, o, om, nI i, -1, q) ms z2 = some ((t, z, S, kk, c, nI len, o, om, nI i', -1, q), ms') ∧ i ≤ i' ∧ i' ≤ len ∧ (∀ x, i ≤ x → x < i' → ¬ c x = 59) ∧ tz_rdr c σ0 i' = some (e', k, f, s, ms', nI a') ∧ a' ≤ 6 ∧ tz_inb (tz_lt c len i' - 48) (nI a') 5 = false ∧ ((i' = i ∧ e' = e ∧ ms' = ms) ∨ (i < i' ∧ e' = nx ∧ ¬ ms' = 0)) ∧ (∀ b, bt ms' b = true → b < 6) := by
  intro j
  induction j with
  | zero =>
    intro a i fuel e ms z2 e1 e0 e2 hi hz h1 h2 hr hb
    obtain ⟨fu, rfl⟩ : ∃ fu, fuel = fu + 1 := ⟨fuel - 1, by omega⟩
    have ha : a = 6 := by omega
    subst ha
    have hno : tz_inb (tz_lt c len i - 48) (nI 6) 5 = false := by
      cases hh : tz_inb (tz_lt c len i - 48) (nI 6) 5
      · rfl
      · obtain ⟨d, d1, d2, -⟩ := tz_inb_nI (a := 6) (b := 5) (by decide) (by decide) hh
        omega
    refine ⟨i, ms, 6, e, ?_, Nat.le_refl _, hi, fun x x1 x2 => by omega, hr, Nat.le_refl _, hno, Or.inl ⟨rfl, rfl, rfl⟩, hb⟩
    rw [fX8_directions_L4]
    dsimp only
    rw [if_pos rfl, tz_letter N hl (by omega), Option.bind_some, tz_in, Option.bind_some, hz, hno, if_pos b2i_f]
  | succ j ih =>
    intro a i fuel e ms z2 e1 e0 e2 hi hz h1 h2 hr hb
    obtain ⟨fu, rfl⟩ : ∃ fu, fuel = fu + 1 := ⟨fuel - 1, by omega⟩
    rw [fX8_directions_L4]
    dsimp only
    rw [if_pos rfl, tz_letter N hl (by omega), Option.bind_some, tz_in, Option.bind_some, hz]
    cases hh : tz_inb (tz_lt c len i - 48) (nI a) 5
    · rw [if_pos b2i_f]
      exact ⟨i, ms, a, e, rfl, Nat.le_refl _, hi, fun x x1 x2 => by omega, hr, by omega, hh, Or.inl ⟨rfl, rfl, rfl⟩, hb⟩
    · rw [if_neg b2i_t, Option.bind_some, nI_1]
      obtain ⟨d, d1, d2, d3⟩ := tz_inb_nI (a := a) (b := 5) (by omega) (by decide) hh
      have hlt : i < len := by
        apply Decidable.byContradiction
        intro hl2
        have e3 : tz_lt c len i = -1 := by unfold tz_lt; rw [if_neg hl2]
        rw [e3, tz_inb_end (by omega)] at hh
        cases hh
      have ec : tz_lt c len i = c i := by unfold tz_lt; rw [if_pos hlt]
      rw [ec] at hh d3 ⊢
      have n42 : ¬ c i = 42 := fun p => by
        rw [p] at d3
        exact nI_pos (show d < 2 ^ 31 by omega) (by rw [← d3]; decide)
      have n59 : ¬ c i = 59 := fun p => by
        rw [p] at d3
        have := (nI_eq (a := 11) (b := d) (by decide) (by omega)).mp d3
        omega
      have hr2 := tz_next hr (h1 (k, f, s, ms, nI a) (c i) hh n42 n59)
      rw [d3, nI_1] at hr2
      have hb2 : ∀ b, bt (ms ||| ((1 : Int32) <<< (nI d &&& 31))) b = true → b < 6 := fun b hbb => by
        rw [bt_setk (by omega), Bool.or_eq_true, decide_eq_true_eq] at hbb
        rcases hbb with hbb | rfl
        · exact hb b hbb
        · omega
      have hnz : ¬ ms ||| ((1 : Int32) <<< (nI d &&& 31)) = 0 := fun p => by
        have h3 : bt (ms ||| ((1 : Int32) <<< (nI d &&& 31))) d = true := by
          rw [bt_setk (by omega), decide_eq_true rfl, Bool.or_true]
        rw [p, bt_0] at h3
        cases h3
      rw [d3]
      obtain ⟨i', ms', a', e', g1, g2, g3, g4, g5, g6, g7, g8, g9⟩ := ih (d + 1) (i + 1) fu nx (ms ||| ((1 : Int32) <<< (nI d &&& 31))) (nI d) (by omega) (by omega) (by omega) (by omega) (nI_1 d) h2 h2 hr2 hb2
      refine ⟨i', ms', a', e', g1, by omega, g3, fun x x1 x2 => ?_, g5, g6, g7, Or.inr ?_, g9⟩
      · by_cases hx : x = i
        · rw [hx]; exact n59
        · exact g4 x (by omega) x2
      · rcases g8 with ⟨y1, y2, y3⟩ | ⟨y1, y2, y3⟩
        · exact ⟨by omega, y2, by rw [y3]; exact hnz⟩
        · exact ⟨by omega, y2, y3⟩
theorem tz_dirs {N : Nat} (hN : 7 ≤ N) (hl : len ≤ 60) {σ0 : SX4} {e nx k f s : Int32} (hi : i ≤ len) (h1 : ∀ r x, tz_inb (x - 48) r.2.2.2.2 5 = true → ¬ x = 42 → ¬ x = 59 → fX4_take 0 (e, r) x = some (1, (nx, r.1, r.2.1, r.2.2.1, r.2.2.2.1 ||| ((1 : Int32) <<< ((x - 48) &&& 31)), (x - 48) + 1))) (h2 : ∀ r x, tz_inb (x - 48) r.2.2.2.2 5 = true → ¬ x = 42 → ¬ x = 59 → fX4_take 0 (nx, r) x = some (1, (nx, r.1, r.2.1, r.2.2.1, r.2.2.2.1 ||| ((1 : Int32) <<< ((x - 48) &&& 31)), (x - 48) + 1))) (hr : tz_rdr c σ0 i = some (e, k, f, s, 0, 0)) : ∃ i' ms' a' e', fX8_directions N (t, z, S, kk, c, nI len, o, om, nI i, -1, q) = some (ms', (t, z, S, kk, c, nI len, o, om, nI i', -1, q)) ∧ i ≤ i' ∧ i' ≤ len ∧ (∀ x, i ≤ x → x < i' → ¬ c x = 59) ∧ tz_rdr c σ0 i' = some (e', k, f, s, ms', nI a') ∧ a' ≤ 6 ∧ tz_inb (tz_lt c len i' - 48) (nI a') 5 = false ∧ ((i' = i ∧ e' = e ∧ ms' = 0) ∨ (i < i' ∧ e' = nx ∧ ¬ ms' = 0)) ∧ (∀ b, bt ms' b = true → b < 6) := by
  obtain ⟨i', ms', a', e', g1, g⟩ := tz_dirs_L (t := t) (z := z) (S := S) (kk := kk) (om := om) (o := o) (q := q) (N := N) hl σ0 nx k f s 6 0 i N e 0 (-1) (by omega) (by omega) (by omega) hi (by decide) h1 h2 hr (fun b hb => by rw [bt_0] at hb; cases hb)
  refine ⟨i', ms', a', e', ?_, g⟩
  unfold fX8_directions
  rw [g1, Option.bind_some]
end TZ
