/-! the whole buffer read by both -/
/-- orders from the j-th on, read from place i to the end -/
def tz_run (c : Nat → Int32) (len : Nat) (σ0 : SX4) (o : Nat → Int32) : Nat → Nat → Nat → Prop
  | 0, _, _ => False
  | n + 1, j, i => ∃ e, i + 3 ≤ e ∧ e ≤ len ∧ (∀ x, i ≤ x → x < e → ¬ c x = 59) ∧ ∃ σ, tz_rdr c σ0 e = some σ ∧ (σ.1 = 6 ∨ σ.1 = 8 ∨ σ.1 = 11) ∧ tz_ord o j σ ∧ ((n = 0 ∧ e = len) ∨ (e < len ∧ c e = 59 ∧ tz_run c len σ0 o n (j + 1) (e + 1)))
theorem tz_ord.congr {o o' : Nat → Int32} {j : Nat} {σ : SX4} (h : tz_ord o j σ) (ho : ∀ x, x < 4 * (j + 1) → o' x = o x) : tz_ord o' j σ := by
  unfold tz_ord at h ⊢
  rw [ho (4 * j) (by omega), ho (4 * j + 1) (by omega), ho (4 * j + 2) (by omega), ho (4 * j + 3) (by omega)]
  exact h
section TB
variable {t kk : Int32} {z S c : Nat → Int32} {len : Nat} {q : Q8} {σ0 : SX4}
theorem tz_L17_0 {N f : Nat} (v : SX8) : fX8_readBuffer_L17 N (f + 1) v 0 = some v := by
  rw [fX8_readBuffer_L17, if_pos rfl]
theorem tz_buf_L {N : Nat} (hN : 7 ≤ N) (hl : len ≤ 60) : ∀ (k i j fuel : Nat) (o : Nat → Int32) (r : Int32 × Int32 × Int32 × Int32 × Int32), len < i + k → k + 1 < fuel → i ≤ len → 4 * j ≤ i → tz_rdr c σ0 i = some (0, r) → ∃ o' j' i' w', fX8_readBuffer_L17 N fuel (t, z, S, kk, c, nI len, o, nI j, nI i, -1, q) 1 = some (t, z, S, kk, c, nI len, o', nI j', nI i', w', q) ∧ (∀ x, x < 4 * j → o' x = o x) ∧ ((∃ e, e ≤ 60 ∧ w' = nI e ∧ tz_bad c len σ0 e) ∨ (w' = -1 ∧ ∃ n, j' = j + (n + 1) ∧ tz_run c len σ0 o' (n + 1) j i)) := by
  intro k
  induction k with
  | zero => intro i j fuel o r e1 e2 e3; omega
  | succ k ih =>
    intro i j fuel o r e1 e2 e3 e4 hr
    obtain ⟨f, rfl⟩ : ∃ f, fuel = f + 1 + 1 := ⟨fuel - 2, by omega⟩
    obtain ⟨o1, i1, w1, g1, g2, g3⟩ := tz_order (t := t) (z := z) (S := S) (kk := kk) (q := q) (o := o) hN hl e3 e4 hr
    rw [fX8_readBuffer_L17, if_neg (show ¬ (1 : Int32) = 0 by decide), g1, Option.bind_some]
    dsimp only
    rcases g3 with ⟨e, h1, rfl, h2⟩ | ⟨rfl, h2, h3, h4, σ, h5, h6, h7⟩
    · rw [if_neg (nI_ne_m1 (by omega)), tz_L17_0]
      exact ⟨o1, _, i1, _, rfl, g2, Or.inl ⟨e, h1, rfl, h2⟩⟩
    · rw [if_pos rfl]
      by_cases hi1 : i1 = len
      · rw [if_pos (nI_le (by omega) (by omega)), tz_L17_0]
        exact ⟨o1, _, i1, _, rfl, g2, Or.inr ⟨rfl, 0, rfl, i1, h2, h3, h4, σ, h5, h6.1, h7, Or.inl ⟨rfl, hi1⟩⟩⟩
      · have hlt : i1 < len := by omega
        have ec : tz_lt c len i1 = c i1 := by unfold tz_lt; rw [if_pos hlt]
        rw [if_neg (fun p => by rw [nI_leI (by omega) (by omega)] at p; omega), tz_letter N hl (by omega), Option.bind_some, ec]
        by_cases h59 : c i1 = 59
        · have ht := tz_take_end h6.1 σ.2
          have hr2 : tz_rdr c σ0 (i1 + 1) = some (0, σ.2) := tz_next h5 (by rw [h59]; exact ht)
          rw [if_pos h59, tz_wants, Option.bind_some, if_neg (show ¬ (1 : Int32) = 0 by decide)]
          dsimp only
          rw [if_pos rfl]
          obtain ⟨o', j', i', w', k1, k2, k3⟩ := ih (i1 + 1) (j + 1) (f + 1) o1 σ.2 (by omega) (by omega) (by omega) (by omega) hr2
          refine ⟨o', j', i', w', k1, fun x hx => (k2 x (by omega)).trans (g2 x hx), ?_⟩
          rcases k3 with k3 | ⟨k3, n, k4, k5⟩
          · exact Or.inl k3
          · exact Or.inr ⟨k3, n + 1, by omega, i1, h2, h3, h4, σ, h5, h6.1, h7.congr k2, Or.inr ⟨hlt, h59, k5⟩⟩
        · rw [if_neg h59, tz_wants, Option.bind_some, if_pos rfl]
          dsimp only
          rw [if_neg (nI_ne_m1 (by omega)), tz_L17_0]
          obtain ⟨σ', hs⟩ := h6.2 hlt h59
          exact ⟨o1, _, _, _, rfl, g2, Or.inl ⟨i1, by omega, rfl, Or.inl ⟨hlt, σ, σ', h5, hs⟩⟩⟩
theorem tz_buffer {N : Nat} (hN : 900 ≤ N) (hl : len ≤ 60) (o : Nat → Int32) (om sp w : Int32) (σ0 : SX4) : ∃ o' j' i' w', fX8_readBuffer N (t, z, S, kk, c, nI len, o, om, sp, w, q) = some (w', (t, z, S, kk, c, nI len, o', nI j', nI i', w', q)) ∧ ((∃ e, e ≤ 60 ∧ w' = nI e ∧ tz_bad c len σ0 e) ∨ (w' = -1 ∧ ∃ n, j' = n + 1 ∧ tz_run c len σ0 o' (n + 1) 0 0)) := by
  obtain ⟨o', j', i', w', k1, -, k3⟩ := tz_buf_L (t := t) (z := z) (S := S) (kk := kk) (c := c) (q := q) (σ0 := σ0) (N := N) (by omega) hl (len + 1) 0 0 N o σ0.2 (by omega) (by omega) (by omega) (by omega) rfl
  refine ⟨o', j', i', w', ?_, ?_⟩
  · have k1' : fX8_readBuffer_L17 N N (t, z, S, kk, c, nI len, o, 0, 0, -1, q) 1 = _ := k1
    unfold fX8_readBuffer
    dsimp only
    rw [k1', Option.bind_some]
  · rcases k3 with k3 | ⟨k3, n, k4, k5⟩
    · exact Or.inl k3
    · exact Or.inr ⟨k3, n, by omega, k5⟩
end TB
/-! the class's way through the buffer -/
theorem tz_prev {c : Nat → Int32} {σ0 σ' : SX4} {i : Nat} (h : tz_rdr c σ0 (i + 1) = some σ') : ∃ σ r, tz_rdr c σ0 i = some σ ∧ fX4_take 0 σ (c i) = some (r, σ') ∧ ¬ r = 0 := by
  unfold tz_rdr at h
  obtain ⟨σ, h1, h2⟩ := bind_of h
  obtain ⟨⟨r, s⟩, h3, h4⟩ := bind_of h2
  by_cases hr : r = 0
  · rw [if_pos hr] at h4; cases h4
  · rw [if_neg hr] at h4
    have h5 : s = σ' := some_of h4
    subst h5
    exact ⟨σ, r, h1, h3, hr⟩
theorem tz_all {c : Nat → Int32} {σ0 : SX4} : ∀ (k i : Nat) (σ : SX4), tz_rdr c σ0 (i + k) = some σ → ∃ σ', tz_rdr c σ0 i = some σ' := by
  intro k
  induction k with
  | zero => intro i σ h; exact ⟨σ, h⟩
  | succ k ih =>
    intro i σ h
    obtain ⟨σ', r, h1, -⟩ := tz_prev (i := i + k) h
    exact ih i σ' h1
/-- a step that does not fail -/
theorem tz_go {c : Nat → Int32} {σ0 σ σe : SX4} {i e : Nat} (h : tz_rdr c σ0 i = some σ) (he : tz_rdr c σ0 e = some σe) (hi : i < e) : ∃ r σ', fX4_take 0 σ (c i) = some (r, σ') ∧ ¬ r = 0 ∧ tz_rdr c σ0 (i + 1) = some σ' := by
  obtain ⟨k, rfl⟩ : ∃ k, e = i + 1 + k := ⟨e - (i + 1), by omega⟩
  obtain ⟨σ', h1⟩ := tz_all k (i + 1) σe he
  obtain ⟨σ2, r, h2, h3, h4⟩ := tz_prev h1
  rw [h] at h2
  have : σ = σ2 := some_of h2
  subst this
  exact ⟨r, σ', h3, h4, h1⟩
section TK
variable {c f : Nat → Int32} {len : Nat} {σ0 : SX4}
theorem tz_L9 (N : Nat) (hl : len ≤ 60) (hf : ∀ x, x < len → f x = c x) {e : Nat} {σe : SX4} (he : tz_rdr c σ0 e = some σe) (hel : e ≤ len) : ∀ (k i fuel : Nat) (σ : SX4), i + k = e → tz_rdr c σ0 i = some σ → fX6_errorPlace_L9 N (fuel + k) (f, σ, nI len) (nI i) = fX6_errorPlace_L9 N fuel (f, σe, nI len) (nI e) := by
  intro k
  induction k with
  | zero =>
    intro i fuel σ e1 h
    have hi : i = e := by omega
    subst hi
    rw [h] at he
    have : σ = σe := some_of he
    subst this
    rfl
  | succ k ih =>
    intro i fuel σ e1 h
    obtain ⟨r, σ', h1, h2, h3⟩ := tz_go h he (by omega)
    rw [show fuel + (k + 1) = (fuel + k) + 1 by omega, fX6_errorPlace_L9]
    dsimp only
    rw [if_neg (fun p => by rw [nI_leI (by omega) (by omega)] at p; omega), rowAt_nI (show i < 60 by omega) (by decide), hf i (by omega), tz_take_n, h1, Option.bind_some, if_neg h2, nI_1]
    exact ih (i + 1) fuel σ' (by omega) h3
theorem tz_place_err {N : Nat} (hN : 62 ≤ N) (hl : len ≤ 60) (hf : ∀ x, x < len → f x = c x) {e : Nat} (h : tz_err c len σ0 e) : ∃ σ', fX6_errorPlace N (f, σ0, nI len) = some (nI e, (f, σ', nI len)) := by
  obtain ⟨h1, σ, σ', h2, h3⟩ := h
  have hl9 := tz_L9 N hl hf h2 (by omega) e 0 (N - e) (0, σ0.2) (by omega) rfl
  rw [show N - e + e = N by omega] at hl9
  have hl9' : fX6_errorPlace_L9 N N (f, (0, σ0.2), nI len) 0 = _ := hl9
  obtain ⟨g, hg⟩ : ∃ g, N - e = g + 1 := ⟨N - e - 1, by omega⟩
  refine ⟨σ', ?_⟩
  unfold fX6_errorPlace fX4_begin
  dsimp only
  rw [Option.bind_some, hl9', hg, fX6_errorPlace_L9]
  dsimp only
  rw [if_neg (fun p => by rw [nI_leI (by omega) (by omega)] at p; omega), rowAt_nI (show e < 60 by omega) (by decide), hf e h1, tz_take_n, h3, Option.bind_some, if_pos rfl, Option.bind_some, onS_l]
theorem tz_place_ok {N : Nat} (hN : 62 ≤ N) (hl : len ≤ 60) (hf : ∀ x, x < len → f x = c x) {σ : SX4} (h2 : tz_rdr c σ0 len = some σ) : fX6_errorPlace N (f, σ0, nI len) = some (nI len, (f, σ, nI len)) := by
  have hl9 := tz_L9 N hl hf h2 (Nat.le_refl _) len 0 (N - len) (0, σ0.2) (by omega) rfl
  rw [show N - len + len = N by omega] at hl9
  have hl9' : fX6_errorPlace_L9 N N (f, (0, σ0.2), nI len) 0 = _ := hl9
  obtain ⟨g, hg⟩ : ∃ g, N - len = g + 1 := ⟨N - len - 1, by omega⟩
  unfold fX6_errorPlace fX4_begin
  dsimp only
  rw [Option.bind_some, hl9', hg, fX6_errorPlace_L9]
  dsimp only
  rw [if_pos (Int32.le_refl _), Option.bind_some, onS_r]
theorem tz_run_end {o : Nat → Int32} : ∀ (n j i : Nat), tz_run c len σ0 o (n + 1) j i → ∃ σ, tz_rdr c σ0 len = some σ ∧ (σ.1 = 6 ∨ σ.1 = 8 ∨ σ.1 = 11) := by
  intro n
  induction n with
  | zero =>
    intro j i h
    obtain ⟨e, h1, h2, h3, σ, h4, h5, h6, h7 | ⟨-, -, h7⟩⟩ := h
    · rw [h7.2] at h4; exact ⟨σ, h4, h5⟩
    · exact absurd h7 id
  | succ n ih =>
    intro j i h
    obtain ⟨e, h1, h2, h3, σ, h4, h5, h6, h7 | ⟨-, -, h7⟩⟩ := h
    · exact absurd h7.1 (by omega)
    · exact ih (j + 1) (e + 1) h7
/-- complete or not, in the class's words -/
theorem tz_complete {N : Nat} (hN : 62 ≤ N) (hl : len ≤ 60) (hf : ∀ x, x < len → f x = c x) : (∀ e, tz_bad c len σ0 e → ∃ σ', fX6_errorPlace N (f, σ0, nI len) = some (nI e, (f, σ', nI len)) ∧ fX6_isComplete N (f, σ0, nI len) = some (0, (f, σ', nI len))) ∧ (∀ σ, tz_rdr c σ0 len = some σ → (σ.1 = 6 ∨ σ.1 = 8 ∨ σ.1 = 11) → fX6_errorPlace N (f, σ0, nI len) = some (nI len, (f, σ, nI len)) ∧ fX6_isComplete N (f, σ0, nI len) = some (1, (f, σ, nI len))) := by
  refine ⟨fun e h => ?_, fun σ h1 h2 => ?_⟩
  · rcases h with h | ⟨rfl, σ, h1, h2⟩
    · obtain ⟨σ', hs⟩ := tz_place_err hN hl hf h
      refine ⟨σ', hs, ?_⟩
      unfold fX6_isComplete
      rw [hs, Option.bind_some]
      dsimp only
      rw [if_neg (fun p => by have := (nI_eq (by have := h.1; omega) (by omega)).mp p; have := h.1; omega)]
    · have hs := tz_place_ok hN hl hf h1
      refine ⟨σ, hs, ?_⟩
      have h2' : fX4_canEnd N σ = some 0 := h2
      unfold fX6_isComplete
      rw [hs, Option.bind_some]
      dsimp only
      rw [if_pos rfl, h2', Option.bind_some, if_pos rfl]
  · have hs := tz_place_ok hN hl hf h1
    refine ⟨hs, ?_⟩
    have h2' : fX4_canEnd N σ = some 1 := tz_ce1 h2 σ.2
    unfold fX6_isComplete
    rw [hs, Option.bind_some]
    dsimp only
    rw [if_pos rfl, h2', Option.bind_some, if_neg (by decide)]
end TK
