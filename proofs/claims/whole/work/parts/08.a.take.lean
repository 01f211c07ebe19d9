/-! the reader, character by character -/
def tz_inb (x lo hi : Int32) : Bool := decide (¬ x < lo ∧ ¬ hi < x)
theorem tz_in (N : Nat) (x lo hi : Int32) : fX8_in N x lo hi = some (b2i (tz_inb x lo hi)) := by
  unfold fX8_in tz_inb
  by_cases h1 : x < lo
  · rw [if_pos h1, decide_eq_false (fun q => q.1 h1)]; rfl
  · rw [if_neg h1]
    by_cases h2 : hi < x
    · rw [if_pos h2, decide_eq_false (fun q => q.2 h2)]; rfl
    · rw [if_neg h2, decide_eq_true ⟨h1, h2⟩]; rfl
theorem tz_inb_nI {x : Int32} {a b : Nat} (ha : a < 2 ^ 31) (hb : b < 2 ^ 31) (h : tz_inb x (nI a) (nI b) = true) : ∃ d, a ≤ d ∧ d ≤ b ∧ x = nI d := by
  obtain ⟨h1, h2⟩ := of_decide_eq_true h
  have hn : ¬ x < 0 := fun q => h1 (Int32.lt_of_lt_of_le q (nI_pos' ha))
  obtain ⟨d, d1, rfl⟩ := nI_of hn
  rw [nI_ltI (by omega) (by omega)] at h1
  rw [nI_ltI (by omega) (by omega)] at h2
  exact ⟨d, by omega, by omega, rfl⟩
theorem tz_inb_of {a b d : Nat} (hb : b < 2 ^ 31) (h1 : a ≤ d) (h2 : d ≤ b) : tz_inb (nI d) (nI a) (nI b) = true := by
  refine decide_eq_true ⟨fun q => ?_, fun q => ?_⟩
  · rw [nI_ltI (by omega) (by omega)] at q; omega
  · rw [nI_ltI (by omega) (by omega)] at q; omega
theorem tz_inb_end {a : Nat} (ha : a < 2 ^ 31) (hi : Int32) : tz_inb (-1 - 48) (nI a) hi = false := decide_eq_false (fun q => q.1 (Int32.lt_of_lt_of_le (show (-1 - 48 : Int32) < 0 by decide) (nI_pos' ha)))
theorem tz_inb_semi (lo : Int32) {b : Nat} (hb : b ≤ 9) : tz_inb (59 - 48) lo (nI b) = false := decide_eq_false (fun q => q.2 (show nI b < nI 11 from nI_lt (by omega) (by omega)))
theorem tz_5 (x : Int32) : x < 6 ↔ ¬ 5 < x := by
  rw [Int32.lt_iff_toInt_lt, Int32.lt_iff_toInt_lt, show (6 : Int32).toInt = 6 by decide, show (5 : Int32).toInt = 5 by decide]
  omega
theorem tz_second (v : SX4) (x lo hi nx : Int32) : fX4_takeSecond 0 v x lo hi nx = some (b2i (tz_inb (x - 48) lo hi), if tz_inb (x - 48) lo hi = true then (nx, v.2.1, v.2.2.1, x - 48, v.2.2.2.2) else v) := by
  unfold fX4_takeSecond tz_inb
  by_cases h1 : x - 48 < lo
  · rw [if_pos h1, decide_eq_false (fun q => q.1 h1)]; rfl
  · rw [if_neg h1]
    by_cases h2 : x - 48 ≤ hi
    · rw [if_pos h2, decide_eq_true ⟨h1, Int32.not_lt.mpr h2⟩]; rfl
    · rw [if_neg h2, decide_eq_false (fun q => h2 (Int32.not_lt.mp q.2))]; rfl
theorem tz_first (v : SX4) (x hi nx : Int32) : fX4_takeFirst 0 v x hi nx = some (b2i (tz_inb (x - 48) 0 hi), if tz_inb (x - 48) 0 hi = true then (nx, v.2.1, x - 48, v.2.2.2) else v) := by
  unfold fX4_takeFirst tz_inb
  by_cases h1 : x - 48 < 0
  · rw [if_pos h1, decide_eq_false (fun q => q.1 h1)]; rfl
  · rw [if_neg h1]
    by_cases h2 : x - 48 ≤ hi
    · rw [if_pos h2, decide_eq_true ⟨h1, Int32.not_lt.mpr h2⟩]; rfl
    · rw [if_neg h2, decide_eq_false (fun q => h2 (Int32.not_lt.mp q.2))]; rfl
theorem tz_sign (v : SX4) (x sg nx : Int32) : fX4_takeSign 0 v x sg nx = some (b2i (decide (x = sg)), if decide (x = sg) = true then (nx, v.2) else v) := by
  unfold fX4_takeSign
  by_cases h1 : x = sg
  · rw [if_pos h1, decide_eq_true h1]; rfl
  · rw [if_neg h1, decide_eq_false h1]; rfl
theorem tz_asc (v : SX4) (x nx : Int32) : fX4_takeAscending 0 v x nx = some (b2i (tz_inb (x - 48) v.2.2.2.2.2 5), if tz_inb (x - 48) v.2.2.2.2.2 5 = true then (nx, v.2.1, v.2.2.1, v.2.2.2.1, (v.2.2.2.2.1 ||| ((1 : Int32) <<< ((x - 48) &&& 31))), ((x - 48) + 1)) else v) := by
  unfold fX4_takeAscending tz_inb
  by_cases h1 : x - 48 < v.2.2.2.2.2
  · rw [if_pos h1, decide_eq_false (fun q => q.1 h1)]; rfl
  · rw [if_neg h1]
    by_cases h2 : x - 48 < 6
    · rw [if_pos h2, decide_eq_true ⟨h1, (tz_5 _).mp h2⟩]; rfl
    · rw [if_neg h2, decide_eq_false (fun q => h2 ((tz_5 _).mpr q.2))]; rfl
theorem tz_must {α : Type} (b : Bool) (k : Option α) : must (decide (b2i b = 0 ∨ b2i b = 1)) k = k := by cases b <;> rfl
theorem tz_ce {e : Int32} (h6 : ¬ e = 6) (h8 : ¬ e = 8) (h11 : ¬ e = 11) (r : Int32 × Int32 × Int32 × Int32 × Int32) : fX4_canEnd 0 (e, r) = some 0 := by
  unfold fX4_canEnd
  dsimp only
  rw [if_neg h6, if_neg h8, if_neg h11]
theorem tz_ce1 {e : Int32} (h : e = 6 ∨ e = 8 ∨ e = 11) (r : Int32 × Int32 × Int32 × Int32 × Int32) : fX4_canEnd 0 (e, r) = some 1 := by
  unfold fX4_canEnd
  dsimp only
  rcases h with rfl | rfl | rfl
  · rw [if_pos rfl]
  · rw [if_neg (by decide), if_pos rfl]
  · rw [if_neg (by decide), if_neg (by decide), if_pos rfl]
/-- a text's order may end here: the next one begins -/
theorem tz_take_end {e : Int32} (h : e = 6 ∨ e = 8 ∨ e = 11) (r : Int32 × Int32 × Int32 × Int32 × Int32) : fX4_take 0 (e, r) 59 = some (1, (0, r)) := by
  unfold fX4_take
  rw [if_pos rfl, tz_ce1 h, Option.bind_some, if_neg (by decide)]
theorem tz_take_n (N : Nat) (v : SX4) (x : Int32) : fX4_take N v x = fX4_take 0 v x := rfl
theorem tz_take_2 (r : Int32 × Int32 × Int32 × Int32 × Int32) (x : Int32) : fX4_take 0 (2, r) x = some (b2i (tz_inb (x - 48) 1 9), if tz_inb (x - 48) 1 9 = true then (11, r.1, r.2.1, x - 48, r.2.2.2) else (2, r)) := by
  unfold fX4_take
  dsimp only
  by_cases h : x = 59
  · rw [if_pos h, tz_ce (by decide) (by decide) (by decide) r, Option.bind_some, if_pos rfl, if_neg (show ¬ (2 : Int32) = 0 by decide), if_neg (show ¬ (2 : Int32) = 1 by decide), if_pos rfl, tz_second, Option.bind_some, tz_must]
  · rw [if_neg h, if_neg (show ¬ (2 : Int32) = 0 by decide), if_neg (show ¬ (2 : Int32) = 1 by decide), if_pos rfl, tz_second, Option.bind_some, tz_must]
theorem tz_take_3 (r : Int32 × Int32 × Int32 × Int32 × Int32) (x : Int32) : fX4_take 0 (3, r) x = some (b2i (tz_inb (x - 48) 0 7), if tz_inb (x - 48) 0 7 = true then (4, r.1, x - 48, r.2.2) else (3, r)) := by
  unfold fX4_take
  dsimp only
  by_cases h : x = 59
  · rw [if_pos h, tz_ce (by decide) (by decide) (by decide) r, Option.bind_some, if_pos rfl, if_neg (show ¬ (3 : Int32) = 0 by decide), if_neg (show ¬ (3 : Int32) = 1 by decide), if_neg (show ¬ (3 : Int32) = 2 by decide), if_pos rfl, tz_first, Option.bind_some, tz_must]
  · rw [if_neg h, if_neg (show ¬ (3 : Int32) = 0 by decide), if_neg (show ¬ (3 : Int32) = 1 by decide), if_neg (show ¬ (3 : Int32) = 2 by decide), if_pos rfl, tz_first, Option.bind_some, tz_must]
theorem tz_take_4 (r : Int32 × Int32 × Int32 × Int32 × Int32) (x : Int32) : fX4_take 0 (4, r) x = some (b2i (decide (x = 62)), if decide (x = 62) = true then (5, r) else (4, r)) := by
  unfold fX4_take
  dsimp only
  by_cases h : x = 59
  · rw [if_pos h, tz_ce (by decide) (by decide) (by decide) r, Option.bind_some, if_pos rfl, if_neg (show ¬ (4 : Int32) = 0 by decide), if_neg (show ¬ (4 : Int32) = 1 by decide), if_neg (show ¬ (4 : Int32) = 2 by decide), if_neg (show ¬ (4 : Int32) = 3 by decide), if_pos rfl, tz_sign, Option.bind_some, tz_must]
  · rw [if_neg h, if_neg (show ¬ (4 : Int32) = 0 by decide), if_neg (show ¬ (4 : Int32) = 1 by decide), if_neg (show ¬ (4 : Int32) = 2 by decide), if_neg (show ¬ (4 : Int32) = 3 by decide), if_pos rfl, tz_sign, Option.bind_some, tz_must]
theorem tz_take_5 (r : Int32 × Int32 × Int32 × Int32 × Int32) (x : Int32) : fX4_take 0 (5, r) x = some (b2i (tz_inb (x - 48) 0 7), if tz_inb (x - 48) 0 7 = true then (6, r.1, r.2.1, x - 48, r.2.2.2) else (5, r)) := by
  unfold fX4_take
  dsimp only
  by_cases h : x = 59
  · rw [if_pos h, tz_ce (by decide) (by decide) (by decide) r, Option.bind_some, if_pos rfl, if_neg (show ¬ (5 : Int32) = 0 by decide), if_neg (show ¬ (5 : Int32) = 1 by decide), if_neg (show ¬ (5 : Int32) = 2 by decide), if_neg (show ¬ (5 : Int32) = 3 by decide), if_neg (show ¬ (5 : Int32) = 4 by decide), if_pos rfl, tz_second, Option.bind_some, tz_must]
  · rw [if_neg h, if_neg (show ¬ (5 : Int32) = 0 by decide), if_neg (show ¬ (5 : Int32) = 1 by decide), if_neg (show ¬ (5 : Int32) = 2 by decide), if_neg (show ¬ (5 : Int32) = 3 by decide), if_neg (show ¬ (5 : Int32) = 4 by decide), if_pos rfl, tz_second, Option.bind_some, tz_must]
theorem tz_take_7 (r : Int32 × Int32 × Int32 × Int32 × Int32) (x : Int32) : fX4_take 0 (7, r) x = some (b2i (tz_inb (x - 48) r.2.2.2.2 5), if tz_inb (x - 48) r.2.2.2.2 5 = true then (8, r.1, r.2.1, r.2.2.1, r.2.2.2.1 ||| ((1 : Int32) <<< ((x - 48) &&& 31)), (x - 48) + 1) else (7, r)) := by
  unfold fX4_take
  dsimp only
  by_cases h : x = 59
  · rw [if_pos h, tz_ce (by decide) (by decide) (by decide) r, Option.bind_some, if_pos rfl, if_neg (show ¬ (7 : Int32) = 0 by decide), if_neg (show ¬ (7 : Int32) = 1 by decide), if_neg (show ¬ (7 : Int32) = 2 by decide), if_neg (show ¬ (7 : Int32) = 3 by decide), if_neg (show ¬ (7 : Int32) = 4 by decide), if_neg (show ¬ (7 : Int32) = 5 by decide), if_neg (show ¬ (7 : Int32) = 6 by decide), if_pos rfl, tz_asc, Option.bind_some, tz_must]
  · rw [if_neg h, if_neg (show ¬ (7 : Int32) = 0 by decide), if_neg (show ¬ (7 : Int32) = 1 by decide), if_neg (show ¬ (7 : Int32) = 2 by decide), if_neg (show ¬ (7 : Int32) = 3 by decide), if_neg (show ¬ (7 : Int32) = 4 by decide), if_neg (show ¬ (7 : Int32) = 5 by decide), if_neg (show ¬ (7 : Int32) = 6 by decide), if_pos rfl, tz_asc, Option.bind_some, tz_must]
theorem tz_take_9 (r : Int32 × Int32 × Int32 × Int32 × Int32) (x : Int32) : fX4_take 0 (9, r) x = some (b2i (tz_inb (x - 48) 0 4), if tz_inb (x - 48) 0 4 = true then (10, r.1, x - 48, r.2.2) else (9, r)) := by
  unfold fX4_take
  dsimp only
  by_cases h : x = 59
  · rw [if_pos h, tz_ce (by decide) (by decide) (by decide) r, Option.bind_some, if_pos rfl, if_neg (show ¬ (9 : Int32) = 0 by decide), if_neg (show ¬ (9 : Int32) = 1 by decide), if_neg (show ¬ (9 : Int32) = 2 by decide), if_neg (show ¬ (9 : Int32) = 3 by decide), if_neg (show ¬ (9 : Int32) = 4 by decide), if_neg (show ¬ (9 : Int32) = 5 by decide), if_neg (show ¬ (9 : Int32) = 6 by decide), if_neg (show ¬ (9 : Int32) = 7 by decide), if_neg (show ¬ (9 : Int32) = 8 by decide), if_pos rfl, tz_first, Option.bind_some, tz_must]
  · rw [if_neg h, if_neg (show ¬ (9 : Int32) = 0 by decide), if_neg (show ¬ (9 : Int32) = 1 by decide), if_neg (show ¬ (9 : Int32) = 2 by decide), if_neg (show ¬ (9 : Int32) = 3 by decide), if_neg (show ¬ (9 : Int32) = 4 by decide), if_neg (show ¬ (9 : Int32) = 5 by decide), if_neg (show ¬ (9 : Int32) = 6 by decide), if_neg (show ¬ (9 : Int32) = 7 by decide), if_neg (show ¬ (9 : Int32) = 8 by decide), if_pos rfl, tz_first, Option.bind_some, tz_must]
theorem tz_take_10 (r : Int32 × Int32 × Int32 × Int32 × Int32) (x : Int32) : fX4_take 0 (10, r) x = some (b2i (tz_inb (x - 48) (r.2.1 + 1) 5), if tz_inb (x - 48) (r.2.1 + 1) 5 = true then (11, r.1, r.2.1, x - 48, r.2.2.2) else (10, r)) := by
  unfold fX4_take
  dsimp only
  by_cases h : x = 59
  · rw [if_pos h, tz_ce (by decide) (by decide) (by decide) r, Option.bind_some, if_pos rfl, if_neg (show ¬ (10 : Int32) = 0 by decide), if_neg (show ¬ (10 : Int32) = 1 by decide), if_neg (show ¬ (10 : Int32) = 2 by decide), if_neg (show ¬ (10 : Int32) = 3 by decide), if_neg (show ¬ (10 : Int32) = 4 by decide), if_neg (show ¬ (10 : Int32) = 5 by decide), if_neg (show ¬ (10 : Int32) = 6 by decide), if_neg (show ¬ (10 : Int32) = 7 by decide), if_neg (show ¬ (10 : Int32) = 8 by decide), if_neg (show ¬ (10 : Int32) = 9 by decide), if_pos rfl, tz_second, Option.bind_some, tz_must]
  · rw [if_neg h, if_neg (show ¬ (10 : Int32) = 0 by decide), if_neg (show ¬ (10 : Int32) = 1 by decide), if_neg (show ¬ (10 : Int32) = 2 by decide), if_neg (show ¬ (10 : Int32) = 3 by decide), if_neg (show ¬ (10 : Int32) = 4 by decide), if_neg (show ¬ (10 : Int32) = 5 by decide), if_neg (show ¬ (10 : Int32) = 6 by decide), if_neg (show ¬ (10 : Int32) = 7 by decide), if_neg (show ¬ (10 : Int32) = 8 by decide), if_neg (show ¬ (10 : Int32) = 9 by decide), if_pos rfl, tz_second, Option.bind_some, tz_must]
theorem tz_take_6 (r : Int32 × Int32 × Int32 × Int32 × Int32) {x : Int32} (h : ¬ x = 59) : fX4_take 0 (6, r) x = some (b2i (decide (x = 63)), if decide (x = 63) = true then (7, r) else (6, r)) := by
  unfold fX4_take
  dsimp only
  rw [if_neg h, if_neg (show ¬ (6 : Int32) = 0 by decide), if_neg (show ¬ (6 : Int32) = 1 by decide), if_neg (show ¬ (6 : Int32) = 2 by decide), if_neg (show ¬ (6 : Int32) = 3 by decide), if_neg (show ¬ (6 : Int32) = 4 by decide), if_neg (show ¬ (6 : Int32) = 5 by decide), if_pos rfl, tz_sign, Option.bind_some, tz_must]
theorem tz_take_8 (r : Int32 × Int32 × Int32 × Int32 × Int32) {x : Int32} (h : ¬ x = 59) : fX4_take 0 (8, r) x = some (b2i (tz_inb (x - 48) r.2.2.2.2 5), if tz_inb (x - 48) r.2.2.2.2 5 = true then (8, r.1, r.2.1, r.2.2.1, r.2.2.2.1 ||| ((1 : Int32) <<< ((x - 48) &&& 31)), (x - 48) + 1) else (8, r)) := by
  unfold fX4_take
  dsimp only
  rw [if_neg h, if_neg (show ¬ (8 : Int32) = 0 by decide), if_neg (show ¬ (8 : Int32) = 1 by decide), if_neg (show ¬ (8 : Int32) = 2 by decide), if_neg (show ¬ (8 : Int32) = 3 by decide), if_neg (show ¬ (8 : Int32) = 4 by decide), if_neg (show ¬ (8 : Int32) = 5 by decide), if_neg (show ¬ (8 : Int32) = 6 by decide), if_neg (show ¬ (8 : Int32) = 7 by decide), if_pos rfl, tz_asc, Option.bind_some, tz_must]
theorem tz_take_11 (r : Int32 × Int32 × Int32 × Int32 × Int32) {x : Int32} (h : ¬ x = 59) : fX4_take 0 (11, r) x = some (0, (11, r)) := by
  unfold fX4_take
  dsimp only
  rw [if_neg h, if_neg (show ¬ (11 : Int32) = 0 by decide), if_neg (show ¬ (11 : Int32) = 1 by decide), if_neg (show ¬ (11 : Int32) = 2 by decide), if_neg (show ¬ (11 : Int32) = 3 by decide), if_neg (show ¬ (11 : Int32) = 4 by decide), if_neg (show ¬ (11 : Int32) = 5 by decide), if_neg (show ¬ (11 : Int32) = 6 by decide), if_neg (show ¬ (11 : Int32) = 7 by decide), if_neg (show ¬ (11 : Int32) = 8 by decide), if_neg (show ¬ (11 : Int32) = 9 by decide), if_neg (show ¬ (11 : Int32) = 10 by decide)]
theorem tz_take_1s (r : Int32 × Int32 × Int32 × Int32 × Int32) : fX4_take 0 (1, r) 42 = some (1, (2, r)) := by
  unfold fX4_take
  dsimp only
  rw [if_neg (by decide), if_neg (show ¬ (1 : Int32) = 0 by decide), if_pos rfl, tz_sign, Option.bind_some]
  rfl
theorem tz_take_1 (r : Int32 × Int32 × Int32 × Int32 × Int32) {x : Int32} (h42 : ¬ x = 42) : fX4_take 0 (1, r) x = some (b2i (tz_inb (x - 48) r.2.2.2.2 5), if tz_inb (x - 48) r.2.2.2.2 5 = true then (1, r.1, r.2.1, r.2.2.1, r.2.2.2.1 ||| ((1 : Int32) <<< ((x - 48) &&& 31)), (x - 48) + 1) else (1, r)) := by
  have hs : fX4_takeSign 0 (1, r) x 42 2 = some (0, (1, r)) := by
    rw [tz_sign, decide_eq_false h42]; rfl
  have hb : ((fX4_takeSign 0 (1, r) x 42 2).bind fun r57 => if r57.1 = 0 then (fX4_takeAscending 0 r57.2 x 1).bind fun r60 => if r60.1 = 0 then some ((0 : Int32), r60.2) else some (1, r60.2) else some (1, r57.2)) = some (b2i (tz_inb (x - 48) r.2.2.2.2 5), if tz_inb (x - 48) r.2.2.2.2 5 = true then (1, r.1, r.2.1, r.2.2.1, r.2.2.2.1 ||| ((1 : Int32) <<< ((x - 48) &&& 31)), (x - 48) + 1) else (1, r)) := by
    rw [hs, Option.bind_some, if_pos rfl]
    dsimp only
    rw [tz_asc, Option.bind_some]
    dsimp only
    cases tz_inb (x - 48) r.2.2.2.2 5
    · rw [if_pos b2i_f]; rfl
    · rw [if_neg b2i_t]; rfl
  unfold fX4_take
  dsimp only
  by_cases h : x = 59
  · rw [if_pos h, tz_ce (by decide) (by decide) (by decide) r, Option.bind_some, if_pos rfl, if_neg (show ¬ (1 : Int32) = 0 by decide), if_pos rfl]
    exact hb
  · rw [if_neg h, if_neg (show ¬ (1 : Int32) = 0 by decide), if_pos rfl]
    exact hb
/-- the state that an order's letter leads to -/
def tz_k (x : Int32) : Int32 := if x = 112 then 1 else if x = 114 then 3 else 9
def tz_isk (x : Int32) : Bool := decide (x = 112 ∨ x = 114 ∨ x = 120)
theorem tz_kind (v : SX4) (x : Int32) : fX4_takeKind 0 v x = some (b2i (tz_isk x), if tz_isk x = true then (tz_k x, x, v.2.2.1, v.2.2.2.1, 0, 0) else v) := by
  unfold fX4_takeKind tz_isk tz_k
  by_cases h1 : x = 112
  · rw [if_pos h1, if_pos h1, decide_eq_true (Or.inl h1), if_pos h1]; rfl
  · rw [if_neg h1]
    by_cases h2 : x = 114
    · rw [if_pos h2, if_neg h1, if_pos h2, decide_eq_true (Or.inr (Or.inl h2)), if_neg h1, if_pos h2]; rfl
    · rw [if_neg h2]
      by_cases h3 : x = 120
      · rw [if_pos h3, if_neg h1, if_neg h2, decide_eq_true (Or.inr (Or.inr h3)), if_neg h1, if_neg h2]; rfl
      · rw [if_neg h3, decide_eq_false (fun q => q.elim h1 (fun q => q.elim h2 h3))]; rfl
theorem tz_take_0 (r : Int32 × Int32 × Int32 × Int32 × Int32) (x : Int32) : fX4_take 0 (0, r) x = some (b2i (tz_isk x), if tz_isk x = true then (tz_k x, x, r.2.1, r.2.2.1, 0, 0) else (0, r)) := by
  unfold fX4_take
  dsimp only
  by_cases h : x = 59
  · rw [if_pos h, tz_ce (by decide) (by decide) (by decide) r, Option.bind_some, if_pos rfl, if_pos rfl, tz_kind, Option.bind_some, tz_must]
  · rw [if_neg h, if_pos rfl, tz_kind, Option.bind_some, tz_must]
