/-! phases that can come, and their sums, as the law compares them -/
section CM
variable {v : SX7} {g : Gr} {ho : Nat → Nat} {ct : Nat}
theorem cnt8 {x : Int32} {n : Nat} (h8 : n ≤ 8) (h : ∀ q, bt x q = true → q < n) (N : Nat) : fJ6_bitCount_0f7a4 N x = some (nI (cnt (bt x) n)) := by
  rw [bitC_eq N (fun q hq => Nat.lt_of_lt_of_le (h q hq) h8), cnt_ext (n := n) 8 h8 (fun k k1 k2 => by
    cases hb : bt x k
    · rfl
    · have := h k hb; omega)]
theorem count6 (hP : PG v.1.1 g) (N : Nat) {U : Int32} (h1 : fX2_unsafePhases N v.1.1 = some U) (h2 : ∀ q, bt U q = true → q < gN g) : rt (fX7_count N v 6) = some (nI (cnt (bt U) (gN g)), v) := by
  unfold fX7_count
  rw [if_neg (by decide), if_neg (by decide), if_neg (by decide), if_neg (by decide), if_neg (by decide), if_neg (by decide), if_pos rfl, h1, Option.bind_some, cnt8 hP.1 h2, Option.bind_some, rt_some]
theorem cmg_n {x : Int32} {t s q : Nat} (h : Cmg g x t s q) : q < gN g := cmg_lt h
theorem count7 (hP : PG v.1.1 g) {N : Nat} (hN : 9 ≤ N) {s : Nat} (hs : v.1.2.2.2.2.2.1 = nI s) (hs2 : s < 2 ^ 31) {M : Int32} (hM : ∀ q, bt M q = true ↔ Cmg g (-1) 0 s q) : ∃ w, rt (fX7_count N v 7) = some (nI (cnt (bt M) (gN g)), (v.1, v.2.1, v.2.2.1, w)) := by
  obtain ⟨M', w, a1, a2⟩ := coming_eq hP hN hs hs2
  have e : M' = M := bt_ext (fun k _ => b2i_eq (a2 k) (hM k))
  subst e
  refine ⟨w, ?_⟩
  unfold fX7_count
  rw [if_neg (by decide), if_neg (by decide), if_neg (by decide), if_neg (by decide), if_neg (by decide), if_neg (by decide), if_neg (by decide), if_pos rfl, a1, Option.bind_some, cnt8 hP.1 (fun q hq => cmg_n ((a2 q).mp hq)), Option.bind_some, rt_some]
theorem count8 (hP : PG v.1.1 g) {N : Nat} (hN : 9 ≤ N) {s : Nat} (hs : v.1.2.2.2.2.2.1 = nI s) (hs2 : s < 2 ^ 31) {M U : Int32} (hM : ∀ q, bt M q = true ↔ Cmg g (-1) 0 s q) (h1 : fX2_unsafePhases N v.1.1 = some U) : ∃ w, rt (fX7_count N v 8) = some (nI (cnt (fun q => bt M q && bt U q) (gN g)), (v.1, v.2.1, v.2.2.1, w)) := by
  obtain ⟨M', w, a1, a2⟩ := coming_eq hP hN hs hs2
  have e : M' = M := bt_ext (fun k _ => b2i_eq (a2 k) (hM k))
  subst e
  refine ⟨w, ?_⟩
  unfold fX7_count
  rw [if_neg (by decide), if_neg (by decide), if_neg (by decide), if_neg (by decide), if_neg (by decide), if_neg (by decide), if_neg (by decide), if_neg (by decide), if_pos rfl, a1, Option.bind_some]
  dsimp only
  rw [h1, Option.bind_some, cnt8 hP.1 (fun q hq => by
    rw [bt_and, Bool.and_eq_true] at hq
    exact cmg_n ((a2 q).mp hq.1)), Option.bind_some, rt_some, cnt_congr (P := bt (M' &&& U)) (Q := fun q => bt M' q && bt U q) (gN g) (fun k _ => bt_and M' U k)]
theorem comers_eq (hI : PI v.1.1 g ho ct) {N : Nat} (hN : 100 ≤ N) {s : Nat} (hs : v.1.2.2.2.2.2.1 = nI s) (hs2 : s < gN g) : ∃ w, fL_comers N v (nI s) = some (1, (v.1, v.2.1, v.2.2.1, w)) := by
  obtain ⟨hP, hH, hB⟩ := hI
  have h8 := hP.1
  obtain ⟨U, u1, u2⟩ := X2_uns_eq hP (show 9 ≤ N by omega)
  obtain ⟨M, m1, m2⟩ := reach_eq (v := v) hP hN hs2
  obtain ⟨w1, k1⟩ := L104_eq (m := v.1) (h := v.2.1) (tx := v.2.2.1) hP hB hN hs hs2 m2 u2 (gN g) 0 N v.2.2.2 (by omega) (by omega)
  have k1' : fL_comers_L104 N (nI (gN g)) M N v 0 0 0 0 = _ := k1
  have c6 := count6 (v := (v.1, v.2.1, v.2.2.1, w1)) hP N u1 (fun q hq => ((u2 q).mp hq).1)
  obtain ⟨w2, c7⟩ := count7 (v := (v.1, v.2.1, v.2.2.1, w1)) hP (show 9 ≤ N by omega) hs (show s < 2 ^ 31 by omega) m2
  obtain ⟨w3, c8⟩ := count8 (v := (v.1, v.2.1, v.2.2.1, w2)) hP (show 9 ≤ N by omega) hs (show s < 2 ^ 31 by omega) m2 u1
  have hU8 : cnt (bt U) (gN g) ≤ gN g := cnt_le _ _
  have hs0 := (share_num ⟨gN g, by omega⟩ ⟨cnt (bt U) (gN g), by omega⟩).resolve_left (show ¬ gN g = 0 by omega)
  obtain ⟨s1, s2⟩ := hs0
  dsimp only at s1 s2
  refine ⟨w3, ?_⟩
  unfold fL_comers
  rw [count0 hP, Option.bind_some]
  dsimp only
  rw [m1, Option.bind_some]
  dsimp only
  rw [k1', Option.bind_some, onS_r]
  dsimp only
  rw [c6, Option.bind_some]
  dsimp only
  rw [if_pos rfl, c7, Option.bind_some]
  dsimp only
  rw [if_pos rfl, c8, Option.bind_some]
  dsimp only
  rw [if_pos rfl]
  unfold fX7_safeShare
  dsimp only
  rw [if_neg (pl_ne hP (by omega)), u1, Option.bind_some, cnt8 h8 (fun q hq => ((u2 q).mp hq).1), Option.bind_some, hP.2.1, s1]
  show (if _ then _ else _) = _
  rw [if_pos s2]
end CM
