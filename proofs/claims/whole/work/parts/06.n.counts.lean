/-! counts that both make alike -/
section CN
variable {γ : SX7} {v : SX8} {g : Gr} {ho : Nat → Nat} {ct s : Nat}
theorem X8_clashing_eq (h : ZG v.2.1 g) {N : Nat} (hN : 11 ≤ N) {c M : Int32} (hM : ∀ q, bt M q = true ↔ (q < gN g ∧ bt c q = true ∧ Dcl v.2.1 g q)) : fX8_clashing N v c = some (nI (cnt (bt M) 8)) := by
  have h8 := h.1
  have a1 := count_eq (F := fX8_clashing_L4 N v c) (n := gN g) (bt M) (fun f m => by rw [fX8_clashing_L4, chk0, tn0, if_pos (zn_self h)]) (fun i f m hi => by
    rw [fX8_clashing_L4, chk0, tn0, if_neg (zn_le h hi), ite_bit _ (by omega)]
    cases hc : bt c i
    · have hb : bt M i = false := by
        cases hb : bt M i
        · rfl
        · have := ((hM i).mp hb).2.1; rw [hc] at this; cases this
      rw [if_neg (by decide), hb, if_neg (by decide), nI_1]
    · obtain ⟨b, b1, b2⟩ := X8_doesClash_eq h hN hi
      rw [if_pos rfl, b1, Option.bind_some]
      cases b
      · have hb : bt M i = false := by
          cases hb : bt M i
          · rfl
          · have := b2.mpr ((hM i).mp hb).2.2; cases this
        rw [if_pos b2i_f, hb, if_neg (by decide), nI_1]
      · have hb : bt M i = true := (hM i).mpr ⟨hi, hc, b2.mp rfl⟩
        rw [if_neg b2i_t, hb, if_pos rfl, nI_1]) (fuel := N) (by omega)
  have a2 : cnt (bt M) 8 = cnt (bt M) (gN g) := cnt_ext 8 h8 (fun k h1 _ => by
    cases hb : bt M k
    · rfl
    · have := ((hM k).mp hb).1; omega)
  unfold fX8_clashing
  rw [a1, Option.bind_some, a2]
theorem uns_dcl {C z : Nat → Int32} (hC : ∀ d, d < 6 → C d = z (7 + d)) (p : Nat) : UnS C g p ↔ Dcl z g p := by
  unfold UnS Dcl
  constructor
  · rintro ⟨d, d1, d2, d3⟩; exact ⟨d, d1, d2, by rw [← hC d d1]; exact d3⟩
  · rintro ⟨d, d1, d2, d3⟩; exact ⟨d, d1, d2, by rw [hC d d1]; exact d3⟩
theorem bt_255 {q : Nat} (h : q < 8) : bt 255 q = true := by
  have : ∀ q : Fin 8, bt 255 q.val = true := by decide
  exact this ⟨q, h⟩
/-- the phases with a clash, counted -/
theorem clash_count (R : RG γ v.2.1 g ho ct s) {N : Nat} (hN : 11 ≤ N) : ∃ M, fX2_unsafePhases N γ.1.1 = some M ∧ fJ6_bitCount_0f7a4 N M = some (nI (cnt (bt M) 8)) ∧ fX8_clashing N v 255 = some (nI (cnt (bt M) 8)) ∧ ∀ q, bt M q = true ↔ (q < gN g ∧ Dcl v.2.1 g q) := by
  obtain ⟨hP, hH, hZ, hZH, h4, hC, hA, hs, hs8⟩ := R
  have h8 := hP.1
  obtain ⟨M, m1, m2⟩ := X2_uns_eq hP (N := N) (by omega)
  have m3 : ∀ q, bt M q = true ↔ (q < gN g ∧ Dcl v.2.1 g q) := fun q => by rw [m2 q, uns_dcl hC q]
  refine ⟨M, m1, bitC_eq N (fun q hq => by have := ((m3 q).mp hq).1; omega), X8_clashing_eq hZ hN (fun q => ?_), m3⟩
  rw [m3 q]
  exact ⟨fun z => ⟨z.1, bt_255 (by omega), z.2⟩, fun z => ⟨z.1, z.2.2⟩⟩
theorem X7_coming_eq (hP : PG γ.1.1 g) {N : Nat} (hN : 9 ≤ N) (hs : γ.1.2.2.2.2.2.1 = nI s) (hs8 : s < 8) : ∃ c w, fX7_comingPhases N γ = some (c, (γ.1, γ.2.1, γ.2.2.1, w)) ∧ ∀ q, bt c q = true ↔ Cmg g (-1) 0 s q := by
  obtain ⟨l, c, a1, a2, a3⟩ := X3_noteComing_eq hP hN γ.2.2.2 (show s < 2 ^ 31 by omega)
  refine ⟨c, (l, γ.2.2.2.2.1, γ.2.2.2.2.2.1, γ.2.2.2.2.2.2.1, γ.2.2.2.2.2.2.2.1, c), ?_, a3⟩
  unfold fX7_comingPhases
  rw [hs, a1, Option.bind_some]
/-- the phases that can come, and how many -/
theorem coming_count (R : RG γ v.2.1 g ho ct s) {N : Nat} (hN : 11 ≤ N) : ∃ c w, fX7_comingPhases N γ = some (c, (γ.1, γ.2.1, γ.2.2.1, w)) ∧ fX8_comers N v = some c ∧ fJ6_bitCount_0f7a4 N c = fX8_bits N c ∧ (∃ x, fX8_bits N c = some x) ∧ ∀ q, bt c q = true ↔ Cmg g (-1) 0 s q := by
  obtain ⟨hP, hH, hZ, hZH, h4, hC, hA, hs, hs8⟩ := R
  have h8 := hP.1
  obtain ⟨c, w, c1, c2⟩ := X7_coming_eq hP (N := N) (by omega) hs hs8
  obtain ⟨c', c1', c2'⟩ := X8_comers_eq hZ (N := N) (by omega) hA
  have hcc : c' = c := bt_ext (fun k _ => b2i_eq (c2' k) (c2 k))
  subst hcc
  have hb : ∀ q, bt c' q = true → q < 8 := fun q hq => by have := cmg_lt ((c2 q).mp hq); omega
  exact ⟨c', w, c1, c1', by rw [bitC_eq N hb, X8_bits_eq (by omega) hb], ⟨_, X8_bits_eq (by omega) hb⟩, c2⟩
/-- the phases with a clash that can come, counted -/
theorem both_count (R : RG γ v.2.1 g ho ct s) {N : Nat} (hN : 11 ≤ N) {M c : Int32} (hM : ∀ q, bt M q = true ↔ (q < gN g ∧ Dcl v.2.1 g q)) : fX8_clashing N v c = some (nI (cnt (bt (c &&& M)) 8)) ∧ fJ6_bitCount_0f7a4 N (c &&& M) = some (nI (cnt (bt (c &&& M)) 8)) := by
  obtain ⟨hP, hH, hZ, hZH, h4, hC, hA, hs, hs8⟩ := R
  have h8 := hP.1
  have hx : ∀ q, bt (c &&& M) q = true ↔ (q < gN g ∧ bt c q = true ∧ Dcl v.2.1 g q) := fun q => by
    rw [bt_and, Bool.and_eq_true, hM q]
    exact ⟨fun z => ⟨z.2.1, z.1, z.2.2⟩, fun z => ⟨z.2.1, z.1, z.2.2⟩⟩
  exact ⟨X8_clashing_eq hZ hN hx, bitC_eq N (fun q hq => by have := ((hx q).mp hq).1; omega)⟩
theorem starving_both (R : RG γ v.2.1 g ho ct s) {N : Nat} (hN : 11 ≤ N) : ∃ w M, fX7_studyAll N γ = some (γ.1, γ.2.1, γ.2.2.1, w) ∧ fX3_starvingDirections N w = some M ∧ fX8_starving N v = some M := by
  obtain ⟨hP, hH, hZ, hZH, h4, hC, hA, hs, hs8⟩ := R
  obtain ⟨w, a1, a2, a3, a4⟩ := X7_studyAll_eq hP hH (N := N) (by omega) hs (by omega)
  obtain ⟨M, m1, m2⟩ := X3_starvingDirs_eq (N := N) (by omega) a3 (fun e he => (a4 e he).1)
  obtain ⟨M', m1', m2'⟩ := X8_starving_eq hZ hN hA
  have hM : M' = M := bt_ext (fun k _ => b2i_eq (m2' k) (m2 k))
  subst hM
  exact ⟨w, M', a1, m1, m1'⟩
end CN
