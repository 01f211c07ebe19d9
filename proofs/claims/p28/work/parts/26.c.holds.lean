/-! the law holds -/
theorem law_holds (sn : Nat) (hs : sn ≤ 260) (sx : Nat → Int32) : ∃ (N : Nat) (v' : SX7) (z2 : Int32), fL_lawA N sn sx iG = some (v', z2) ∧ fL_lawB N sn sx v' (fun _ => 0) (fun _ => 0) (fun _ => 0) z2 = some () := by
  obtain ⟨v0, c0, e0⟩ := pre_eq
  unfold chkM at c0
  simp only [Bool.and_eq_true, decide_eq_true_iff] at c0
  obtain ⟨m1, m2, m3, m4, m5, m6, m7, m8, m9, m10, m11, m12⟩ := c0
  have HB0 : HB v0.2.1 := ⟨0, 0, by omega, by omega, m11, m12⟩
  have I0 : PI v0.1.1 (0, (fun _ => 0), (fun _ => 0), (fun _ _ => 0), (fun _ _ => 0)) (fun _ => 1) 2 := ⟨⟨Nat.zero_le _, m1, fun p hp => absurd hp (Nat.not_lt_zero p)⟩, ⟨fun p hp => absurd hp (Nat.not_lt_zero p), m2, by omega⟩, fun p hp => absurd hp (Nat.not_lt_zero p)⟩
  obtain ⟨v1, g, ho, c, r, b1, b2, b3, b4, b5, b6, b7⟩ := build_eq (N := 1000) (by omega) hs sx rfl I0 HB0 m3
  refine ⟨1000, v1, nI c, ?_, ?_⟩
  · rw [e0 sn sx, b1, Option.bind_some]
    dsimp only
    rw [if_neg (show ¬ (1 : Int32) = 0 by decide), b2, Option.bind_some, b3, Option.bind_some]
  · have hp : v1.1.2.2.2.2.2.1 = nI 0 := by rw [b7]; exact m3
    have hNw : Now v1.1 g 0 0 0 := ⟨by omega, hp, by omega, by rw [b7]; exact m5, fun z => absurd z (by omega)⟩
    have hw : ∀ d, d < 6 → v1.1.2.1 d = -1 := fun d hd => by rw [b7]; exact rAll_of 6 m7 d hd
    have hW : WB v1.1.2.1 0 := fun d hd => Or.inl (hw d hd)
    obtain ⟨b2', w1, w2, w3⟩ := L147_eq 1000 sn sx v1 (fun _ => 0) (fun _ => 0) (nI c) 6 0 1000 (fun _ => 0) rfl (by omega)
    have w1' : fL_law_L147 1000 sn sx v1 (fun _ => 0) (fun _ => 0) (nI c) 1000 (fun _ => 0) 0 = some b2' := w1
    have hLM : LM v1.1 (fun _ => 0) b2' (fun _ => 0) g 0 0 0 := by
      refine ⟨⟨by omega, by omega, rfl, rfl, fun z => absurd z (by omega)⟩, fun _ => ?_, ?_, fun d hd => ⟨?_, ?_, ?_⟩, fun p hp => ?_⟩
      · rw [b7]; exact m4.symm
      · rw [b7]; exact m6.symm
      · rw [w2 d (Nat.zero_le _) hd, hw d hd]
      · rw [w3 _ (Or.inr (by omega)), b7]; exact (rAll_of 6 m8 d hd).symm
      · rw [w3 _ (Or.inr (by omega)), b7]; exact (rAll_of 6 m9 d hd).symm
      · rw [b7]; exact (rAll_of 8 m10 p hp).symm
    have T := tells_eq (v := v1) b5 (show 11 ≤ 1000 by omega) hNw hLM hW (by omega)
    obtain ⟨x1, C1⟩ := comers_eq (v := v1) b5 (show 100 ≤ 1000 by omega) hp (by omega)
    have C1' : fL_comers 1000 v1 0 = some (1, (v1.1, v1.2.1, v1.2.2.1, x1)) := C1
    obtain ⟨v2, d1, d2, d3, g', ho', ct', s', l', f', B', k1, k2⟩ := L191_eq (N := 1000) (by omega) hs sx 30 0 1000 (v1.1, v1.2.1, v1.2.2.1, x1) (fun _ => 0) b2' (fun _ => 0) g ho c 0 0 0 0 rfl (by omega) ⟨b5, b6, hNw, hW, hLM⟩ (by omega)
    have k1' : fL_law_L191 1000 sn sx 1000 (v1.1, v1.2.1, v1.2.2.1, x1) (fun _ => 0) b2' (fun _ => 0) (nI c) 0 = some (v2, d1, d2, d3) := k1
    obtain ⟨hI2, H2, hNw2, hW2, hLM2⟩ := k2
    obtain ⟨x2, C2⟩ := comers_eq (v := v2) hI2 (show 100 ≤ 1000 by omega) hNw2.2.1 hNw2.1
    obtain ⟨v3, q⟩ := L555_eq (N := 1000) (by omega) hs sx d1 d2 d3 6 0 1000 (v2.1, v2.2.1, v2.2.2.1, x2) s' rfl (by omega) hI2 H2 hNw2.2.1 hNw2.1
    have q' : fL_law_L555 1000 sn sx d1 d2 d3 1000 (v2.1, v2.2.1, v2.2.2.1, x2) 0 = some v3 := q
    unfold fL_lawB
    rw [w1', Option.bind_some, T, Option.bind_some]
    dsimp only
    rw [if_neg (show ¬ (1 : Int32) = 0 by decide), C1', Option.bind_some]
    dsimp only
    rw [if_neg (show ¬ (1 : Int32) = 0 by decide), k1', Option.bind_some]
    dsimp only
    rw [c0_5, t0, show d1 0 = nI s' from hLM2.1.2.2.1, C2, Option.bind_some]
    dsimp only
    rw [if_neg (show ¬ (1 : Int32) = 0 by decide), q', Option.bind_some]
