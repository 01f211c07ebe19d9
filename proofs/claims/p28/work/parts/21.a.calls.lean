/-! the class's calls, each by itself -/
theorem upd_same {f : Nat → Int32} {k : Nat} {x : Int32} : upd f k x k = x := by unfold upd; rw [if_pos rfl]
theorem chk_nI {α : Type} {i n : Nat} (h : i < n) (hn : n < 2 ^ 31) (k : Option α) : chk (nI i) n k = k := by
  unfold chk
  rw [nI_clamp (by omega), if_neg (fun q => q.elim (nI_pos (by omega)) (by omega))]
theorem onS_l {R Q T : Type} {r : R} {f : R → Option T} {g : Q → Option T} : onS (.inl r) f g = f r := rfl
theorem onS_r {R Q T : Type} {q : Q} {f : R → Option T} {g : Q → Option T} : onS (.inr q) f g = g q := rfl
theorem lt6 {d : Nat} (hd : d < 6) : nI d < 6 := by
  have h : nI d < nI 6 := (nI_ltI (by omega) (by omega)).mpr hd
  exact h
theorem dirOK (N : Nat) {d : Nat} (hd : d < 6) : fX7_checkDirection N (nI d) = some (.inr ()) := by
  unfold fX7_checkDirection
  rw [if_neg (nI_pos (by omega)), if_pos (lt6 hd)]
theorem phOK {v : SX7} {g : Gr} (h : PG v.1.1 g) (N : Nat) {p : Nat} (hp : p < gN g) : fX7_checkPhase N v (nI p) = some (.inr ()) := by
  unfold fX7_checkPhase
  rw [X2_hasPhase_eq h, if_pos ⟨p, hp, rfl⟩, Option.bind_some, if_neg (by decide)]
theorem mask_of {x : Int32} (h : ∀ q, bt x q = true → q < 6) : ∃ i, i < 64 ∧ x = nI i := by
  refine ⟨x.toBitVec.toNat, ?_, (nI_toNat x).symm⟩
  refine Nat.lt_pow_two_of_testBit (n := 6) _ (fun i hi => ?_)
  cases hb : bt x i
  · exact hb
  · have := h i hb; omega
theorem maskOK (N : Nat) {x : Int32} (h : ∀ q, bt x q = true → q < 6) : fX7_checkMask N x = some (.inr ()) := by
  obtain ⟨i, hi, rfl⟩ := mask_of h
  unfold fX7_checkMask
  rw [if_neg (nI_pos (by omega)), if_pos (show nI i ≤ (63 : Int32) from (nI_leI (b := 63) (by omega) (by omega)).mpr (by omega))]
theorem holdOK (N : Nat) {k : Nat} (h1 : 1 ≤ k) (h9 : k ≤ 9) : fX7_checkHold N (nI k) = some (.inr ()) := by
  unfold fX7_checkHold
  rw [if_neg (fun z => by
    have z2 : nI k < nI 1 := z
    rw [nI_ltI (by omega) (by omega)] at z2; omega), if_pos (show nI k ≤ (9 : Int32) from (nI_leI (b := 9) (by omega) (by omega)).mpr h9)]
/-- the saved states: their numbers are in bounds -/
def HB (h : SX0) : Prop := ∃ o k, o < 6 ∧ k ≤ 6 ∧ h.2.1 = nI o ∧ h.2.2 = nI k
theorem slot_eq : ∀ o : Fin 6, ∀ k : Fin 7, slotI (nI o.val) (nI k.val) = nI ((o.val + k.val) % 6) := by decide +kernel
theorem keep_eq {h : SX0} (H : HB h) (N : Nat) (m : SX1) : ∃ h', fX0_keep N h m = some h' ∧ HB h' := by
  obtain ⟨o, k, ho, hk, e1, e2⟩ := H
  have hsl : slotI h.2.1 h.2.2 = nI ((o + k) % 6) := by
    rw [e1, e2]; exact slot_eq ⟨o, ho⟩ ⟨k, by omega⟩
  have hmod : (o + k) % 6 < 6 := Nat.mod_lt _ (by decide)
  unfold fX0_keep
  rw [hsl, chk_nI hmod (by decide), nI_clamp (by omega), e2]
  by_cases h6 : k = 6
  · subst h6
    refine ⟨_, by rw [if_pos (by decide)], (o + 1) % 6, 6, Nat.mod_lt _ (by decide), Nat.le_refl _, ?_, rfl⟩
    show slotI h.2.1 1 = _
    rw [e1]
    exact slot_eq ⟨o, ho⟩ ⟨1, by omega⟩
  · have hk6 : ¬ nI k = 6 := fun z => h6 ((nI_eq (b := 6) (by omega) (by omega)).mp z)
    refine ⟨(updM h.1 ((o + k) % 6) m, h.2.1, nI k + 1), by rw [if_neg hk6], o, k + 1, ho, by omega, e1, ?_⟩
    show nI k + 1 = _
    rw [nI_1]
/-- greens now -/
def gnow (m : SX1) : Int32 := if m.2.2.2.2.2.2.2.2.1 ≤ 0 then rowAt 8 m.1.2.1 m.2.2.2.2.2.1 else rowAt 8 m.1.2.1 m.2.2.2.2.2.1 &&& rowAt 8 m.1.2.1 m.2.2.2.2.2.2.1
theorem gnow_eq (N : Nat) (m : SX1) : fX1_greensNow N m = some (gnow m) := by
  unfold fX1_greensNow fX1_isClearing gnow
  by_cases h : m.2.2.2.2.2.2.2.2.1 ≤ 0
  · rw [if_pos h, if_pos h]; rfl
  · rw [if_neg h, if_neg h]; rfl
theorem wait_eq (m : SX1) {N : Nat} (hN : 9 ≤ N) : ∃ x, fX1_waiting N m = some x ∧ ∀ q, bt x q = true ↔ (q < 6 ∧ ¬ m.2.1 q = -1) := by
  obtain ⟨M, a1, a2⟩ := fill_eq (F := fX1_waiting_L4 N m) (n := 6) (P := fun q => ¬ m.2.1 q = -1) (by omega) (fun f m' => by rw [fX1_waiting_L4, if_pos (by decide)]) (fun i f m' hi => by
    rw [fX1_waiting_L4, if_neg (le6 hi), rowAt_nI hi (by decide), nI_1]
    by_cases hx : m.2.1 i = -1
    · rw [if_pos hx]
      exact ⟨false, ⟨fun z => (by cases z), fun z => absurd hx z⟩, by rw [if_neg (by decide), Int32.or_zero]⟩
    · rw [if_neg hx]
      exact ⟨true, ⟨fun _ => hx, fun _ => rfl⟩, by rw [if_pos rfl]⟩) (fuel := N) (by omega)
  exact ⟨M, by unfold fX1_waiting; rw [a1]; rfl, a2⟩
theorem ruleHolds_eq {m : SX1} {g : Gr} (h : PG m.1 g) (N : Nat) {p r : Nat} (hp : p < gN g) (hr : r < gR g p) (x : Int32) : fX1_ruleHolds N m (nI p) (nI r) x = some (b2i (decide (gA g p r = 0) || !decide (gA g p r &&& x = 0))) := by
  unfold fX1_ruleHolds
  rw [X2_askersOf_eq h N hp hr, Option.bind_some]
  by_cases h0 : gA g p r = 0
  · rw [if_pos h0, decide_eq_true h0]; rfl
  · rw [if_neg h0, decide_eq_false h0]
    by_cases h1 : gA g p r &&& x = 0
    · rw [if_pos h1, decide_eq_true h1]; rfl
    · rw [if_neg h1, decide_eq_false h1]; rfl
section QQ
variable {v : SX7} {g : Gr} {ho : Nat → Nat} {ct : Nat}
theorem phase0 (h : PG v.1.1 g) (N : Nat) {p : Nat} (hp : p < gN g) : rt (fX7_phase N v (nI p) 0) = some (gG g p, v) := by
  unfold fX7_phase
  rw [phOK h N hp, Option.bind_some, onS_r, if_pos rfl, plan_gr h hp, rt_some]
theorem phase1 (h : PG v.1.1 g) (hh : HG v.1.1 g ho ct) (N : Nat) {p : Nat} (hp : p < gN g) : rt (fX7_phase N v (nI p) 1) = some (nI (ho p), v) := by
  have h8 := h.1
  unfold fX7_phase
  rw [phOK h N hp, Option.bind_some, onS_r, if_neg (by decide), if_pos rfl, rowAt_nI (by omega) (by decide), (hh.1 p hp).1, rt_some]
theorem phase2 (h : PG v.1.1 g) (N : Nat) {p : Nat} (hp : p < gN g) : rt (fX7_phase N v (nI p) 2) = some (nI (gR g p), v) := by
  unfold fX7_phase
  rw [phOK h N hp, Option.bind_some, onS_r, if_neg (by decide), if_neg (by decide), if_pos rfl, plan_rc h hp, rt_some]
theorem phase5 (h : PG v.1.1 g) (N : Nat) {p : Nat} (hp : p < gN g) : rt (fX7_phase N v (nI p) 5) = some (v.1.2.2.2.2.1 p, v) := by
  have h8 := h.1
  unfold fX7_phase
  rw [phOK h N hp, Option.bind_some, onS_r, if_neg (by decide), if_neg (by decide), if_neg (by decide), if_neg (by decide), if_neg (by decide), if_pos rfl, rowAt_nI (by omega) (by decide), rt_some]
theorem phase3 (h : PG v.1.1 g) {N : Nat} (hN : 9 ≤ N) {p : Nat} (hp : p < gN g) : ∃ b : Bool, rt (fX7_phase N v (nI p) 3) = some (b2i b, v) ∧ (b = true ↔ UnS v.1.1.1 g p) := by
  obtain ⟨b, b1, b2⟩ := X2_isUn_eq h hN hp
  refine ⟨b, ?_, b2⟩
  unfold fX7_phase
  rw [phOK h N hp, Option.bind_some, onS_r, if_neg (by decide), if_neg (by decide), if_neg (by decide), if_pos rfl, b1, Option.bind_some]
  cases b
  · rw [if_pos b2i_f]; rfl
  · rw [if_neg b2i_t]; rfl
theorem coming_eq (h : PG v.1.1 g) {N : Nat} (hN : 9 ≤ N) {s : Nat} (hs : v.1.2.2.2.2.2.1 = nI s) (hs2 : s < 2 ^ 31) : ∃ M w, fX7_comingPhases N v = some (M, (v.1, v.2.1, v.2.2.1, w)) ∧ ∀ q, bt M q = true ↔ Cmg g (-1) 0 s q := by
  obtain ⟨l, c, a1, -, a3⟩ := X3_noteComing_eq h hN v.2.2.2 hs2
  refine ⟨c, (l, v.2.2.2.2.1, v.2.2.2.2.2.1, v.2.2.2.2.2.2.1, v.2.2.2.2.2.2.2.1, c), ?_, a3⟩
  unfold fX7_comingPhases
  rw [hs, a1]
  rfl
theorem phase4 (h : PG v.1.1 g) {N : Nat} (hN : 9 ≤ N) {s : Nat} (hs : v.1.2.2.2.2.2.1 = nI s) (hs2 : s < 2 ^ 31) {p : Nat} (hp : p < gN g) : ∃ (b : Bool) (w : SX3), rt (fX7_phase N v (nI p) 4) = some (b2i b, (v.1, v.2.1, v.2.2.1, w)) ∧ (b = true ↔ Cmg g (-1) 0 s p) := by
  have h8 := h.1
  obtain ⟨M, w, a1, a2⟩ := coming_eq h hN hs hs2
  refine ⟨bt M p, w, ?_, a2 p⟩
  unfold fX7_phase
  rw [phOK h N hp, Option.bind_some, onS_r, if_neg (by decide), if_neg (by decide), if_neg (by decide), if_neg (by decide), if_pos rfl, a1, Option.bind_some]
  dsimp only
  rw [X7_has_eq N M (show p < 32 by omega), Option.bind_some]
  cases bt M p
  · rw [if_pos b2i_f]; rfl
  · rw [if_neg b2i_t]; rfl
theorem rule_in (h : PG v.1.1 g) {p r : Nat} (hp : p < gN g) (hr : r < gR g p) : ¬ nI r < 0 ∧ nI r < rowAt 8 v.1.1.2.2.2.1 (nI p) := by
  have h4 : gR g p ≤ 4 := (h.2.2 p hp).2.2.1
  rw [plan_rc h hp]
  exact ⟨nI_pos (by omega), (nI_ltI (by omega) (by omega)).mpr hr⟩
theorem rule0 (h : PG v.1.1 g) (N : Nat) {p r : Nat} (hp : p < gN g) (hr : r < gR g p) : rt (fX7_rule N v (nI p) (nI r) 0) = some (nI (gO g p r)) := by
  obtain ⟨r1, r2⟩ := rule_in h hp hr
  unfold fX7_rule
  rw [phOK h N hp, Option.bind_some, onS_r, if_neg r1, if_pos r2, if_pos rfl, X2_goalOf_eq h N hp hr, Option.bind_some, rt_some]
theorem rule1 (h : PG v.1.1 g) (N : Nat) {p r : Nat} (hp : p < gN g) (hr : r < gR g p) : rt (fX7_rule N v (nI p) (nI r) 1) = some (gA g p r) := by
  obtain ⟨r1, r2⟩ := rule_in h hp hr
  unfold fX7_rule
  rw [phOK h N hp, Option.bind_some, onS_r, if_neg r1, if_pos r2, if_neg (by decide), if_pos rfl, X2_askersOf_eq h N hp hr, Option.bind_some, rt_some]
theorem rule2 (h : PG v.1.1 g) (N : Nat) {p r : Nat} (hp : p < gN g) (hr : r < gR g p) {x : Int32} (hx : fX1_waiting N v.1 = some x) : rt (fX7_rule N v (nI p) (nI r) 2) = some (b2i (decide (gA g p r = 0) || !decide (gA g p r &&& x = 0))) := by
  obtain ⟨r1, r2⟩ := rule_in h hp hr
  unfold fX7_rule
  rw [phOK h N hp, Option.bind_some, onS_r, if_neg r1, if_pos r2, if_neg (by decide), if_neg (by decide), if_pos rfl, hx, Option.bind_some, ruleHolds_eq h N hp hr, Option.bind_some]
  cases (decide (gA g p r = 0) || !decide (gA g p r &&& x = 0))
  · rw [if_pos b2i_f]; rfl
  · rw [if_neg b2i_t]; rfl
theorem dir0 (v : SX7) (N : Nat) {d : Nat} (hd : d < 6) : rt (fX7_direction N v (nI d) 0) = some (b2i (bt (gnow v.1) d)) := by
  unfold fX7_direction
  rw [dirOK N hd, Option.bind_some, onS_r, if_pos rfl, gnow_eq, Option.bind_some, X7_has_eq N _ (show d < 32 by omega), Option.bind_some]
  cases bt (gnow v.1) d
  · rw [if_pos b2i_f]; rfl
  · rw [if_neg b2i_t]; rfl
theorem dir1 (v : SX7) (N : Nat) {d : Nat} (hd : d < 6) : rt (fX7_direction N v (nI d) 1) = some (v.1.2.1 d) := by
  unfold fX7_direction
  rw [dirOK N hd, Option.bind_some, onS_r, if_neg (by decide), if_pos rfl, rowAt_nI hd (by decide), rt_some]
theorem dir2 (v : SX7) (N : Nat) {d : Nat} (hd : d < 6) : rt (fX7_direction N v (nI d) 2) = some (v.1.1.1 d) := by
  unfold fX7_direction
  rw [dirOK N hd, Option.bind_some, onS_r, if_neg (by decide), if_neg (by decide), if_pos rfl, rowAt_nI hd (by decide), rt_some]
theorem dir3 (v : SX7) (N : Nat) {d : Nat} (hd : d < 6) : rt (fX7_direction N v (nI d) 3) = some (v.1.2.2.1 d) := by
  unfold fX7_direction
  rw [dirOK N hd, Option.bind_some, onS_r, if_neg (by decide), if_neg (by decide), if_neg (by decide), if_pos rfl, rowAt_nI hd (by decide), rt_some]
theorem dir4 (v : SX7) (N : Nat) {d : Nat} (hd : d < 6) : rt (fX7_direction N v (nI d) 4) = some (v.1.2.2.2.1 d) := by
  unfold fX7_direction
  rw [dirOK N hd, Option.bind_some, onS_r, if_neg (by decide), if_neg (by decide), if_neg (by decide), if_neg (by decide), if_pos rfl, rowAt_nI hd (by decide), rt_some]
theorem dir5 (h : PG v.1.1 g) {N : Nat} (hN : 9 ≤ N) {d : Nat} (hd : d < 6) : ∃ M, rt (fX7_direction N v (nI d) 5) = some M ∧ ∀ q, bt M q = true ↔ (q < gN g ∧ grn g d q = true) := by
  obtain ⟨M, a1, a2⟩ := X2_phasesWith_eq h hN (show d < 32 by omega)
  refine ⟨M, ?_, a2⟩
  unfold fX7_direction
  rw [dirOK N hd, Option.bind_some, onS_r, if_neg (by decide), if_neg (by decide), if_neg (by decide), if_neg (by decide), if_neg (by decide), if_pos rfl, a1, Option.bind_some, rt_some]
theorem count0 (h : PG v.1.1 g) (N : Nat) : rt (fX7_count N v 0) = some (nI (gN g), v) := by
  unfold fX7_count
  rw [if_pos rfl, h.2.1, rt_some]
theorem pn_ne (h : PG v.1.1 g) (hn : 1 ≤ gN g) : ¬ v.1.1.2.2.2.2.2.2.1 = 0 := fun z => by
  have h8 := h.1
  rw [h.2.1] at z
  have z2 : nI (gN g) = nI 0 := z
  rw [nI_eq (by omega) (by omega)] at z2; omega
theorem count1 (h : PG v.1.1 g) (hn : 1 ≤ gN g) (N : Nat) : rt (fX7_count N v 1) = some (v.1.2.2.2.2.2.1, v) := by
  unfold fX7_count
  rw [if_neg (by decide), if_pos rfl, if_neg (pn_ne h hn), rt_some]
theorem count2 (h : PG v.1.1 g) (hn : 1 ≤ gN g) (N : Nat) : rt (fX7_count N v 2) = some (if v.1.2.2.2.2.2.2.2.2.1 ≤ 0 then v.1.2.2.2.2.2.2.2.1 else -1, v) := by
  unfold fX7_count
  rw [if_neg (by decide), if_neg (by decide), if_pos rfl, if_neg (pn_ne h hn)]
  unfold fX1_isClearing
  by_cases z : v.1.2.2.2.2.2.2.2.2.1 ≤ 0
  · rw [if_pos z, if_pos z]; rfl
  · rw [if_neg z, if_neg z]; rfl
theorem count3 (v : SX7) (N : Nat) : rt (fX7_count N v 3) = some (v.1.2.2.2.2.2.2.2.2.1, v) := by
  unfold fX7_count
  rw [if_neg (by decide), if_neg (by decide), if_neg (by decide), if_pos rfl, rt_some]
theorem count4 (v : SX7) (N : Nat) : rt (fX7_count N v 4) = some (gnow v.1, v) := by
  unfold fX7_count
  rw [if_neg (by decide), if_neg (by decide), if_neg (by decide), if_neg (by decide), if_pos rfl, gnow_eq, Option.bind_some, rt_some]
theorem count5 (v : SX7) {N : Nat} {x : Int32} (hx : fX1_waiting N v.1 = some x) : rt (fX7_count N v 5) = some (x, v) := by
  unfold fX7_count
  rw [if_neg (by decide), if_neg (by decide), if_neg (by decide), if_neg (by decide), if_neg (by decide), if_pos rfl, hx, Option.bind_some, rt_some]
theorem count9 (v : SX7) (N : Nat) : rt (fX7_count N v 9) = some (v.1.2.2.2.2.2.2.2.2.2, v) := by
  unfold fX7_count
  rw [if_neg (by decide), if_neg (by decide), if_neg (by decide), if_neg (by decide), if_neg (by decide), if_neg (by decide), if_neg (by decide), if_neg (by decide), if_neg (by decide), if_pos rfl, rt_some]
end QQ
