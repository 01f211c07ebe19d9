/-! the reference: the longest ways, laid in place -/
section LG
variable {v : SX8} {g : Gr} {ho : Nat → Nat} {ct : Nat}
theorem X8_lg_L73 (h : ZG v.2.1 g) (hh : ZH v.2.1 g ho ct) {N : Nat} (hN : 9 ≤ N) {d p : Nat} (t : Int32) (hd : d < 32) (hp : p < gN g) {w : Nat → Int32} {X : Nat → Nat} (hX : ∀ q, q < gN g → w q = nI (X q) ∧ X q ≤ 1000) (hns : ∀ r, r < gR g p → fol g d p r = true → ¬ gO g p r = p) : ∀ (k i fuel : Nat) (x : Nat), i + k = gR g p → k < fuel → x ≤ 2000 → ∃ x', fX8_layLongest_L73 N (nI d) t (nI p) 1 fuel (sW v (upd w p (nI x))) (nI i) = some (sW v (upd w p (nI x'))) ∧ x ≤ x' ∧ (∀ r, i ≤ r → r < gR g p → fol g d p r = true → cc g ho ct p (gO g p r) + X (gO g p r) ≤ x') ∧ (x' = x ∨ ∃ r, r < gR g p ∧ fol g d p r = true ∧ x' = cc g ho ct p (gO g p r) + X (gO g p r)) := by
  have h8 := h.1
  obtain ⟨-, -, h5, h7⟩ := h.2.2 p hp
  intro k
  induction k with
  | zero =>
    intro i fuel x e1 e2 e3
    obtain ⟨f, rfl⟩ : ∃ f, fuel = f + 1 := ⟨fuel - 1, by omega⟩
    rw [fX8_layLongest_L73, X8_rules_eq (v := sW v (upd w p (nI x))) h N hp, Option.bind_some, if_pos (nI_le (by omega) (by omega))]
    exact ⟨x, rfl, Nat.le_refl _, fun r r1 r2 => by omega, Or.inl rfl⟩
  | succ k ih =>
    intro i fuel x e1 e2 e3
    obtain ⟨f, rfl⟩ : ∃ f, fuel = f + 1 := ⟨fuel - 1, by omega⟩
    have hi : i < gR g p := by omega
    obtain ⟨-, hlt, -⟩ := h7 i hi
    rw [fX8_layLongest_L73, X8_rules_eq (v := sW v (upd w p (nI x))) h N hp, Option.bind_some, if_neg (fun z => by rw [nI_leI (by omega) (by omega)] at z; omega), if_neg (by decide), X8_canFollow_eq (v := sW v (upd w p (nI x))) h hN hp hi hd, Option.bind_some]
    cases hf : fol g d p i
    · rw [if_pos b2i_f, chk_nI (by omega) (by omega), nI_clamp (by omega)]
      obtain ⟨x', a1, a2, a3, a4⟩ := ih (i + 1) f x (by omega) (by omega) e3
      refine ⟨x', ?_, a2, fun r r1 r2 r3 => ?_, a4⟩
      · dsimp only
        rw [if_pos (show 0 ≤ upd w p (nI x) p from by rw [upd_same]; exact nI_le (a := 0) (by omega) (by omega)), chk_nI (by omega) (by omega), chk_nI (by omega) (by omega), nI_1]
        unfold nmd
        rw [upd_upd, upd_same]
        exact a1
      · by_cases hr : r = i
        · subst hr; rw [hf] at r3; cases r3
        · exact a3 r (by omega) r2 r3
    · rw [if_neg b2i_t, X8_wayBy_eq (v := sW v (upd w p (nI x))) h hh N hp hi, Option.bind_some, chk_nI (by omega) (by omega), nI_clamp (by omega)]
      dsimp only
      have hc1 := zcc_le hh p (gO g p i) hp
      have hXq := hX (gO g p i) hlt
      have hs := hns i hi hf
      have hgw : gW (sW v (upd w p (nI x))) (gO g p i) = nI (X (gO g p i)) := by show upd w p (nI x) (gO g p i) = _; rw [upd_ne hs, hXq.1]
      rw [hgw, nI_add]
      by_cases hle : cc g ho ct p (gO g p i) + X (gO g p i) ≤ x
      · obtain ⟨x', a1, a2, a3, a4⟩ := ih (i + 1) f x (by omega) (by omega) e3
        refine ⟨x', ?_, a2, fun r r1 r2 r3 => ?_, a4⟩
        · rw [if_pos (by rw [upd_same]; exact nI_le hle (by omega)), chk_nI (by omega) (by omega), chk_nI (by omega) (by omega), nI_1]
          unfold nmd
          rw [upd_upd, upd_same]
          exact a1
        · by_cases hr : r = i
          · subst hr; omega
          · exact a3 r (by omega) r2 r3
      · obtain ⟨x', a1, a2, a3, a4⟩ := ih (i + 1) f (cc g ho ct p (gO g p i) + X (gO g p i)) (by omega) (by omega) (by omega)
        refine ⟨x', ?_, by omega, fun r r1 r2 r3 => ?_, ?_⟩
        · rw [if_neg (fun z => by rw [upd_same, nI_leI (by omega) (by omega)] at z; omega), chk_nI (by omega) (by omega), nI_1]
          unfold nmd
          rw [upd_upd]
          exact a1
        · by_cases hr : r = i
          · subst hr; omega
          · exact a3 r (by omega) r2 r3
        · rcases a4 with a4 | a4
          · exact Or.inr ⟨i, hi, hf, a4⟩
          · exact Or.inr a4
theorem X8_lg_L73_0 (h : ZG v.2.1 g) {N : Nat} (hN : 9 ≤ N) {d p : Nat} (t : Int32) (hp : p < gN g) (w : Nat → Int32) : fX8_layLongest_L73 N (nI d) t (nI p) 0 N (sW v w) 0 = some (sW v w) := by
  obtain ⟨f, rfl⟩ : ∃ f, N = f + 1 := ⟨N - 1, by omega⟩
  rw [fX8_layLongest_L73, X8_rules_eq (v := sW v w) h (f + 1) hp, Option.bind_some]
  by_cases h0 : nI (gR g p) ≤ 0
  · rw [if_pos h0]
  · rw [if_neg h0, if_pos rfl]
/-- the row of longest waits, each phase at its level -/
def LLev (g : Gr) (ho : Nat → Nat) (ct d : Nat) (w : Nat → Int32) (lev : Nat → Nat) : Prop := ∃ X : Nat → Nat, ∀ q, q < gN g → (w q = nI (X q) ∧ X q ≤ 112) ∧ (¬ Sv g d q → ∃ k L, Cst (gN g) (E0 g d) (GN g d) (cc g ho ct) k q L ∧ X q ≤ L) ∧ (Hlp (gN g) (E0 g d) (S0 g d) (GN g d) (lev q) q → ∀ k L, Cst (gN g) (E0 g d) (GN g d) (cc g ho ct) k q L → L ≤ X q)
theorem LLev.mono {d : Nat} {w : Nat → Int32} {lev lev' : Nat → Nat} (hl : ∀ q, q < gN g → lev' q ≤ lev q) (hL : LLev g ho ct d w lev) : LLev g ho ct d w lev' := by
  obtain ⟨X, hX⟩ := hL
  exact ⟨X, fun q hq => ⟨(hX q hq).1, (hX q hq).2.1, fun hH => (hX q hq).2.2 (hH.mono (hl q hq))⟩⟩
theorem hlp8 {d p : Nat} (h8 : gN g ≤ 8) (hp : p < gN g) (hs : ¬ Sv g d p) : Hlp (gN g) (E0 g d) (S0 g d) (GN g d) 8 p :=
  (Hlp_n hp (Classical.byContradiction fun z => hs ((stv_iff hp).mpr z))).mono h8
theorem hlp_noself {n : Nat} {E : Nat → Nat → Prop} {st gn : Nat → Prop} {p : Nat} (hp : p < n) (hg : ¬ gn p) (he : E p p) : ∀ m, ¬ Hlp n E st gn m p := by
  intro m
  induction m with
  | zero => exact hg
  | succ m ih => exact fun z => ih ((Hlp_nongreen hg m z).2 p hp he)
theorem cst_112 (h8 : gN g ≤ 8) {z : Nat → Int32} (hh : ZH z g ho ct) {d p k L : Nat} (hp : p < gN g) (hs : ¬ Sv g d p) (hL : Cst (gN g) (E0 g d) (GN g d) (cc g ho ct) k p L) : L ≤ 112 := by
  have h1 := Hlp_len 8 p (hlp8 h8 hp hs) k L hL
  have h2 := Cst_le (zcc_le hh) k p L hp hL
  have : 14 * k ≤ 14 * 8 := Nat.mul_le_mul_left _ h1
  omega
theorem X8_lg_step (h : ZG v.2.1 g) (hh : ZH v.2.1 g ho ct) {N : Nat} (hN : 9 ≤ N) {d p m : Nat} (t : Int32) (hd : d < 32) (hp : p < gN g) (hg : ¬ GN g d p) (hs : ¬ Sv g d p) {w : Nat → Int32} {lev : Nat → Nat} (hm : ∀ q, m ≤ lev q) (hL : LLev g ho ct d w lev) : ∃ w', fX8_layLongest_L73 N (nI d) t (nI p) 1 N (sW v w) 0 = some (sW v w') ∧ LLev g ho ct d w' (fun q => if q = p then m + 1 else lev q) := by
  have h8 := h.1
  have h5 := (h.2.2 p hp).2.2.1
  obtain ⟨X, hX⟩ := hL
  have hH := hlp8 h8 hp hs
  have hsq : ∀ q, E0 g d p q → ¬ Sv g d q := fun q he => Hlp.not_stv 7 q ((Hlp_nongreen hg 7 hH).2 q (zedg_lt h hp he) he)
  have hXp := hX p hp
  obtain ⟨x', a1, a2, a3, a4⟩ := X8_lg_L73 h hh hN t hd hp (w := w) (X := X) (fun q hq => ⟨(hX q hq).1.1, by have := (hX q hq).1.2; omega⟩) (fun r r1 r2 r3 => hlp_noself hp hg ⟨r, r1, r2, r3⟩ 8 hH) (gR g p) 0 N (X p) (by omega) (by omega) (by omega)
  have a1' : fX8_layLongest_L73 N (nI d) t (nI p) 1 N (sW v (upd w p (nI (X p)))) 0 = some (sW v (upd w p (nI x'))) := a1
  rw [← (hX p hp).1.1, upd_id] at a1'
  have hach : ∃ k L, Cst (gN g) (E0 g d) (GN g d) (cc g ho ct) k p L ∧ x' ≤ L := by
    rcases a4 with a4 | ⟨r, r1, r2, r3⟩
    · rw [a4]; exact hXp.2.1 hs
    · have he : E0 g d p (gO g p r) := ⟨r, r1, r2, rfl⟩
      have hlt := zedg_lt h hp he
      obtain ⟨k, L, b1, b2⟩ := (hX _ hlt).2.1 (hsq _ he)
      exact ⟨k + 1, cc g ho ct p (gO g p r) + L, ⟨hg, gO g p r, hlt, he, L, b1, rfl⟩, by omega⟩
  refine ⟨_, a1', fun q => if q = p then x' else X q, fun q hq => ?_⟩
  by_cases hqp : q = p
  · subst hqp
    dsimp only
    rw [if_pos rfl, if_pos rfl, upd_same]
    refine ⟨⟨rfl, ?_⟩, fun _ => hach, fun hHm k L hC => ?_⟩
    · obtain ⟨k, L, b1, b2⟩ := hach
      have := cst_112 h8 hh hp hs b1
      omega
    · cases k with
      | zero => exact absurd hC.1 hg
      | succ k =>
        obtain ⟨-, r, r1, ⟨s, s1, s2, s3⟩, B, B1, rfl⟩ := hC
        have hr : Hlp (gN g) (E0 g d) (S0 g d) (GN g d) m r := (Hlp_nongreen hg m hHm).2 r r1 ⟨s, s1, s2, s3⟩
        have hb := (hX r r1).2.2 (hr.mono (hm r)) k B B1
        have hx := a3 s (Nat.zero_le _) s1 s2
        rw [s3] at hx
        omega
  · dsimp only
    rw [if_neg hqp, if_neg hqp, upd_ne hqp]
    exact hX q hq
theorem X8_lg_L35 (h : ZG v.2.1 g) (hh : ZH v.2.1 g ho ct) {N : Nat} (hN : 11 ≤ N) {d : Nat} (t : Int32) (hd : d < 32) (m : Nat) : ∀ (k i fuel : Nat) (w : Nat → Int32), i + k = gN g → k < fuel → LLev g ho ct d w (fun q => if q < i then m + 1 else m) → ∃ w', fX8_layLongest_L35 N (nI d) t fuel (sW v w) (nI i) = some (sW v w') ∧ LLev g ho ct d w' (fun _ => m + 1) := by
  have h8 := h.1
  intro k
  induction k with
  | zero =>
    intro i fuel w e1 e2 hL
    obtain ⟨f, rfl⟩ : ∃ f, fuel = f + 1 := ⟨fuel - 1, by omega⟩
    have hi : i = gN g := by omega
    subst hi
    rw [fX8_layLongest_L35, chk0, tn0, if_pos (zn_self (v := sW v w) h)]
    exact ⟨w, rfl, hL.mono (fun q hq => by rw [if_pos hq]; exact Nat.le_refl _)⟩
  | succ k ih =>
    intro i fuel w e1 e2 hL
    obtain ⟨f, rfl⟩ : ∃ f, fuel = f + 1 := ⟨fuel - 1, by omega⟩
    have hi : i < gN g := by omega
    have keep : (∀ j, Hlp (gN g) (E0 g d) (S0 g d) (GN g d) j i → GN g d i) → LLev g ho ct d w (fun q => if q < i + 1 then m + 1 else m) := by
      intro hk
      obtain ⟨X, hX⟩ := hL
      refine ⟨X, fun q hq => ⟨(hX q hq).1, (hX q hq).2.1, fun hH k L hC => ?_⟩⟩
      by_cases hqi : q = i
      · subst hqi
        have hgn := hk _ hH
        cases k with
        | zero => rw [hC.2]; exact Nat.zero_le _
        | succ k => exact absurd hgn hC.1
      · refine (hX q hq).2.2 ?_ k L hC
        dsimp only at hH ⊢
        by_cases hlt : q < i
        · rw [if_pos hlt]; rw [if_pos (by omega)] at hH; exact hH
        · rw [if_neg hlt]; rw [if_neg (by omega)] at hH; exact hH
    have next : ∀ w1, LLev g ho ct d w1 (fun q => if q < i + 1 then m + 1 else m) → ∃ w', fX8_layLongest_L35 N (nI d) t f (sW v w1) (nI (i + 1)) = some (sW v w') ∧ LLev g ho ct d w' (fun _ => m + 1) := fun w1 hw => ih (i + 1) f w1 (by omega) (by omega) hw
    rw [fX8_layLongest_L35, chk0, tn0, if_neg (zn_le (v := sW v w) h hi), X8_hasGreen_eq (v := sW v w) h N hi hd, Option.bind_some]
    cases hg : grn g d i
    · have hng : ¬ GN g d i := fun z => by have z2 : grn g d i = true := z; rw [hg] at z2; cases z2
      obtain ⟨b, b1, b2⟩ := X8_canStarve_eq (v := sW v w) h hN hd hi
      rw [if_pos b2i_f, b1, Option.bind_some]
      cases b
      · have hs : ¬ Sv g d i := fun z => by have := b2.mpr z; cases this
        obtain ⟨w1, a1, a2⟩ := X8_lg_step h hh (N := N) (by omega) t hd hi hng hs (m := m) (fun q => by split <;> omega) hL
        obtain ⟨w2, c1, c2⟩ := next w1 (a2.mono (fun q hq => by split <;> split <;> (try split) <;> omega))
        exact ⟨w2, by rw [if_pos b2i_f, a1, Option.bind_some, nI_1]; exact c1, c2⟩
      · have hs : Sv g d i := b2.mp rfl
        obtain ⟨w2, c1, c2⟩ := next w (keep (fun j hj => absurd hs (Hlp.not_stv j i hj)))
        exact ⟨w2, by rw [if_neg b2i_t, X8_lg_L73_0 h (by omega) t hi w, Option.bind_some, nI_1]; exact c1, c2⟩
    · obtain ⟨w2, c1, c2⟩ := next w (keep (fun j hj => hg))
      exact ⟨w2, by rw [if_neg b2i_t, X8_lg_L73_0 h (by omega) t hi w, Option.bind_some, nI_1]; exact c1, c2⟩
theorem X8_lg_L27 (h : ZG v.2.1 g) (hh : ZH v.2.1 g ho ct) {N : Nat} (hN : 11 ≤ N) {d : Nat} (hd : d < 32) : ∀ (k i fuel : Nat) (w : Nat → Int32), i + k = 8 → k < fuel → LLev g ho ct d w (fun _ => i) → ∃ w', fX8_layLongest_L27 N (nI d) fuel (sW v w) (nI i) = some (sW v w') ∧ LLev g ho ct d w' (fun _ => 8) := by
  have h8 := h.1
  intro k
  induction k with
  | zero =>
    intro i fuel w e1 e2 hL
    obtain ⟨f, rfl⟩ : ∃ f, fuel = f + 1 := ⟨fuel - 1, by omega⟩
    have hi : i = 8 := by omega
    subst hi
    rw [fX8_layLongest_L27, if_pos (by decide)]
    exact ⟨w, rfl, hL⟩
  | succ k ih =>
    intro i fuel w e1 e2 hL
    obtain ⟨f, rfl⟩ : ∃ f, fuel = f + 1 := ⟨fuel - 1, by omega⟩
    obtain ⟨w1, a1, a2⟩ := X8_lg_L35 h hh hN (nI i) hd i (gN g) 0 N w (by omega) (by omega) (hL.mono (fun q hq => by rw [if_neg (by omega)]; exact Nat.le_refl _))
    have a1' : fX8_layLongest_L35 N (nI d) (nI i) N (sW v w) 0 = some (sW v w1) := a1
    obtain ⟨w2, b1, b2⟩ := ih (i + 1) f w1 (by omega) (by omega) a2
    refine ⟨w2, ?_, b2⟩
    rw [fX8_layLongest_L27, if_neg (fun z => by have z2 : nI 8 ≤ nI i := z; rw [nI_leI (by omega) (by omega)] at z2; omega), a1', Option.bind_some, nI_1]
    exact b1
theorem X8_lg_L2 (h : ZG v.2.1 g) (N : Nat) (d : Int32) : ∀ (k i fuel : Nat) (w : Nat → Int32), i + k = gN g → k < fuel → (∀ q, q < i → w q = 0) → ∃ w', fX8_layLongest_L2 N d fuel (sW v w) (nI i) = some (sW v w') ∧ ∀ q, q < gN g → w' q = 0 := by
  have h8 := h.1
  intro k
  induction k with
  | zero =>
    intro i fuel w e1 e2 hL
    obtain ⟨f, rfl⟩ : ∃ f, fuel = f + 1 := ⟨fuel - 1, by omega⟩
    have hi : i = gN g := by omega
    subst hi
    rw [fX8_layLongest_L2, chk0, tn0, if_pos (zn_self (v := sW v w) h)]
    exact ⟨w, rfl, hL⟩
  | succ k ih =>
    intro i fuel w e1 e2 hL
    obtain ⟨f, rfl⟩ : ∃ f, fuel = f + 1 := ⟨fuel - 1, by omega⟩
    have hi : i < gN g := by omega
    obtain ⟨w2, b1, b2⟩ := ih (i + 1) f (upd w i 0) (by omega) (by omega) (fun q hq => by
      by_cases hqi : q = i
      · subst hqi; rw [upd_same]
      · rw [upd_ne hqi]; exact hL q (by omega))
    refine ⟨w2, ?_, b2⟩
    rw [fX8_layLongest_L2, chk0, tn0, if_neg (zn_le (v := sW v w) h hi), chk_nI (by omega) (by omega), nI_clamp (by omega), nI_1]
    exact b1
theorem cst_ex (h : ZG v.2.1 g) {d : Nat} : ∀ m q, q < gN g → Hlp (gN g) (E0 g d) (S0 g d) (GN g d) m q → ∃ k L, Cst (gN g) (E0 g d) (GN g d) (cc g ho ct) k q L := by
  intro m
  induction m with
  | zero => intro q hq hH; exact ⟨0, 0, hH, rfl⟩
  | succ m ih =>
    intro q hq hH
    by_cases hg : GN g d q
    · exact ⟨0, 0, hg, rfl⟩
    · obtain ⟨h1, h2⟩ := Hlp_nongreen hg m hH
      obtain ⟨r, hr⟩ := edg_ex h1
      have hlt := zedg_lt h hq hr
      obtain ⟨k, L, hL⟩ := ih r hlt (h2 r hlt hr)
      exact ⟨k + 1, cc g ho ct q r + L, hg, r, hlt, hr, L, hL, rfl⟩
theorem X8_longest_eq (h : ZG v.2.1 g) (hh : ZH v.2.1 g ho ct) {N : Nat} (hN : 11 ≤ N) {d p : Nat} (hd : d < 32) (hp : p < gN g) : ∃ x w', fX8_longest N v (nI d) (nI p) = some (x, sW v w') ∧ (Sv g d p → x = -1) ∧ (¬ Sv g d p → ∃ y, y ≤ 112 ∧ x = nI y ∧ IsLg (gN g) (E0 g d) (GN g d) (cc g ho ct) p y) := by
  have h8 := h.1
  obtain ⟨b, b1, b2⟩ := X8_canStarve_eq h hN hd hp
  unfold fX8_longest
  rw [b1, Option.bind_some]
  cases b
  · have hs : ¬ Sv g d p := fun z => by have := b2.mpr z; cases this
    rw [if_pos b2i_f]
    obtain ⟨w1, a1, a2⟩ := X8_lg_L2 h N (nI d) (gN g) 0 N (gW v) (by omega) (by omega) (fun q hq => by omega)
    have a1' : fX8_layLongest_L2 N (nI d) N v 0 = some (sW v w1) := a1
    have hL : LLev g ho ct d w1 (fun _ => 0) := by
      refine ⟨fun _ => 0, fun q hq => ⟨⟨a2 q hq, Nat.zero_le _⟩, fun hsq => ?_, fun hH k L hC => ?_⟩⟩
      · obtain ⟨k, L, hC⟩ := cst_ex (ho := ho) (ct := ct) h 8 q hq (hlp8 h8 hq hsq)
        exact ⟨k, L, hC, Nat.zero_le _⟩
      · have hg : GN g d q := hH
        cases k with
        | zero => rw [hC.2]; exact Nat.zero_le _
        | succ k => exact absurd hg hC.1
    obtain ⟨w2, c1, X, hX⟩ := X8_lg_L27 h hh hN hd 8 0 N w1 (by omega) (by omega) hL
    have c1' : fX8_layLongest_L27 N (nI d) N (sW v w1) 0 = some (sW v w2) := c1
    obtain ⟨⟨d1, d2⟩, d3, d4⟩ := hX p hp
    refine ⟨nI (X p), w2, ?_, fun z => absurd z hs, fun _ => ⟨X p, d2, rfl, ?_, d4 (hlp8 h8 hp hs)⟩⟩
    · unfold fX8_layLongest
      rw [a1', Option.bind_some, c1', Option.bind_some, Option.bind_some, chk_nI (by omega) (by omega), nI_clamp (by omega)]
      dsimp only
      rw [d1]
    · obtain ⟨k, L, e1, e2⟩ := d3 hs
      have e3 := d4 (hlp8 h8 hp hs) k L e1
      have e4 : X p = L := by omega
      rw [e4]
      exact ⟨k, e1⟩
  · rw [if_neg b2i_t]
    exact ⟨-1, gW v, rfl, fun _ => rfl, fun z => absurd (b2.mp rfl) z⟩
end LG
