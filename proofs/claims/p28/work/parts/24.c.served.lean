/-! somebody who waits is served in time, or starves -/
section SW2
variable {v : SX7} {g : Gr} {ho : Nat → Nat} {ct : Nat}
theorem wait1 (hI : PI v.1.1 g ho ct) {N : Nat} (hN : 9 ≤ N) {s d p : Nat} (hs : v.1.2.2.2.2.2.1 = nI s) (hs2 : s < 2 ^ 31) (hd : d < 6) (hp : p < gN g) : ∃ x w, rt (fX7_waitFor N v (nI d) (nI p) 1) = some (x, (v.1, v.2.1, v.2.2.1, w)) ∧ (Sv g d p → x = -1) ∧ (¬ Sv g d p → ∃ y, y ≤ 1000 ∧ x = nI y ∧ IsLg (gN g) (E0 g d) (GN g d) (cc g ho ct) p y) := by
  obtain ⟨w, w1, -, -, -, w2, w3⟩ := X7_study_eq hI.1 hI.2.1 hN hs hs2 hd
  obtain ⟨x, x1, x2, x3⟩ := X3_longestFrom_eq hI.1.1 N hd hp w2 w3
  refine ⟨x, w, ?_, x2, x3⟩
  unfold fX7_waitFor
  rw [phOK hI.1 N hp, Option.bind_some, onS_r, dirOK N hd, Option.bind_some, onS_r, w1, Option.bind_some, if_neg (by decide), x1, Option.bind_some, rt_some]
theorem wait0 (hI : PI v.1.1 g ho ct) {N : Nat} (hN : 9 ≤ N) {s d p : Nat} (hs : v.1.2.2.2.2.2.1 = nI s) (hs2 : s < 2 ^ 31) (hd : d < 6) (hp : p < gN g) : ∃ x w, rt (fX7_waitFor N v (nI d) (nI p) 0) = some (x, (v.1, v.2.1, v.2.2.1, w)) ∧ (∀ L, IsSh (gN g) (E0 g d) (GN g d) (cc g ho ct) p L → x = nI L) := by
  obtain ⟨w, w1, -, -, -, w2, w3⟩ := X7_study_eq hI.1 hI.2.1 hN hs hs2 hd
  obtain ⟨x, x1, x2, x3⟩ := X3_shortestFrom_eq hI.1.1 N hd hp w3
  refine ⟨x, w, ?_, x2⟩
  unfold fX7_waitFor
  rw [phOK hI.1 N hp, Option.bind_some, onS_r, dirOK N hd, Option.bind_some, onS_r, w1, Option.bind_some, if_pos rfl, x1, Option.bind_some, rt_some]
theorem stv_eq (hI : PI v.1.1 g ho ct) {N : Nat} (hN : 9 ≤ N) {s d p : Nat} (hs : v.1.2.2.2.2.2.1 = nI s) (hs2 : s < 2 ^ 31) (hd : d < 6) (hp : p < gN g) : ∃ (b : Bool) (w : SX3), rt (fX7_starves N v (nI d) (nI p)) = some (b2i b, (v.1, v.2.1, v.2.2.1, w)) ∧ (b = true ↔ Sv g d p) := by
  obtain ⟨w, w1, -, -, -, w2, w3⟩ := X7_study_eq hI.1 hI.2.1 hN hs hs2 hd
  obtain ⟨b, b1, b2⟩ := X3_starvesFrom_eq hI.1.1 N hd hp w2
  refine ⟨b, w, ?_, b2⟩
  unfold fX7_starves
  rw [phOK hI.1 N hp, Option.bind_some, onS_r, dirOK N hd, Option.bind_some, onS_r, w1, Option.bind_some, b1, Option.bind_some]
  cases b
  · rw [if_pos b2i_f]; rfl
  · rw [if_neg b2i_t]; rfl
/-- what the law finds from the start in p on -/
theorem ride_eq (hI : PI v.1.1 g ho ct) (H : HB v.2.1) {N : Nat} (hN : 1000 ≤ N) {sn : Nat} (hsn : sn ≤ 260) (sx : Nat → Int32) {base : Nat} (hb : base < 1000) (z5 z6 z7 : Int32) {d p : Nat} (hd : d < 6) (hp : p < gN g) :
    ∃ v1 v2 T s' l' f', rt (fX7_start N v (nI p)) = some (gG g p, v1) ∧ rt (fX7_phase N v1 (nI p) 0) = some (gG g p, v1) ∧ rt (fX7_count N v1 5) = some (0, v1) ∧ rt (fX7_count N v1 2) = some (0, v1) ∧ fL_served_L132 N sn sx (nI base) (nI d) z5 z6 z7 N v1 0 = some (v2, nI T) ∧ rt (fX7_count N v2 4) = some (gnow v2.1, v2) ∧ T ≤ 60 ∧ v2.1.1 = v.1.1 ∧ HB v2.2.1 ∧ SIm g ho ct d p v2.1 T s' l' f' ∧ (T = 60 ∨ bt (gnow v2.1) d = true) := by
  obtain ⟨h', k1, k2⟩ := start_eq (v := v) hI.1 H N hp
  have h8 := hI.1.1
  obtain ⟨x, x1, x2⟩ := wait_eq (v.1.1, (fun _ => (-1)), v.1.2.2.1, v.1.2.2.2.1, v.1.2.2.2.2.1, nI p, v.1.2.2.2.2.2.2.1, 0, 0, v.1.2.2.2.2.2.2.2.2.2) (show 9 ≤ N by omega)
  have hx0 : x = 0 := bt_ext (fun k _ => by
    rw [bt_0]
    cases hb : bt x k
    · rfl
    · exact absurd rfl ((x2 k).mp hb).2)
  subst hx0
  have hN0 : Now (v.1.1, (fun _ => (-1)), v.1.2.2.1, v.1.2.2.2.1, v.1.2.2.2.2.1, nI p, v.1.2.2.2.2.2.2.1, 0, 0, v.1.2.2.2.2.2.2.2.2.2) g p 0 0 := ⟨hp, rfl, by omega, rfl, fun z => absurd z (by omega)⟩
  have hS0 : SIm g ho ct d p (v.1.1, (fun _ => (-1)), v.1.2.2.1, v.1.2.2.2.1, v.1.2.2.2.2.1, nI p, v.1.2.2.2.2.2.2.1, 0, 0, v.1.2.2.2.2.2.2.2.2.2) 0 p 0 0 := ⟨hN0, Or.inl ⟨rfl, 0, 0, rfl, fun k L hc => ⟨k, by rw [Nat.zero_add]; exact hc⟩, by omega, fun z => absurd z (by omega), fun hS => ⟨hS, rfl, (hI.2.1.1 p hp).2.1⟩⟩⟩
  obtain ⟨v2, T, s', l', f', b1, b2, b3, b4, b5, b6⟩ := L132_eq (g := g) (ho := ho) (ct := ct) hN hsn sx hb z5 z6 z7 hd 60 0 N ((v.1.1, (fun _ => (-1)), v.1.2.2.1, v.1.2.2.2.1, v.1.2.2.2.2.1, nI p, v.1.2.2.2.2.2.2.1, 0, 0, v.1.2.2.2.2.2.2.2.2.2), h', v.2.2) p 0 0 rfl (by omega) hI k1 (fun e _ => Or.inl rfl) hS0
  refine ⟨_, v2, T, s', l', f', k2, phase0 (v := ((v.1.1, (fun _ => (-1)), v.1.2.2.1, v.1.2.2.2.1, v.1.2.2.2.2.1, nI p, v.1.2.2.2.2.2.2.1, 0, 0, v.1.2.2.2.2.2.2.2.2.2), h', v.2.2)) hI.1 N hp, count5 _ x1, ?_, b1, count4 v2 N, b2, b3, b4, b5, b6⟩
  rw [count2 (v := ((v.1.1, (fun _ => (-1)), v.1.2.2.1, v.1.2.2.2.1, v.1.2.2.2.2.1, nI p, v.1.2.2.2.2.2.2.1, 0, 0, v.1.2.2.2.2.2.2.2.2.2), h', v.2.2)) hI.1 (by omega) N]
  rfl
theorem z7_b (b : Bool) : (if b2i b = 1 then (1 : Int32) else 0) = b2i b := by cases b <;> rfl
theorem served_eq (hI : PI v.1.1 g ho ct) (H : HB v.2.1) {N : Nat} (hN : 1000 ≤ N) {sn : Nat} (hsn : sn ≤ 260) (sx : Nat → Int32) {base : Nat} (hb : base < 1000) {s d p : Nat} (hs : v.1.2.2.2.2.2.1 = nI s) (hs2 : s < 2 ^ 31) (hd : d < 6) (hp : p < gN g) : ∃ v' s', fL_served N sn sx v (nI base) (nI p) (nI d) = some (1, v') ∧ v'.1.1 = v.1.1 ∧ HB v'.2.1 ∧ v'.1.2.2.2.2.2.1 = nI s' ∧ s' < gN g := by
  obtain ⟨lo, w1, a1, a2, a3⟩ := wait1 (v := v) hI (show 9 ≤ N by omega) hs hs2 hd hp
  obtain ⟨sh, w2, c1, c2⟩ := wait0 (v := (v.1, v.2.1, v.2.2.1, w1)) hI (show 9 ≤ N by omega) hs hs2 hd hp
  obtain ⟨b, w3, e1, e2⟩ := stv_eq (v := (v.1, v.2.1, v.2.2.1, w2)) hI (show 9 ≤ N by omega) hs hs2 hd hp
  obtain ⟨v1, v2, T, s', l', f', r1, r2, r3, r4, r5, r6, r7, r8, r9, r10, r11⟩ := ride_eq (v := (v.1, v.2.1, v.2.2.1, w3)) hI H hN hsn sx hb lo sh (b2i b) hd hp
  have h8 := hI.1.1
  have hP2 : PG v2.1.1 g := by rw [r8]; exact hI.1
  have hph : rt (fX7_phase N (v.1, v.2.1, v.2.2.1, w3) (nI p) 0) = some (gG g p, (v.1, v.2.1, v.2.2.1, w3)) := phase0 (v := (v.1, v.2.1, v.2.2.1, w3)) hI.1 N hp
  refine ⟨v2, s', ?_, r8, r9, r10.1.2.1, r10.1.1⟩
  have hbg : (gG g p >>> (nI d &&& 31)) &&& 1 = b2i (bt (gG g p) d) := bit_b2i _ (by omega)
  have hb2 : (gnow v2.1 >>> (nI d &&& 31)) &&& 1 = b2i (bt (gnow v2.1) d) := bit_b2i _ (by omega)
  -- what is found at the end
  have shE : ∀ a k, Cst (gN g) (E0 g d) (GN g d) (cc g ho ct) k p a → ∃ L, L ≤ a ∧ IsSh (gN g) (E0 g d) (GN g d) (cc g ho ct) p L ∧ sh = nI L := fun a k hc => by
    obtain ⟨L, l1, l2⟩ := sh_ex a ⟨k, hc⟩
    exact ⟨L, l1, l2, c2 L l2⟩
  unfold fL_served
  rw [a1, Option.bind_some]
  dsimp only
  rw [c1, Option.bind_some]
  dsimp only
  rw [e1, Option.bind_some]
  dsimp only
  simp only [z7_b, hph, r1, r2, r3, r4, r5, r6, hbg, hb2, Option.bind_some, if_true]
  have n60 : ∀ y, 60 ≤ y → y ≤ 1000 → ¬ nI y < 60 := fun y h1 h2 z => by
    have z2 : nI y < nI 60 := z
    rw [nI_ltI (by omega) (by omega)] at z2; omega
  have fin : (if b2i (bt (gnow v2.1) d) = 0 then (if b2i b = 0 then (if lo < 60 then some ((0 : Int32), v2) else some (1, v2)) else some (1, v2)) else (if b2i b = 0 then (if lo < nI T then some (0, v2) else (if sh < 0 then some (0, v2) else (if nI T < sh then some (0, v2) else some (1, v2)))) else (if sh < 0 then some (0, v2) else (if nI T < sh then some (0, v2) else some (1, v2))))) = some (1, v2) := by
    cases hg : bt (gnow v2.1) d
    · rw [if_pos b2i_f]
      cases hb3 : b
      · have hnS : ¬ Sv g d p := fun z => by rw [e2.mpr z] at hb3; cases hb3
        obtain ⟨y, y1, y2, y3⟩ := a3 hnS
        have hT : T = 60 := r11.resolve_right (by rw [hg]; decide)
        have := sim_long hP2 r10 (by rw [hg]; decide) hnS y3
        rw [if_pos b2i_f, y2, if_neg (n60 y (by omega) y1)]
      · rw [if_neg b2i_t]
    · rw [if_neg b2i_t]
      obtain ⟨a, k, q1, q2, q3⟩ := sim_green hP2 r10 hg
      obtain ⟨L, l1, l2, l3⟩ := shE a k q1
      have hsh : ¬ sh < 0 := by rw [l3]; exact nI_pos (by omega)
      have hTs : ¬ nI T < sh := fun z => by rw [l3, nI_ltI (by omega) (by omega)] at z; omega
      cases hb3 : b
      · have hnS : ¬ Sv g d p := fun z => by rw [e2.mpr z] at hb3; cases hb3
        obtain ⟨y, y1, y2, y3⟩ := a3 hnS
        have ha := q3 hnS
        have hay := y3.2 k a q1
        rw [if_pos b2i_f, if_neg (fun z => by rw [y2, nI_ltI (by omega) (by omega)] at z; omega), if_neg hsh, if_neg hTs]
      · rw [if_neg b2i_t, if_neg hsh, if_neg hTs]
  rw [fin]
  cases hb3 : b
  · have hnS : ¬ Sv g d p := fun z => by rw [e2.mpr z] at hb3; cases hb3
    obtain ⟨y, y1, y2, y3⟩ := a3 hnS
    obtain ⟨k, hk⟩ := y3.1
    obtain ⟨L, l1, l2, l3⟩ := shE y k hk
    have h0 : (0 : Int32) ≤ lo := by
      rw [y2]
      show nI 0 ≤ nI y
      exact (nI_leI (by omega) (by omega)).mpr (Nat.zero_le _)
    rw [if_pos h0, if_pos b2i_f.symm, if_pos b2i_f, if_neg (show ¬ sh < 0 by rw [l3]; exact nI_pos (by omega)), if_neg (show ¬ lo < sh from fun z => by rw [y2, l3, nI_ltI (by omega) (by omega)] at z; omega)]
    cases hgp : bt (gG g p) d
    · rw [if_neg (by decide)]
    · have hy0 : y = 0 := y3.uniq (IsLg.green hgp)
      have hL0 : L = 0 := by omega
      rw [if_pos (show b2i true = 1 from rfl), if_pos (show lo = 0 by rw [y2, hy0]; rfl), if_pos (show sh = 0 by rw [l3, hL0]; rfl)]
  · have hS : Sv g d p := e2.mp hb3
    have hgp : bt (gG g p) d = false := by
      cases hgp : bt (gG g p) d
      · rfl
      · exact absurd hgp hS.1
    rw [a2 hS, if_neg (show ¬ (0 : Int32) ≤ -1 by decide), if_pos (show (1 : Int32) = b2i true from rfl), if_neg b2i_t, hgp, if_neg (show ¬ b2i false = 1 by decide)]
end SW2
