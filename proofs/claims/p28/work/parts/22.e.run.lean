/-! the law's ticks and the class's run -/
section RU
variable {v : SX7} {g : Gr} {ho : Nat → Nat} {ct : Nat}
theorem TK.PI {m m' : SX1} {s l f s' l' f' : Nat} (h : TK m m' g ho ct s l f s' l' f') (hI : PI m.1 g ho ct) : PI m'.1 g ho ct := by rw [h.1]; exact hI
theorem run_both (hI : PI v.1.1 g ho ct) {N : Nat} (hN : 11 ≤ N) (sn : Nat) (sx : Nat → Int32) (z6 z7 : Int32) {k : Nat} (hk : k < 2 ^ 20) (rest : SX0 × SX6 × SX3) : ∀ (j i fa fb : Nat) (m : SX1) (s l f B : Nat) (a1 : SQ5) (a2 : SQ18) (a3 : SQ8), i + j = k → j < fa → j < fb → m.1 = v.1.1 → Now m g s l f → WB m.2.1 B → B + j < 2 ^ 29 → LM m a1 a2 a3 g s l f →
    ∃ m' s' l' f' a1' a2' a3', fX7_run_L34 N (nI k) fa (m, rest) (nI i) = some (m', rest) ∧ fL_law_L316 N sn sx (nI ct) z6 z7 (nI k) fb v a1 a2 a3 (nI i) = some (v, a1', a2', a3') ∧ m'.1 = v.1.1 ∧ Now m' g s' l' f' ∧ WB m'.2.1 (B + j) ∧ LM m' a1' a2' a3' g s' l' f' := by
  intro j
  induction j with
  | zero =>
    intro i fa fb m s l f B a1 a2 a3 e1 e2 e3 hm hNw hW hB L
    obtain ⟨x, rfl⟩ : ∃ x, fa = x + 1 := ⟨fa - 1, by omega⟩
    obtain ⟨y, rfl⟩ : ∃ y, fb = y + 1 := ⟨fb - 1, by omega⟩
    have hi : i = k := by omega
    subst hi
    refine ⟨m, s, l, f, a1, a2, a3, ?_, ?_, hm, hNw, hW, L⟩
    · rw [fX7_run_L34, if_pos ((nI_leI (by omega) (by omega)).mpr (Nat.le_refl _))]
    · rw [fL_law_L316, if_pos ((nI_leI (by omega) (by omega)).mpr (Nat.le_refl _))]
  | succ j ih =>
    intro i fa fb m s l f B a1 a2 a3 e1 e2 e3 hm hNw hW hB L
    obtain ⟨x, rfl⟩ : ∃ x, fa = x + 1 := ⟨fa - 1, by omega⟩
    obtain ⟨y, rfl⟩ : ∃ y, fb = y + 1 := ⟨fb - 1, by omega⟩
    have hi : i < k := by omega
    have hIm : PI m.1 g ho ct := by rw [hm]; exact hI
    obtain ⟨m', s', l', f', t1, t2⟩ := tick_eq hIm hNw hN
    obtain ⟨b1, b2, b3, k1, k2⟩ := ltick_eq hI hN hm hNw L hW (by omega) t2
    have hm' : m'.1 = v.1.1 := t2.1.trans hm
    have hW' : WB m'.2.1 (B + 1) := hW.pw (gnow m) (fun d hd => (t2.2.2.1 d hd).1)
    obtain ⟨m2, s2, l2, f2, c1, c2, c3, q1, q2, q3, q4, q5, q6⟩ := ih (i + 1) x y m' s' l' f' (B + 1) b1 b2 b3 (by omega) (by omega) (by omega) hm' t2.2.2.2.1 hW' (by omega) k2
    refine ⟨m2, s2, l2, f2, c1, c2, c3, ?_, ?_, q3, q4, ?_, q6⟩
    · rw [fX7_run_L34, if_neg (fun z => by rw [nI_leI (by omega) (by omega)] at z; omega)]
      dsimp only
      rw [t1, Option.bind_some, nI_1]
      exact q1
    · rw [fL_law_L316, if_neg (fun z => by rw [nI_leI (by omega) (by omega)] at z; omega), k1, Option.bind_some, nI_1]
      exact q2
    · rw [show B + (j + 1) = B + 1 + j by omega]
      exact q5
theorem wait_cnt {m : SX1} {N : Nat} (hN : 9 ≤ N) : ∃ x, fX1_waiting N m = some x ∧ fJ6_bitCount_0f7a4 N x = some (nI (cnt (bt x) 6)) ∧ ∀ q, bt x q = true ↔ (q < 6 ∧ ¬ m.2.1 q = -1) := by
  obtain ⟨x, x1, x2⟩ := wait_eq m hN
  refine ⟨x, x1, ?_, x2⟩
  rw [bitC_eq N (fun q hq => Nat.lt_trans ((x2 q).mp hq).1 (by omega)), cnt_ext (n := 6) 8 (by omega) (fun k k1 k2 => by
    cases hb : bt x k
    · rfl
    · have := ((x2 k).mp hb).1; omega)]
theorem L345_eq (N : Nat) (sn : Nat) (sx : Nat → Int32) (v : SX7) (a1 : SQ5) (a3 : SQ8) (z2 z6 z7 z8 : Int32) {m : SX1} {a2 : SQ18} (lw : ∀ d, d < 6 → a2 d = m.2.1 d) {B : Nat} (hW : WB m.2.1 B) (hB : B < 2 ^ 30) {x : Int32} (hx : ∀ q, bt x q = true ↔ (q < 6 ∧ ¬ m.2.1 q = -1)) {fuel : Nat} (hf : 6 < fuel) : fL_law_L345 N sn sx v a1 a2 a3 z2 z6 z7 z8 fuel 0 0 = some (nI (cnt (bt x) 6)) := by
  refine count_eq (F := fL_law_L345 N sn sx v a1 a2 a3 z2 z6 z7 z8) (bt x) (fun f m => by rw [fL_law_L345, if_pos (by decide)]) (fun i f m' hi => ?_) hf
  have hn := neg_wait (hW.lt hB i hi)
  rw [fL_law_L345, if_neg (le6 hi), chk_nI (show i < 18 by omega) (by decide), nI_clamp (show i < 2 ^ 31 by omega), nI_1, lw i hi]
  by_cases hm : m.2.1 i = -1
  · rw [if_neg (fun z => Int32.not_le.mpr (hn.mpr hm) z), if_neg (fun z => ((hx i).mp z).2 hm)]
  · rw [if_pos (Int32.not_lt.mp (fun z => hm (hn.mp z))), if_pos ((hx i).mpr ⟨hi, hm⟩)]
theorem event_eq (hI : PI v.1.1 g ho ct) (H : HB v.2.1) {N : Nat} (hN : 1000 ≤ N) (sn : Nat) (sx : Nat → Int32) (z6 z7 : Int32) {k : Nat} (h1 : 1 ≤ k) (hk : k ≤ 99) {s l f B : Nat} {a1 : SQ5} {a2 : SQ18} {a3 : SQ8} (hNw : Now v.1 g s l f) (hW : WB v.1.2.1 B) (hB : B < 2 ^ 28) (L : LM v.1 a1 a2 a3 g s l f) :
    ∃ m' h' s' l' f' a1' a2' a3' c, HB h' ∧ rt (fX7_run N v (nI k)) = some (c, (m', h', v.2.2)) ∧ fL_law_L316 N sn sx (nI ct) z6 z7 (nI k) N v a1 a2 a3 0 = some (v, a1', a2', a3') ∧ fL_law_L345 N sn sx v a1' a2' a3' (nI ct) z6 z7 (nI k) N 0 0 = some c ∧ m'.1 = v.1.1 ∧ Now m' g s' l' f' ∧ WB m'.2.1 (B + k) ∧ LM m' a1' a2' a3' g s' l' f' := by
  obtain ⟨h', k1, k2⟩ := keep_eq H N v.1
  obtain ⟨m', s', l', f', b1, b2, b3, q1, q2, q3, q4, q5, q6⟩ := run_both hI (show 11 ≤ N by omega) sn sx z6 z7 (show k < 2 ^ 20 by omega) (h', v.2.2) k 0 N N v.1 s l f B a1 a2 a3 (by omega) (by omega) (by omega) rfl hNw hW (by omega) L
  obtain ⟨x, x1, x2, x3⟩ := wait_cnt (m := m') (show 9 ≤ N by omega)
  have q1' : fX7_run_L34 N (nI k) N (v.1, h', v.2.2) 0 = some (m', h', v.2.2) := q1
  refine ⟨m', h', s', l', f', b1, b2, b3, nI (cnt (bt x) 6), k2, ?_, q2, ?_, q3, q4, q5, q6⟩
  · unfold fX7_run
    rw [if_neg (fun z => by
      have z2 : nI k < nI 1 := z
      rw [nI_ltI (by omega) (by omega)] at z2; omega), if_pos (show nI k ≤ (99 : Int32) from (nI_leI (b := 99) (by omega) (by omega)).mpr hk), k1, Option.bind_some, q1', Option.bind_some]
    dsimp only
    rw [x1, Option.bind_some, x2, Option.bind_some, rt_some]
  · exact L345_eq N sn sx v b1 b3 (nI ct) z6 z7 (nI k) (fun d hd => (q6.2.2.2.1 d hd).1) q5 (by omega) x3 (by omega)
/-- one tick, as the class's run gives it -/
theorem run1_eq (hI : PI v.1.1 g ho ct) (H : HB v.2.1) {N : Nat} (hN : 1000 ≤ N) {s l f : Nat} (hNw : Now v.1 g s l f) : ∃ m' h' s' l' f' c, HB h' ∧ rt (fX7_run N v 1) = some (c, (m', h', v.2.2)) ∧ TK v.1 m' g ho ct s l f s' l' f' := by
  obtain ⟨h', k1, k2⟩ := keep_eq H N v.1
  obtain ⟨m', s', l', f', t1, t2⟩ := tick_eq hI hNw (show 11 ≤ N by omega)
  obtain ⟨x, x1, x2, x3⟩ := wait_cnt (m := m') (show 9 ≤ N by omega)
  refine ⟨m', h', s', l', f', nI (cnt (bt x) 6), k2, ?_, t2⟩
  obtain ⟨n, rfl⟩ : ∃ n, N = n + 2 := ⟨N - 2, by omega⟩
  have q1' : fX7_run_L34 (n + 2) 1 (n + 2) (v.1, h', v.2.2) 0 = some (m', h', v.2.2) := by
    rw [fX7_run_L34, if_neg (by decide)]
    dsimp only
    rw [t1, Option.bind_some, fX7_run_L34, if_pos (by decide)]
  unfold fX7_run
  rw [if_neg (by decide), if_pos (by decide), k1, Option.bind_some, q1', Option.bind_some]
  dsimp only
  rw [x1, Option.bind_some, x2, Option.bind_some, rt_some]
end RU
