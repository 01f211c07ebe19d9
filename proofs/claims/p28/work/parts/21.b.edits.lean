/-! the calls that change: come, start, set, change, clash, addPhase, addRule -/
def PI (v : SX2) (g : Gr) (ho : Nat → Nat) (ct : Nat) : Prop := PG v g ∧ HG v g ho ct ∧ ∀ p, p < gN g → ∀ q, bt (gG g p) q = true → q < 6
section ED
variable {v : SX7} {g : Gr} {ho : Nat → Nat} {ct : Nat}
theorem come_eq (H : HB v.2.1) (N : Nat) {d : Nat} (hd : d < 6) : ∃ h', HB h' ∧ rt (fX7_come N v (nI d)) = some (if v.1.2.1 d = -1 then 0 else v.1.2.1 d, ((v.1.1, (if v.1.2.1 d = -1 then upd v.1.2.1 d 0 else v.1.2.1), v.1.2.2), h', v.2.2)) := by
  obtain ⟨h', k1, k2⟩ := keep_eq H N v.1
  refine ⟨h', k2, ?_⟩
  unfold fX7_come
  rw [dirOK N hd, Option.bind_some, onS_r, k1, Option.bind_some, rowAt_nI hd (by decide), rowPut_nI hd (by decide)]
  by_cases z : v.1.2.1 d = -1
  · rw [if_pos z, if_pos z, if_pos z, rowAt_nI hd (by decide), upd_same, rt_some]
  · rw [if_neg z, if_neg z, if_neg z, rt_some]
theorem start_eq (h : PG v.1.1 g) (H : HB v.2.1) (N : Nat) {p : Nat} (hp : p < gN g) : ∃ h', HB h' ∧ rt (fX7_start N v (nI p)) = some (gG g p, ((v.1.1, (fun _ => (-1)), v.1.2.2.1, v.1.2.2.2.1, v.1.2.2.2.2.1, nI p, v.1.2.2.2.2.2.2.1, 0, 0, v.1.2.2.2.2.2.2.2.2.2), h', v.2.2)) := by
  obtain ⟨h', k1, k2⟩ := keep_eq H N v.1
  refine ⟨h', k2, ?_⟩
  unfold fX7_start
  rw [phOK h N hp, Option.bind_some, onS_r, k1, Option.bind_some]
  unfold fX1_putInto
  rw [Option.bind_some]
  dsimp only
  rw [plan_gr h hp, rt_some]
theorem set_eq (H : HB v.2.1) (N : Nat) {c : Nat} (hc : c ≤ 5) : ∃ h', HB h' ∧ rt (fX7_set N v (nI c)) = some (v.1.1.2.2.2.2.2.2.2, (((v.1.1.1, v.1.1.2.1, v.1.1.2.2.1, v.1.1.2.2.2.1, v.1.1.2.2.2.2.1, v.1.1.2.2.2.2.2.1, v.1.1.2.2.2.2.2.2.1, nI c), v.1.2), h', v.2.2)) := by
  obtain ⟨h', k1, k2⟩ := keep_eq H N v.1
  refine ⟨h', k2, ?_⟩
  unfold fX7_set
  rw [if_neg (nI_pos (by omega)), if_pos (show nI c ≤ (5 : Int32) from (nI_leI (b := 5) (by omega) (by omega)).mpr hc), k1, Option.bind_some, rt_some]
theorem set_PI {u : SX2} (h : PI u g ho ct) {c : Nat} (hc : c ≤ 5) : PI (u.1, u.2.1, u.2.2.1, u.2.2.2.1, u.2.2.2.2.1, u.2.2.2.2.2.1, u.2.2.2.2.2.2.1, nI c) g ho c := ⟨h.1, ⟨h.2.1.1, rfl, hc⟩, h.2.2⟩
/-- a phase with other greens and another hold -/
def gCh (g : Gr) (p : Nat) (G : Int32) : Gr := (gN g, (fun q => if q = p then G else gG g q), gR g, gO g, gA g)
theorem change_eq (h : PI v.1.1 g ho ct) (H : HB v.2.1) (N : Nat) {p : Nat} (hp : p < gN g) {G : Int32} (hG : ∀ q, bt G q = true → q < 6) {k : Nat} (h1 : 1 ≤ k) (h9 : k ≤ 9) : ∃ h', HB h' ∧ rt (fX7_change N v (nI p) G (nI k)) = some (gG g p, (((v.1.1.1, upd v.1.1.2.1 p G, upd v.1.1.2.2.1 p (nI k), v.1.1.2.2.2), v.1.2), h', v.2.2)) ∧ PI (v.1.1.1, upd v.1.1.2.1 p G, upd v.1.1.2.2.1 p (nI k), v.1.1.2.2.2) (gCh g p G) (fun q => if q = p then k else ho q) ct := by
  obtain ⟨h', k1, k2⟩ := keep_eq H N v.1
  obtain ⟨hP, hH, hB⟩ := h
  have h8 := hP.1
  refine ⟨h', k2, ?_, ⟨h8, hP.2.1, fun q hq => ?_⟩, ⟨fun q hq => ?_, hH.2⟩, fun q hq => ?_⟩
  · unfold fX7_change
    rw [phOK hP N hp, Option.bind_some, onS_r, maskOK N hG, Option.bind_some, onS_r, holdOK N h1 h9, Option.bind_some, onS_r, k1, Option.bind_some, plan_gr hP hp, rowPut_nI (by omega) (by decide), rowPut_nI (by omega) (by decide), rt_some]
  · obtain ⟨a1, a2, a3, a4⟩ := hP.2.2 q hq
    refine ⟨?_, a2, a3, a4⟩
    show upd v.1.1.2.1 p G q = if q = p then G else gG g q
    by_cases z : q = p
    · subst z; rw [upd_same, if_pos rfl]
    · rw [upd_ne z, if_neg z, a1]
  · obtain ⟨a1, a2, a3⟩ := hH.1 q hq
    show upd v.1.1.2.2.1 p (nI k) q = nI (if q = p then k else ho q) ∧ 1 ≤ (if q = p then k else ho q) ∧ (if q = p then k else ho q) ≤ 9
    by_cases z : q = p
    · subst z; rw [upd_same, if_pos rfl]; exact ⟨rfl, h1, h9⟩
    · rw [upd_ne z, if_neg z]; exact ⟨a1, a2, a3⟩
  · show ∀ j, bt (if q = p then G else gG g q) j = true → j < 6
    by_cases z : q = p
    · rw [if_pos z]; exact hG
    · rw [if_neg z]; exact hB q hq
theorem bt_clr (x : Int32) {b : Nat} (hb : b < 32) : bt (x &&& (((1 : Int32) <<< (nI b &&& 31)) ^^^ (-1))) b = false := by
  rw [bt_and, bt_not _ hb, bt_shl1 hb, decide_eq_true rfl]
  simp
theorem bt_on (x : Int32) {b : Nat} (hb : b < 32) : bt (x ||| ((1 : Int32) <<< (nI b &&& 31))) b = true := by
  rw [bt_or, bt_shl1 hb, decide_eq_true rfl]
  simp
theorem clash_eq (H : HB v.2.1) (N : Nat) {a b : Nat} (ha : a < 6) (hb : b < 6) (hab : ¬ a = b) : ∃ C' h', HB h' ∧ rt (fX7_clash N v (nI a) (nI b)) = some (b2i (!bt (v.1.1.1 a) b), (((C', v.1.1.2), v.1.2), h', v.2.2)) ∧ bt (C' b) a = !bt (v.1.1.1 a) b := by
  obtain ⟨h', k1, k2⟩ := keep_eq H N v.1
  have hne : ¬ nI a = nI b := fun z => hab ((nI_eq (by omega) (by omega)).mp z)
  unfold fX7_clash
  rw [dirOK N ha, Option.bind_some, onS_r, dirOK N hb, Option.bind_some, onS_r, if_neg hne, k1, Option.bind_some, rowAt_nI ha (by decide), X7_has_eq N _ (show b < 32 by omega), Option.bind_some]
  unfold fX2_putClash
  cases hc : bt (v.1.1.1 a) b
  · rw [if_pos b2i_f, if_neg (by decide), if_neg (by decide), Option.bind_some, rt_some]
    refine ⟨_, h', k2, rfl, ?_⟩
    rw [rowPut_nI hb (by decide), upd_same, bt_on _ (by omega)]; rfl
  · rw [if_neg b2i_t, if_pos rfl, if_pos rfl, Option.bind_some, rt_some]
    refine ⟨_, h', k2, rfl, ?_⟩
    rw [rowPut_nI hb (by decide), upd_same, bt_clr _ (by omega)]; rfl
/-- one more phase -/
def gAdd (g : Gr) (G : Int32) : Gr := (gN g + 1, (fun q => if q = gN g then G else gG g q), (fun q => if q = gN g then 0 else gR g q), gO g, gA g)
theorem addPhase_eq (h : PI v.1.1 g ho ct) (H : HB v.2.1) (N : Nat) (hn : gN g < 8) {G : Int32} (hG : ∀ q, bt G q = true → q < 6) {k : Nat} (h1 : 1 ≤ k) (h9 : k ≤ 9) : ∃ u h', HB h' ∧ rt (fX7_addPhase N v G (nI k)) = some (nI (gN g), ((u, v.1.2), h', v.2.2)) ∧ PI u (gAdd g G) (fun q => if q = gN g then k else ho q) ct ∧ u.1 = v.1.1.1 := by
  obtain ⟨h', k1, k2⟩ := keep_eq H N v.1
  obtain ⟨hP, hH, hB⟩ := h
  unfold fX7_addPhase
  rw [maskOK N hG, Option.bind_some, onS_r, holdOK N h1 h9, Option.bind_some, onS_r]
  unfold fX2_isFull
  rw [hP.2.1, if_pos (show nI (gN g) < (8 : Int32) from (nI_ltI (b := 8) (by omega) (by omega)).mpr hn), Option.bind_some, if_pos rfl, k1, Option.bind_some]
  unfold fX2_appendPhase
  rw [Option.bind_some, hP.2.1, rowPut_nI hn (by decide), rowPut_nI hn (by decide), rowPut_nI hn (by decide), rt_some]
  refine ⟨_, h', k2, rfl, ⟨⟨by show gN g + 1 ≤ 8; omega, by show nI (gN g) + 1 = nI (gN g + 1); rw [nI_1], fun q hq => ?_⟩, ⟨fun q hq => ?_, hH.2⟩, fun q hq => ?_⟩, rfl⟩
  · have hq2 : q < gN g + 1 := hq
    show upd v.1.1.2.1 (gN g) G q = (if q = gN g then G else gG g q) ∧ upd v.1.1.2.2.2.1 (gN g) 0 q = nI (if q = gN g then 0 else gR g q) ∧ (if q = gN g then 0 else gR g q) ≤ 4 ∧ ∀ r, r < (if q = gN g then 0 else gR g q) → v.1.1.2.2.2.2.1 (4 * q + r) = nI (gO g q r) ∧ gO g q r < gN g + 1 ∧ v.1.1.2.2.2.2.2.1 (4 * q + r) = gA g q r
    by_cases z : q = gN g
    · rw [if_pos z, if_pos z, z, upd_same, upd_same]
      exact ⟨rfl, rfl, by omega, fun r hr => absurd hr (by omega)⟩
    · obtain ⟨a1, a2, a3, a4⟩ := hP.2.2 q (by omega)
      rw [if_neg z, if_neg z, upd_ne z, upd_ne z]
      exact ⟨a1, a2, a3, fun r hr => ⟨(a4 r hr).1, Nat.lt_succ_of_lt (a4 r hr).2.1, (a4 r hr).2.2⟩⟩
  · have hq2 : q < gN g + 1 := hq
    show upd v.1.1.2.2.1 (gN g) (nI k) q = nI (if q = gN g then k else ho q) ∧ 1 ≤ (if q = gN g then k else ho q) ∧ (if q = gN g then k else ho q) ≤ 9
    by_cases z : q = gN g
    · rw [if_pos z, z, upd_same]; exact ⟨rfl, h1, h9⟩
    · rw [if_neg z, upd_ne z]; exact hH.1 q (by omega)
  · have hq2 : q < gN g + 1 := hq
    show ∀ j, bt (if q = gN g then G else gG g q) j = true → j < 6
    by_cases z : q = gN g
    · rw [if_pos z]; exact hG
    · rw [if_neg z]; exact hB q (by omega)
/-- one more rule -/
def gRul (g : Gr) (p q : Nat) (A : Int32) : Gr := (gN g, gG g, (fun u => if u = p then gR g p + 1 else gR g u), (fun u r => if u = p ∧ r = gR g p then q else gO g u r), (fun u r => if u = p ∧ r = gR g p then A else gA g u r))
theorem addRule_eq (h : PI v.1.1 g ho ct) (H : HB v.2.1) (N : Nat) {p q : Nat} (hp : p < gN g) (hq : q < gN g) (hpq : ¬ p = q) (hr : gR g p < 4) {A : Int32} (hA : ∀ j, bt A j = true → j < 6) : ∃ u h', HB h' ∧ rt (fX7_addRule N v (nI p) (nI q) A) = some (nI (gR g p + 1), ((u, v.1.2), h', v.2.2)) ∧ PI u (gRul g p q A) ho ct ∧ u.1 = v.1.1.1 := by
  obtain ⟨h', k1, k2⟩ := keep_eq H N v.1
  obtain ⟨hP, hH, hB⟩ := h
  have h8 := hP.1
  have hne : ¬ nI p = nI q := fun z => hpq ((nI_eq (by omega) (by omega)).mp z)
  unfold fX7_addRule
  rw [phOK hP N hp, Option.bind_some, onS_r, phOK hP N hq, Option.bind_some, onS_r, if_neg hne, maskOK N hA, Option.bind_some, onS_r]
  unfold fX2_isFullOfRules
  rw [plan_rc hP hp, if_pos (show nI (gR g p) < (4 : Int32) from (nI_ltI (b := 4) (by omega) (by omega)).mpr hr), Option.bind_some, if_pos rfl, k1, Option.bind_some]
  unfold fX2_appendRule
  rw [Option.bind_some, plan_rc hP hp, ix4, rowPut_nI (by omega) (by decide), rowPut_nI (by omega) (by decide), rowPut_nI (by omega) (by decide), nI_1, rt_some]
  refine ⟨_, h', k2, rfl, ⟨⟨h8, hP.2.1, fun u hu => ?_⟩, hH, hB⟩, rfl⟩
  obtain ⟨a1, a2, a3, a4⟩ := hP.2.2 u hu
  show v.1.1.2.1 u = gG g u ∧ upd v.1.1.2.2.2.1 p (nI (gR g p + 1)) u = nI (if u = p then gR g p + 1 else gR g u) ∧ (if u = p then gR g p + 1 else gR g u) ≤ 4 ∧ ∀ r, r < (if u = p then gR g p + 1 else gR g u) → upd v.1.1.2.2.2.2.1 (4 * p + gR g p) (nI q) (4 * u + r) = nI (if u = p ∧ r = gR g p then q else gO g u r) ∧ (if u = p ∧ r = gR g p then q else gO g u r) < gN g ∧ upd v.1.1.2.2.2.2.2.1 (4 * p + gR g p) A (4 * u + r) = (if u = p ∧ r = gR g p then A else gA g u r)
  by_cases z : u = p
  · subst z
    rw [if_pos rfl, upd_same]
    refine ⟨a1, rfl, by omega, fun r hr2 => ?_⟩
    by_cases z2 : r = gR g u
    · rw [if_pos ⟨rfl, z2⟩, if_pos ⟨rfl, z2⟩, z2, upd_same, upd_same]
      exact ⟨rfl, hq, rfl⟩
    · rw [if_neg (fun c => z2 c.2), if_neg (fun c => z2 c.2), upd_ne (by omega), upd_ne (by omega)]
      exact a4 r (by omega)
  · rw [if_neg z, upd_ne z]
    refine ⟨a1, a2, a3, fun r hr2 => ?_⟩
    rw [if_neg (fun c => z c.1), if_neg (fun c => z c.1), upd_ne (by omega), upd_ne (by omega)]
    exact a4 r hr2
end ED
