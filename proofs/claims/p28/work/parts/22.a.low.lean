/-! the law's small methods -/
theorem nI_div {y n : Nat} (hy : y < 2 ^ 31) (hn : n < 2 ^ 31) : nI y / nI n = nI (y / n) := by
  apply Int32.toInt_inj.mp
  have h1 : y / n < 2 ^ 31 := Nat.lt_of_le_of_lt (Nat.div_le_self _ _) hy
  rw [Int32.toInt_div, nI_toInt hy, nI_toInt hn, nI_toInt h1, ← Int.ofNat_tdiv]
  generalize y / n = c at h1 ⊢
  refine Int.bmod_eq_of_le ?_ ?_ <;> omega
theorem nI_sub {a b : Nat} (h : b ≤ a) : nI a - nI b = nI (a - b) := by
  rw [show nI a = nI (a - b) + nI b by rw [nI_add, Nat.sub_add_cancel h], Int32.add_sub_cancel]
theorem nI_rem {y n : Nat} (hy : y < 2 ^ 31) (hn : n < 2 ^ 31) : nI y - nI y / nI n * nI n = nI (y % n) := by
  rw [nI_div hy hn, nI_mul, nI_sub (Nat.div_mul_le_self y n), show y - y / n * n = y % n from by rw [Nat.mod_def, Nat.mul_comm]]
theorem pos_of (x : Int32) : ∃ y, y < 2 ^ 31 ∧ x &&& 2147483647 = nI y := by
  refine ⟨(x &&& 2147483647).toBitVec.toNat, ?_, (nI_toNat _).symm⟩
  rw [Int32.toBitVec_and, BitVec.toNat_and]
  exact Nat.lt_of_le_of_lt Nat.and_le_right (by decide)
theorem low_eq (N : Nat) (x : Int32) {n : Nat} (h1 : 1 ≤ n) (hn : n < 2 ^ 31) : ∃ k, k < n ∧ fL_low N x (nI n) = some (nI k) := by
  obtain ⟨y, hy, e⟩ := pos_of x
  refine ⟨y % n, Nat.mod_lt _ h1, ?_⟩
  unfold fL_low
  have hne : ¬ nI n = 0 := fun z => by
    have z2 : nI n = nI 0 := z
    rw [nI_eq hn (by omega)] at z2; omega
  rw [decide_eq_true hne]
  show some _ = some _
  rw [e, nI_rem hy hn]
theorem cell_eq (N : Nat) {sn : Nat} (hs : sn < 2 ^ 31) (sx : Nat → Int32) {k : Nat} (hk : k < 2 ^ 31) : ∃ r, fL_cell N sn sx (nI k) = some r := by
  unfold fL_cell
  by_cases z : nI sn ≤ nI k
  · rw [if_pos z]; exact ⟨_, rfl⟩
  · rw [if_neg z]
    rw [nI_leI hs hk] at z
    rw [chk_nI (by omega) hs]; exact ⟨_, rfl⟩
/-- greens by the law's own numbers -/
def gnw (g : Gr) (s l f : Nat) : Int32 := if l = 0 then gG g s else gG g s &&& gG g f
theorem le0 {l : Nat} (hl : l < 2 ^ 31) : nI l ≤ 0 ↔ l = 0 := by
  show nI l ≤ nI 0 ↔ l = 0
  rw [nI_leI hl (by omega)]; omega
theorem gnow_gnw {m : SX1} {g : Gr} {s l f : Nat} (h : PG m.1 g) (hN : Now m g s l f) : gnow m = gnw g s l f := by
  obtain ⟨hs, e1, hl, e2, e3⟩ := hN
  unfold gnow gnw
  rw [e1, e2, plan_gr h hs]
  by_cases z : l = 0
  · rw [if_pos ((le0 (by omega)).mpr z), if_pos z]
  · rw [if_neg (fun c => z ((le0 (by omega)).mp c)), if_neg z, (e3 (by omega)).2, plan_gr h (e3 (by omega)).1]
theorem c2_5 {α : Type} (k : Option α) : chk 2 5 k = k := chk_nI (i := 2) (by decide) (by decide) k
theorem c0_5 {α : Type} (k : Option α) : chk 0 5 k = k := chk_nI (i := 0) (by decide) (by decide) k
theorem c1_5 {α : Type} (k : Option α) : chk 1 5 k = k := chk_nI (i := 1) (by decide) (by decide) k
theorem c3_5 {α : Type} (k : Option α) : chk 3 5 k = k := chk_nI (i := 3) (by decide) (by decide) k
theorem c4_5 {α : Type} (k : Option α) : chk 4 5 k = k := chk_nI (i := 4) (by decide) (by decide) k
theorem t0 : (0 : Int32).toNatClampNeg = 0 := nI_clamp (n := 0) (by decide)
theorem t1 : (1 : Int32).toNatClampNeg = 1 := nI_clamp (n := 1) (by decide)
theorem t2 : (2 : Int32).toNatClampNeg = 2 := nI_clamp (n := 2) (by decide)
theorem t3 : (3 : Int32).toNatClampNeg = 3 := nI_clamp (n := 3) (by decide)
theorem t4 : (4 : Int32).toNatClampNeg = 4 := nI_clamp (n := 4) (by decide)
/-- the law's numbers of where the machine is -/
def AtL (a1 : SQ5) (g : Gr) (s l f : Nat) : Prop := s < gN g ∧ l ≤ 5 ∧ a1 0 = nI s ∧ a1 2 = nI l ∧ (1 ≤ l → f < gN g ∧ a1 3 = nI f)
theorem greens_eq {v : SX7} {g : Gr} (h : PG v.1.1 g) (N : Nat) {a1 : SQ5} {s l f : Nat} (hA : AtL a1 g s l f) : fL_greens N v a1 = some (gnw g s l f, v) := by
  obtain ⟨hs, hl, e0, e2, e3⟩ := hA
  unfold fL_greens gnw
  simp only [c2_5, c0_5, c3_5, t0, t2, t3, e0, e2]
  by_cases z : l = 0
  · rw [if_pos ((le0 (by omega)).mpr z), if_pos z, phase0 h N hs]; rfl
  · obtain ⟨hf, e4⟩ := e3 (by omega)
    rw [if_neg (fun c => z ((le0 (by omega)).mp c)), if_neg z, e4, phase0 h N hs, Option.bind_some]
    simp only [phase0 h N hf, Option.bind_some]
