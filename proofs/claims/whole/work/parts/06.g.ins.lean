/-! the graph with a rule put first at p, to t, asked by d -/
def ins (g : Gr) (p t d : Nat) : Gr := (gN g, gG g, fun a => if a = p then gR g p + 1 else gR g a, fun a r => if a = p then (match r with | 0 => t | k + 1 => gO g p k) else gO g a r, fun a r => if a = p then (match r with | 0 => (1 : Int32) <<< (nI d &&& 31) | k + 1 => gA g p k) else gA g a r)
section IN
variable {g : Gr} {p t d : Nat}
theorem ins_A {a : Nat} (ha : ¬ a = p) (r : Nat) : gA (ins g p t d) a r = gA g a r := if_neg ha
theorem ins_O {a : Nat} (ha : ¬ a = p) (r : Nat) : gO (ins g p t d) a r = gO g a r := if_neg ha
theorem ins_R {a : Nat} (ha : ¬ a = p) : gR (ins g p t d) a = gR g a := if_neg ha
theorem ins_Rp : gR (ins g p t d) p = gR g p + 1 := if_pos rfl
theorem ins_O0 : gO (ins g p t d) p 0 = t := if_pos rfl
theorem ins_Os (r : Nat) : gO (ins g p t d) p (r + 1) = gO g p r := if_pos rfl
theorem ins_A0 : gA (ins g p t d) p 0 = (1 : Int32) <<< (nI d &&& 31) := if_pos rfl
theorem ins_As (r : Nat) : gA (ins g p t d) p (r + 1) = gA g p r := if_pos rfl
theorem ins_sur {a : Nat} (ha : ¬ a = p) (e r : Nat) : sur (ins g p t d) e a r = sur g e a r := by
  unfold sur; rw [ins_A ha]
theorem ins_fre {a : Nat} (ha : ¬ a = p) (e : Nat) : ∀ r, fre (ins g p t d) e a r = fre g e a r := by
  intro r
  induction r with
  | zero => rfl
  | succ r ih => rw [fre, fre, ih, ins_sur ha]
theorem ins_ahd {a : Nat} (ha : ¬ a = p) : ∀ r, ahd (ins g p t d) a r = ahd g a r := by
  intro r
  induction r with
  | zero => rfl
  | succ r ih => rw [ahd, ahd, ih, ins_A ha]
theorem ins_fol {a : Nat} (ha : ¬ a = p) (e r : Nat) : fol (ins g p t d) e a r = fol g e a r := by
  unfold fol; rw [ins_fre ha, ins_sur ha, ins_ahd ha, ins_A ha]
theorem ins_sty {a : Nat} (ha : ¬ a = p) (e : Nat) : sty (ins g p t d) e a = sty g e a := by
  unfold sty; rw [ins_R ha, ins_fre ha]
theorem ins_sur0 (hd : d < 32) : sur (ins g p t d) d p 0 = true := by
  unfold sur; rw [ins_A0, bt_shl1 hd, decide_eq_true rfl, Bool.or_true]
theorem ins_fre1 (hd : d < 32) : ∀ r, fre (ins g p t d) d p (r + 1) = false := by
  intro r
  induction r with
  | zero => rw [fre, fre, ins_sur0 hd]; rfl
  | succ r ih => rw [fre, ih]; rfl
theorem ins_stp (hd : d < 32) : sty (ins g p t d) d p = false := by
  unfold sty; rw [ins_Rp, ins_fre1 hd]
theorem ins_fol0 (hd : d < 32) : fol (ins g p t d) d p 0 = true := by
  unfold fol; rw [ins_sur0 hd, fre]; rfl
theorem ins_fol1 (hd : d < 32) (r : Nat) : fol (ins g p t d) d p (r + 1) = false := by
  unfold fol; rw [ins_fre1 hd]; rfl
theorem ins_E (h8 : gN g ≤ 8) (hp : p < gN g) (hd : d < 32) {a : Nat} (ha : a < gN g) (q : Nat) : E0 (ins g p t d) d a q ↔ HE g d (nI p) t a q := by
  unfold E0 HE Edg
  by_cases hap : a = p
  · subst hap
    constructor
    · rintro ⟨r, r1, r2, r3⟩
      cases r with
      | zero => rw [ins_O0] at r3; exact Or.inl ⟨rfl, r3.symm⟩
      | succ r => rw [ins_fol1 hd] at r2; cases r2
    · rintro (⟨-, rfl⟩ | ⟨z, -⟩)
      · exact ⟨0, by rw [ins_Rp]; omega, ins_fol0 hd, ins_O0⟩
      · exact absurd rfl z
  · have hne : ¬ nI a = nI p := fun z => hap ((nI_eq (by omega) (by omega)).mp z)
    constructor
    · rintro ⟨r, r1, r2, r3⟩
      rw [ins_R hap] at r1
      rw [ins_fol hap] at r2
      rw [ins_O hap] at r3
      exact Or.inr ⟨hne, r, r1, r2, r3⟩
    · rintro (⟨z, -⟩ | ⟨-, r, r1, r2, r3⟩)
      · exact absurd z hne
      · exact ⟨r, by rw [ins_R hap]; exact r1, by rw [ins_fol hap]; exact r2, by rw [ins_O hap]; exact r3⟩
theorem ins_S (h8 : gN g ≤ 8) (hp : p < gN g) (hd : d < 32) {a : Nat} (ha : a < gN g) : S0 (ins g p t d) d a ↔ HS g d (nI p) a := by
  unfold S0 HS
  by_cases hap : a = p
  · subst hap
    rw [ins_stp hd]
    exact ⟨fun z => (by cases z), fun z => absurd rfl z.1⟩
  · have hne : ¬ nI a = nI p := fun z => hap ((nI_eq (by omega) (by omega)).mp z)
    rw [ins_sty hap]
    exact ⟨fun z => ⟨hne, z⟩, fun z => z.2⟩
theorem ins_All (h8 : gN g ≤ 8) (hp : p < gN g) {a : Nat} (ha : a < gN g) (q : Nat) : AllE (ins g p t d) (-1) 0 a q ↔ AllE g (nI p) t a q := by
  have hm1 : ¬ nI a = -1 := fun z => nI_pos (show a < 2 ^ 31 by omega) (by rw [z]; decide)
  unfold AllE
  by_cases hap : a = p
  · subst hap
    constructor
    · rintro (⟨r, r1, r2⟩ | ⟨z, -⟩)
      · cases r with
        | zero => rw [ins_O0] at r2; exact Or.inr ⟨rfl, r2.symm⟩
        | succ r =>
          rw [ins_Rp] at r1
          rw [ins_Os] at r2
          exact Or.inl ⟨r, by omega, r2⟩
      · exact absurd z hm1
    · rintro (⟨r, r1, r2⟩ | ⟨-, rfl⟩)
      · exact Or.inl ⟨r + 1, by rw [ins_Rp]; omega, by rw [ins_Os]; exact r2⟩
      · exact Or.inl ⟨0, by rw [ins_Rp]; omega, ins_O0⟩
  · have hne : ¬ nI a = nI p := fun z => hap ((nI_eq (by omega) (by omega)).mp z)
    constructor
    · rintro (⟨r, r1, r2⟩ | ⟨z, -⟩)
      · rw [ins_R hap] at r1
        rw [ins_O hap] at r2
        exact Or.inl ⟨r, r1, r2⟩
      · exact absurd z hm1
    · rintro (⟨r, r1, r2⟩ | ⟨z, -⟩)
      · exact Or.inl ⟨r, by rw [ins_R hap]; exact r1, by rw [ins_O hap]; exact r2⟩
      · exact absurd z hne
/-- with a rule from p to t for d put first, no phase that can come starves d -/
def HlpS (g : Gr) (s d p t : Nat) : Prop := ¬ ∃ q, q < gN g ∧ Cmg g (nI p) t s q ∧ Stv (gN g) (HE g d (nI p) t) (HS g d (nI p)) (GN g d) q
theorem ins_Cmg (h8 : gN g ≤ 8) (hp : p < gN g) (s q : Nat) : Cmg (ins g p t d) (-1) 0 s q ↔ Cmg g (nI p) t s q := by
  unfold Cmg
  constructor
  · rintro ⟨h, k, hk⟩; exact ⟨h, k, (Way_congr (fun a ha b => ins_All h8 hp ha b) k s q h).mp hk⟩
  · rintro ⟨h, k, hk⟩; exact ⟨h, k, (Way_congr (fun a ha b => ins_All h8 hp ha b) k s q h).mpr hk⟩
theorem ins_Sv (h8 : gN g ≤ 8) (hp : p < gN g) (hd : d < 32) {q : Nat} (hq : q < gN g) : Sv (ins g p t d) d q ↔ Stv (gN g) (HE g d (nI p) t) (HS g d (nI p)) (GN g d) q := by
  exact Stv_congr (fun a ha b => ins_E h8 hp hd ha b) (fun a ha => ins_S h8 hp hd ha) hq
theorem ins_SvA (h8 : gN g ≤ 8) (hp : p < gN g) (hd : d < 32) (s : Nat) : SvA (ins g p t d) s d ↔ ¬ HlpS g s d p t := by
  unfold HlpS SvA
  rw [Classical.not_not]
  constructor
  · rintro ⟨q, q1, q2, q3⟩
    exact ⟨q, q1, (ins_Cmg h8 hp s q).mp q2, (ins_Sv h8 hp hd q1).mp q3⟩
  · rintro ⟨q, q1, q2, q3⟩
    exact ⟨q, q1, (ins_Cmg h8 hp s q).mpr q2, (ins_Sv h8 hp hd q1).mpr q3⟩
end IN
