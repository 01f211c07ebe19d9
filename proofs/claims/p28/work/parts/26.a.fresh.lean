/-! the fresh object -/
def tst {α : Type} (o : Option α) (f : α → Bool) : Bool := match o with
  | some p => f p
  | none => false
theorem tst_of {α : Type} {o : Option α} {f : α → Bool} (h : tst o f = true) : ∃ p, o = some p ∧ f p = true := by
  cases o with
  | none => cases h
  | some p => exact ⟨p, rfl, h⟩
def rAll (f : Nat → Int32) (x : Int32) : Nat → Bool
  | 0 => true
  | n + 1 => decide (f n = x) && rAll f x n
theorem rAll_of {f : Nat → Int32} {x : Int32} : ∀ n, rAll f x n = true → ∀ i, i < n → f i = x := by
  intro n
  induction n with
  | zero => intro _ i hi; omega
  | succ n ih =>
    intro h i hi
    have h2 : (decide (f n = x) && rAll f x n) = true := h
    rw [Bool.and_eq_true, decide_eq_true_iff] at h2
    by_cases z : i = n
    · rw [z]; exact h2.1
    · exact ih h2.2 i (by omega)
def chkM (v : SX7) : Bool := decide (v.1.1.2.2.2.2.2.2.1 = 0) && (decide (v.1.1.2.2.2.2.2.2.2 = 2) && (decide (v.1.2.2.2.2.2.1 = 0) && (decide (v.1.2.2.2.2.2.2.2.1 = 0) && (decide (v.1.2.2.2.2.2.2.2.2.1 = 0) && (decide (v.1.2.2.2.2.2.2.2.2.2 = 0) && (rAll v.1.2.1 (-1) 6 && (rAll v.1.2.2.1 0 6 && (rAll v.1.2.2.2.1 0 6 && (rAll v.1.2.2.2.2.1 0 8 && (decide (v.2.1.2.1 = 0) && decide (v.2.1.2.2 = 0)))))))))))
def preT : Bool := tst (rt (fX7_count 1000 iG 1)) fun r1 => decide (r1.1 = -1) && tst (rt (fX7_count 1000 r1.2 2)) fun r4 => decide (r4.1 = -1) && tst (rt (fX7_run 1000 r4.2 3)) fun r7 => decide (r7.1 = 0) && tst (rt (fX7_come 1000 r7.2 2)) fun r10 => decide (r10.1 = 0) && tst (rt (fX7_run 1000 r10.2 2)) fun r13 => decide (r13.1 = 1) && tst (rt (fX7_direction 1000 r13.2 2 1)) fun r16 => decide (r16 = 2) && tst (rt (fX7_count 1000 r13.2 9)) fun r19 => decide (r19.1 = 5) && tst (rt (fX7_undo 1000 r19.2)) fun r22 => decide (¬ r22.1 < 0) && tst (rt (fX7_undo 1000 r22.2)) fun r25 => decide (¬ r25.1 < 0) && tst (rt (fX7_undo 1000 r25.2)) fun r28 => decide (¬ r28.1 < 0) && tst (rt (fX7_count 1000 r28.2 10)) fun r31 => decide (r31.1 = 0) && chkM r31.2
theorem preT_ok : preT = true := by decide +kernel
theorem pre_eq : ∃ v0, chkM v0 = true ∧ ∀ (sn : Nat) (sx : Nat → Int32), fL_lawA 1000 sn sx iG = (fL_build 1000 sn sx v0 0 4).bind fun r34 => if r34.1 = 0 then none else (fL_cell 1000 sn sx 0).bind fun r37 => (fL_low 1000 (r37 >>> (6 &&& 31)) 4).bind fun r39 => some (r34.2, r39) := by
  have h := preT_ok
  unfold preT at h
  obtain ⟨r1, e1, h⟩ := tst_of h
  obtain ⟨c1, h⟩ := (Bool.and_eq_true _ _).mp h
  obtain ⟨r2, e2, h⟩ := tst_of h
  obtain ⟨c2, h⟩ := (Bool.and_eq_true _ _).mp h
  obtain ⟨r3, e3, h⟩ := tst_of h
  obtain ⟨c3, h⟩ := (Bool.and_eq_true _ _).mp h
  obtain ⟨r4, e4, h⟩ := tst_of h
  obtain ⟨c4, h⟩ := (Bool.and_eq_true _ _).mp h
  obtain ⟨r5, e5, h⟩ := tst_of h
  obtain ⟨c5, h⟩ := (Bool.and_eq_true _ _).mp h
  obtain ⟨r6, e6, h⟩ := tst_of h
  obtain ⟨c6, h⟩ := (Bool.and_eq_true _ _).mp h
  obtain ⟨r7, e7, h⟩ := tst_of h
  obtain ⟨c7, h⟩ := (Bool.and_eq_true _ _).mp h
  obtain ⟨r8, e8, h⟩ := tst_of h
  obtain ⟨c8, h⟩ := (Bool.and_eq_true _ _).mp h
  obtain ⟨r9, e9, h⟩ := tst_of h
  obtain ⟨c9, h⟩ := (Bool.and_eq_true _ _).mp h
  obtain ⟨r10, e10, h⟩ := tst_of h
  obtain ⟨c10, h⟩ := (Bool.and_eq_true _ _).mp h
  obtain ⟨r11, e11, h⟩ := tst_of h
  obtain ⟨c11, h⟩ := (Bool.and_eq_true _ _).mp h
  refine ⟨r11.2, h, fun sn sx => ?_⟩
  unfold fL_lawA
  rw [e1, Option.bind_some, if_pos (of_decide_eq_true c1), e2, Option.bind_some, if_pos (of_decide_eq_true c2), e3, Option.bind_some, if_pos (of_decide_eq_true c3), e4, Option.bind_some, if_pos (of_decide_eq_true c4), e5, Option.bind_some, if_pos (of_decide_eq_true c5), e6, Option.bind_some, if_pos (of_decide_eq_true c6), e7, Option.bind_some, if_pos (of_decide_eq_true c7), e8, Option.bind_some, if_neg (of_decide_eq_true c8), e9, Option.bind_some, if_neg (of_decide_eq_true c9), e10, Option.bind_some, if_neg (of_decide_eq_true c10), e11, Option.bind_some, if_pos (of_decide_eq_true c11)]
