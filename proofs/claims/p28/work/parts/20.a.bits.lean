/-! bits of masks -/
def bt (x : Int32) (k : Nat) : Bool := x.toBitVec.getLsbD k
theorem bt_ge {x : Int32} {k : Nat} (h : 32 ≤ k) : bt x k = false := BitVec.getLsbD_of_ge _ _ h
theorem bt_ext {x y : Int32} (h : ∀ k, k < 32 → bt x k = bt y k) : x = y := by
  have e : x.toBitVec = y.toBitVec := BitVec.eq_of_getLsbD_eq (fun i hi => h i hi)
  exact Int32.toBitVec_inj.mp e
theorem bt_or (x y : Int32) (k : Nat) : bt (x ||| y) k = (bt x k || bt y k) := by
  unfold bt
  rw [Int32.toBitVec_or, BitVec.getLsbD_or]
theorem bt_and (x y : Int32) (k : Nat) : bt (x &&& y) k = (bt x k && bt y k) := by
  unfold bt
  rw [Int32.toBitVec_and, BitVec.getLsbD_and]
theorem bt_xor (x y : Int32) (k : Nat) : bt (x ^^^ y) k = (bt x k ^^ bt y k) := by
  unfold bt
  rw [Int32.toBitVec_xor, BitVec.getLsbD_xor]
theorem bt_0 (k : Nat) : bt 0 k = false := by
  unfold bt
  exact BitVec.getLsbD_zero
theorem bt_m1 {k : Nat} (h : k < 32) : bt (-1) k = true := by
  have : ∀ k : Fin 32, bt (-1) k.val = true := by decide
  exact this ⟨k, h⟩
theorem bt_not (x : Int32) {k : Nat} (h : k < 32) : bt (x ^^^ (-1)) k = !bt x k := by
  rw [bt_xor, bt_m1 h]
  cases bt x k <;> rfl
theorem shift_amt {k : Nat} (h : k < 32) : (((nI k) &&& 31 : Int32).toBitVec.smod 32).toNat = k := by
  have : ∀ k : Fin 32, (((nI k.val) &&& 31 : Int32).toBitVec.smod 32).toNat = k.val := by decide
  exact this ⟨k, h⟩
theorem bt_shl1 {k : Nat} (h : k < 32) (j : Nat) : bt ((1 : Int32) <<< (nI k &&& 31)) j = decide (j = k) := by
  by_cases hj : j < 32
  · have : ∀ k j : Fin 32, bt ((1 : Int32) <<< (nI k.val &&& 31)) j.val = decide (j.val = k.val) := by decide +kernel
    exact this ⟨k, h⟩ ⟨j, hj⟩
  · rw [bt_ge (by omega)]
    have : ¬ j = k := by omega
    simp [this]
theorem bt_toNat (x : Int32) (k : Nat) : bt x k = x.toBitVec.toNat.testBit k := rfl
theorem shr_bit (x : Int32) {k : Nat} (h : k < 32) : (x >>> (nI k &&& 31)) &&& 1 = if bt x k then 1 else 0 := by
  apply bt_ext
  intro j hj
  rw [bt_and]
  by_cases h0 : j = 0
  · subst h0
    have e : bt (x >>> (nI k &&& 31)) 0 = bt x k := by
      unfold bt
      have hsh : (x >>> (nI k &&& 31)).toBitVec = x.toBitVec.sshiftRight ((nI k &&& 31 : Int32).toBitVec.smod 32).toNat := by
        rw [Int32.toBitVec_shiftRight]
        rfl
      rw [hsh, shift_amt h, BitVec.getLsbD_sshiftRight]
      simp
      omega
    rw [e]
    cases bt x k <;> rfl
  · have h1 : bt 1 j = false := by
      have : ∀ j : Fin 32, j.val ≠ 0 → bt 1 j.val = false := by decide
      exact this ⟨j, hj⟩ h0
    rw [h1, Bool.and_false]
    cases bt x k
    · exact (bt_0 j).symm
    · exact h1.symm
def b2i (b : Bool) : Int32 := match b with
  | true => 1
  | false => 0
theorem b2i_f : b2i false = 0 := rfl
theorem b2i_t : ¬ b2i true = 0 := by decide
theorem X7_has_eq (N : Nat) (m : Int32) {k : Nat} (h : k < 32) : fX7_has N m (nI k) = some (b2i (bt m k)) := by
  unfold fX7_has
  rw [shr_bit m h]
  cases bt m k <;> rfl
