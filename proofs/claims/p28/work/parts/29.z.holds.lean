theorem law_holds (sn : Nat) (hs : sn ≤ 260) (sx : Nat → Int32) : ∃ (N : Nat) (v' : SX7) (z2 : Int32), fL_lawA N sn sx iG = some (v', z2) ∧ fL_lawB N sn sx v' (fun _ => 0) (fun _ => 0) (fun _ => 0) z2 = some () := by
  sorry
