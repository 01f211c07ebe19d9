/-! what the law's entry gives -/
section ST
variable {s : State} {b : Nat}
theorem st_nestG (hts : ∀ w ∈ lw_tbl, w.before #[Value.ref b] s = true) : nestG s := ⟨va_Nw.of rfl (hts _ (show Cond.methodLinkNest RX3 73 yX7_has RX7 ∈ lw_tbl from wt_3 _ (List.mem_of_getElem? (i := 20) rfl))), va_Nw.of rfl (hts _ (show Cond.methodLinkNest RX2 54 yX7_has RX7 ∈ lw_tbl from wt_3 _ (List.mem_of_getElem? (i := 3) rfl))), trivial, va_Nw.of rfl (hts _ (show Cond.methodLinkNest RX1 89 yX7_has RX7 ∈ lw_tbl from wt_2 _ (List.mem_of_getElem? (i := 164) rfl)))⟩
theorem st_nestC (hts : ∀ w ∈ lw_tbl, w.before #[Value.ref b] s = true) : nestC s := ⟨va_Nw.of rfl (hts _ (show Cond.methodLinkNest RX1 11 yX2_init RX7 ∈ lw_tbl from wt_1 _ (List.mem_of_getElem? (i := 33) rfl))), va_Nw.of rfl (hts _ (show Cond.methodLinkNest RX6 22 yX4_init RX7 ∈ lw_tbl from wt_1 _ (List.mem_of_getElem? (i := 162) rfl))), va_Nw.of rfl (hts _ (show Cond.methodLinkNest RX7 25 yX6_init RX7 ∈ lw_tbl from wt_1 _ (List.mem_of_getElem? (i := 154) rfl))), va_Nw.of rfl (hts _ (show Cond.methodLinkNest RX7 32 yX3_init RX7 ∈ lw_tbl from wt_1 _ (List.mem_of_getElem? (i := 197) rfl))), va_AO.of (hts _ (show Cond.arrayOver (.object "GreenMachines$Machine") ∈ lw_tbl from wt_1 _ (List.mem_of_getElem? (i := 139) rfl)))⟩
theorem st_K (hts : ∀ w ∈ lw_tbl, w.before #[Value.ref b] s = true) : ∃ (D : va_G) (cy : Nat → ClassId), va_K D vwCl (tyl cy) s := by
  obtain ⟨c0, i0, h0⟩ := u_known (C := RX0) (T := TX0) (N := 3) (n := 3) hts inX0 (hts _ (show Cond.instantiable RX0 3 ∈ lw_tbl from wt_1 _ (List.mem_of_getElem? (i := 133) rfl)))
  obtain ⟨c1, i1, h1⟩ := u_known (C := RX1) (T := TX1) (N := 10) (n := 10) hts inX1 (hts _ (show Cond.instantiable RX1 10 ∈ lw_tbl from wt_1 _ (List.mem_of_getElem? (i := 26) rfl)))
  obtain ⟨c2, i2, h2⟩ := u_known (C := RX2) (T := TX2) (N := 8) (n := 8) hts inX2 (hts _ (show Cond.instantiable RX2 8 ∈ lw_tbl from wt_1 _ (List.mem_of_getElem? (i := 32) rfl)))
  obtain ⟨c3, i3, h3⟩ := u_known (C := RX3) (T := TX3) (N := 6) (n := 6) hts inX3 (hts _ (show Cond.instantiable RX3 6 ∈ lw_tbl from wt_1 _ (List.mem_of_getElem? (i := 196) rfl)))
  obtain ⟨c4, i4, h4⟩ := u_known (C := RX4) (T := TX4) (N := 6) (n := 6) hts inX4 (hts _ (show Cond.instantiable RX4 6 ∈ lw_tbl from wt_1 _ (List.mem_of_getElem? (i := 161) rfl)))
  obtain ⟨c5, i5, h5⟩ := u_known (C := RX5) (T := TX5) (N := 1) (n := 1) hts inX5 (hts _ (show Cond.instantiable RX5 1 ∈ lw_tbl from wt_1 _ (List.mem_of_getElem? (i := 38) rfl)))
  obtain ⟨c6, i6, h6⟩ := u_known (C := RX6) (T := TX6) (N := 3) (n := 3) hts inX6 (hts _ (show Cond.instantiable RX6 3 ∈ lw_tbl from wt_1 _ (List.mem_of_getElem? (i := 153) rfl)))
  obtain ⟨c7, i7, h7⟩ := u_known (C := RX7) (T := TX7) (N := 4) (n := 4) hts inX7 (hts _ (show Cond.instantiable RX7 4 ∈ lw_tbl from wt_1 _ (List.mem_of_getElem? (i := 18) rfl)))
  obtain ⟨ci, ki, cpi, f1, f2, f3⟩ := Cond.arrayClass_spec (hts _ (show Cond.arrayClass .int ∈ lw_tbl from wt_1 _ (List.mem_of_getElem? (i := 47) rfl)))
  obtain ⟨comp, cq, kq, q1, q2, q3, q4, q5⟩ := Cond.arrayOver_spec (hts _ (show Cond.arrayOver (.object "GreenMachines$Machine") ∈ lw_tbl from wt_1 _ (List.mem_of_getElem? (i := 139) rfl)))
  refine ⟨(fun k => match k with | 0 => c0 | 1 => c1 | 2 => c2 | 3 => c3 | 4 => c4 | 5 => c5 | 6 => c6 | _ => c7, fun k => match k with | 0 => i0 | 1 => i1 | 2 => i2 | 3 => i3 | 4 => i4 | 5 => i5 | 6 => i6 | _ => i7), fun k => match k with | 0 => ci | _ => cq, fun k q hq => ?_, fun k q hq => ?_⟩
  · match k, hq with
    | 0, hq => cases hq; exact h0
    | 1, hq => cases hq; exact h1
    | 2, hq => cases hq; exact h2
    | 3, hq => cases hq; exact h3
    | 4, hq => cases hq; exact h4
    | 5, hq => cases hq; exact h5
    | 6, hq => cases hq; exact h6
    | 7, hq => cases hq; exact h7
    | n + 8, hq => simp [vwCl] at hq
  · match k, hq with
    | 0, hq => cases hq; exact ⟨fun n z => ⟨fun k h => (by cases h), ki, f2, cpi, f3⟩, f1⟩
    | 1, hq => cases hq; exact ⟨fun n z => ⟨fun k h => (by cases h), kq, q3, comp, q4⟩, kq, comp, q3, q4, q1, q5⟩
    | n + 2, hq => simp [tyl] at hq
end ST
