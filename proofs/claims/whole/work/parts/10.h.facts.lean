/-! what the law's entry gives -/
set_option maxRecDepth 20000 in
theorem ng_in0 : ∀ w ∈ ngw "java/lang/IllegalArgumentException" 45, w ∈ lw_tbl := by decide +kernel
set_option maxRecDepth 20000 in
theorem ng_in1 : ∀ w ∈ ngw "java/lang/IllegalStateException" 90, w ∈ lw_tbl := by decide +kernel
set_option maxRecDepth 20000 in
theorem ng_in2 : ∀ w ∈ ngw "java/lang/IndexOutOfBoundsException" 202, w ∈ lw_tbl := by decide +kernel
theorem ng_in : ∀ w ∈ ngL, w ∈ lw_tbl := fun w h => (List.mem_append.mp h).elim (fun h => (List.mem_append.mp h).elim (ng_in0 w) (ng_in1 w)) (ng_in2 w)
set_option maxRecDepth 20000 in
theorem st_str1 : ∀ q ∈ strL, Cond.stringRef RX7 q.1 q.2 ∈ lw_tbl := by decide +kernel
section ST
variable {s : State} {b : Nat}
theorem st_str2 (hgv : (Jvm.Cond.and given_1 narrow_1).before #[Value.ref b] s = true) : ∀ q ∈ strL, (Cond.exactly (.string RX7 q.1) "java/lang/String").before #[Value.ref b] s = true := by
  have hs := flat_of_before _ hgv
  have e43 : (Cond.exactly (.string "GreenMachines" 43) "java/lang/String").before #[Value.ref b] s = true := hs _ (by decide +kernel)
  have e88 : (Cond.exactly (.string "GreenMachines" 88) "java/lang/String").before #[Value.ref b] s = true := hs _ (by decide +kernel)
  have e98 : (Cond.exactly (.string "GreenMachines" 98) "java/lang/String").before #[Value.ref b] s = true := hs _ (by decide +kernel)
  have e104 : (Cond.exactly (.string "GreenMachines" 104) "java/lang/String").before #[Value.ref b] s = true := hs _ (by decide +kernel)
  have e113 : (Cond.exactly (.string "GreenMachines" 113) "java/lang/String").before #[Value.ref b] s = true := hs _ (by decide +kernel)
  have e128 : (Cond.exactly (.string "GreenMachines" 128) "java/lang/String").before #[Value.ref b] s = true := hs _ (by decide +kernel)
  have e137 : (Cond.exactly (.string "GreenMachines" 137) "java/lang/String").before #[Value.ref b] s = true := hs _ (by decide +kernel)
  have e154 : (Cond.exactly (.string "GreenMachines" 154) "java/lang/String").before #[Value.ref b] s = true := hs _ (by decide +kernel)
  have e159 : (Cond.exactly (.string "GreenMachines" 159) "java/lang/String").before #[Value.ref b] s = true := hs _ (by decide +kernel)
  have e173 : (Cond.exactly (.string "GreenMachines" 173) "java/lang/String").before #[Value.ref b] s = true := hs _ (by decide +kernel)
  have e182 : (Cond.exactly (.string "GreenMachines" 182) "java/lang/String").before #[Value.ref b] s = true := hs _ (by decide +kernel)
  have e196 : (Cond.exactly (.string "GreenMachines" 196) "java/lang/String").before #[Value.ref b] s = true := hs _ (by decide +kernel)
  have e200 : (Cond.exactly (.string "GreenMachines" 200) "java/lang/String").before #[Value.ref b] s = true := hs _ (by decide +kernel)
  have e213 : (Cond.exactly (.string "GreenMachines" 213) "java/lang/String").before #[Value.ref b] s = true := hs _ (by decide +kernel)
  have e227 : (Cond.exactly (.string "GreenMachines" 227) "java/lang/String").before #[Value.ref b] s = true := hs _ (by decide +kernel)
  have e256 : (Cond.exactly (.string "GreenMachines" 256) "java/lang/String").before #[Value.ref b] s = true := hs _ (by decide +kernel)
  have e340 : (Cond.exactly (.string "GreenMachines" 340) "java/lang/String").before #[Value.ref b] s = true := hs _ (by decide +kernel)
  have e342 : (Cond.exactly (.string "GreenMachines" 342) "java/lang/String").before #[Value.ref b] s = true := hs _ (by decide +kernel)
  have e344 : (Cond.exactly (.string "GreenMachines" 344) "java/lang/String").before #[Value.ref b] s = true := hs _ (by decide +kernel)
  have e346 : (Cond.exactly (.string "GreenMachines" 346) "java/lang/String").before #[Value.ref b] s = true := hs _ (by decide +kernel)
  exact List.forall_mem_cons.mpr ⟨e43, List.forall_mem_cons.mpr ⟨e88, List.forall_mem_cons.mpr ⟨e98, List.forall_mem_cons.mpr ⟨e104, List.forall_mem_cons.mpr ⟨e113, List.forall_mem_cons.mpr ⟨e128, List.forall_mem_cons.mpr ⟨e137, List.forall_mem_cons.mpr ⟨e154, List.forall_mem_cons.mpr ⟨e159, List.forall_mem_cons.mpr ⟨e173, List.forall_mem_cons.mpr ⟨e182, List.forall_mem_cons.mpr ⟨e196, List.forall_mem_cons.mpr ⟨e200, List.forall_mem_cons.mpr ⟨e213, List.forall_mem_cons.mpr ⟨e227, List.forall_mem_cons.mpr ⟨e256, List.forall_mem_cons.mpr ⟨e340, List.forall_mem_cons.mpr ⟨e342, List.forall_mem_cons.mpr ⟨e344, List.forall_mem_cons.mpr ⟨e346, fun _ h => absurd h List.not_mem_nil⟩⟩⟩⟩⟩⟩⟩⟩⟩⟩⟩⟩⟩⟩⟩⟩⟩⟩⟩⟩
theorem st_thrW (hts : ∀ w ∈ lw_tbl, w.before #[Value.ref b] s = true) (hgv : (Jvm.Cond.and given_1 narrow_1).before #[Value.ref b] s = true) : thrW s :=
  ⟨fun w hw => va_Nw.of (cd_on (ngL_cd w hw)) (hts w (ng_in w hw)), fun q hq => by
    obtain ⟨a, c, cell, k, e, -⟩ := Cond.exactly_spec (st_str2 hgv q hq)
    exact ⟨a, vk_R.of (hts _ (st_str1 q hq)) e⟩⟩
theorem st_catW (hts : ∀ w ∈ lw_tbl, w.before #[Value.ref b] s = true) (hgv : (Jvm.Cond.and given_1 narrow_1).before #[Value.ref b] s = true) : catW s := by
  have hs := flat_of_before _ hgv
  have n1 : (Cond.not (.castable "java/lang/IllegalStateException" "java/lang/IllegalArgumentException")).before #[Value.ref b] s = true := hs _ (by decide +kernel)
  have n2 : (Cond.not (.castable "java/lang/IllegalArgumentException" "java/lang/IndexOutOfBoundsException")).before #[Value.ref b] s = true := hs _ (by decide +kernel)
  have n3 : (Cond.not (.castable "java/lang/IllegalStateException" "java/lang/IndexOutOfBoundsException")).before #[Value.ref b] s = true := hs _ (by decide +kernel)
  exact ⟨⟨va_Nw.of rfl (hts _ (show Cond.castable "java/lang/IllegalArgumentException" "java/lang/IllegalArgumentException" ∈ lw_tbl from wt_2 _ (List.mem_of_getElem? (i := 184) rfl))), va_Nw.of rfl (hts _ (show Cond.castable "java/lang/IllegalStateException" "java/lang/IllegalStateException" ∈ lw_tbl from wt_3 _ (List.mem_of_getElem? (i := 179) rfl))), va_Nw.of rfl (hts _ (show Cond.castable "java/lang/IndexOutOfBoundsException" "java/lang/IndexOutOfBoundsException" ∈ lw_tbl from wt_3 _ (List.mem_of_getElem? (i := 58) rfl)))⟩, va_Nc.of n1, va_Nc.of n2, va_Nc.of n3⟩
theorem st_thrH (hts : ∀ w ∈ lw_tbl, w.before #[Value.ref b] s = true) (hgv : (Jvm.Cond.and given_1 narrow_1).before #[Value.ref b] s = true) : thrH (aL s) s s.heap := by
  have hs := flat_of_before _ hgv
  have r1 : (Cond.isRef (.static "java/lang/Throwable" "UNASSIGNED_STACK" "[Ljava/lang/StackTraceElement;")).before #[Value.ref b] s = true := hs _ (by decide +kernel)
  have r2 : (Cond.isRef (.static "java/lang/Throwable" "SUPPRESSED_SENTINEL" "Ljava/util/List;")).before #[Value.ref b] s = true := hs _ (by decide +kernel)
  exact ⟨vx_Zqof (hts _ (show Cond.laysStatic "java/lang/Throwable" "UNASSIGNED_STACK" "[Ljava/lang/StackTraceElement;" ∈ lw_tbl from wt_2 _ (List.mem_of_getElem? (i := 209) rfl))) (hts _ (show Cond.initialized "java/lang/Throwable" ∈ lw_tbl from wt_1 _ (List.mem_of_getElem? (i := 10) rfl))) r1 (fun a ha h => absurd h (Nat.not_le.mpr ha)), vx_Zqof (hts _ (show Cond.laysStatic "java/lang/Throwable" "SUPPRESSED_SENTINEL" "Ljava/util/List;" ∈ lw_tbl from wt_2 _ (List.mem_of_getElem? (i := 211) rfl))) (hts _ (show Cond.initialized "java/lang/Throwable" ∈ lw_tbl from wt_1 _ (List.mem_of_getElem? (i := 10) rfl))) r2 (fun a ha h => absurd h (Nat.not_le.mpr ha))⟩
theorem st_nestG (hts : ∀ w ∈ lw_tbl, w.before #[Value.ref b] s = true) : nestG s := ⟨va_Nw.of rfl (hts _ (show Cond.methodLinkNest RX3 73 yX7_has RX7 ∈ lw_tbl from wt_2 _ (List.mem_of_getElem? (i := 80) rfl))), va_Nw.of rfl (hts _ (show Cond.methodLinkNest RX2 54 yX7_has RX7 ∈ lw_tbl from wt_2 _ (List.mem_of_getElem? (i := 106) rfl))), va_Nw.of rfl (hts _ (show Cond.methodLinkNest RX6 58 yX7_mix RX7 ∈ lw_tbl from wt_3 _ (List.mem_of_getElem? (i := 120) rfl))), va_Nw.of rfl (hts _ (show Cond.methodLinkNest RX1 89 yX7_has RX7 ∈ lw_tbl from wt_4 _ (List.mem_of_getElem? (i := 28) rfl)))⟩
theorem st_nestC (hts : ∀ w ∈ lw_tbl, w.before #[Value.ref b] s = true) : nestC s := ⟨va_Nw.of rfl (hts _ (show Cond.methodLinkNest RX1 11 yX2_init RX7 ∈ lw_tbl from wt_1 _ (List.mem_of_getElem? (i := 34) rfl))), va_Nw.of rfl (hts _ (show Cond.methodLinkNest RX6 22 yX4_init RX7 ∈ lw_tbl from wt_1 _ (List.mem_of_getElem? (i := 163) rfl))), va_Nw.of rfl (hts _ (show Cond.methodLinkNest RX7 25 yX6_init RX7 ∈ lw_tbl from wt_1 _ (List.mem_of_getElem? (i := 155) rfl))), va_Nw.of rfl (hts _ (show Cond.methodLinkNest RX7 32 yX3_init RX7 ∈ lw_tbl from wt_1 _ (List.mem_of_getElem? (i := 199) rfl))), va_AO.of (hts _ (show Cond.arrayOver (.object "GreenMachines$Machine") ∈ lw_tbl from wt_1 _ (List.mem_of_getElem? (i := 140) rfl)))⟩
theorem st_K (hts : ∀ w ∈ lw_tbl, w.before #[Value.ref b] s = true) : ∃ (D : va_G) (cy : Nat → ClassId), va_K D vwCl (tyl cy) s := by
  obtain ⟨c0, i0, h0⟩ := u_known (C := RX0) (T := TX0) (N := 3) (n := 3) hts inX0 (hts _ (show Cond.instantiable RX0 3 ∈ lw_tbl from wt_1 _ (List.mem_of_getElem? (i := 134) rfl)))
  obtain ⟨c1, i1, h1⟩ := u_known (C := RX1) (T := TX1) (N := 10) (n := 10) hts inX1 (hts _ (show Cond.instantiable RX1 10 ∈ lw_tbl from wt_1 _ (List.mem_of_getElem? (i := 27) rfl)))
  obtain ⟨c2, i2, h2⟩ := u_known (C := RX2) (T := TX2) (N := 8) (n := 8) hts inX2 (hts _ (show Cond.instantiable RX2 8 ∈ lw_tbl from wt_1 _ (List.mem_of_getElem? (i := 33) rfl)))
  obtain ⟨c3, i3, h3⟩ := u_known (C := RX3) (T := TX3) (N := 6) (n := 6) hts inX3 (hts _ (show Cond.instantiable RX3 6 ∈ lw_tbl from wt_1 _ (List.mem_of_getElem? (i := 198) rfl)))
  obtain ⟨c4, i4, h4⟩ := u_known (C := RX4) (T := TX4) (N := 6) (n := 6) hts inX4 (hts _ (show Cond.instantiable RX4 6 ∈ lw_tbl from wt_1 _ (List.mem_of_getElem? (i := 162) rfl)))
  obtain ⟨c5, i5, h5⟩ := u_known (C := RX5) (T := TX5) (N := 1) (n := 1) hts inX5 (hts _ (show Cond.instantiable RX5 1 ∈ lw_tbl from wt_1 _ (List.mem_of_getElem? (i := 39) rfl)))
  obtain ⟨c6, i6, h6⟩ := u_known (C := RX6) (T := TX6) (N := 3) (n := 3) hts inX6 (hts _ (show Cond.instantiable RX6 3 ∈ lw_tbl from wt_1 _ (List.mem_of_getElem? (i := 154) rfl)))
  obtain ⟨c7, i7, h7⟩ := u_known (C := RX7) (T := TX7) (N := 4) (n := 4) hts inX7 (hts _ (show Cond.instantiable RX7 4 ∈ lw_tbl from wt_1 _ (List.mem_of_getElem? (i := 19) rfl)))
  obtain ⟨c8, i8, h8⟩ := u_known (C := RX8) (T := TX8) (N := 13) (n := 13) hts inX8 (hts _ (show Cond.instantiable RX8 13 ∈ lw_tbl from wt_4 _ (List.mem_of_getElem? (i := 161) rfl)))
  obtain ⟨ci, ki, cpi, f1, f2, f3⟩ := Cond.arrayClass_spec (hts _ (show Cond.arrayClass .int ∈ lw_tbl from wt_1 _ (List.mem_of_getElem? (i := 48) rfl)))
  obtain ⟨cl, kl, cpl, g1, g2, g3⟩ := Cond.arrayClass_spec (hts _ (show Cond.arrayClass .long ∈ lw_tbl from wt_6 _ (List.mem_of_getElem? (i := 92) rfl)))
  obtain ⟨comp, cq, kq, q1, q2, q3, q4, q5⟩ := Cond.arrayOver_spec (hts _ (show Cond.arrayOver (.object "GreenMachines$Machine") ∈ lw_tbl from wt_1 _ (List.mem_of_getElem? (i := 140) rfl)))
  refine ⟨(fun k => match k with | 0 => c0 | 1 => c1 | 2 => c2 | 3 => c3 | 4 => c4 | 5 => c5 | 6 => c6 | 7 => c7 | _ => c8, fun k => match k with | 0 => i0 | 1 => i1 | 2 => i2 | 3 => i3 | 4 => i4 | 5 => i5 | 6 => i6 | 7 => i7 | _ => i8), fun k => match k with | 0 => ci | 1 => cl | _ => cq, fun k q hq => ?_, fun k q hq => ?_⟩
  · match k, hq with
    | 0, hq => cases hq; exact h0
    | 1, hq => cases hq; exact h1
    | 2, hq => cases hq; exact h2
    | 3, hq => cases hq; exact h3
    | 4, hq => cases hq; exact h4
    | 5, hq => cases hq; exact h5
    | 6, hq => cases hq; exact h6
    | 7, hq => cases hq; exact h7
    | 8, hq => cases hq; exact h8
    | n + 9, hq => simp [vwCl] at hq
  · match k, hq with
    | 0, hq => cases hq; exact ⟨fun n z => ⟨fun k h => (by cases h), ki, f2, cpi, f3⟩, f1⟩
    | 1, hq => cases hq; exact ⟨fun n z => ⟨fun k h => (by cases h), kl, g2, cpl, g3⟩, g1⟩
    | 2, hq => cases hq; exact ⟨fun n z => ⟨fun k h => (by cases h), kq, q3, comp, q4⟩, kq, comp, q3, q4, q1, q5⟩
    | n + 3, hq => simp [tyl] at hq
end ST
