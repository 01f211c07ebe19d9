/-! the law's loop -/
theorem inI {k n : Nat} (h : k < n) (hn : n < 2 ^ 31) : vp_in (nI k) n := fun q => q.elim (fun q => nI_pos (by omega) q) (fun q => by
  rw [nI_clamp (by omega)] at q
  omega)
theorem inI_add {k j n : Nat} (h : k + j < n) (hn : n < 2 ^ 31) : vp_in (nI k + nI j) n := by
  rw [nI_add]
  exact inI h hn
theorem and31 (v : Int32) : ∃ k, k < 32 ∧ v &&& 31 = nI k := by
  refine ⟨(v &&& 31).toBitVec.toNat, ?_, (nI_toNat _).symm⟩
  rw [Int32.toBitVec_and, BitVec.toNat_and]
  exact Nat.lt_of_le_of_lt Nat.and_le_right (by decide)
theorem sub4 {n t : Nat} (hn : n ≤ 2048) (h : 4 * t ≤ n) : Int32.ofNat n - 4 < nI (4 * t) ↔ n < 4 * t + 4 := by
  by_cases h4 : 4 ≤ n
  · have e : Int32.ofNat n = nI (n - 4) + 4 := by
      rw [show (4 : Int32) = nI 4 from rfl, nI_add, show n - 4 + 4 = n by omega]
      rfl
    rw [e, Int32.add_sub_cancel, nI_ltI (by omega) (by omega)]
    omega
  · have ht : t = 0 := by omega
    subst ht
    rcases (show n = 0 ∨ n = 1 ∨ n = 2 ∨ n = 3 by omega) with rfl | rfl | rfl | rfl <;> decide
section VC
variable {p : Program} {l : Launch} {e : Env} {s : State} {m : MethodId} {below : List Frame} {meth : Method} {c : Code} {nme : String} {D : va_G} {cy : Nat → ClassId} {b n : Nat} {xs : Nat → Int32} {a a' : Nat → Nat} {ho : Nat} {f : Nat → Int64} {γ : SX7} {ρ : SX8} {cells slots : Nat}
theorem law_exit {t : Nat} (F : Fx p s m #[.ref b] meth c cL_law 9 RL nme lw_tbl ret D cy (aL s)) (G : FxL s b n xs) (hn : n ≤ 2048) (ht : 4 * t ≤ n) (he : n < 4 * t + 4) (hcl : cells ≤ 601024) (hsl : slots ≤ 7293034) {w : va_W} : V p l e room_1 s m #[.ref b] below meth c 9 D (aL s) cells slots (lw_Z below #[.ref b] s) w [(4, .int (nI (4 * t))), (3, .ref ho), (2, .ref (a' 0)), (1, .ref (a 0)), (0, .ref b)] [] 23 := by
  refine V_iload (pc := 23) F dL_law_23 0 rfl ?_
  refine V_aload_n (pc := 25) F dL_law_25 rfl 4 rfl ?_
  refine V_slen (pc := 26) F G.2.2.2.1 G.2.2.2.2 G.nb dL_law_26 ?_
  refine V_iconst (pc := 27) (v := 4) F dL_law_27 rfl ?_
  refine V_isub (pc := 28) F dL_law_28 ?_
  refine V_icmp_gt (pc := 29) (tgt := 1532) F dL_law_29 (by decide) (fun _ => ?_) (fun h => absurd ((sub4 hn ht).mpr he) h)
  refine V_iconst (pc := 1532) (v := 1) F dL_law_1532 rfl ?_
  exact V_true F hcl hsl
set_option maxHeartbeats 4000000 in
theorem law_turn {t : Nat} (hfl : l.stackTraces = false) (F : Fx p s m #[.ref b] meth c cL_law 9 RL nme lw_tbl ret D cy (aL s)) (G : FxL s b n xs) (hn : n ≤ 2048) (he : 4 * t + 4 ≤ n) (hcl : cells + 1 ≤ room_1.cells) (hsl : slots + 6 ≤ room_1.slots) (S : SR γ ρ) (K : KL p l e s m below meth c D cy b a a' ho cells slots (nI (4 * t))) : V p l e room_1 s m #[.ref b] below meth c 9 D (aL s) cells slots (lw_Z below #[.ref b] s) ((wX7 cy a γ ++ wX8 cy a' ρ) ++ [oc cy ho f]) [(4, .int (nI (4 * t))), (3, .ref ho), (2, .ref (a' 0)), (1, .ref (a 0)), (0, .ref b)] [] 23 := by
  have ht : 4 * t ≤ n := by omega
  have i1 : vp_in (nI (4 * t) + 1) n := inI_add (j := 1) (by omega) (by omega)
  have i2 : vp_in (nI (4 * t) + 2) n := inI_add (j := 2) (by omega) (by omega)
  have i3 : vp_in (nI (4 * t) + 3) n := inI_add (j := 3) (by omega) (by omega)
  refine V_iload (pc := 23) F dL_law_23 0 rfl ?_
  refine V_aload_n (pc := 25) F dL_law_25 rfl 4 rfl ?_
  refine V_slen (pc := 26) F G.2.2.2.1 G.2.2.2.2 G.nb dL_law_26 ?_
  refine V_iconst (pc := 27) (v := 4) F dL_law_27 rfl ?_
  refine V_isub (pc := 28) F dL_law_28 ?_
  refine V_icmp_gt (pc := 29) (tgt := 1532) F dL_law_29 (by decide) (fun h => absurd ((sub4 hn ht).mp h) (by omega)) (fun _ => ?_)
  refine V_aload_n (pc := 32) F dL_law_32 rfl 4 rfl ?_
  refine V_iload (pc := 33) F dL_law_33 0 rfl ?_
  refine V_sld (pc := 35) F G.2.2.2.1 G.2.2.2.2 G.nb (inI (by omega) (by omega)) dL_law_35 ?_
  refine V_bipush (pc := 36) (v := 31) F dL_law_36 rfl ?_
  refine V_iand (pc := 38) F dL_law_38 ?_
  obtain ⟨k, hk, ek⟩ := and31 (xs (nI (4 * t)).toNatClampNeg)
  rw [ek]
  rcases (show k = 0 ∨ k = 1 ∨ k = 2 ∨ k = 3 ∨ k = 4 ∨ k = 5 ∨ k = 6 ∨ k = 7 ∨ k = 8 ∨ k = 9 ∨ k = 10 ∨ k = 11 ∨ k = 12 ∨ k = 13 ∨ k = 14 ∨ k = 15 ∨ k = 16 ∨ k = 17 ∨ k = 18 ∨ k = 19 ∨ k = 20 ∨ k = 21 ∨ k = 22 ∨ k = 23 ∨ k = 24 ∨ 25 ≤ k by omega) with rfl | rfl | rfl | rfl | rfl | rfl | rfl | rfl | rfl | rfl | rfl | rfl | rfl | rfl | rfl | rfl | rfl | rfl | rfl | rfl | rfl | rfl | rfl | rfl | rfl | hk2
  · exact V_tableIn (pc := 39) (tgt := 152) (off := 113) F dL_law_39 (by decide) (by decide) (by decide) (by decide) (law_clash hfl F G hcl hsl S i1 i2 i3 K)
  · exact V_tableIn (pc := 39) (tgt := 220) (off := 181) F dL_law_39 (by decide) (by decide) (by decide) (by decide) (law_addPhase hfl F G hcl hsl S i1 i2 i3 K)
  · exact V_tableIn (pc := 39) (tgt := 288) (off := 249) F dL_law_39 (by decide) (by decide) (by decide) (by decide) (law_addRule hfl F G hcl hsl S i1 i2 i3 K)
  · exact V_tableIn (pc := 39) (tgt := 368) (off := 329) F dL_law_39 (by decide) (by decide) (by decide) (by decide) (law_dropRule hfl F G hcl hsl S i1 i2 i3 K)
  · exact V_tableIn (pc := 39) (tgt := 424) (off := 385) F dL_law_39 (by decide) (by decide) (by decide) (by decide) (law_change hfl F G hcl hsl S i1 i2 i3 K)
  · exact V_tableIn (pc := 39) (tgt := 504) (off := 465) F dL_law_39 (by decide) (by decide) (by decide) (by decide) (law_set hfl F G hcl hsl S i1 i2 i3 K)
  · exact V_tableIn (pc := 39) (tgt := 560) (off := 521) F dL_law_39 (by decide) (by decide) (by decide) (by decide) (law_come hfl F G hcl hsl S i1 i2 i3 K)
  · exact V_tableIn (pc := 39) (tgt := 616) (off := 577) F dL_law_39 (by decide) (by decide) (by decide) (by decide) (law_run hfl F G hcl hsl S i1 i2 i3 K)
  · exact V_tableIn (pc := 39) (tgt := 672) (off := 633) F dL_law_39 (by decide) (by decide) (by decide) (by decide) (law_start hfl F G hcl hsl S i1 i2 i3 K)
  · exact V_tableIn (pc := 39) (tgt := 728) (off := 689) F dL_law_39 (by decide) (by decide) (by decide) (by decide) (law_append hfl F G hcl hsl S i1 i2 i3 K)
  · exact V_tableIn (pc := 39) (tgt := 784) (off := 745) F dL_law_39 (by decide) (by decide) (by decide) (by decide) (law_clearBuffer hfl F G hcl hsl S i1 i2 i3 K)
  · exact V_tableIn (pc := 39) (tgt := 797) (off := 758) F dL_law_39 (by decide) (by decide) (by decide) (by decide) (law_firstError hfl F G hcl hsl S i1 i2 i3 K)
  · exact V_tableIn (pc := 39) (tgt := 810) (off := 771) F dL_law_39 (by decide) (by decide) (by decide) (by decide) (law_build hfl F G hcl hsl S i1 i2 i3 K)
  · exact V_tableIn (pc := 39) (tgt := 854) (off := 815) F dL_law_39 (by decide) (by decide) (by decide) (by decide) (law_undo hfl F G hcl hsl S i1 i2 i3 K)
  · exact V_tableIn (pc := 39) (tgt := 898) (off := 859) F dL_law_39 (by decide) (by decide) (by decide) (by decide) (law_phase hfl F G hcl hsl S i1 i2 i3 K)
  · exact V_tableIn (pc := 39) (tgt := 966) (off := 927) F dL_law_39 (by decide) (by decide) (by decide) (by decide) (law_rule hfl F G hcl hsl S i1 i2 i3 K)
  · exact V_tableIn (pc := 39) (tgt := 1046) (off := 1007) F dL_law_39 (by decide) (by decide) (by decide) (by decide) (law_direction hfl F G hcl hsl S i1 i2 i3 K)
  · exact V_tableIn (pc := 39) (tgt := 1114) (off := 1075) F dL_law_39 (by decide) (by decide) (by decide) (by decide) (law_count hfl F G hcl hsl S i1 i2 i3 K)
  · exact V_tableIn (pc := 39) (tgt := 1170) (off := 1131) F dL_law_39 (by decide) (by decide) (by decide) (by decide) (law_starves hfl F G hcl hsl S i1 i2 i3 K)
  · exact V_tableIn (pc := 39) (tgt := 1238) (off := 1199) F dL_law_39 (by decide) (by decide) (by decide) (by decide) (law_rounds hfl F G hcl hsl S i1 i2 i3 K)
  · exact V_tableIn (pc := 39) (tgt := 1294) (off := 1255) F dL_law_39 (by decide) (by decide) (by decide) (by decide) (law_waitFor hfl F G hcl hsl S i1 i2 i3 K)
  · exact V_tableIn (pc := 39) (tgt := 1390) (off := 1351) F dL_law_39 (by decide) (by decide) (by decide) (by decide) (law_slowest hfl F G hcl hsl S i1 i2 i3 K)
  · exact V_tableIn (pc := 39) (tgt := 1403) (off := 1364) F dL_law_39 (by decide) (by decide) (by decide) (by decide) (law_remedy hfl F G hcl hsl S i1 i2 i3 K)
  · exact V_tableIn (pc := 39) (tgt := 1471) (off := 1432) F dL_law_39 (by decide) (by decide) (by decide) (by decide) (law_safeShare hfl F G hcl hsl S i1 i2 i3 K)
  · exact V_tableIn (pc := 39) (tgt := 1512) (off := 1473) F dL_law_39 (by decide) (by decide) (by decide) (by decide) (law_digest hfl F G hcl hsl S i1 i2 i3 K)
  · refine V_tableOut (pc := 39) (tgt := 1526) F dL_law_39 (Or.inr ?_) (by decide) ?_
    · rcases (show k = 25 ∨ k = 26 ∨ k = 27 ∨ k = 28 ∨ k = 29 ∨ k = 30 ∨ k = 31 by omega) with rfl | rfl | rfl | rfl | rfl | rfl | rfl <;> decide
    · exact V_widen (k := cells + 1) (n := slots + 6) (Nat.le_add_right _ 1) (Nat.le_add_right _ 6) (K γ ρ f S)
theorem law_loop (hfl : l.stackTraces = false) (F : Fx p s m #[.ref b] meth c cL_law 9 RL nme lw_tbl ret D cy (aL s)) (G : FxL s b n xs) (hn : n ≤ 2048) : ∀ (rem t cells slots : Nat) (γ : SX7) (ρ : SX8) (f : Nat → Int64), n ≤ 4 * t + 4 * rem → 4 * t ≤ n → cells + rem ≤ 601024 → slots + 6 * rem ≤ 7293034 → SR γ ρ → V p l e room_1 s m #[.ref b] below meth c 9 D (aL s) cells slots (lw_Z below #[.ref b] s) ((wX7 cy a γ ++ wX8 cy a' ρ) ++ [oc cy ho f]) [(4, .int (nI (4 * t))), (3, .ref ho), (2, .ref (a' 0)), (1, .ref (a 0)), (0, .ref b)] [] 23 := by
  intro rem
  induction rem with
  | zero =>
    intro t cells slots γ ρ f h1 h2 hcl hsl S
    exact law_exit F G hn h2 (by omega) (by omega) (by omega)
  | succ rem ih =>
    intro t cells slots γ ρ f h1 h2 hcl hsl S
    by_cases he : n < 4 * t + 4
    · exact law_exit F G hn h2 he (by omega) (by omega)
    · refine law_turn hfl F G hn (by omega) (show cells + 1 ≤ 601024 by omega) (show slots + 6 ≤ 7293034 by omega) S (fun γ' ρ' f' S2 => ?_)
      refine V_iinc (pc := 1526) (v := nI (4 * (t + 1))) (L2 := [(4, .int (nI (4 * (t + 1)))), (3, .ref ho), (2, .ref (a' 0)), (1, .ref (a 0)), (0, .ref b)]) F dL_law_1526 0 rfl ?_ (by decide) rfl ?_
      · rw [show Int32.ofInt 4 = nI 4 from rfl, nI_add, show 4 * t + 4 = 4 * (t + 1) by omega]
      refine V_goto (pc := 1529) (tgt := 23) F dL_law_1529 (by decide) ?_
      exact ih (t + 1) (cells + 1) (slots + 6) γ' ρ' f' (by omega) (by omega) (by omega) (by omega) S2
end VC
