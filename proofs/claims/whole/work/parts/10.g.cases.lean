/-! the law's cases: one call on each side, alike -/
theorem gLS_clash : GoodIn lw_tbl (va_wsS RL 84 yL_clash (wW yL_clash cL_clash 5 [(0, 10, 13, 13)])) := wsS_in (show Cond.methodLink RL 84 yL_clash ∈ lw_tbl from wIn_r6 _ (List.mem_of_getElem? (i := 2) rfl)) (show Cond.static yL_clash ∈ lw_tbl from wIn_r6 _ (List.mem_of_getElem? (i := 3) rfl)) (show Cond.initialized yL_clash.cls ∈ lw_tbl from (show Cond.initialized RL ∈ lw_tbl from wIn_r6 _ (List.mem_of_getElem? (i := 4) rfl))) (show Cond.codeWith yL_clash cL_clash 5 (some .int) [(0, 10, 13, 13)] ∈ lw_tbl from wIn_r6 _ (List.mem_of_getElem? (i := 5) rfl))
theorem hdL_clash : yL_clash.cls ≠ "java/lang/invoke/MethodHandle" ∧ yL_clash.cls ≠ "java/lang/invoke/VarHandle" ∧ (parseMethodDescriptor yL_clash.desc).map (fun d => d.parameters.length) = some 4 := by decide +kernel
theorem gLS_addPhase : GoodIn lw_tbl (va_wsS RL 93 yL_addPhase (wW yL_addPhase cL_addPhase 5 [(0, 10, 13, 13), (0, 10, 17, 18)])) := wsS_in (show Cond.methodLink RL 93 yL_addPhase ∈ lw_tbl from wIn_r9 _ (List.mem_of_getElem? (i := 12) rfl)) (show Cond.static yL_addPhase ∈ lw_tbl from wIn_r9 _ (List.mem_of_getElem? (i := 13) rfl)) (show Cond.initialized yL_addPhase.cls ∈ lw_tbl from (show Cond.initialized RL ∈ lw_tbl from wIn_r6 _ (List.mem_of_getElem? (i := 4) rfl))) (show Cond.codeWith yL_addPhase cL_addPhase 5 (some .int) [(0, 10, 13, 13), (0, 10, 17, 18)] ∈ lw_tbl from wIn_r9 _ (List.mem_of_getElem? (i := 14) rfl))
theorem hdL_addPhase : yL_addPhase.cls ≠ "java/lang/invoke/MethodHandle" ∧ yL_addPhase.cls ≠ "java/lang/invoke/VarHandle" ∧ (parseMethodDescriptor yL_addPhase.desc).map (fun d => d.parameters.length) = some 4 := by decide +kernel
theorem gLS_addRule : GoodIn lw_tbl (va_wsS RL 96 yL_addRule (wW yL_addRule cL_addRule 6 [(0, 12, 15, 24), (0, 12, 19, 13), (0, 12, 23, 18)])) := wsS_in (show Cond.methodLink RL 96 yL_addRule ∈ lw_tbl from wIn_r11 _ (List.mem_of_getElem? (i := 0) rfl)) (show Cond.static yL_addRule ∈ lw_tbl from wIn_r11 _ (List.mem_of_getElem? (i := 1) rfl)) (show Cond.initialized yL_addRule.cls ∈ lw_tbl from (show Cond.initialized RL ∈ lw_tbl from wIn_r6 _ (List.mem_of_getElem? (i := 4) rfl))) (show Cond.codeWith yL_addRule cL_addRule 6 (some .int) [(0, 12, 15, 24), (0, 12, 19, 13), (0, 12, 23, 18)] ∈ lw_tbl from wIn_r11 _ (List.mem_of_getElem? (i := 2) rfl))
theorem hdL_addRule : yL_addRule.cls ≠ "java/lang/invoke/MethodHandle" ∧ yL_addRule.cls ≠ "java/lang/invoke/VarHandle" ∧ (parseMethodDescriptor yL_addRule.desc).map (fun d => d.parameters.length) = some 5 := by decide +kernel
theorem gLS_dropRule : GoodIn lw_tbl (va_wsS RL 100 yL_dropRule (wW yL_dropRule cL_dropRule 4 [(0, 9, 12, 24), (0, 9, 15, 18)])) := wsS_in (show Cond.methodLink RL 100 yL_dropRule ∈ lw_tbl from wIn_r13 _ (List.mem_of_getElem? (i := 2) rfl)) (show Cond.static yL_dropRule ∈ lw_tbl from wIn_r13 _ (List.mem_of_getElem? (i := 3) rfl)) (show Cond.initialized yL_dropRule.cls ∈ lw_tbl from (show Cond.initialized RL ∈ lw_tbl from wIn_r6 _ (List.mem_of_getElem? (i := 4) rfl))) (show Cond.codeWith yL_dropRule cL_dropRule 4 (some .int) [(0, 9, 12, 24), (0, 9, 15, 18)] ∈ lw_tbl from wIn_r13 _ (List.mem_of_getElem? (i := 4) rfl))
theorem hdL_dropRule : yL_dropRule.cls ≠ "java/lang/invoke/MethodHandle" ∧ yL_dropRule.cls ≠ "java/lang/invoke/VarHandle" ∧ (parseMethodDescriptor yL_dropRule.desc).map (fun d => d.parameters.length) = some 3 := by decide +kernel
theorem gLS_change : GoodIn lw_tbl (va_wsS RL 104 yL_change (wW yL_change cL_change 6 [(0, 12, 15, 24), (0, 12, 19, 13)])) := wsS_in (show Cond.methodLink RL 104 yL_change ∈ lw_tbl from wIn_r13 _ (List.mem_of_getElem? (i := 22) rfl)) (show Cond.static yL_change ∈ lw_tbl from wIn_r13 _ (List.mem_of_getElem? (i := 23) rfl)) (show Cond.initialized yL_change.cls ∈ lw_tbl from (show Cond.initialized RL ∈ lw_tbl from wIn_r6 _ (List.mem_of_getElem? (i := 4) rfl))) (show Cond.codeWith yL_change cL_change 6 (some .int) [(0, 12, 15, 24), (0, 12, 19, 13)] ∈ lw_tbl from wIn_r14 _ (List.mem_of_getElem? (i := 0) rfl))
theorem hdL_change : yL_change.cls ≠ "java/lang/invoke/MethodHandle" ∧ yL_change.cls ≠ "java/lang/invoke/VarHandle" ∧ (parseMethodDescriptor yL_change.desc).map (fun d => d.parameters.length) = some 5 := by decide +kernel
theorem gLS_set : GoodIn lw_tbl (va_wsS RL 107 yL_set (wW yL_set cL_set 4 [(0, 9, 12, 13)])) := wsS_in (show Cond.methodLink RL 107 yL_set ∈ lw_tbl from wIn_r14 _ (List.mem_of_getElem? (i := 16) rfl)) (show Cond.static yL_set ∈ lw_tbl from wIn_r14 _ (List.mem_of_getElem? (i := 17) rfl)) (show Cond.initialized yL_set.cls ∈ lw_tbl from (show Cond.initialized RL ∈ lw_tbl from wIn_r6 _ (List.mem_of_getElem? (i := 4) rfl))) (show Cond.codeWith yL_set cL_set 4 (some .int) [(0, 9, 12, 13)] ∈ lw_tbl from wIn_r14 _ (List.mem_of_getElem? (i := 18) rfl))
theorem hdL_set : yL_set.cls ≠ "java/lang/invoke/MethodHandle" ∧ yL_set.cls ≠ "java/lang/invoke/VarHandle" ∧ (parseMethodDescriptor yL_set.desc).map (fun d => d.parameters.length) = some 3 := by decide +kernel
theorem gLS_come : GoodIn lw_tbl (va_wsS RL 110 yL_come (wW yL_come cL_come 4 [(0, 9, 12, 13)])) := wsS_in (show Cond.methodLink RL 110 yL_come ∈ lw_tbl from wIn_r15 _ (List.mem_of_getElem? (i := 4) rfl)) (show Cond.static yL_come ∈ lw_tbl from wIn_r15 _ (List.mem_of_getElem? (i := 5) rfl)) (show Cond.initialized yL_come.cls ∈ lw_tbl from (show Cond.initialized RL ∈ lw_tbl from wIn_r6 _ (List.mem_of_getElem? (i := 4) rfl))) (show Cond.codeWith yL_come cL_come 4 (some .int) [(0, 9, 12, 13)] ∈ lw_tbl from wIn_r15 _ (List.mem_of_getElem? (i := 6) rfl))
theorem hdL_come : yL_come.cls ≠ "java/lang/invoke/MethodHandle" ∧ yL_come.cls ≠ "java/lang/invoke/VarHandle" ∧ (parseMethodDescriptor yL_come.desc).map (fun d => d.parameters.length) = some 3 := by decide +kernel
theorem gLS_run : GoodIn lw_tbl (va_wsS RL 113 yL_run (wW yL_run cL_run 4 [(0, 9, 12, 13)])) := wsS_in (show Cond.methodLink RL 113 yL_run ∈ lw_tbl from wIn_r15 _ (List.mem_of_getElem? (i := 16) rfl)) (show Cond.static yL_run ∈ lw_tbl from wIn_r15 _ (List.mem_of_getElem? (i := 17) rfl)) (show Cond.initialized yL_run.cls ∈ lw_tbl from (show Cond.initialized RL ∈ lw_tbl from wIn_r6 _ (List.mem_of_getElem? (i := 4) rfl))) (show Cond.codeWith yL_run cL_run 4 (some .int) [(0, 9, 12, 13)] ∈ lw_tbl from wIn_r15 _ (List.mem_of_getElem? (i := 18) rfl))
theorem hdL_run : yL_run.cls ≠ "java/lang/invoke/MethodHandle" ∧ yL_run.cls ≠ "java/lang/invoke/VarHandle" ∧ (parseMethodDescriptor yL_run.desc).map (fun d => d.parameters.length) = some 3 := by decide +kernel
theorem gLS_start : GoodIn lw_tbl (va_wsS RL 116 yL_start (wW yL_start cL_start 4 [(0, 9, 12, 24)])) := wsS_in (show Cond.methodLink RL 116 yL_start ∈ lw_tbl from wIn_r20 _ (List.mem_of_getElem? (i := 21) rfl)) (show Cond.static yL_start ∈ lw_tbl from wIn_r20 _ (List.mem_of_getElem? (i := 22) rfl)) (show Cond.initialized yL_start.cls ∈ lw_tbl from (show Cond.initialized RL ∈ lw_tbl from wIn_r6 _ (List.mem_of_getElem? (i := 4) rfl))) (show Cond.codeWith yL_start cL_start 4 (some .int) [(0, 9, 12, 24)] ∈ lw_tbl from wIn_r20 _ (List.mem_of_getElem? (i := 23) rfl))
theorem hdL_start : yL_start.cls ≠ "java/lang/invoke/MethodHandle" ∧ yL_start.cls ≠ "java/lang/invoke/VarHandle" ∧ (parseMethodDescriptor yL_start.desc).map (fun d => d.parameters.length) = some 3 := by decide +kernel
theorem gLS_append : GoodIn lw_tbl (va_wsS RL 119 yL_append (wW yL_append cL_append 4 [(0, 9, 12, 13), (0, 9, 15, 18)])) := wsS_in (show Cond.methodLink RL 119 yL_append ∈ lw_tbl from wIn_r21 _ (List.mem_of_getElem? (i := 12) rfl)) (show Cond.static yL_append ∈ lw_tbl from wIn_r21 _ (List.mem_of_getElem? (i := 13) rfl)) (show Cond.initialized yL_append.cls ∈ lw_tbl from (show Cond.initialized RL ∈ lw_tbl from wIn_r6 _ (List.mem_of_getElem? (i := 4) rfl))) (show Cond.codeWith yL_append cL_append 4 (some .int) [(0, 9, 12, 13), (0, 9, 15, 18)] ∈ lw_tbl from wIn_r21 _ (List.mem_of_getElem? (i := 14) rfl))
theorem hdL_append : yL_append.cls ≠ "java/lang/invoke/MethodHandle" ∧ yL_append.cls ≠ "java/lang/invoke/VarHandle" ∧ (parseMethodDescriptor yL_append.desc).map (fun d => d.parameters.length) = some 3 := by decide +kernel
theorem gLS_build : GoodIn lw_tbl (va_wsS RL 130 yL_build (wW yL_build cL_build 3 [(0, 8, 11, 13)])) := wsS_in (show Cond.methodLink RL 130 yL_build ∈ lw_tbl from wIn_r25 _ (List.mem_of_getElem? (i := 22) rfl)) (show Cond.static yL_build ∈ lw_tbl from wIn_r25 _ (List.mem_of_getElem? (i := 23) rfl)) (show Cond.initialized yL_build.cls ∈ lw_tbl from (show Cond.initialized RL ∈ lw_tbl from wIn_r6 _ (List.mem_of_getElem? (i := 4) rfl))) (show Cond.codeWith yL_build cL_build 3 (some .int) [(0, 8, 11, 13)] ∈ lw_tbl from wIn_r26 _ (List.mem_of_getElem? (i := 0) rfl))
theorem hdL_build : yL_build.cls ≠ "java/lang/invoke/MethodHandle" ∧ yL_build.cls ≠ "java/lang/invoke/VarHandle" ∧ (parseMethodDescriptor yL_build.desc).map (fun d => d.parameters.length) = some 2 := by decide +kernel
theorem gLS_undo : GoodIn lw_tbl (va_wsS RL 134 yL_undo (wW yL_undo cL_undo 3 [(0, 8, 11, 18)])) := wsS_in (show Cond.methodLink RL 134 yL_undo ∈ lw_tbl from wIn_r27 _ (List.mem_of_getElem? (i := 9) rfl)) (show Cond.static yL_undo ∈ lw_tbl from wIn_r27 _ (List.mem_of_getElem? (i := 10) rfl)) (show Cond.initialized yL_undo.cls ∈ lw_tbl from (show Cond.initialized RL ∈ lw_tbl from wIn_r6 _ (List.mem_of_getElem? (i := 4) rfl))) (show Cond.codeWith yL_undo cL_undo 3 (some .int) [(0, 8, 11, 18)] ∈ lw_tbl from wIn_r27 _ (List.mem_of_getElem? (i := 11) rfl))
theorem hdL_undo : yL_undo.cls ≠ "java/lang/invoke/MethodHandle" ∧ yL_undo.cls ≠ "java/lang/invoke/VarHandle" ∧ (parseMethodDescriptor yL_undo.desc).map (fun d => d.parameters.length) = some 2 := by decide +kernel
theorem gLS_phase : GoodIn lw_tbl (va_wsS RL 137 yL_phase (wW yL_phase cL_phase 5 [(0, 10, 13, 24), (0, 10, 17, 13)])) := wsS_in (show Cond.methodLink RL 137 yL_phase ∈ lw_tbl from wIn_r28 _ (List.mem_of_getElem? (i := 1) rfl)) (show Cond.static yL_phase ∈ lw_tbl from wIn_r28 _ (List.mem_of_getElem? (i := 2) rfl)) (show Cond.initialized yL_phase.cls ∈ lw_tbl from (show Cond.initialized RL ∈ lw_tbl from wIn_r6 _ (List.mem_of_getElem? (i := 4) rfl))) (show Cond.codeWith yL_phase cL_phase 5 (some .int) [(0, 10, 13, 24), (0, 10, 17, 13)] ∈ lw_tbl from wIn_r28 _ (List.mem_of_getElem? (i := 3) rfl))
theorem hdL_phase : yL_phase.cls ≠ "java/lang/invoke/MethodHandle" ∧ yL_phase.cls ≠ "java/lang/invoke/VarHandle" ∧ (parseMethodDescriptor yL_phase.desc).map (fun d => d.parameters.length) = some 4 := by decide +kernel
theorem gLS_rule : GoodIn lw_tbl (va_wsS RL 140 yL_rule (wW yL_rule cL_rule 6 [(0, 12, 15, 24), (0, 12, 19, 13)])) := wsS_in (show Cond.methodLink RL 140 yL_rule ∈ lw_tbl from wIn_r30 _ (List.mem_of_getElem? (i := 5) rfl)) (show Cond.static yL_rule ∈ lw_tbl from wIn_r30 _ (List.mem_of_getElem? (i := 6) rfl)) (show Cond.initialized yL_rule.cls ∈ lw_tbl from (show Cond.initialized RL ∈ lw_tbl from wIn_r6 _ (List.mem_of_getElem? (i := 4) rfl))) (show Cond.codeWith yL_rule cL_rule 6 (some .int) [(0, 12, 15, 24), (0, 12, 19, 13)] ∈ lw_tbl from wIn_r30 _ (List.mem_of_getElem? (i := 7) rfl))
theorem hdL_rule : yL_rule.cls ≠ "java/lang/invoke/MethodHandle" ∧ yL_rule.cls ≠ "java/lang/invoke/VarHandle" ∧ (parseMethodDescriptor yL_rule.desc).map (fun d => d.parameters.length) = some 5 := by decide +kernel
theorem gLS_direction : GoodIn lw_tbl (va_wsS RL 143 yL_direction (wW yL_direction cL_direction 5 [(0, 10, 13, 13)])) := wsS_in (show Cond.methodLink RL 143 yL_direction ∈ lw_tbl from wIn_r30 _ (List.mem_of_getElem? (i := 23) rfl)) (show Cond.static yL_direction ∈ lw_tbl from wIn_r31 _ (List.mem_of_getElem? (i := 0) rfl)) (show Cond.initialized yL_direction.cls ∈ lw_tbl from (show Cond.initialized RL ∈ lw_tbl from wIn_r6 _ (List.mem_of_getElem? (i := 4) rfl))) (show Cond.codeWith yL_direction cL_direction 5 (some .int) [(0, 10, 13, 13)] ∈ lw_tbl from wIn_r31 _ (List.mem_of_getElem? (i := 1) rfl))
theorem hdL_direction : yL_direction.cls ≠ "java/lang/invoke/MethodHandle" ∧ yL_direction.cls ≠ "java/lang/invoke/VarHandle" ∧ (parseMethodDescriptor yL_direction.desc).map (fun d => d.parameters.length) = some 4 := by decide +kernel
theorem gLS_count : GoodIn lw_tbl (va_wsS RL 146 yL_count (wW yL_count cL_count 4 [(0, 9, 12, 13)])) := wsS_in (show Cond.methodLink RL 146 yL_count ∈ lw_tbl from wIn_r32 _ (List.mem_of_getElem? (i := 1) rfl)) (show Cond.static yL_count ∈ lw_tbl from wIn_r32 _ (List.mem_of_getElem? (i := 2) rfl)) (show Cond.initialized yL_count.cls ∈ lw_tbl from (show Cond.initialized RL ∈ lw_tbl from wIn_r6 _ (List.mem_of_getElem? (i := 4) rfl))) (show Cond.codeWith yL_count cL_count 4 (some .int) [(0, 9, 12, 13)] ∈ lw_tbl from wIn_r32 _ (List.mem_of_getElem? (i := 3) rfl))
theorem hdL_count : yL_count.cls ≠ "java/lang/invoke/MethodHandle" ∧ yL_count.cls ≠ "java/lang/invoke/VarHandle" ∧ (parseMethodDescriptor yL_count.desc).map (fun d => d.parameters.length) = some 3 := by decide +kernel
theorem gLS_starves : GoodIn lw_tbl (va_wsS RL 149 yL_starves (wW yL_starves cL_starves 5 [(0, 10, 13, 24), (0, 10, 17, 13)])) := wsS_in (show Cond.methodLink RL 149 yL_starves ∈ lw_tbl from wIn_r36 _ (List.mem_of_getElem? (i := 9) rfl)) (show Cond.static yL_starves ∈ lw_tbl from wIn_r36 _ (List.mem_of_getElem? (i := 10) rfl)) (show Cond.initialized yL_starves.cls ∈ lw_tbl from (show Cond.initialized RL ∈ lw_tbl from wIn_r6 _ (List.mem_of_getElem? (i := 4) rfl))) (show Cond.codeWith yL_starves cL_starves 5 (some .int) [(0, 10, 13, 24), (0, 10, 17, 13)] ∈ lw_tbl from wIn_r36 _ (List.mem_of_getElem? (i := 11) rfl))
theorem hdL_starves : yL_starves.cls ≠ "java/lang/invoke/MethodHandle" ∧ yL_starves.cls ≠ "java/lang/invoke/VarHandle" ∧ (parseMethodDescriptor yL_starves.desc).map (fun d => d.parameters.length) = some 4 := by decide +kernel
theorem gLS_rounds : GoodIn lw_tbl (va_wsS RL 152 yL_rounds (wW yL_rounds cL_rounds 4 [(0, 9, 12, 13)])) := wsS_in (show Cond.methodLink RL 152 yL_rounds ∈ lw_tbl from wIn_r37 _ (List.mem_of_getElem? (i := 4) rfl)) (show Cond.static yL_rounds ∈ lw_tbl from wIn_r37 _ (List.mem_of_getElem? (i := 5) rfl)) (show Cond.initialized yL_rounds.cls ∈ lw_tbl from (show Cond.initialized RL ∈ lw_tbl from wIn_r6 _ (List.mem_of_getElem? (i := 4) rfl))) (show Cond.codeWith yL_rounds cL_rounds 4 (some .int) [(0, 9, 12, 13)] ∈ lw_tbl from wIn_r37 _ (List.mem_of_getElem? (i := 6) rfl))
theorem hdL_rounds : yL_rounds.cls ≠ "java/lang/invoke/MethodHandle" ∧ yL_rounds.cls ≠ "java/lang/invoke/VarHandle" ∧ (parseMethodDescriptor yL_rounds.desc).map (fun d => d.parameters.length) = some 3 := by decide +kernel
theorem gLS_waitFor : GoodIn lw_tbl (va_wsS RL 155 yL_waitFor (wW yL_waitFor cL_waitFor 6 [(0, 12, 15, 24), (0, 12, 19, 13)])) := wsS_in (show Cond.methodLink RL 155 yL_waitFor ∈ lw_tbl from wIn_r38 _ (List.mem_of_getElem? (i := 8) rfl)) (show Cond.static yL_waitFor ∈ lw_tbl from wIn_r38 _ (List.mem_of_getElem? (i := 9) rfl)) (show Cond.initialized yL_waitFor.cls ∈ lw_tbl from (show Cond.initialized RL ∈ lw_tbl from wIn_r6 _ (List.mem_of_getElem? (i := 4) rfl))) (show Cond.codeWith yL_waitFor cL_waitFor 6 (some .int) [(0, 12, 15, 24), (0, 12, 19, 13)] ∈ lw_tbl from wIn_r38 _ (List.mem_of_getElem? (i := 10) rfl))
theorem hdL_waitFor : yL_waitFor.cls ≠ "java/lang/invoke/MethodHandle" ∧ yL_waitFor.cls ≠ "java/lang/invoke/VarHandle" ∧ (parseMethodDescriptor yL_waitFor.desc).map (fun d => d.parameters.length) = some 5 := by decide +kernel
theorem gLS_remedy : GoodIn lw_tbl (va_wsS RL 163 yL_remedy (wW yL_remedy cL_remedy 5 [(0, 10, 13, 24), (0, 10, 17, 13)])) := wsS_in (show Cond.methodLink RL 163 yL_remedy ∈ lw_tbl from wIn_r40 _ (List.mem_of_getElem? (i := 20) rfl)) (show Cond.static yL_remedy ∈ lw_tbl from wIn_r40 _ (List.mem_of_getElem? (i := 21) rfl)) (show Cond.initialized yL_remedy.cls ∈ lw_tbl from (show Cond.initialized RL ∈ lw_tbl from wIn_r6 _ (List.mem_of_getElem? (i := 4) rfl))) (show Cond.codeWith yL_remedy cL_remedy 5 (some .int) [(0, 10, 13, 24), (0, 10, 17, 13)] ∈ lw_tbl from wIn_r40 _ (List.mem_of_getElem? (i := 22) rfl))
theorem hdL_remedy : yL_remedy.cls ≠ "java/lang/invoke/MethodHandle" ∧ yL_remedy.cls ≠ "java/lang/invoke/VarHandle" ∧ (parseMethodDescriptor yL_remedy.desc).map (fun d => d.parameters.length) = some 4 := by decide +kernel
theorem gL8_clash : GoodIn lw_tbl (wsV RL 89 RX8 yX8_clash wsX8_clash) := goodIn_sub (wsV_in (show Cond.methodLink RL 89 yX8_clash ∈ lw_tbl from wIn_r8 _ (List.mem_of_getElem? (i := 8) rfl)) (show Cond.instanceMethod yX8_clash ∈ lw_tbl from wIn_r8 _ (List.mem_of_getElem? (i := 9) rfl)) (show Cond.selects RX8 yX8_clash yX8_clash ∈ lw_tbl from wIn_r8 _ (List.mem_of_getElem? (i := 10) rfl)) (show Cond.initialized RX8 ∈ lw_tbl from wIn_r1 _ (List.mem_of_getElem? (i := 5) rfl)) im_wsX8_clash) (wsV_good gw_wsX8_clash)
theorem gL8_addPhase : GoodIn lw_tbl (wsV RL 95 RX8 yX8_addPhase wsX8_addPhase) := goodIn_sub (wsV_in (show Cond.methodLink RL 95 yX8_addPhase ∈ lw_tbl from wIn_r10 _ (List.mem_of_getElem? (i := 12) rfl)) (show Cond.instanceMethod yX8_addPhase ∈ lw_tbl from wIn_r10 _ (List.mem_of_getElem? (i := 13) rfl)) (show Cond.selects RX8 yX8_addPhase yX8_addPhase ∈ lw_tbl from wIn_r10 _ (List.mem_of_getElem? (i := 14) rfl)) (show Cond.initialized RX8 ∈ lw_tbl from wIn_r1 _ (List.mem_of_getElem? (i := 5) rfl)) im_wsX8_addPhase) (wsV_good gw_wsX8_addPhase)
theorem gL8_addRule : GoodIn lw_tbl (wsV RL 99 RX8 yX8_addRule wsX8_addRule) := goodIn_sub (wsV_in (show Cond.methodLink RL 99 yX8_addRule ∈ lw_tbl from wIn_r12 _ (List.mem_of_getElem? (i := 2) rfl)) (show Cond.instanceMethod yX8_addRule ∈ lw_tbl from wIn_r12 _ (List.mem_of_getElem? (i := 3) rfl)) (show Cond.selects RX8 yX8_addRule yX8_addRule ∈ lw_tbl from wIn_r12 _ (List.mem_of_getElem? (i := 4) rfl)) (show Cond.initialized RX8 ∈ lw_tbl from wIn_r1 _ (List.mem_of_getElem? (i := 5) rfl)) im_wsX8_addRule) (wsV_good gw_wsX8_addRule)
theorem gL8_dropRule : GoodIn lw_tbl (wsV RL 103 RX8 yX8_dropRule wsX8_dropRule) := goodIn_sub (wsV_in (show Cond.methodLink RL 103 yX8_dropRule ∈ lw_tbl from wIn_r13 _ (List.mem_of_getElem? (i := 18) rfl)) (show Cond.instanceMethod yX8_dropRule ∈ lw_tbl from wIn_r13 _ (List.mem_of_getElem? (i := 19) rfl)) (show Cond.selects RX8 yX8_dropRule yX8_dropRule ∈ lw_tbl from wIn_r13 _ (List.mem_of_getElem? (i := 20) rfl)) (show Cond.initialized RX8 ∈ lw_tbl from wIn_r1 _ (List.mem_of_getElem? (i := 5) rfl)) im_wsX8_dropRule) (wsV_good gw_wsX8_dropRule)
theorem gL8_change : GoodIn lw_tbl (wsV RL 106 RX8 yX8_change wsX8_change) := goodIn_sub (wsV_in (show Cond.methodLink RL 106 yX8_change ∈ lw_tbl from wIn_r14 _ (List.mem_of_getElem? (i := 8) rfl)) (show Cond.instanceMethod yX8_change ∈ lw_tbl from wIn_r14 _ (List.mem_of_getElem? (i := 9) rfl)) (show Cond.selects RX8 yX8_change yX8_change ∈ lw_tbl from wIn_r14 _ (List.mem_of_getElem? (i := 10) rfl)) (show Cond.initialized RX8 ∈ lw_tbl from wIn_r1 _ (List.mem_of_getElem? (i := 5) rfl)) im_wsX8_change) (wsV_good gw_wsX8_change)
theorem gL8_set : GoodIn lw_tbl (wsV RL 109 RX8 yX8_set wsX8_set) := goodIn_sub (wsV_in (show Cond.methodLink RL 109 yX8_set ∈ lw_tbl from wIn_r15 _ (List.mem_of_getElem? (i := 0) rfl)) (show Cond.instanceMethod yX8_set ∈ lw_tbl from wIn_r15 _ (List.mem_of_getElem? (i := 1) rfl)) (show Cond.selects RX8 yX8_set yX8_set ∈ lw_tbl from wIn_r15 _ (List.mem_of_getElem? (i := 2) rfl)) (show Cond.initialized RX8 ∈ lw_tbl from wIn_r1 _ (List.mem_of_getElem? (i := 5) rfl)) im_wsX8_set) (wsV_good gw_wsX8_set)
theorem gL8_come : GoodIn lw_tbl (wsV RL 112 RX8 yX8_come wsX8_come) := goodIn_sub (wsV_in (show Cond.methodLink RL 112 yX8_come ∈ lw_tbl from wIn_r15 _ (List.mem_of_getElem? (i := 12) rfl)) (show Cond.instanceMethod yX8_come ∈ lw_tbl from wIn_r15 _ (List.mem_of_getElem? (i := 13) rfl)) (show Cond.selects RX8 yX8_come yX8_come ∈ lw_tbl from wIn_r15 _ (List.mem_of_getElem? (i := 14) rfl)) (show Cond.initialized RX8 ∈ lw_tbl from wIn_r1 _ (List.mem_of_getElem? (i := 5) rfl)) im_wsX8_come) (wsV_good gw_wsX8_come)
theorem gL8_run : GoodIn lw_tbl (wsV RL 115 RX8 yX8_run wsX8_run) := goodIn_sub (wsV_in (show Cond.methodLink RL 115 yX8_run ∈ lw_tbl from wIn_r18 _ (List.mem_of_getElem? (i := 14) rfl)) (show Cond.instanceMethod yX8_run ∈ lw_tbl from wIn_r18 _ (List.mem_of_getElem? (i := 15) rfl)) (show Cond.selects RX8 yX8_run yX8_run ∈ lw_tbl from wIn_r18 _ (List.mem_of_getElem? (i := 16) rfl)) (show Cond.initialized RX8 ∈ lw_tbl from wIn_r1 _ (List.mem_of_getElem? (i := 5) rfl)) im_wsX8_run) (wsV_good gw_wsX8_run)
theorem gL8_start : GoodIn lw_tbl (wsV RL 118 RX8 yX8_start wsX8_start) := goodIn_sub (wsV_in (show Cond.methodLink RL 118 yX8_start ∈ lw_tbl from wIn_r21 _ (List.mem_of_getElem? (i := 8) rfl)) (show Cond.instanceMethod yX8_start ∈ lw_tbl from wIn_r21 _ (List.mem_of_getElem? (i := 9) rfl)) (show Cond.selects RX8 yX8_start yX8_start ∈ lw_tbl from wIn_r21 _ (List.mem_of_getElem? (i := 10) rfl)) (show Cond.initialized RX8 ∈ lw_tbl from wIn_r1 _ (List.mem_of_getElem? (i := 5) rfl)) im_wsX8_start) (wsV_good gw_wsX8_start)
theorem gL8_append : GoodIn lw_tbl (wsV RL 121 RX8 yX8_append wsX8_append) := goodIn_sub (wsV_in (show Cond.methodLink RL 121 yX8_append ∈ lw_tbl from wIn_r22 _ (List.mem_of_getElem? (i := 1) rfl)) (show Cond.instanceMethod yX8_append ∈ lw_tbl from wIn_r22 _ (List.mem_of_getElem? (i := 2) rfl)) (show Cond.selects RX8 yX8_append yX8_append ∈ lw_tbl from wIn_r22 _ (List.mem_of_getElem? (i := 3) rfl)) (show Cond.initialized RX8 ∈ lw_tbl from wIn_r1 _ (List.mem_of_getElem? (i := 5) rfl)) im_wsX8_append) (wsV_good gw_wsX8_append)
theorem gL8_clearBuffer : GoodIn lw_tbl (wsV RL 125 RX8 yX8_clearBuffer wsX8_clearBuffer) := goodIn_sub (wsV_in (show Cond.methodLink RL 125 yX8_clearBuffer ∈ lw_tbl from wIn_r22 _ (List.mem_of_getElem? (i := 14) rfl)) (show Cond.instanceMethod yX8_clearBuffer ∈ lw_tbl from wIn_r22 _ (List.mem_of_getElem? (i := 15) rfl)) (show Cond.selects RX8 yX8_clearBuffer yX8_clearBuffer ∈ lw_tbl from wIn_r22 _ (List.mem_of_getElem? (i := 16) rfl)) (show Cond.initialized RX8 ∈ lw_tbl from wIn_r1 _ (List.mem_of_getElem? (i := 5) rfl)) im_wsX8_clearBuffer) (wsV_good gw_wsX8_clearBuffer)
theorem gL8_firstError : GoodIn lw_tbl (wsV RL 129 RX8 yX8_firstError wsX8_firstError) := goodIn_sub (wsV_in (show Cond.methodLink RL 129 yX8_firstError ∈ lw_tbl from wIn_r24 _ (List.mem_of_getElem? (i := 11) rfl)) (show Cond.instanceMethod yX8_firstError ∈ lw_tbl from wIn_r24 _ (List.mem_of_getElem? (i := 12) rfl)) (show Cond.selects RX8 yX8_firstError yX8_firstError ∈ lw_tbl from wIn_r24 _ (List.mem_of_getElem? (i := 13) rfl)) (show Cond.initialized RX8 ∈ lw_tbl from wIn_r1 _ (List.mem_of_getElem? (i := 5) rfl)) im_wsX8_firstError) (wsV_good gw_wsX8_firstError)
theorem gL8_build : GoodIn lw_tbl (wsV RL 133 RX8 yX8_build wsX8_build) := goodIn_sub (wsV_in (show Cond.methodLink RL 133 yX8_build ∈ lw_tbl from wIn_r27 _ (List.mem_of_getElem? (i := 1) rfl)) (show Cond.instanceMethod yX8_build ∈ lw_tbl from wIn_r27 _ (List.mem_of_getElem? (i := 2) rfl)) (show Cond.selects RX8 yX8_build yX8_build ∈ lw_tbl from wIn_r27 _ (List.mem_of_getElem? (i := 3) rfl)) (show Cond.initialized RX8 ∈ lw_tbl from wIn_r1 _ (List.mem_of_getElem? (i := 5) rfl)) im_wsX8_build) (wsV_good gw_wsX8_build)
theorem gL8_undo : GoodIn lw_tbl (wsV RL 136 RX8 yX8_undo wsX8_undo) := goodIn_sub (wsV_in (show Cond.methodLink RL 136 yX8_undo ∈ lw_tbl from wIn_r27 _ (List.mem_of_getElem? (i := 21) rfl)) (show Cond.instanceMethod yX8_undo ∈ lw_tbl from wIn_r27 _ (List.mem_of_getElem? (i := 22) rfl)) (show Cond.selects RX8 yX8_undo yX8_undo ∈ lw_tbl from wIn_r27 _ (List.mem_of_getElem? (i := 23) rfl)) (show Cond.initialized RX8 ∈ lw_tbl from wIn_r1 _ (List.mem_of_getElem? (i := 5) rfl)) im_wsX8_undo) (wsV_good gw_wsX8_undo)
theorem gL8_phase : GoodIn lw_tbl (wsV RL 139 RX8 yX8_phase wsX8_phase) := goodIn_sub (wsV_in (show Cond.methodLink RL 139 yX8_phase ∈ lw_tbl from wIn_r29 _ (List.mem_of_getElem? (i := 9) rfl)) (show Cond.instanceMethod yX8_phase ∈ lw_tbl from wIn_r29 _ (List.mem_of_getElem? (i := 10) rfl)) (show Cond.selects RX8 yX8_phase yX8_phase ∈ lw_tbl from wIn_r29 _ (List.mem_of_getElem? (i := 11) rfl)) (show Cond.initialized RX8 ∈ lw_tbl from wIn_r1 _ (List.mem_of_getElem? (i := 5) rfl)) im_wsX8_phase) (wsV_good gw_wsX8_phase)
theorem gL8_rule : GoodIn lw_tbl (wsV RL 142 RX8 yX8_rule wsX8_rule) := goodIn_sub (wsV_in (show Cond.methodLink RL 142 yX8_rule ∈ lw_tbl from wIn_r30 _ (List.mem_of_getElem? (i := 15) rfl)) (show Cond.instanceMethod yX8_rule ∈ lw_tbl from wIn_r30 _ (List.mem_of_getElem? (i := 16) rfl)) (show Cond.selects RX8 yX8_rule yX8_rule ∈ lw_tbl from wIn_r30 _ (List.mem_of_getElem? (i := 17) rfl)) (show Cond.initialized RX8 ∈ lw_tbl from wIn_r1 _ (List.mem_of_getElem? (i := 5) rfl)) im_wsX8_rule) (wsV_good gw_wsX8_rule)
theorem gL8_direction : GoodIn lw_tbl (wsV RL 145 RX8 yX8_direction wsX8_direction) := goodIn_sub (wsV_in (show Cond.methodLink RL 145 yX8_direction ∈ lw_tbl from wIn_r31 _ (List.mem_of_getElem? (i := 13) rfl)) (show Cond.instanceMethod yX8_direction ∈ lw_tbl from wIn_r31 _ (List.mem_of_getElem? (i := 14) rfl)) (show Cond.selects RX8 yX8_direction yX8_direction ∈ lw_tbl from wIn_r31 _ (List.mem_of_getElem? (i := 15) rfl)) (show Cond.initialized RX8 ∈ lw_tbl from wIn_r1 _ (List.mem_of_getElem? (i := 5) rfl)) im_wsX8_direction) (wsV_good gw_wsX8_direction)
theorem gL8_count : GoodIn lw_tbl (wsV RL 148 RX8 yX8_count wsX8_count) := goodIn_sub (wsV_in (show Cond.methodLink RL 148 yX8_count ∈ lw_tbl from wIn_r34 _ (List.mem_of_getElem? (i := 13) rfl)) (show Cond.instanceMethod yX8_count ∈ lw_tbl from wIn_r34 _ (List.mem_of_getElem? (i := 14) rfl)) (show Cond.selects RX8 yX8_count yX8_count ∈ lw_tbl from wIn_r34 _ (List.mem_of_getElem? (i := 15) rfl)) (show Cond.initialized RX8 ∈ lw_tbl from wIn_r1 _ (List.mem_of_getElem? (i := 5) rfl)) im_wsX8_count) (wsV_good gw_wsX8_count)
theorem gL8_starves : GoodIn lw_tbl (wsV RL 151 RX8 yX8_starves wsX8_starves) := goodIn_sub (wsV_in (show Cond.methodLink RL 151 yX8_starves ∈ lw_tbl from wIn_r37 _ (List.mem_of_getElem? (i := 0) rfl)) (show Cond.instanceMethod yX8_starves ∈ lw_tbl from wIn_r37 _ (List.mem_of_getElem? (i := 1) rfl)) (show Cond.selects RX8 yX8_starves yX8_starves ∈ lw_tbl from wIn_r37 _ (List.mem_of_getElem? (i := 2) rfl)) (show Cond.initialized RX8 ∈ lw_tbl from wIn_r1 _ (List.mem_of_getElem? (i := 5) rfl)) im_wsX8_starves) (wsV_good gw_wsX8_starves)
theorem gL8_rounds : GoodIn lw_tbl (wsV RL 154 RX8 yX8_rounds wsX8_rounds) := goodIn_sub (wsV_in (show Cond.methodLink RL 154 yX8_rounds ∈ lw_tbl from wIn_r38 _ (List.mem_of_getElem? (i := 0) rfl)) (show Cond.instanceMethod yX8_rounds ∈ lw_tbl from wIn_r38 _ (List.mem_of_getElem? (i := 1) rfl)) (show Cond.selects RX8 yX8_rounds yX8_rounds ∈ lw_tbl from wIn_r38 _ (List.mem_of_getElem? (i := 2) rfl)) (show Cond.initialized RX8 ∈ lw_tbl from wIn_r1 _ (List.mem_of_getElem? (i := 5) rfl)) im_wsX8_rounds) (wsV_good gw_wsX8_rounds)
theorem gL8_waitFor : GoodIn lw_tbl (wsV RL 158 RX8 yX8_waitFor wsX8_waitFor) := goodIn_sub (wsV_in (show Cond.methodLink RL 158 yX8_waitFor ∈ lw_tbl from wIn_r39 _ (List.mem_of_getElem? (i := 0) rfl)) (show Cond.instanceMethod yX8_waitFor ∈ lw_tbl from wIn_r39 _ (List.mem_of_getElem? (i := 1) rfl)) (show Cond.selects RX8 yX8_waitFor yX8_waitFor ∈ lw_tbl from wIn_r39 _ (List.mem_of_getElem? (i := 2) rfl)) (show Cond.initialized RX8 ∈ lw_tbl from wIn_r1 _ (List.mem_of_getElem? (i := 5) rfl)) im_wsX8_waitFor) (wsV_good gw_wsX8_waitFor)
theorem gL8_slowest : GoodIn lw_tbl (wsV RL 162 RX8 yX8_slowest wsX8_slowest) := goodIn_sub (wsV_in (show Cond.methodLink RL 162 yX8_slowest ∈ lw_tbl from wIn_r40 _ (List.mem_of_getElem? (i := 8) rfl)) (show Cond.instanceMethod yX8_slowest ∈ lw_tbl from wIn_r40 _ (List.mem_of_getElem? (i := 9) rfl)) (show Cond.selects RX8 yX8_slowest yX8_slowest ∈ lw_tbl from wIn_r40 _ (List.mem_of_getElem? (i := 10) rfl)) (show Cond.initialized RX8 ∈ lw_tbl from wIn_r1 _ (List.mem_of_getElem? (i := 5) rfl)) im_wsX8_slowest) (wsV_good gw_wsX8_slowest)
theorem gL8_remedy : GoodIn lw_tbl (wsV RL 165 RX8 yX8_remedy wsX8_remedy) := goodIn_sub (wsV_in (show Cond.methodLink RL 165 yX8_remedy ∈ lw_tbl from wIn_r41 _ (List.mem_of_getElem? (i := 7) rfl)) (show Cond.instanceMethod yX8_remedy ∈ lw_tbl from wIn_r41 _ (List.mem_of_getElem? (i := 8) rfl)) (show Cond.selects RX8 yX8_remedy yX8_remedy ∈ lw_tbl from wIn_r41 _ (List.mem_of_getElem? (i := 9) rfl)) (show Cond.initialized RX8 ∈ lw_tbl from wIn_r1 _ (List.mem_of_getElem? (i := 5) rfl)) im_wsX8_remedy) (wsV_good gw_wsX8_remedy)
theorem gL8_safeShare : GoodIn lw_tbl (wsV RL 170 RX8 yX8_safeShare wsX8_safeShare) := goodIn_sub (wsV_in (show Cond.methodLink RL 170 yX8_safeShare ∈ lw_tbl from wIn_r41 _ (List.mem_of_getElem? (i := 23) rfl)) (show Cond.instanceMethod yX8_safeShare ∈ lw_tbl from wIn_r42 _ (List.mem_of_getElem? (i := 0) rfl)) (show Cond.selects RX8 yX8_safeShare yX8_safeShare ∈ lw_tbl from wIn_r42 _ (List.mem_of_getElem? (i := 1) rfl)) (show Cond.initialized RX8 ∈ lw_tbl from wIn_r1 _ (List.mem_of_getElem? (i := 5) rfl)) im_wsX8_safeShare) (wsV_good gw_wsX8_safeShare)
theorem gL8_digest : GoodIn lw_tbl (wsV RL 175 RX8 yX8_digest wsX8_digest) := goodIn_sub (wsV_in (show Cond.methodLink RL 175 yX8_digest ∈ lw_tbl from wIn_r43 _ (List.mem_of_getElem? (i := 20) rfl)) (show Cond.instanceMethod yX8_digest ∈ lw_tbl from wIn_r43 _ (List.mem_of_getElem? (i := 21) rfl)) (show Cond.selects RX8 yX8_digest yX8_digest ∈ lw_tbl from wIn_r43 _ (List.mem_of_getElem? (i := 22) rfl)) (show Cond.initialized RX8 ∈ lw_tbl from wIn_r1 _ (List.mem_of_getElem? (i := 5) rfl)) im_wsX8_digest) (wsV_good gw_wsX8_digest)
theorem gL8_thrown : GoodIn lw_tbl (wsV RL 90 RX8 yX8_thrown wsX8_thrown) := goodIn_sub (wsV_in (show Cond.methodLink RL 90 yX8_thrown ∈ lw_tbl from wIn_r9 _ (List.mem_of_getElem? (i := 8) rfl)) (show Cond.instanceMethod yX8_thrown ∈ lw_tbl from wIn_r9 _ (List.mem_of_getElem? (i := 9) rfl)) (show Cond.selects RX8 yX8_thrown yX8_thrown ∈ lw_tbl from wIn_r9 _ (List.mem_of_getElem? (i := 10) rfl)) (show Cond.initialized RX8 ∈ lw_tbl from wIn_r1 _ (List.mem_of_getElem? (i := 5) rfl)) im_wsX8_thrown) (wsV_good gw_wsX8_thrown)
theorem gL7_clearBuffer : GoodIn lw_tbl (wsV RL 122 RX7 yX7_clearBuffer wsX7_clearBuffer) := goodIn_sub (wsV_in (show Cond.methodLink RL 122 yX7_clearBuffer ∈ lw_tbl from wIn_r22 _ (List.mem_of_getElem? (i := 6) rfl)) (show Cond.instanceMethod yX7_clearBuffer ∈ lw_tbl from wIn_r22 _ (List.mem_of_getElem? (i := 7) rfl)) (show Cond.selects RX7 yX7_clearBuffer yX7_clearBuffer ∈ lw_tbl from wIn_r22 _ (List.mem_of_getElem? (i := 8) rfl)) (show Cond.initialized RX7 ∈ lw_tbl from wIn_r1 _ (List.mem_of_getElem? (i := 2) rfl)) im_wsX7_clearBuffer) (wsV_good gw_wsX7_clearBuffer)
theorem gL7_firstError : GoodIn lw_tbl (wsV RL 126 RX7 yX7_firstError wsX7_firstError) := goodIn_sub (wsV_in (show Cond.methodLink RL 126 yX7_firstError ∈ lw_tbl from wIn_r22 _ (List.mem_of_getElem? (i := 18) rfl)) (show Cond.instanceMethod yX7_firstError ∈ lw_tbl from wIn_r22 _ (List.mem_of_getElem? (i := 19) rfl)) (show Cond.selects RX7 yX7_firstError yX7_firstError ∈ lw_tbl from wIn_r22 _ (List.mem_of_getElem? (i := 20) rfl)) (show Cond.initialized RX7 ∈ lw_tbl from wIn_r1 _ (List.mem_of_getElem? (i := 2) rfl)) im_wsX7_firstError) (wsV_good gw_wsX7_firstError)
theorem gL7_slowest : GoodIn lw_tbl (wsV RL 159 RX7 yX7_slowest wsX7_slowest) := goodIn_sub (wsV_in (show Cond.methodLink RL 159 yX7_slowest ∈ lw_tbl from wIn_r40 _ (List.mem_of_getElem? (i := 0) rfl)) (show Cond.instanceMethod yX7_slowest ∈ lw_tbl from wIn_r40 _ (List.mem_of_getElem? (i := 1) rfl)) (show Cond.selects RX7 yX7_slowest yX7_slowest ∈ lw_tbl from wIn_r40 _ (List.mem_of_getElem? (i := 2) rfl)) (show Cond.initialized RX7 ∈ lw_tbl from wIn_r1 _ (List.mem_of_getElem? (i := 2) rfl)) im_wsX7_slowest) (wsV_good gw_wsX7_slowest)
theorem gL7_safeShare : GoodIn lw_tbl (wsV RL 166 RX7 yX7_safeShare wsX7_safeShare) := goodIn_sub (wsV_in (show Cond.methodLink RL 166 yX7_safeShare ∈ lw_tbl from wIn_r41 _ (List.mem_of_getElem? (i := 19) rfl)) (show Cond.instanceMethod yX7_safeShare ∈ lw_tbl from wIn_r41 _ (List.mem_of_getElem? (i := 20) rfl)) (show Cond.selects RX7 yX7_safeShare yX7_safeShare ∈ lw_tbl from wIn_r41 _ (List.mem_of_getElem? (i := 21) rfl)) (show Cond.initialized RX7 ∈ lw_tbl from wIn_r1 _ (List.mem_of_getElem? (i := 2) rfl)) im_wsX7_safeShare) (wsV_good gw_wsX7_safeShare)
theorem gL7_digest : GoodIn lw_tbl (wsV RL 171 RX7 yX7_digest wsX7_digest) := goodIn_sub (wsV_in (show Cond.methodLink RL 171 yX7_digest ∈ lw_tbl from wIn_r42 _ (List.mem_of_getElem? (i := 7) rfl)) (show Cond.instanceMethod yX7_digest ∈ lw_tbl from wIn_r42 _ (List.mem_of_getElem? (i := 8) rfl)) (show Cond.selects RX7 yX7_digest yX7_digest ∈ lw_tbl from wIn_r42 _ (List.mem_of_getElem? (i := 9) rfl)) (show Cond.initialized RX7 ∈ lw_tbl from wIn_r1 _ (List.mem_of_getElem? (i := 2) rfl)) im_wsX7_digest) (wsV_good gw_wsX7_digest)
theorem vp_upd0 (f : Nat → Int64) (x : Int64) : vp_updL f 0 x (0 : Int32).toNatClampNeg = x := by
  unfold vp_updL
  rw [if_pos (by decide)]
section VC
variable {p : Program} {l : Launch} {e : Env} {s : State} {m : MethodId} {below : List Frame} {meth : Method} {c : Code} {nme : String} {D : va_G} {cy : Nat → ClassId} {b n : Nat} {xs : Nat → Int32} {a a' : Nat → Nat} {ho : Nat} {f : Nat → Int64} {γ : SX7} {ρ : SX8} {cells slots : Nat} {ii : Int32}
abbrev KL (p : Program) (l : Launch) (e : Env) (s : State) (m : MethodId) (below : List Frame) (meth : Method) (c : Code) (D : va_G) (cy : Nat → ClassId) (b : Nat) (a a' : Nat → Nat) (ho : Nat) (cells slots : Nat) (ii : Int32) : Prop := ∀ (γ' : SX7) (ρ' : SX8) (f' : Nat → Int64), SR γ' ρ' → V p l e room_1 s m #[.ref b] below meth c 9 D (aL s) (cells + 1) (slots + 6) (lw_Z below #[.ref b] s) ((wX7 cy a γ' ++ wX8 cy a' ρ') ++ [oc cy ho f']) [(4, .int ii), (3, .ref ho), (2, .ref (a' 0)), (1, .ref (a 0)), (0, .ref b)] [] 1526
set_option maxHeartbeats 8000000 in
theorem law_clash (hfl : l.stackTraces = false) (F : Fx p s m #[.ref b] meth c cL_law 9 RL nme lw_tbl ret D cy (aL s)) (G : FxL s b n xs) (hcl : cells + 1 ≤ room_1.cells) (hsl : slots + 6 ≤ room_1.slots) (S : SR γ ρ) (i1 : vp_in (ii + 1) n) (i2 : vp_in (ii + 2) n) (i3 : vp_in (ii + 3) n) (K : KL p l e s m below meth c D cy b a a' ho cells slots ii) : V p l e room_1 s m #[.ref b] below meth c 9 D (aL s) cells slots (lw_Z below #[.ref b] s) ((wX7 cy a γ ++ wX8 cy a' ρ) ++ [oc cy ho f]) [(4, .int ii), (3, .ref ho), (2, .ref (a' 0)), (1, .ref (a 0)), (0, .ref b)] [] 152 := by
  have hc : CSame [IAE] (fX7_clash 900 γ (xs (ii + 1).toNatClampNeg) (xs (ii + 2).toNatClampNeg)) (fX8_clash 900 ρ (xs (ii + 1).toNatClampNeg) (xs (ii + 2).toNatClampNeg)) := clash_call (m := γ.1) (h := γ.2.1) (tx := γ.2.2.1) (pf := γ.2.2.2) (t := ρ.1) (z := ρ.2.1) (S' := ρ.2.2.1) (kk := ρ.2.2.2.1) (u := ρ.2.2.2.2) S (show 900 ≤ 900 from Nat.le_refl _) (xs (ii + 1).toNatClampNeg) (xs (ii + 2).toNatClampNeg)
  obtain ⟨x, ρ', h8, ⟨hk, γ', h7, S2⟩ | ⟨j, E, γ', hE, hk, h7, S2⟩⟩ := hc
  · refine V_aload_n (pc := 152) F dL_law_152 rfl 3 rfl ?_
    refine V_aload_n (pc := 153) F dL_law_153 rfl 4 rfl ?_
    refine V_iload (pc := 154) F dL_law_154 0 rfl ?_
    refine V_iconst (pc := 156) (v := 1) F dL_law_156 rfl ?_
    refine V_iadd (pc := 157) F dL_law_157 ?_
    refine V_sld (pc := 158) F G.2.2.2.1 G.2.2.2.2 G.nb i1 dL_law_158 ?_
    refine V_aload_n (pc := 159) F dL_law_159 rfl 4 rfl ?_
    refine V_iload (pc := 160) F dL_law_160 0 rfl ?_
    refine V_iconst (pc := 162) (v := 2) F dL_law_162 rfl ?_
    refine V_iadd (pc := 163) F dL_law_163 ?_
    refine V_sld (pc := 164) F G.2.2.2.1 G.2.2.2.2 G.nb i2 dL_law_164 ?_
    refine V_aload_n (pc := 165) F dL_law_165 rfl 1 rfl ?_
    refine V_SW (w2 := ((wX7 cy a γ' ++ wX8 cy a' ρ) ++ [oc cy ho (vp_updL f 0 x.toInt64)])) (rest := []) (st2 := [.int 0]) (pc := 166) F G.1 G.2.1 G.2.2.1 (W_clash l D cy 900 a ho f γ (xs (ii + 1).toNatClampNeg) (xs (ii + 2).toNatClampNeg) (x, γ') h7) (vx_cwSW 4 F.ts gLS_clash rfl rfl rfl hdL_clash ⟨Nat.le_of_ble_eq_true rfl, Nat.le_of_ble_eq_true rfl⟩) rfl dL_law_166 (Fit2.both (Fit.left Fit.whole) Fit.whole) fstX7 rfl (Nat.le_of_ble_eq_true rfl) hcl hsl rfl rfl rfl ?_
    refine V_istore (L2 := [(5, .int 0), (4, .int ii), (3, .ref ho), (2, .ref (a' 0)), (1, .ref (a 0)), (0, .ref b)]) (pc := 169) F dL_law_169 (by decide) rfl ?_
    refine V_aload_n (pc := 171) F dL_law_171 rfl 3 rfl ?_
    refine V_aload_n (pc := 172) F dL_law_172 rfl 5 rfl ?_
    refine V_iload (pc := 173) F dL_law_173 1 rfl ?_
    refine V_iconst (pc := 175) (v := 1) F dL_law_175 rfl ?_
    refine V_iadd (pc := 176) F dL_law_176 ?_
    refine V_sld (pc := 177) F G.2.2.2.1 G.2.2.2.2 G.nb i1 dL_law_177 ?_
    refine V_aload_n (pc := 178) F dL_law_178 rfl 5 rfl ?_
    refine V_iload (pc := 179) F dL_law_179 1 rfl ?_
    refine V_iconst (pc := 181) (v := 2) F dL_law_181 rfl ?_
    refine V_iadd (pc := 182) F dL_law_182 ?_
    refine V_sld (pc := 183) F G.2.2.2.1 G.2.2.2.2 G.nb i2 dL_law_183 ?_
    refine V_V (w2 := ((wX7 cy a γ' ++ wX8 cy a' ρ') ++ [oc cy ho (vp_updL f 0 x.toInt64)])) (rest := []) (st2 := [.int x]) (pc := 184) F 8 (M_X8_clash l D cy 900 a' ρ (xs (ii + 1).toNatClampNeg) (xs (ii + 2).toNatClampNeg) (x, ρ') h8) (cwV 2 F.ts gL8_clash rfl rfl rfl hd_X8_clash ⟨Nat.le_of_ble_eq_true rfl, Nat.le_of_ble_eq_true rfl⟩) rfl dL_law_184 (Fit.left (Fit.right Fit.whole)) fstX8 rfl rfl (Nat.le_of_ble_eq_true rfl) hcl hsl rfl rfl rfl ?_
    refine V_istore (L2 := [(6, .int x), (5, .int 0), (4, .int ii), (3, .ref ho), (2, .ref (a' 0)), (1, .ref (a 0)), (0, .ref b)]) (pc := 187) F dL_law_187 (by decide) rfl ?_
    refine V_aload_n (pc := 189) F dL_law_189 rfl 4 rfl ?_
    refine V_V (w2 := ((wX7 cy a γ' ++ wX8 cy a' ρ') ++ [oc cy ho (vp_updL f 0 x.toInt64)])) (rest := []) (st2 := [.int ρ'.1]) (pc := 190) F 8 (M_X8_thrown l D cy 900 a' ρ' ρ'.1 rfl) (cwV 0 F.ts gL8_thrown rfl rfl rfl hd_X8_thrown ⟨Nat.le_of_ble_eq_true rfl, Nat.le_of_ble_eq_true rfl⟩) rfl dL_law_190 (Fit.left (Fit.right Fit.whole)) rfl rfl rfl (Nat.le_of_ble_eq_true rfl) hcl hsl rfl rfl rfl ?_
    refine V_iload (pc := 193) F dL_law_193 1 rfl ?_
    refine V_icmp_eq (pc := 195) (tgt := 200) F dL_law_195 (by decide) (fun _ => ?_) (fun h => absurd hk h)
    refine V_iload (pc := 200) F dL_law_200 1 rfl ?_
    refine V_if_ne (pc := 202) (tgt := 217) F dL_law_202 (by decide) (fun h => absurd rfl h) (fun _ => ?_)
    refine V_aload_n (pc := 205) F dL_law_205 rfl 3 rfl ?_
    refine V_iconst (pc := 206) (v := 0) F dL_law_206 rfl ?_
    refine V_lald (pc := 207) F ((wX7 cy a γ' ++ wX8 cy a' ρ').length + 0) (at_right (k := 0) rfl) (by unfold vp_in; decide) dL_law_207 ?_
    refine V_iload (pc := 208) F dL_law_208 0 rfl ?_
    refine V_i2l (pc := 210) F dL_law_210 ?_
    refine V_lcmp (pc := 211) F dL_law_211 ?_
    refine V_if_eq (pc := 212) (tgt := 217) F dL_law_212 (by decide) (fun _ => ?_) (fun h => absurd (by rw [vp_upd0]; exact lgc_self _) h)
    refine V_goto (pc := 217) (tgt := 1526) F dL_law_217 (by decide) ?_
    refine V.sub (L2 := [(4, .int ii), (3, .ref ho), (2, .ref (a' 0)), (1, .ref (a 0)), (0, .ref b)]) [2, 3, 4, 5, 6] rfl ?_
    exact K γ' ρ' (vp_updL f 0 x.toInt64) S2
  · rcases j with _ | j
    · replace hE : E = IAE := (Option.some.inj hE).symm
      replace hk : ρ'.1 = 1 := hk
      refine V_aload_n (pc := 152) F dL_law_152 rfl 3 rfl ?_
      refine V_aload_n (pc := 153) F dL_law_153 rfl 4 rfl ?_
      refine V_iload (pc := 154) F dL_law_154 0 rfl ?_
      refine V_iconst (pc := 156) (v := 1) F dL_law_156 rfl ?_
      refine V_iadd (pc := 157) F dL_law_157 ?_
      refine V_sld (pc := 158) F G.2.2.2.1 G.2.2.2.2 G.nb i1 dL_law_158 ?_
      refine V_aload_n (pc := 159) F dL_law_159 rfl 4 rfl ?_
      refine V_iload (pc := 160) F dL_law_160 0 rfl ?_
      refine V_iconst (pc := 162) (v := 2) F dL_law_162 rfl ?_
      refine V_iadd (pc := 163) F dL_law_163 ?_
      refine V_sld (pc := 164) F G.2.2.2.1 G.2.2.2.2 G.nb i2 dL_law_164 ?_
      refine V_aload_n (pc := 165) F dL_law_165 rfl 1 rfl ?_
      refine V_SW (w2 := ((wX7 cy a γ' ++ wX8 cy a' ρ) ++ [oc cy ho f])) (rest := []) (st2 := [.int 1]) (pc := 166) F G.1 G.2.1 G.2.2.1 (WT_clash_0 l hfl D cy 900 a ho f γ (xs (ii + 1).toNatClampNeg) (xs (ii + 2).toNatClampNeg) E γ' h7 hE) (vx_cwSW 4 F.ts gLS_clash rfl rfl rfl hdL_clash ⟨Nat.le_of_ble_eq_true rfl, Nat.le_of_ble_eq_true rfl⟩) rfl dL_law_166 (Fit2.both (Fit.left Fit.whole) Fit.whole) fstX7 rfl (Nat.le_of_ble_eq_true rfl) hcl hsl rfl rfl rfl ?_
      refine V_istore (L2 := [(5, .int 1), (4, .int ii), (3, .ref ho), (2, .ref (a' 0)), (1, .ref (a 0)), (0, .ref b)]) (pc := 169) F dL_law_169 (by decide) rfl ?_
      refine V_aload_n (pc := 171) F dL_law_171 rfl 3 rfl ?_
      refine V_aload_n (pc := 172) F dL_law_172 rfl 5 rfl ?_
      refine V_iload (pc := 173) F dL_law_173 1 rfl ?_
      refine V_iconst (pc := 175) (v := 1) F dL_law_175 rfl ?_
      refine V_iadd (pc := 176) F dL_law_176 ?_
      refine V_sld (pc := 177) F G.2.2.2.1 G.2.2.2.2 G.nb i1 dL_law_177 ?_
      refine V_aload_n (pc := 178) F dL_law_178 rfl 5 rfl ?_
      refine V_iload (pc := 179) F dL_law_179 1 rfl ?_
      refine V_iconst (pc := 181) (v := 2) F dL_law_181 rfl ?_
      refine V_iadd (pc := 182) F dL_law_182 ?_
      refine V_sld (pc := 183) F G.2.2.2.1 G.2.2.2.2 G.nb i2 dL_law_183 ?_
      refine V_V (w2 := ((wX7 cy a γ' ++ wX8 cy a' ρ') ++ [oc cy ho f])) (rest := []) (st2 := [.int x]) (pc := 184) F 8 (M_X8_clash l D cy 900 a' ρ (xs (ii + 1).toNatClampNeg) (xs (ii + 2).toNatClampNeg) (x, ρ') h8) (cwV 2 F.ts gL8_clash rfl rfl rfl hd_X8_clash ⟨Nat.le_of_ble_eq_true rfl, Nat.le_of_ble_eq_true rfl⟩) rfl dL_law_184 (Fit.left (Fit.right Fit.whole)) fstX8 rfl rfl (Nat.le_of_ble_eq_true rfl) hcl hsl rfl rfl rfl ?_
      refine V_istore (L2 := [(6, .int x), (5, .int 1), (4, .int ii), (3, .ref ho), (2, .ref (a' 0)), (1, .ref (a 0)), (0, .ref b)]) (pc := 187) F dL_law_187 (by decide) rfl ?_
      refine V_aload_n (pc := 189) F dL_law_189 rfl 4 rfl ?_
      refine V_V (w2 := ((wX7 cy a γ' ++ wX8 cy a' ρ') ++ [oc cy ho f])) (rest := []) (st2 := [.int ρ'.1]) (pc := 190) F 8 (M_X8_thrown l D cy 900 a' ρ' ρ'.1 rfl) (cwV 0 F.ts gL8_thrown rfl rfl rfl hd_X8_thrown ⟨Nat.le_of_ble_eq_true rfl, Nat.le_of_ble_eq_true rfl⟩) rfl dL_law_190 (Fit.left (Fit.right Fit.whole)) rfl rfl rfl (Nat.le_of_ble_eq_true rfl) hcl hsl rfl rfl rfl ?_
      refine V_iload (pc := 193) F dL_law_193 1 rfl ?_
      refine V_icmp_eq (pc := 195) (tgt := 200) F dL_law_195 (by decide) (fun _ => ?_) (fun h => absurd hk h)
      refine V_iload (pc := 200) F dL_law_200 1 rfl ?_
      refine V_if_ne (pc := 202) (tgt := 217) F dL_law_202 (by decide) (fun _ => ?_) (fun h => absurd h (by decide))
      refine V_goto (pc := 217) (tgt := 1526) F dL_law_217 (by decide) ?_
      refine V.sub (L2 := [(4, .int ii), (3, .ref ho), (2, .ref (a' 0)), (1, .ref (a 0)), (0, .ref b)]) [2, 3, 4, 5, 6] rfl ?_
      exact K γ' ρ' f S2
    · exact absurd hE (by simp)
set_option maxHeartbeats 8000000 in
theorem law_addPhase (hfl : l.stackTraces = false) (F : Fx p s m #[.ref b] meth c cL_law 9 RL nme lw_tbl ret D cy (aL s)) (G : FxL s b n xs) (hcl : cells + 1 ≤ room_1.cells) (hsl : slots + 6 ≤ room_1.slots) (S : SR γ ρ) (i1 : vp_in (ii + 1) n) (i2 : vp_in (ii + 2) n) (i3 : vp_in (ii + 3) n) (K : KL p l e s m below meth c D cy b a a' ho cells slots ii) : V p l e room_1 s m #[.ref b] below meth c 9 D (aL s) cells slots (lw_Z below #[.ref b] s) ((wX7 cy a γ ++ wX8 cy a' ρ) ++ [oc cy ho f]) [(4, .int ii), (3, .ref ho), (2, .ref (a' 0)), (1, .ref (a 0)), (0, .ref b)] [] 220 := by
  have hc : CSame [IAE, ISE] (fX7_addPhase 900 γ (xs (ii + 1).toNatClampNeg) (xs (ii + 2).toNatClampNeg)) (fX8_addPhase 900 ρ (xs (ii + 1).toNatClampNeg) (xs (ii + 2).toNatClampNeg)) := addPhase_call (m := γ.1) (h := γ.2.1) (tx := γ.2.2.1) (pf := γ.2.2.2) (t := ρ.1) (z := ρ.2.1) (S' := ρ.2.2.1) (kk := ρ.2.2.2.1) (u := ρ.2.2.2.2) S (show 900 ≤ 900 from Nat.le_refl _) (xs (ii + 1).toNatClampNeg) (xs (ii + 2).toNatClampNeg)
  obtain ⟨x, ρ', h8, ⟨hk, γ', h7, S2⟩ | ⟨j, E, γ', hE, hk, h7, S2⟩⟩ := hc
  · refine V_aload_n (pc := 220) F dL_law_220 rfl 3 rfl ?_
    refine V_aload_n (pc := 221) F dL_law_221 rfl 4 rfl ?_
    refine V_iload (pc := 222) F dL_law_222 0 rfl ?_
    refine V_iconst (pc := 224) (v := 1) F dL_law_224 rfl ?_
    refine V_iadd (pc := 225) F dL_law_225 ?_
    refine V_sld (pc := 226) F G.2.2.2.1 G.2.2.2.2 G.nb i1 dL_law_226 ?_
    refine V_aload_n (pc := 227) F dL_law_227 rfl 4 rfl ?_
    refine V_iload (pc := 228) F dL_law_228 0 rfl ?_
    refine V_iconst (pc := 230) (v := 2) F dL_law_230 rfl ?_
    refine V_iadd (pc := 231) F dL_law_231 ?_
    refine V_sld (pc := 232) F G.2.2.2.1 G.2.2.2.2 G.nb i2 dL_law_232 ?_
    refine V_aload_n (pc := 233) F dL_law_233 rfl 1 rfl ?_
    refine V_SW (w2 := ((wX7 cy a γ' ++ wX8 cy a' ρ) ++ [oc cy ho (vp_updL f 0 x.toInt64)])) (rest := []) (st2 := [.int 0]) (pc := 234) F G.1 G.2.1 G.2.2.1 (W_addPhase l D cy 900 a ho f γ (xs (ii + 1).toNatClampNeg) (xs (ii + 2).toNatClampNeg) (x, γ') h7) (vx_cwSW 4 F.ts gLS_addPhase rfl rfl rfl hdL_addPhase ⟨Nat.le_of_ble_eq_true rfl, Nat.le_of_ble_eq_true rfl⟩) rfl dL_law_234 (Fit2.both (Fit.left Fit.whole) Fit.whole) fstX7 rfl (Nat.le_of_ble_eq_true rfl) hcl hsl rfl rfl rfl ?_
    refine V_istore (L2 := [(5, .int 0), (4, .int ii), (3, .ref ho), (2, .ref (a' 0)), (1, .ref (a 0)), (0, .ref b)]) (pc := 237) F dL_law_237 (by decide) rfl ?_
    refine V_aload_n (pc := 239) F dL_law_239 rfl 3 rfl ?_
    refine V_aload_n (pc := 240) F dL_law_240 rfl 5 rfl ?_
    refine V_iload (pc := 241) F dL_law_241 1 rfl ?_
    refine V_iconst (pc := 243) (v := 1) F dL_law_243 rfl ?_
    refine V_iadd (pc := 244) F dL_law_244 ?_
    refine V_sld (pc := 245) F G.2.2.2.1 G.2.2.2.2 G.nb i1 dL_law_245 ?_
    refine V_aload_n (pc := 246) F dL_law_246 rfl 5 rfl ?_
    refine V_iload (pc := 247) F dL_law_247 1 rfl ?_
    refine V_iconst (pc := 249) (v := 2) F dL_law_249 rfl ?_
    refine V_iadd (pc := 250) F dL_law_250 ?_
    refine V_sld (pc := 251) F G.2.2.2.1 G.2.2.2.2 G.nb i2 dL_law_251 ?_
    refine V_V (w2 := ((wX7 cy a γ' ++ wX8 cy a' ρ') ++ [oc cy ho (vp_updL f 0 x.toInt64)])) (rest := []) (st2 := [.int x]) (pc := 252) F 8 (M_X8_addPhase l D cy 900 a' ρ (xs (ii + 1).toNatClampNeg) (xs (ii + 2).toNatClampNeg) (x, ρ') h8) (cwV 2 F.ts gL8_addPhase rfl rfl rfl hd_X8_addPhase ⟨Nat.le_of_ble_eq_true rfl, Nat.le_of_ble_eq_true rfl⟩) rfl dL_law_252 (Fit.left (Fit.right Fit.whole)) fstX8 rfl rfl (Nat.le_of_ble_eq_true rfl) hcl hsl rfl rfl rfl ?_
    refine V_istore (L2 := [(6, .int x), (5, .int 0), (4, .int ii), (3, .ref ho), (2, .ref (a' 0)), (1, .ref (a 0)), (0, .ref b)]) (pc := 255) F dL_law_255 (by decide) rfl ?_
    refine V_aload_n (pc := 257) F dL_law_257 rfl 4 rfl ?_
    refine V_V (w2 := ((wX7 cy a γ' ++ wX8 cy a' ρ') ++ [oc cy ho (vp_updL f 0 x.toInt64)])) (rest := []) (st2 := [.int ρ'.1]) (pc := 258) F 8 (M_X8_thrown l D cy 900 a' ρ' ρ'.1 rfl) (cwV 0 F.ts gL8_thrown rfl rfl rfl hd_X8_thrown ⟨Nat.le_of_ble_eq_true rfl, Nat.le_of_ble_eq_true rfl⟩) rfl dL_law_258 (Fit.left (Fit.right Fit.whole)) rfl rfl rfl (Nat.le_of_ble_eq_true rfl) hcl hsl rfl rfl rfl ?_
    refine V_iload (pc := 261) F dL_law_261 1 rfl ?_
    refine V_icmp_eq (pc := 263) (tgt := 268) F dL_law_263 (by decide) (fun _ => ?_) (fun h => absurd hk h)
    refine V_iload (pc := 268) F dL_law_268 1 rfl ?_
    refine V_if_ne (pc := 270) (tgt := 285) F dL_law_270 (by decide) (fun h => absurd rfl h) (fun _ => ?_)
    refine V_aload_n (pc := 273) F dL_law_273 rfl 3 rfl ?_
    refine V_iconst (pc := 274) (v := 0) F dL_law_274 rfl ?_
    refine V_lald (pc := 275) F ((wX7 cy a γ' ++ wX8 cy a' ρ').length + 0) (at_right (k := 0) rfl) (by unfold vp_in; decide) dL_law_275 ?_
    refine V_iload (pc := 276) F dL_law_276 0 rfl ?_
    refine V_i2l (pc := 278) F dL_law_278 ?_
    refine V_lcmp (pc := 279) F dL_law_279 ?_
    refine V_if_eq (pc := 280) (tgt := 285) F dL_law_280 (by decide) (fun _ => ?_) (fun h => absurd (by rw [vp_upd0]; exact lgc_self _) h)
    refine V_goto (pc := 285) (tgt := 1526) F dL_law_285 (by decide) ?_
    refine V.sub (L2 := [(4, .int ii), (3, .ref ho), (2, .ref (a' 0)), (1, .ref (a 0)), (0, .ref b)]) [2, 3, 4, 5, 6] rfl ?_
    exact K γ' ρ' (vp_updL f 0 x.toInt64) S2
  · rcases j with _ | _ | j
    · replace hE : E = IAE := (Option.some.inj hE).symm
      replace hk : ρ'.1 = 1 := hk
      refine V_aload_n (pc := 220) F dL_law_220 rfl 3 rfl ?_
      refine V_aload_n (pc := 221) F dL_law_221 rfl 4 rfl ?_
      refine V_iload (pc := 222) F dL_law_222 0 rfl ?_
      refine V_iconst (pc := 224) (v := 1) F dL_law_224 rfl ?_
      refine V_iadd (pc := 225) F dL_law_225 ?_
      refine V_sld (pc := 226) F G.2.2.2.1 G.2.2.2.2 G.nb i1 dL_law_226 ?_
      refine V_aload_n (pc := 227) F dL_law_227 rfl 4 rfl ?_
      refine V_iload (pc := 228) F dL_law_228 0 rfl ?_
      refine V_iconst (pc := 230) (v := 2) F dL_law_230 rfl ?_
      refine V_iadd (pc := 231) F dL_law_231 ?_
      refine V_sld (pc := 232) F G.2.2.2.1 G.2.2.2.2 G.nb i2 dL_law_232 ?_
      refine V_aload_n (pc := 233) F dL_law_233 rfl 1 rfl ?_
      refine V_SW (w2 := ((wX7 cy a γ' ++ wX8 cy a' ρ) ++ [oc cy ho f])) (rest := []) (st2 := [.int 1]) (pc := 234) F G.1 G.2.1 G.2.2.1 (WT_addPhase_0 l hfl D cy 900 a ho f γ (xs (ii + 1).toNatClampNeg) (xs (ii + 2).toNatClampNeg) E γ' h7 hE) (vx_cwSW 4 F.ts gLS_addPhase rfl rfl rfl hdL_addPhase ⟨Nat.le_of_ble_eq_true rfl, Nat.le_of_ble_eq_true rfl⟩) rfl dL_law_234 (Fit2.both (Fit.left Fit.whole) Fit.whole) fstX7 rfl (Nat.le_of_ble_eq_true rfl) hcl hsl rfl rfl rfl ?_
      refine V_istore (L2 := [(5, .int 1), (4, .int ii), (3, .ref ho), (2, .ref (a' 0)), (1, .ref (a 0)), (0, .ref b)]) (pc := 237) F dL_law_237 (by decide) rfl ?_
      refine V_aload_n (pc := 239) F dL_law_239 rfl 3 rfl ?_
      refine V_aload_n (pc := 240) F dL_law_240 rfl 5 rfl ?_
      refine V_iload (pc := 241) F dL_law_241 1 rfl ?_
      refine V_iconst (pc := 243) (v := 1) F dL_law_243 rfl ?_
      refine V_iadd (pc := 244) F dL_law_244 ?_
      refine V_sld (pc := 245) F G.2.2.2.1 G.2.2.2.2 G.nb i1 dL_law_245 ?_
      refine V_aload_n (pc := 246) F dL_law_246 rfl 5 rfl ?_
      refine V_iload (pc := 247) F dL_law_247 1 rfl ?_
      refine V_iconst (pc := 249) (v := 2) F dL_law_249 rfl ?_
      refine V_iadd (pc := 250) F dL_law_250 ?_
      refine V_sld (pc := 251) F G.2.2.2.1 G.2.2.2.2 G.nb i2 dL_law_251 ?_
      refine V_V (w2 := ((wX7 cy a γ' ++ wX8 cy a' ρ') ++ [oc cy ho f])) (rest := []) (st2 := [.int x]) (pc := 252) F 8 (M_X8_addPhase l D cy 900 a' ρ (xs (ii + 1).toNatClampNeg) (xs (ii + 2).toNatClampNeg) (x, ρ') h8) (cwV 2 F.ts gL8_addPhase rfl rfl rfl hd_X8_addPhase ⟨Nat.le_of_ble_eq_true rfl, Nat.le_of_ble_eq_true rfl⟩) rfl dL_law_252 (Fit.left (Fit.right Fit.whole)) fstX8 rfl rfl (Nat.le_of_ble_eq_true rfl) hcl hsl rfl rfl rfl ?_
      refine V_istore (L2 := [(6, .int x), (5, .int 1), (4, .int ii), (3, .ref ho), (2, .ref (a' 0)), (1, .ref (a 0)), (0, .ref b)]) (pc := 255) F dL_law_255 (by decide) rfl ?_
      refine V_aload_n (pc := 257) F dL_law_257 rfl 4 rfl ?_
      refine V_V (w2 := ((wX7 cy a γ' ++ wX8 cy a' ρ') ++ [oc cy ho f])) (rest := []) (st2 := [.int ρ'.1]) (pc := 258) F 8 (M_X8_thrown l D cy 900 a' ρ' ρ'.1 rfl) (cwV 0 F.ts gL8_thrown rfl rfl rfl hd_X8_thrown ⟨Nat.le_of_ble_eq_true rfl, Nat.le_of_ble_eq_true rfl⟩) rfl dL_law_258 (Fit.left (Fit.right Fit.whole)) rfl rfl rfl (Nat.le_of_ble_eq_true rfl) hcl hsl rfl rfl rfl ?_
      refine V_iload (pc := 261) F dL_law_261 1 rfl ?_
      refine V_icmp_eq (pc := 263) (tgt := 268) F dL_law_263 (by decide) (fun _ => ?_) (fun h => absurd hk h)
      refine V_iload (pc := 268) F dL_law_268 1 rfl ?_
      refine V_if_ne (pc := 270) (tgt := 285) F dL_law_270 (by decide) (fun _ => ?_) (fun h => absurd h (by decide))
      refine V_goto (pc := 285) (tgt := 1526) F dL_law_285 (by decide) ?_
      refine V.sub (L2 := [(4, .int ii), (3, .ref ho), (2, .ref (a' 0)), (1, .ref (a 0)), (0, .ref b)]) [2, 3, 4, 5, 6] rfl ?_
      exact K γ' ρ' f S2
    · replace hE : E = ISE := (Option.some.inj hE).symm
      replace hk : ρ'.1 = 2 := hk
      refine V_aload_n (pc := 220) F dL_law_220 rfl 3 rfl ?_
      refine V_aload_n (pc := 221) F dL_law_221 rfl 4 rfl ?_
      refine V_iload (pc := 222) F dL_law_222 0 rfl ?_
      refine V_iconst (pc := 224) (v := 1) F dL_law_224 rfl ?_
      refine V_iadd (pc := 225) F dL_law_225 ?_
      refine V_sld (pc := 226) F G.2.2.2.1 G.2.2.2.2 G.nb i1 dL_law_226 ?_
      refine V_aload_n (pc := 227) F dL_law_227 rfl 4 rfl ?_
      refine V_iload (pc := 228) F dL_law_228 0 rfl ?_
      refine V_iconst (pc := 230) (v := 2) F dL_law_230 rfl ?_
      refine V_iadd (pc := 231) F dL_law_231 ?_
      refine V_sld (pc := 232) F G.2.2.2.1 G.2.2.2.2 G.nb i2 dL_law_232 ?_
      refine V_aload_n (pc := 233) F dL_law_233 rfl 1 rfl ?_
      refine V_SW (w2 := ((wX7 cy a γ' ++ wX8 cy a' ρ) ++ [oc cy ho f])) (rest := []) (st2 := [.int 2]) (pc := 234) F G.1 G.2.1 G.2.2.1 (WT_addPhase_1 l hfl D cy 900 a ho f γ (xs (ii + 1).toNatClampNeg) (xs (ii + 2).toNatClampNeg) E γ' h7 hE) (vx_cwSW 4 F.ts gLS_addPhase rfl rfl rfl hdL_addPhase ⟨Nat.le_of_ble_eq_true rfl, Nat.le_of_ble_eq_true rfl⟩) rfl dL_law_234 (Fit2.both (Fit.left Fit.whole) Fit.whole) fstX7 rfl (Nat.le_of_ble_eq_true rfl) hcl hsl rfl rfl rfl ?_
      refine V_istore (L2 := [(5, .int 2), (4, .int ii), (3, .ref ho), (2, .ref (a' 0)), (1, .ref (a 0)), (0, .ref b)]) (pc := 237) F dL_law_237 (by decide) rfl ?_
      refine V_aload_n (pc := 239) F dL_law_239 rfl 3 rfl ?_
      refine V_aload_n (pc := 240) F dL_law_240 rfl 5 rfl ?_
      refine V_iload (pc := 241) F dL_law_241 1 rfl ?_
      refine V_iconst (pc := 243) (v := 1) F dL_law_243 rfl ?_
      refine V_iadd (pc := 244) F dL_law_244 ?_
      refine V_sld (pc := 245) F G.2.2.2.1 G.2.2.2.2 G.nb i1 dL_law_245 ?_
      refine V_aload_n (pc := 246) F dL_law_246 rfl 5 rfl ?_
      refine V_iload (pc := 247) F dL_law_247 1 rfl ?_
      refine V_iconst (pc := 249) (v := 2) F dL_law_249 rfl ?_
      refine V_iadd (pc := 250) F dL_law_250 ?_
      refine V_sld (pc := 251) F G.2.2.2.1 G.2.2.2.2 G.nb i2 dL_law_251 ?_
      refine V_V (w2 := ((wX7 cy a γ' ++ wX8 cy a' ρ') ++ [oc cy ho f])) (rest := []) (st2 := [.int x]) (pc := 252) F 8 (M_X8_addPhase l D cy 900 a' ρ (xs (ii + 1).toNatClampNeg) (xs (ii + 2).toNatClampNeg) (x, ρ') h8) (cwV 2 F.ts gL8_addPhase rfl rfl rfl hd_X8_addPhase ⟨Nat.le_of_ble_eq_true rfl, Nat.le_of_ble_eq_true rfl⟩) rfl dL_law_252 (Fit.left (Fit.right Fit.whole)) fstX8 rfl rfl (Nat.le_of_ble_eq_true rfl) hcl hsl rfl rfl rfl ?_
      refine V_istore (L2 := [(6, .int x), (5, .int 2), (4, .int ii), (3, .ref ho), (2, .ref (a' 0)), (1, .ref (a 0)), (0, .ref b)]) (pc := 255) F dL_law_255 (by decide) rfl ?_
      refine V_aload_n (pc := 257) F dL_law_257 rfl 4 rfl ?_
      refine V_V (w2 := ((wX7 cy a γ' ++ wX8 cy a' ρ') ++ [oc cy ho f])) (rest := []) (st2 := [.int ρ'.1]) (pc := 258) F 8 (M_X8_thrown l D cy 900 a' ρ' ρ'.1 rfl) (cwV 0 F.ts gL8_thrown rfl rfl rfl hd_X8_thrown ⟨Nat.le_of_ble_eq_true rfl, Nat.le_of_ble_eq_true rfl⟩) rfl dL_law_258 (Fit.left (Fit.right Fit.whole)) rfl rfl rfl (Nat.le_of_ble_eq_true rfl) hcl hsl rfl rfl rfl ?_
      refine V_iload (pc := 261) F dL_law_261 1 rfl ?_
      refine V_icmp_eq (pc := 263) (tgt := 268) F dL_law_263 (by decide) (fun _ => ?_) (fun h => absurd hk h)
      refine V_iload (pc := 268) F dL_law_268 1 rfl ?_
      refine V_if_ne (pc := 270) (tgt := 285) F dL_law_270 (by decide) (fun _ => ?_) (fun h => absurd h (by decide))
      refine V_goto (pc := 285) (tgt := 1526) F dL_law_285 (by decide) ?_
      refine V.sub (L2 := [(4, .int ii), (3, .ref ho), (2, .ref (a' 0)), (1, .ref (a 0)), (0, .ref b)]) [2, 3, 4, 5, 6] rfl ?_
      exact K γ' ρ' f S2
    · exact absurd hE (by simp)
set_option maxHeartbeats 8000000 in
theorem law_addRule (hfl : l.stackTraces = false) (F : Fx p s m #[.ref b] meth c cL_law 9 RL nme lw_tbl ret D cy (aL s)) (G : FxL s b n xs) (hcl : cells + 1 ≤ room_1.cells) (hsl : slots + 6 ≤ room_1.slots) (S : SR γ ρ) (i1 : vp_in (ii + 1) n) (i2 : vp_in (ii + 2) n) (i3 : vp_in (ii + 3) n) (K : KL p l e s m below meth c D cy b a a' ho cells slots ii) : V p l e room_1 s m #[.ref b] below meth c 9 D (aL s) cells slots (lw_Z below #[.ref b] s) ((wX7 cy a γ ++ wX8 cy a' ρ) ++ [oc cy ho f]) [(4, .int ii), (3, .ref ho), (2, .ref (a' 0)), (1, .ref (a 0)), (0, .ref b)] [] 288 := by
  have hc : CSame [IOB, IAE, ISE] (fX7_addRule 900 γ (xs (ii + 1).toNatClampNeg) (xs (ii + 2).toNatClampNeg) (xs (ii + 3).toNatClampNeg)) (fX8_addRule 900 ρ (xs (ii + 1).toNatClampNeg) (xs (ii + 2).toNatClampNeg) (xs (ii + 3).toNatClampNeg)) := addRule_call (m := γ.1) (h := γ.2.1) (tx := γ.2.2.1) (pf := γ.2.2.2) (t := ρ.1) (z := ρ.2.1) (S' := ρ.2.2.1) (kk := ρ.2.2.2.1) (u := ρ.2.2.2.2) S (show 900 ≤ 900 from Nat.le_refl _) (xs (ii + 1).toNatClampNeg) (xs (ii + 2).toNatClampNeg) (xs (ii + 3).toNatClampNeg)
  obtain ⟨x, ρ', h8, ⟨hk, γ', h7, S2⟩ | ⟨j, E, γ', hE, hk, h7, S2⟩⟩ := hc
  · refine V_aload_n (pc := 288) F dL_law_288 rfl 3 rfl ?_
    refine V_aload_n (pc := 289) F dL_law_289 rfl 4 rfl ?_
    refine V_iload (pc := 290) F dL_law_290 0 rfl ?_
    refine V_iconst (pc := 292) (v := 1) F dL_law_292 rfl ?_
    refine V_iadd (pc := 293) F dL_law_293 ?_
    refine V_sld (pc := 294) F G.2.2.2.1 G.2.2.2.2 G.nb i1 dL_law_294 ?_
    refine V_aload_n (pc := 295) F dL_law_295 rfl 4 rfl ?_
    refine V_iload (pc := 296) F dL_law_296 0 rfl ?_
    refine V_iconst (pc := 298) (v := 2) F dL_law_298 rfl ?_
    refine V_iadd (pc := 299) F dL_law_299 ?_
    refine V_sld (pc := 300) F G.2.2.2.1 G.2.2.2.2 G.nb i2 dL_law_300 ?_
    refine V_aload_n (pc := 301) F dL_law_301 rfl 4 rfl ?_
    refine V_iload (pc := 302) F dL_law_302 0 rfl ?_
    refine V_iconst (pc := 304) (v := 3) F dL_law_304 rfl ?_
    refine V_iadd (pc := 305) F dL_law_305 ?_
    refine V_sld (pc := 306) F G.2.2.2.1 G.2.2.2.2 G.nb i3 dL_law_306 ?_
    refine V_aload_n (pc := 307) F dL_law_307 rfl 1 rfl ?_
    refine V_SW (w2 := ((wX7 cy a γ' ++ wX8 cy a' ρ) ++ [oc cy ho (vp_updL f 0 x.toInt64)])) (rest := []) (st2 := [.int 0]) (pc := 308) F G.1 G.2.1 G.2.2.1 (W_addRule l D cy 900 a ho f γ (xs (ii + 1).toNatClampNeg) (xs (ii + 2).toNatClampNeg) (xs (ii + 3).toNatClampNeg) (x, γ') h7) (vx_cwSW 5 F.ts gLS_addRule rfl rfl rfl hdL_addRule ⟨Nat.le_of_ble_eq_true rfl, Nat.le_of_ble_eq_true rfl⟩) rfl dL_law_308 (Fit2.both (Fit.left Fit.whole) Fit.whole) fstX7 rfl (Nat.le_of_ble_eq_true rfl) hcl hsl rfl rfl rfl ?_
    refine V_istore (L2 := [(5, .int 0), (4, .int ii), (3, .ref ho), (2, .ref (a' 0)), (1, .ref (a 0)), (0, .ref b)]) (pc := 311) F dL_law_311 (by decide) rfl ?_
    refine V_aload_n (pc := 313) F dL_law_313 rfl 3 rfl ?_
    refine V_aload_n (pc := 314) F dL_law_314 rfl 5 rfl ?_
    refine V_iload (pc := 315) F dL_law_315 1 rfl ?_
    refine V_iconst (pc := 317) (v := 1) F dL_law_317 rfl ?_
    refine V_iadd (pc := 318) F dL_law_318 ?_
    refine V_sld (pc := 319) F G.2.2.2.1 G.2.2.2.2 G.nb i1 dL_law_319 ?_
    refine V_aload_n (pc := 320) F dL_law_320 rfl 5 rfl ?_
    refine V_iload (pc := 321) F dL_law_321 1 rfl ?_
    refine V_iconst (pc := 323) (v := 2) F dL_law_323 rfl ?_
    refine V_iadd (pc := 324) F dL_law_324 ?_
    refine V_sld (pc := 325) F G.2.2.2.1 G.2.2.2.2 G.nb i2 dL_law_325 ?_
    refine V_aload_n (pc := 326) F dL_law_326 rfl 5 rfl ?_
    refine V_iload (pc := 327) F dL_law_327 1 rfl ?_
    refine V_iconst (pc := 329) (v := 3) F dL_law_329 rfl ?_
    refine V_iadd (pc := 330) F dL_law_330 ?_
    refine V_sld (pc := 331) F G.2.2.2.1 G.2.2.2.2 G.nb i3 dL_law_331 ?_
    refine V_V (w2 := ((wX7 cy a γ' ++ wX8 cy a' ρ') ++ [oc cy ho (vp_updL f 0 x.toInt64)])) (rest := []) (st2 := [.int x]) (pc := 332) F 8 (M_X8_addRule l D cy 900 a' ρ (xs (ii + 1).toNatClampNeg) (xs (ii + 2).toNatClampNeg) (xs (ii + 3).toNatClampNeg) (x, ρ') h8) (cwV 3 F.ts gL8_addRule rfl rfl rfl hd_X8_addRule ⟨Nat.le_of_ble_eq_true rfl, Nat.le_of_ble_eq_true rfl⟩) rfl dL_law_332 (Fit.left (Fit.right Fit.whole)) fstX8 rfl rfl (Nat.le_of_ble_eq_true rfl) hcl hsl rfl rfl rfl ?_
    refine V_istore (L2 := [(6, .int x), (5, .int 0), (4, .int ii), (3, .ref ho), (2, .ref (a' 0)), (1, .ref (a 0)), (0, .ref b)]) (pc := 335) F dL_law_335 (by decide) rfl ?_
    refine V_aload_n (pc := 337) F dL_law_337 rfl 4 rfl ?_
    refine V_V (w2 := ((wX7 cy a γ' ++ wX8 cy a' ρ') ++ [oc cy ho (vp_updL f 0 x.toInt64)])) (rest := []) (st2 := [.int ρ'.1]) (pc := 338) F 8 (M_X8_thrown l D cy 900 a' ρ' ρ'.1 rfl) (cwV 0 F.ts gL8_thrown rfl rfl rfl hd_X8_thrown ⟨Nat.le_of_ble_eq_true rfl, Nat.le_of_ble_eq_true rfl⟩) rfl dL_law_338 (Fit.left (Fit.right Fit.whole)) rfl rfl rfl (Nat.le_of_ble_eq_true rfl) hcl hsl rfl rfl rfl ?_
    refine V_iload (pc := 341) F dL_law_341 1 rfl ?_
    refine V_icmp_eq (pc := 343) (tgt := 348) F dL_law_343 (by decide) (fun _ => ?_) (fun h => absurd hk h)
    refine V_iload (pc := 348) F dL_law_348 1 rfl ?_
    refine V_if_ne (pc := 350) (tgt := 365) F dL_law_350 (by decide) (fun h => absurd rfl h) (fun _ => ?_)
    refine V_aload_n (pc := 353) F dL_law_353 rfl 3 rfl ?_
    refine V_iconst (pc := 354) (v := 0) F dL_law_354 rfl ?_
    refine V_lald (pc := 355) F ((wX7 cy a γ' ++ wX8 cy a' ρ').length + 0) (at_right (k := 0) rfl) (by unfold vp_in; decide) dL_law_355 ?_
    refine V_iload (pc := 356) F dL_law_356 0 rfl ?_
    refine V_i2l (pc := 358) F dL_law_358 ?_
    refine V_lcmp (pc := 359) F dL_law_359 ?_
    refine V_if_eq (pc := 360) (tgt := 365) F dL_law_360 (by decide) (fun _ => ?_) (fun h => absurd (by rw [vp_upd0]; exact lgc_self _) h)
    refine V_goto (pc := 365) (tgt := 1526) F dL_law_365 (by decide) ?_
    refine V.sub (L2 := [(4, .int ii), (3, .ref ho), (2, .ref (a' 0)), (1, .ref (a 0)), (0, .ref b)]) [2, 3, 4, 5, 6] rfl ?_
    exact K γ' ρ' (vp_updL f 0 x.toInt64) S2
  · rcases j with _ | _ | _ | j
    · replace hE : E = IOB := (Option.some.inj hE).symm
      replace hk : ρ'.1 = 1 := hk
      refine V_aload_n (pc := 288) F dL_law_288 rfl 3 rfl ?_
      refine V_aload_n (pc := 289) F dL_law_289 rfl 4 rfl ?_
      refine V_iload (pc := 290) F dL_law_290 0 rfl ?_
      refine V_iconst (pc := 292) (v := 1) F dL_law_292 rfl ?_
      refine V_iadd (pc := 293) F dL_law_293 ?_
      refine V_sld (pc := 294) F G.2.2.2.1 G.2.2.2.2 G.nb i1 dL_law_294 ?_
      refine V_aload_n (pc := 295) F dL_law_295 rfl 4 rfl ?_
      refine V_iload (pc := 296) F dL_law_296 0 rfl ?_
      refine V_iconst (pc := 298) (v := 2) F dL_law_298 rfl ?_
      refine V_iadd (pc := 299) F dL_law_299 ?_
      refine V_sld (pc := 300) F G.2.2.2.1 G.2.2.2.2 G.nb i2 dL_law_300 ?_
      refine V_aload_n (pc := 301) F dL_law_301 rfl 4 rfl ?_
      refine V_iload (pc := 302) F dL_law_302 0 rfl ?_
      refine V_iconst (pc := 304) (v := 3) F dL_law_304 rfl ?_
      refine V_iadd (pc := 305) F dL_law_305 ?_
      refine V_sld (pc := 306) F G.2.2.2.1 G.2.2.2.2 G.nb i3 dL_law_306 ?_
      refine V_aload_n (pc := 307) F dL_law_307 rfl 1 rfl ?_
      refine V_SW (w2 := ((wX7 cy a γ' ++ wX8 cy a' ρ) ++ [oc cy ho f])) (rest := []) (st2 := [.int 1]) (pc := 308) F G.1 G.2.1 G.2.2.1 (WT_addRule_0 l hfl D cy 900 a ho f γ (xs (ii + 1).toNatClampNeg) (xs (ii + 2).toNatClampNeg) (xs (ii + 3).toNatClampNeg) E γ' h7 hE) (vx_cwSW 5 F.ts gLS_addRule rfl rfl rfl hdL_addRule ⟨Nat.le_of_ble_eq_true rfl, Nat.le_of_ble_eq_true rfl⟩) rfl dL_law_308 (Fit2.both (Fit.left Fit.whole) Fit.whole) fstX7 rfl (Nat.le_of_ble_eq_true rfl) hcl hsl rfl rfl rfl ?_
      refine V_istore (L2 := [(5, .int 1), (4, .int ii), (3, .ref ho), (2, .ref (a' 0)), (1, .ref (a 0)), (0, .ref b)]) (pc := 311) F dL_law_311 (by decide) rfl ?_
      refine V_aload_n (pc := 313) F dL_law_313 rfl 3 rfl ?_
      refine V_aload_n (pc := 314) F dL_law_314 rfl 5 rfl ?_
      refine V_iload (pc := 315) F dL_law_315 1 rfl ?_
      refine V_iconst (pc := 317) (v := 1) F dL_law_317 rfl ?_
      refine V_iadd (pc := 318) F dL_law_318 ?_
      refine V_sld (pc := 319) F G.2.2.2.1 G.2.2.2.2 G.nb i1 dL_law_319 ?_
      refine V_aload_n (pc := 320) F dL_law_320 rfl 5 rfl ?_
      refine V_iload (pc := 321) F dL_law_321 1 rfl ?_
      refine V_iconst (pc := 323) (v := 2) F dL_law_323 rfl ?_
      refine V_iadd (pc := 324) F dL_law_324 ?_
      refine V_sld (pc := 325) F G.2.2.2.1 G.2.2.2.2 G.nb i2 dL_law_325 ?_
      refine V_aload_n (pc := 326) F dL_law_326 rfl 5 rfl ?_
      refine V_iload (pc := 327) F dL_law_327 1 rfl ?_
      refine V_iconst (pc := 329) (v := 3) F dL_law_329 rfl ?_
      refine V_iadd (pc := 330) F dL_law_330 ?_
      refine V_sld (pc := 331) F G.2.2.2.1 G.2.2.2.2 G.nb i3 dL_law_331 ?_
      refine V_V (w2 := ((wX7 cy a γ' ++ wX8 cy a' ρ') ++ [oc cy ho f])) (rest := []) (st2 := [.int x]) (pc := 332) F 8 (M_X8_addRule l D cy 900 a' ρ (xs (ii + 1).toNatClampNeg) (xs (ii + 2).toNatClampNeg) (xs (ii + 3).toNatClampNeg) (x, ρ') h8) (cwV 3 F.ts gL8_addRule rfl rfl rfl hd_X8_addRule ⟨Nat.le_of_ble_eq_true rfl, Nat.le_of_ble_eq_true rfl⟩) rfl dL_law_332 (Fit.left (Fit.right Fit.whole)) fstX8 rfl rfl (Nat.le_of_ble_eq_true rfl) hcl hsl rfl rfl rfl ?_
      refine V_istore (L2 := [(6, .int x), (5, .int 1), (4, .int ii), (3, .ref ho), (2, .ref (a' 0)), (1, .ref (a 0)), (0, .ref b)]) (pc := 335) F dL_law_335 (by decide) rfl ?_
      refine V_aload_n (pc := 337) F dL_law_337 rfl 4 rfl ?_
      refine V_V (w2 := ((wX7 cy a γ' ++ wX8 cy a' ρ') ++ [oc cy ho f])) (rest := []) (st2 := [.int ρ'.1]) (pc := 338) F 8 (M_X8_thrown l D cy 900 a' ρ' ρ'.1 rfl) (cwV 0 F.ts gL8_thrown rfl rfl rfl hd_X8_thrown ⟨Nat.le_of_ble_eq_true rfl, Nat.le_of_ble_eq_true rfl⟩) rfl dL_law_338 (Fit.left (Fit.right Fit.whole)) rfl rfl rfl (Nat.le_of_ble_eq_true rfl) hcl hsl rfl rfl rfl ?_
      refine V_iload (pc := 341) F dL_law_341 1 rfl ?_
      refine V_icmp_eq (pc := 343) (tgt := 348) F dL_law_343 (by decide) (fun _ => ?_) (fun h => absurd hk h)
      refine V_iload (pc := 348) F dL_law_348 1 rfl ?_
      refine V_if_ne (pc := 350) (tgt := 365) F dL_law_350 (by decide) (fun _ => ?_) (fun h => absurd h (by decide))
      refine V_goto (pc := 365) (tgt := 1526) F dL_law_365 (by decide) ?_
      refine V.sub (L2 := [(4, .int ii), (3, .ref ho), (2, .ref (a' 0)), (1, .ref (a 0)), (0, .ref b)]) [2, 3, 4, 5, 6] rfl ?_
      exact K γ' ρ' f S2
    · replace hE : E = IAE := (Option.some.inj hE).symm
      replace hk : ρ'.1 = 2 := hk
      refine V_aload_n (pc := 288) F dL_law_288 rfl 3 rfl ?_
      refine V_aload_n (pc := 289) F dL_law_289 rfl 4 rfl ?_
      refine V_iload (pc := 290) F dL_law_290 0 rfl ?_
      refine V_iconst (pc := 292) (v := 1) F dL_law_292 rfl ?_
      refine V_iadd (pc := 293) F dL_law_293 ?_
      refine V_sld (pc := 294) F G.2.2.2.1 G.2.2.2.2 G.nb i1 dL_law_294 ?_
      refine V_aload_n (pc := 295) F dL_law_295 rfl 4 rfl ?_
      refine V_iload (pc := 296) F dL_law_296 0 rfl ?_
      refine V_iconst (pc := 298) (v := 2) F dL_law_298 rfl ?_
      refine V_iadd (pc := 299) F dL_law_299 ?_
      refine V_sld (pc := 300) F G.2.2.2.1 G.2.2.2.2 G.nb i2 dL_law_300 ?_
      refine V_aload_n (pc := 301) F dL_law_301 rfl 4 rfl ?_
      refine V_iload (pc := 302) F dL_law_302 0 rfl ?_
      refine V_iconst (pc := 304) (v := 3) F dL_law_304 rfl ?_
      refine V_iadd (pc := 305) F dL_law_305 ?_
      refine V_sld (pc := 306) F G.2.2.2.1 G.2.2.2.2 G.nb i3 dL_law_306 ?_
      refine V_aload_n (pc := 307) F dL_law_307 rfl 1 rfl ?_
      refine V_SW (w2 := ((wX7 cy a γ' ++ wX8 cy a' ρ) ++ [oc cy ho f])) (rest := []) (st2 := [.int 2]) (pc := 308) F G.1 G.2.1 G.2.2.1 (WT_addRule_1 l hfl D cy 900 a ho f γ (xs (ii + 1).toNatClampNeg) (xs (ii + 2).toNatClampNeg) (xs (ii + 3).toNatClampNeg) E γ' h7 hE) (vx_cwSW 5 F.ts gLS_addRule rfl rfl rfl hdL_addRule ⟨Nat.le_of_ble_eq_true rfl, Nat.le_of_ble_eq_true rfl⟩) rfl dL_law_308 (Fit2.both (Fit.left Fit.whole) Fit.whole) fstX7 rfl (Nat.le_of_ble_eq_true rfl) hcl hsl rfl rfl rfl ?_
      refine V_istore (L2 := [(5, .int 2), (4, .int ii), (3, .ref ho), (2, .ref (a' 0)), (1, .ref (a 0)), (0, .ref b)]) (pc := 311) F dL_law_311 (by decide) rfl ?_
      refine V_aload_n (pc := 313) F dL_law_313 rfl 3 rfl ?_
      refine V_aload_n (pc := 314) F dL_law_314 rfl 5 rfl ?_
      refine V_iload (pc := 315) F dL_law_315 1 rfl ?_
      refine V_iconst (pc := 317) (v := 1) F dL_law_317 rfl ?_
      refine V_iadd (pc := 318) F dL_law_318 ?_
      refine V_sld (pc := 319) F G.2.2.2.1 G.2.2.2.2 G.nb i1 dL_law_319 ?_
      refine V_aload_n (pc := 320) F dL_law_320 rfl 5 rfl ?_
      refine V_iload (pc := 321) F dL_law_321 1 rfl ?_
      refine V_iconst (pc := 323) (v := 2) F dL_law_323 rfl ?_
      refine V_iadd (pc := 324) F dL_law_324 ?_
      refine V_sld (pc := 325) F G.2.2.2.1 G.2.2.2.2 G.nb i2 dL_law_325 ?_
      refine V_aload_n (pc := 326) F dL_law_326 rfl 5 rfl ?_
      refine V_iload (pc := 327) F dL_law_327 1 rfl ?_
      refine V_iconst (pc := 329) (v := 3) F dL_law_329 rfl ?_
      refine V_iadd (pc := 330) F dL_law_330 ?_
      refine V_sld (pc := 331) F G.2.2.2.1 G.2.2.2.2 G.nb i3 dL_law_331 ?_
      refine V_V (w2 := ((wX7 cy a γ' ++ wX8 cy a' ρ') ++ [oc cy ho f])) (rest := []) (st2 := [.int x]) (pc := 332) F 8 (M_X8_addRule l D cy 900 a' ρ (xs (ii + 1).toNatClampNeg) (xs (ii + 2).toNatClampNeg) (xs (ii + 3).toNatClampNeg) (x, ρ') h8) (cwV 3 F.ts gL8_addRule rfl rfl rfl hd_X8_addRule ⟨Nat.le_of_ble_eq_true rfl, Nat.le_of_ble_eq_true rfl⟩) rfl dL_law_332 (Fit.left (Fit.right Fit.whole)) fstX8 rfl rfl (Nat.le_of_ble_eq_true rfl) hcl hsl rfl rfl rfl ?_
      refine V_istore (L2 := [(6, .int x), (5, .int 2), (4, .int ii), (3, .ref ho), (2, .ref (a' 0)), (1, .ref (a 0)), (0, .ref b)]) (pc := 335) F dL_law_335 (by decide) rfl ?_
      refine V_aload_n (pc := 337) F dL_law_337 rfl 4 rfl ?_
      refine V_V (w2 := ((wX7 cy a γ' ++ wX8 cy a' ρ') ++ [oc cy ho f])) (rest := []) (st2 := [.int ρ'.1]) (pc := 338) F 8 (M_X8_thrown l D cy 900 a' ρ' ρ'.1 rfl) (cwV 0 F.ts gL8_thrown rfl rfl rfl hd_X8_thrown ⟨Nat.le_of_ble_eq_true rfl, Nat.le_of_ble_eq_true rfl⟩) rfl dL_law_338 (Fit.left (Fit.right Fit.whole)) rfl rfl rfl (Nat.le_of_ble_eq_true rfl) hcl hsl rfl rfl rfl ?_
      refine V_iload (pc := 341) F dL_law_341 1 rfl ?_
      refine V_icmp_eq (pc := 343) (tgt := 348) F dL_law_343 (by decide) (fun _ => ?_) (fun h => absurd hk h)
      refine V_iload (pc := 348) F dL_law_348 1 rfl ?_
      refine V_if_ne (pc := 350) (tgt := 365) F dL_law_350 (by decide) (fun _ => ?_) (fun h => absurd h (by decide))
      refine V_goto (pc := 365) (tgt := 1526) F dL_law_365 (by decide) ?_
      refine V.sub (L2 := [(4, .int ii), (3, .ref ho), (2, .ref (a' 0)), (1, .ref (a 0)), (0, .ref b)]) [2, 3, 4, 5, 6] rfl ?_
      exact K γ' ρ' f S2
    · replace hE : E = ISE := (Option.some.inj hE).symm
      replace hk : ρ'.1 = 3 := hk
      refine V_aload_n (pc := 288) F dL_law_288 rfl 3 rfl ?_
      refine V_aload_n (pc := 289) F dL_law_289 rfl 4 rfl ?_
      refine V_iload (pc := 290) F dL_law_290 0 rfl ?_
      refine V_iconst (pc := 292) (v := 1) F dL_law_292 rfl ?_
      refine V_iadd (pc := 293) F dL_law_293 ?_
      refine V_sld (pc := 294) F G.2.2.2.1 G.2.2.2.2 G.nb i1 dL_law_294 ?_
      refine V_aload_n (pc := 295) F dL_law_295 rfl 4 rfl ?_
      refine V_iload (pc := 296) F dL_law_296 0 rfl ?_
      refine V_iconst (pc := 298) (v := 2) F dL_law_298 rfl ?_
      refine V_iadd (pc := 299) F dL_law_299 ?_
      refine V_sld (pc := 300) F G.2.2.2.1 G.2.2.2.2 G.nb i2 dL_law_300 ?_
      refine V_aload_n (pc := 301) F dL_law_301 rfl 4 rfl ?_
      refine V_iload (pc := 302) F dL_law_302 0 rfl ?_
      refine V_iconst (pc := 304) (v := 3) F dL_law_304 rfl ?_
      refine V_iadd (pc := 305) F dL_law_305 ?_
      refine V_sld (pc := 306) F G.2.2.2.1 G.2.2.2.2 G.nb i3 dL_law_306 ?_
      refine V_aload_n (pc := 307) F dL_law_307 rfl 1 rfl ?_
      refine V_SW (w2 := ((wX7 cy a γ' ++ wX8 cy a' ρ) ++ [oc cy ho f])) (rest := []) (st2 := [.int 3]) (pc := 308) F G.1 G.2.1 G.2.2.1 (WT_addRule_2 l hfl D cy 900 a ho f γ (xs (ii + 1).toNatClampNeg) (xs (ii + 2).toNatClampNeg) (xs (ii + 3).toNatClampNeg) E γ' h7 hE) (vx_cwSW 5 F.ts gLS_addRule rfl rfl rfl hdL_addRule ⟨Nat.le_of_ble_eq_true rfl, Nat.le_of_ble_eq_true rfl⟩) rfl dL_law_308 (Fit2.both (Fit.left Fit.whole) Fit.whole) fstX7 rfl (Nat.le_of_ble_eq_true rfl) hcl hsl rfl rfl rfl ?_
      refine V_istore (L2 := [(5, .int 3), (4, .int ii), (3, .ref ho), (2, .ref (a' 0)), (1, .ref (a 0)), (0, .ref b)]) (pc := 311) F dL_law_311 (by decide) rfl ?_
      refine V_aload_n (pc := 313) F dL_law_313 rfl 3 rfl ?_
      refine V_aload_n (pc := 314) F dL_law_314 rfl 5 rfl ?_
      refine V_iload (pc := 315) F dL_law_315 1 rfl ?_
      refine V_iconst (pc := 317) (v := 1) F dL_law_317 rfl ?_
      refine V_iadd (pc := 318) F dL_law_318 ?_
      refine V_sld (pc := 319) F G.2.2.2.1 G.2.2.2.2 G.nb i1 dL_law_319 ?_
      refine V_aload_n (pc := 320) F dL_law_320 rfl 5 rfl ?_
      refine V_iload (pc := 321) F dL_law_321 1 rfl ?_
      refine V_iconst (pc := 323) (v := 2) F dL_law_323 rfl ?_
      refine V_iadd (pc := 324) F dL_law_324 ?_
      refine V_sld (pc := 325) F G.2.2.2.1 G.2.2.2.2 G.nb i2 dL_law_325 ?_
      refine V_aload_n (pc := 326) F dL_law_326 rfl 5 rfl ?_
      refine V_iload (pc := 327) F dL_law_327 1 rfl ?_
      refine V_iconst (pc := 329) (v := 3) F dL_law_329 rfl ?_
      refine V_iadd (pc := 330) F dL_law_330 ?_
      refine V_sld (pc := 331) F G.2.2.2.1 G.2.2.2.2 G.nb i3 dL_law_331 ?_
      refine V_V (w2 := ((wX7 cy a γ' ++ wX8 cy a' ρ') ++ [oc cy ho f])) (rest := []) (st2 := [.int x]) (pc := 332) F 8 (M_X8_addRule l D cy 900 a' ρ (xs (ii + 1).toNatClampNeg) (xs (ii + 2).toNatClampNeg) (xs (ii + 3).toNatClampNeg) (x, ρ') h8) (cwV 3 F.ts gL8_addRule rfl rfl rfl hd_X8_addRule ⟨Nat.le_of_ble_eq_true rfl, Nat.le_of_ble_eq_true rfl⟩) rfl dL_law_332 (Fit.left (Fit.right Fit.whole)) fstX8 rfl rfl (Nat.le_of_ble_eq_true rfl) hcl hsl rfl rfl rfl ?_
      refine V_istore (L2 := [(6, .int x), (5, .int 3), (4, .int ii), (3, .ref ho), (2, .ref (a' 0)), (1, .ref (a 0)), (0, .ref b)]) (pc := 335) F dL_law_335 (by decide) rfl ?_
      refine V_aload_n (pc := 337) F dL_law_337 rfl 4 rfl ?_
      refine V_V (w2 := ((wX7 cy a γ' ++ wX8 cy a' ρ') ++ [oc cy ho f])) (rest := []) (st2 := [.int ρ'.1]) (pc := 338) F 8 (M_X8_thrown l D cy 900 a' ρ' ρ'.1 rfl) (cwV 0 F.ts gL8_thrown rfl rfl rfl hd_X8_thrown ⟨Nat.le_of_ble_eq_true rfl, Nat.le_of_ble_eq_true rfl⟩) rfl dL_law_338 (Fit.left (Fit.right Fit.whole)) rfl rfl rfl (Nat.le_of_ble_eq_true rfl) hcl hsl rfl rfl rfl ?_
      refine V_iload (pc := 341) F dL_law_341 1 rfl ?_
      refine V_icmp_eq (pc := 343) (tgt := 348) F dL_law_343 (by decide) (fun _ => ?_) (fun h => absurd hk h)
      refine V_iload (pc := 348) F dL_law_348 1 rfl ?_
      refine V_if_ne (pc := 350) (tgt := 365) F dL_law_350 (by decide) (fun _ => ?_) (fun h => absurd h (by decide))
      refine V_goto (pc := 365) (tgt := 1526) F dL_law_365 (by decide) ?_
      refine V.sub (L2 := [(4, .int ii), (3, .ref ho), (2, .ref (a' 0)), (1, .ref (a 0)), (0, .ref b)]) [2, 3, 4, 5, 6] rfl ?_
      exact K γ' ρ' f S2
    · exact absurd hE (by simp)
set_option maxHeartbeats 8000000 in
theorem law_dropRule (hfl : l.stackTraces = false) (F : Fx p s m #[.ref b] meth c cL_law 9 RL nme lw_tbl ret D cy (aL s)) (G : FxL s b n xs) (hcl : cells + 1 ≤ room_1.cells) (hsl : slots + 6 ≤ room_1.slots) (S : SR γ ρ) (i1 : vp_in (ii + 1) n) (i2 : vp_in (ii + 2) n) (i3 : vp_in (ii + 3) n) (K : KL p l e s m below meth c D cy b a a' ho cells slots ii) : V p l e room_1 s m #[.ref b] below meth c 9 D (aL s) cells slots (lw_Z below #[.ref b] s) ((wX7 cy a γ ++ wX8 cy a' ρ) ++ [oc cy ho f]) [(4, .int ii), (3, .ref ho), (2, .ref (a' 0)), (1, .ref (a 0)), (0, .ref b)] [] 368 := by
  have hc : CSame [IOB, ISE] (fX7_dropRule 900 γ (xs (ii + 1).toNatClampNeg)) (fX8_dropRule 900 ρ (xs (ii + 1).toNatClampNeg)) := dropRule_call (m := γ.1) (h := γ.2.1) (tx := γ.2.2.1) (pf := γ.2.2.2) (t := ρ.1) (z := ρ.2.1) (S' := ρ.2.2.1) (kk := ρ.2.2.2.1) (u := ρ.2.2.2.2) S (show 900 ≤ 900 from Nat.le_refl _) (xs (ii + 1).toNatClampNeg)
  obtain ⟨x, ρ', h8, ⟨hk, γ', h7, S2⟩ | ⟨j, E, γ', hE, hk, h7, S2⟩⟩ := hc
  · refine V_aload_n (pc := 368) F dL_law_368 rfl 3 rfl ?_
    refine V_aload_n (pc := 369) F dL_law_369 rfl 4 rfl ?_
    refine V_iload (pc := 370) F dL_law_370 0 rfl ?_
    refine V_iconst (pc := 372) (v := 1) F dL_law_372 rfl ?_
    refine V_iadd (pc := 373) F dL_law_373 ?_
    refine V_sld (pc := 374) F G.2.2.2.1 G.2.2.2.2 G.nb i1 dL_law_374 ?_
    refine V_aload_n (pc := 375) F dL_law_375 rfl 1 rfl ?_
    refine V_SW (w2 := ((wX7 cy a γ' ++ wX8 cy a' ρ) ++ [oc cy ho (vp_updL f 0 x.toInt64)])) (rest := []) (st2 := [.int 0]) (pc := 376) F G.1 G.2.1 G.2.2.1 (W_dropRule l D cy 900 a ho f γ (xs (ii + 1).toNatClampNeg) (x, γ') h7) (vx_cwSW 3 F.ts gLS_dropRule rfl rfl rfl hdL_dropRule ⟨Nat.le_of_ble_eq_true rfl, Nat.le_of_ble_eq_true rfl⟩) rfl dL_law_376 (Fit2.both (Fit.left Fit.whole) Fit.whole) fstX7 rfl (Nat.le_of_ble_eq_true rfl) hcl hsl rfl rfl rfl ?_
    refine V_istore (L2 := [(5, .int 0), (4, .int ii), (3, .ref ho), (2, .ref (a' 0)), (1, .ref (a 0)), (0, .ref b)]) (pc := 379) F dL_law_379 (by decide) rfl ?_
    refine V_aload_n (pc := 381) F dL_law_381 rfl 3 rfl ?_
    refine V_aload_n (pc := 382) F dL_law_382 rfl 5 rfl ?_
    refine V_iload (pc := 383) F dL_law_383 1 rfl ?_
    refine V_iconst (pc := 385) (v := 1) F dL_law_385 rfl ?_
    refine V_iadd (pc := 386) F dL_law_386 ?_
    refine V_sld (pc := 387) F G.2.2.2.1 G.2.2.2.2 G.nb i1 dL_law_387 ?_
    refine V_V (w2 := ((wX7 cy a γ' ++ wX8 cy a' ρ') ++ [oc cy ho (vp_updL f 0 x.toInt64)])) (rest := []) (st2 := [.int x]) (pc := 388) F 8 (M_X8_dropRule l D cy 900 a' ρ (xs (ii + 1).toNatClampNeg) (x, ρ') h8) (cwV 1 F.ts gL8_dropRule rfl rfl rfl hd_X8_dropRule ⟨Nat.le_of_ble_eq_true rfl, Nat.le_of_ble_eq_true rfl⟩) rfl dL_law_388 (Fit.left (Fit.right Fit.whole)) fstX8 rfl rfl (Nat.le_of_ble_eq_true rfl) hcl hsl rfl rfl rfl ?_
    refine V_istore (L2 := [(6, .int x), (5, .int 0), (4, .int ii), (3, .ref ho), (2, .ref (a' 0)), (1, .ref (a 0)), (0, .ref b)]) (pc := 391) F dL_law_391 (by decide) rfl ?_
    refine V_aload_n (pc := 393) F dL_law_393 rfl 4 rfl ?_
    refine V_V (w2 := ((wX7 cy a γ' ++ wX8 cy a' ρ') ++ [oc cy ho (vp_updL f 0 x.toInt64)])) (rest := []) (st2 := [.int ρ'.1]) (pc := 394) F 8 (M_X8_thrown l D cy 900 a' ρ' ρ'.1 rfl) (cwV 0 F.ts gL8_thrown rfl rfl rfl hd_X8_thrown ⟨Nat.le_of_ble_eq_true rfl, Nat.le_of_ble_eq_true rfl⟩) rfl dL_law_394 (Fit.left (Fit.right Fit.whole)) rfl rfl rfl (Nat.le_of_ble_eq_true rfl) hcl hsl rfl rfl rfl ?_
    refine V_iload (pc := 397) F dL_law_397 1 rfl ?_
    refine V_icmp_eq (pc := 399) (tgt := 404) F dL_law_399 (by decide) (fun _ => ?_) (fun h => absurd hk h)
    refine V_iload (pc := 404) F dL_law_404 1 rfl ?_
    refine V_if_ne (pc := 406) (tgt := 421) F dL_law_406 (by decide) (fun h => absurd rfl h) (fun _ => ?_)
    refine V_aload_n (pc := 409) F dL_law_409 rfl 3 rfl ?_
    refine V_iconst (pc := 410) (v := 0) F dL_law_410 rfl ?_
    refine V_lald (pc := 411) F ((wX7 cy a γ' ++ wX8 cy a' ρ').length + 0) (at_right (k := 0) rfl) (by unfold vp_in; decide) dL_law_411 ?_
    refine V_iload (pc := 412) F dL_law_412 0 rfl ?_
    refine V_i2l (pc := 414) F dL_law_414 ?_
    refine V_lcmp (pc := 415) F dL_law_415 ?_
    refine V_if_eq (pc := 416) (tgt := 421) F dL_law_416 (by decide) (fun _ => ?_) (fun h => absurd (by rw [vp_upd0]; exact lgc_self _) h)
    refine V_goto (pc := 421) (tgt := 1526) F dL_law_421 (by decide) ?_
    refine V.sub (L2 := [(4, .int ii), (3, .ref ho), (2, .ref (a' 0)), (1, .ref (a 0)), (0, .ref b)]) [2, 3, 4, 5, 6] rfl ?_
    exact K γ' ρ' (vp_updL f 0 x.toInt64) S2
  · rcases j with _ | _ | j
    · replace hE : E = IOB := (Option.some.inj hE).symm
      replace hk : ρ'.1 = 1 := hk
      refine V_aload_n (pc := 368) F dL_law_368 rfl 3 rfl ?_
      refine V_aload_n (pc := 369) F dL_law_369 rfl 4 rfl ?_
      refine V_iload (pc := 370) F dL_law_370 0 rfl ?_
      refine V_iconst (pc := 372) (v := 1) F dL_law_372 rfl ?_
      refine V_iadd (pc := 373) F dL_law_373 ?_
      refine V_sld (pc := 374) F G.2.2.2.1 G.2.2.2.2 G.nb i1 dL_law_374 ?_
      refine V_aload_n (pc := 375) F dL_law_375 rfl 1 rfl ?_
      refine V_SW (w2 := ((wX7 cy a γ' ++ wX8 cy a' ρ) ++ [oc cy ho f])) (rest := []) (st2 := [.int 1]) (pc := 376) F G.1 G.2.1 G.2.2.1 (WT_dropRule_0 l hfl D cy 900 a ho f γ (xs (ii + 1).toNatClampNeg) E γ' h7 hE) (vx_cwSW 3 F.ts gLS_dropRule rfl rfl rfl hdL_dropRule ⟨Nat.le_of_ble_eq_true rfl, Nat.le_of_ble_eq_true rfl⟩) rfl dL_law_376 (Fit2.both (Fit.left Fit.whole) Fit.whole) fstX7 rfl (Nat.le_of_ble_eq_true rfl) hcl hsl rfl rfl rfl ?_
      refine V_istore (L2 := [(5, .int 1), (4, .int ii), (3, .ref ho), (2, .ref (a' 0)), (1, .ref (a 0)), (0, .ref b)]) (pc := 379) F dL_law_379 (by decide) rfl ?_
      refine V_aload_n (pc := 381) F dL_law_381 rfl 3 rfl ?_
      refine V_aload_n (pc := 382) F dL_law_382 rfl 5 rfl ?_
      refine V_iload (pc := 383) F dL_law_383 1 rfl ?_
      refine V_iconst (pc := 385) (v := 1) F dL_law_385 rfl ?_
      refine V_iadd (pc := 386) F dL_law_386 ?_
      refine V_sld (pc := 387) F G.2.2.2.1 G.2.2.2.2 G.nb i1 dL_law_387 ?_
      refine V_V (w2 := ((wX7 cy a γ' ++ wX8 cy a' ρ') ++ [oc cy ho f])) (rest := []) (st2 := [.int x]) (pc := 388) F 8 (M_X8_dropRule l D cy 900 a' ρ (xs (ii + 1).toNatClampNeg) (x, ρ') h8) (cwV 1 F.ts gL8_dropRule rfl rfl rfl hd_X8_dropRule ⟨Nat.le_of_ble_eq_true rfl, Nat.le_of_ble_eq_true rfl⟩) rfl dL_law_388 (Fit.left (Fit.right Fit.whole)) fstX8 rfl rfl (Nat.le_of_ble_eq_true rfl) hcl hsl rfl rfl rfl ?_
      refine V_istore (L2 := [(6, .int x), (5, .int 1), (4, .int ii), (3, .ref ho), (2, .ref (a' 0)), (1, .ref (a 0)), (0, .ref b)]) (pc := 391) F dL_law_391 (by decide) rfl ?_
      refine V_aload_n (pc := 393) F dL_law_393 rfl 4 rfl ?_
      refine V_V (w2 := ((wX7 cy a γ' ++ wX8 cy a' ρ') ++ [oc cy ho f])) (rest := []) (st2 := [.int ρ'.1]) (pc := 394) F 8 (M_X8_thrown l D cy 900 a' ρ' ρ'.1 rfl) (cwV 0 F.ts gL8_thrown rfl rfl rfl hd_X8_thrown ⟨Nat.le_of_ble_eq_true rfl, Nat.le_of_ble_eq_true rfl⟩) rfl dL_law_394 (Fit.left (Fit.right Fit.whole)) rfl rfl rfl (Nat.le_of_ble_eq_true rfl) hcl hsl rfl rfl rfl ?_
      refine V_iload (pc := 397) F dL_law_397 1 rfl ?_
      refine V_icmp_eq (pc := 399) (tgt := 404) F dL_law_399 (by decide) (fun _ => ?_) (fun h => absurd hk h)
      refine V_iload (pc := 404) F dL_law_404 1 rfl ?_
      refine V_if_ne (pc := 406) (tgt := 421) F dL_law_406 (by decide) (fun _ => ?_) (fun h => absurd h (by decide))
      refine V_goto (pc := 421) (tgt := 1526) F dL_law_421 (by decide) ?_
      refine V.sub (L2 := [(4, .int ii), (3, .ref ho), (2, .ref (a' 0)), (1, .ref (a 0)), (0, .ref b)]) [2, 3, 4, 5, 6] rfl ?_
      exact K γ' ρ' f S2
    · replace hE : E = ISE := (Option.some.inj hE).symm
      replace hk : ρ'.1 = 2 := hk
      refine V_aload_n (pc := 368) F dL_law_368 rfl 3 rfl ?_
      refine V_aload_n (pc := 369) F dL_law_369 rfl 4 rfl ?_
      refine V_iload (pc := 370) F dL_law_370 0 rfl ?_
      refine V_iconst (pc := 372) (v := 1) F dL_law_372 rfl ?_
      refine V_iadd (pc := 373) F dL_law_373 ?_
      refine V_sld (pc := 374) F G.2.2.2.1 G.2.2.2.2 G.nb i1 dL_law_374 ?_
      refine V_aload_n (pc := 375) F dL_law_375 rfl 1 rfl ?_
      refine V_SW (w2 := ((wX7 cy a γ' ++ wX8 cy a' ρ) ++ [oc cy ho f])) (rest := []) (st2 := [.int 2]) (pc := 376) F G.1 G.2.1 G.2.2.1 (WT_dropRule_1 l hfl D cy 900 a ho f γ (xs (ii + 1).toNatClampNeg) E γ' h7 hE) (vx_cwSW 3 F.ts gLS_dropRule rfl rfl rfl hdL_dropRule ⟨Nat.le_of_ble_eq_true rfl, Nat.le_of_ble_eq_true rfl⟩) rfl dL_law_376 (Fit2.both (Fit.left Fit.whole) Fit.whole) fstX7 rfl (Nat.le_of_ble_eq_true rfl) hcl hsl rfl rfl rfl ?_
      refine V_istore (L2 := [(5, .int 2), (4, .int ii), (3, .ref ho), (2, .ref (a' 0)), (1, .ref (a 0)), (0, .ref b)]) (pc := 379) F dL_law_379 (by decide) rfl ?_
      refine V_aload_n (pc := 381) F dL_law_381 rfl 3 rfl ?_
      refine V_aload_n (pc := 382) F dL_law_382 rfl 5 rfl ?_
      refine V_iload (pc := 383) F dL_law_383 1 rfl ?_
      refine V_iconst (pc := 385) (v := 1) F dL_law_385 rfl ?_
      refine V_iadd (pc := 386) F dL_law_386 ?_
      refine V_sld (pc := 387) F G.2.2.2.1 G.2.2.2.2 G.nb i1 dL_law_387 ?_
      refine V_V (w2 := ((wX7 cy a γ' ++ wX8 cy a' ρ') ++ [oc cy ho f])) (rest := []) (st2 := [.int x]) (pc := 388) F 8 (M_X8_dropRule l D cy 900 a' ρ (xs (ii + 1).toNatClampNeg) (x, ρ') h8) (cwV 1 F.ts gL8_dropRule rfl rfl rfl hd_X8_dropRule ⟨Nat.le_of_ble_eq_true rfl, Nat.le_of_ble_eq_true rfl⟩) rfl dL_law_388 (Fit.left (Fit.right Fit.whole)) fstX8 rfl rfl (Nat.le_of_ble_eq_true rfl) hcl hsl rfl rfl rfl ?_
      refine V_istore (L2 := [(6, .int x), (5, .int 2), (4, .int ii), (3, .ref ho), (2, .ref (a' 0)), (1, .ref (a 0)), (0, .ref b)]) (pc := 391) F dL_law_391 (by decide) rfl ?_
      refine V_aload_n (pc := 393) F dL_law_393 rfl 4 rfl ?_
      refine V_V (w2 := ((wX7 cy a γ' ++ wX8 cy a' ρ') ++ [oc cy ho f])) (rest := []) (st2 := [.int ρ'.1]) (pc := 394) F 8 (M_X8_thrown l D cy 900 a' ρ' ρ'.1 rfl) (cwV 0 F.ts gL8_thrown rfl rfl rfl hd_X8_thrown ⟨Nat.le_of_ble_eq_true rfl, Nat.le_of_ble_eq_true rfl⟩) rfl dL_law_394 (Fit.left (Fit.right Fit.whole)) rfl rfl rfl (Nat.le_of_ble_eq_true rfl) hcl hsl rfl rfl rfl ?_
      refine V_iload (pc := 397) F dL_law_397 1 rfl ?_
      refine V_icmp_eq (pc := 399) (tgt := 404) F dL_law_399 (by decide) (fun _ => ?_) (fun h => absurd hk h)
      refine V_iload (pc := 404) F dL_law_404 1 rfl ?_
      refine V_if_ne (pc := 406) (tgt := 421) F dL_law_406 (by decide) (fun _ => ?_) (fun h => absurd h (by decide))
      refine V_goto (pc := 421) (tgt := 1526) F dL_law_421 (by decide) ?_
      refine V.sub (L2 := [(4, .int ii), (3, .ref ho), (2, .ref (a' 0)), (1, .ref (a 0)), (0, .ref b)]) [2, 3, 4, 5, 6] rfl ?_
      exact K γ' ρ' f S2
    · exact absurd hE (by simp)
set_option maxHeartbeats 8000000 in
theorem law_change (hfl : l.stackTraces = false) (F : Fx p s m #[.ref b] meth c cL_law 9 RL nme lw_tbl ret D cy (aL s)) (G : FxL s b n xs) (hcl : cells + 1 ≤ room_1.cells) (hsl : slots + 6 ≤ room_1.slots) (S : SR γ ρ) (i1 : vp_in (ii + 1) n) (i2 : vp_in (ii + 2) n) (i3 : vp_in (ii + 3) n) (K : KL p l e s m below meth c D cy b a a' ho cells slots ii) : V p l e room_1 s m #[.ref b] below meth c 9 D (aL s) cells slots (lw_Z below #[.ref b] s) ((wX7 cy a γ ++ wX8 cy a' ρ) ++ [oc cy ho f]) [(4, .int ii), (3, .ref ho), (2, .ref (a' 0)), (1, .ref (a 0)), (0, .ref b)] [] 424 := by
  have hc : CSame [IOB, IAE] (fX7_change 900 γ (xs (ii + 1).toNatClampNeg) (xs (ii + 2).toNatClampNeg) (xs (ii + 3).toNatClampNeg)) (fX8_change 900 ρ (xs (ii + 1).toNatClampNeg) (xs (ii + 2).toNatClampNeg) (xs (ii + 3).toNatClampNeg)) := change_call (m := γ.1) (h := γ.2.1) (tx := γ.2.2.1) (pf := γ.2.2.2) (t := ρ.1) (z := ρ.2.1) (S' := ρ.2.2.1) (kk := ρ.2.2.2.1) (u := ρ.2.2.2.2) S (show 900 ≤ 900 from Nat.le_refl _) (xs (ii + 1).toNatClampNeg) (xs (ii + 2).toNatClampNeg) (xs (ii + 3).toNatClampNeg)
  obtain ⟨x, ρ', h8, ⟨hk, γ', h7, S2⟩ | ⟨j, E, γ', hE, hk, h7, S2⟩⟩ := hc
  · refine V_aload_n (pc := 424) F dL_law_424 rfl 3 rfl ?_
    refine V_aload_n (pc := 425) F dL_law_425 rfl 4 rfl ?_
    refine V_iload (pc := 426) F dL_law_426 0 rfl ?_
    refine V_iconst (pc := 428) (v := 1) F dL_law_428 rfl ?_
    refine V_iadd (pc := 429) F dL_law_429 ?_
    refine V_sld (pc := 430) F G.2.2.2.1 G.2.2.2.2 G.nb i1 dL_law_430 ?_
    refine V_aload_n (pc := 431) F dL_law_431 rfl 4 rfl ?_
    refine V_iload (pc := 432) F dL_law_432 0 rfl ?_
    refine V_iconst (pc := 434) (v := 2) F dL_law_434 rfl ?_
    refine V_iadd (pc := 435) F dL_law_435 ?_
    refine V_sld (pc := 436) F G.2.2.2.1 G.2.2.2.2 G.nb i2 dL_law_436 ?_
    refine V_aload_n (pc := 437) F dL_law_437 rfl 4 rfl ?_
    refine V_iload (pc := 438) F dL_law_438 0 rfl ?_
    refine V_iconst (pc := 440) (v := 3) F dL_law_440 rfl ?_
    refine V_iadd (pc := 441) F dL_law_441 ?_
    refine V_sld (pc := 442) F G.2.2.2.1 G.2.2.2.2 G.nb i3 dL_law_442 ?_
    refine V_aload_n (pc := 443) F dL_law_443 rfl 1 rfl ?_
    refine V_SW (w2 := ((wX7 cy a γ' ++ wX8 cy a' ρ) ++ [oc cy ho (vp_updL f 0 x.toInt64)])) (rest := []) (st2 := [.int 0]) (pc := 444) F G.1 G.2.1 G.2.2.1 (W_change l D cy 900 a ho f γ (xs (ii + 1).toNatClampNeg) (xs (ii + 2).toNatClampNeg) (xs (ii + 3).toNatClampNeg) (x, γ') h7) (vx_cwSW 5 F.ts gLS_change rfl rfl rfl hdL_change ⟨Nat.le_of_ble_eq_true rfl, Nat.le_of_ble_eq_true rfl⟩) rfl dL_law_444 (Fit2.both (Fit.left Fit.whole) Fit.whole) fstX7 rfl (Nat.le_of_ble_eq_true rfl) hcl hsl rfl rfl rfl ?_
    refine V_istore (L2 := [(5, .int 0), (4, .int ii), (3, .ref ho), (2, .ref (a' 0)), (1, .ref (a 0)), (0, .ref b)]) (pc := 447) F dL_law_447 (by decide) rfl ?_
    refine V_aload_n (pc := 449) F dL_law_449 rfl 3 rfl ?_
    refine V_aload_n (pc := 450) F dL_law_450 rfl 5 rfl ?_
    refine V_iload (pc := 451) F dL_law_451 1 rfl ?_
    refine V_iconst (pc := 453) (v := 1) F dL_law_453 rfl ?_
    refine V_iadd (pc := 454) F dL_law_454 ?_
    refine V_sld (pc := 455) F G.2.2.2.1 G.2.2.2.2 G.nb i1 dL_law_455 ?_
    refine V_aload_n (pc := 456) F dL_law_456 rfl 5 rfl ?_
    refine V_iload (pc := 457) F dL_law_457 1 rfl ?_
    refine V_iconst (pc := 459) (v := 2) F dL_law_459 rfl ?_
    refine V_iadd (pc := 460) F dL_law_460 ?_
    refine V_sld (pc := 461) F G.2.2.2.1 G.2.2.2.2 G.nb i2 dL_law_461 ?_
    refine V_aload_n (pc := 462) F dL_law_462 rfl 5 rfl ?_
    refine V_iload (pc := 463) F dL_law_463 1 rfl ?_
    refine V_iconst (pc := 465) (v := 3) F dL_law_465 rfl ?_
    refine V_iadd (pc := 466) F dL_law_466 ?_
    refine V_sld (pc := 467) F G.2.2.2.1 G.2.2.2.2 G.nb i3 dL_law_467 ?_
    refine V_V (w2 := ((wX7 cy a γ' ++ wX8 cy a' ρ') ++ [oc cy ho (vp_updL f 0 x.toInt64)])) (rest := []) (st2 := [.int x]) (pc := 468) F 8 (M_X8_change l D cy 900 a' ρ (xs (ii + 1).toNatClampNeg) (xs (ii + 2).toNatClampNeg) (xs (ii + 3).toNatClampNeg) (x, ρ') h8) (cwV 3 F.ts gL8_change rfl rfl rfl hd_X8_change ⟨Nat.le_of_ble_eq_true rfl, Nat.le_of_ble_eq_true rfl⟩) rfl dL_law_468 (Fit.left (Fit.right Fit.whole)) fstX8 rfl rfl (Nat.le_of_ble_eq_true rfl) hcl hsl rfl rfl rfl ?_
    refine V_istore (L2 := [(6, .int x), (5, .int 0), (4, .int ii), (3, .ref ho), (2, .ref (a' 0)), (1, .ref (a 0)), (0, .ref b)]) (pc := 471) F dL_law_471 (by decide) rfl ?_
    refine V_aload_n (pc := 473) F dL_law_473 rfl 4 rfl ?_
    refine V_V (w2 := ((wX7 cy a γ' ++ wX8 cy a' ρ') ++ [oc cy ho (vp_updL f 0 x.toInt64)])) (rest := []) (st2 := [.int ρ'.1]) (pc := 474) F 8 (M_X8_thrown l D cy 900 a' ρ' ρ'.1 rfl) (cwV 0 F.ts gL8_thrown rfl rfl rfl hd_X8_thrown ⟨Nat.le_of_ble_eq_true rfl, Nat.le_of_ble_eq_true rfl⟩) rfl dL_law_474 (Fit.left (Fit.right Fit.whole)) rfl rfl rfl (Nat.le_of_ble_eq_true rfl) hcl hsl rfl rfl rfl ?_
    refine V_iload (pc := 477) F dL_law_477 1 rfl ?_
    refine V_icmp_eq (pc := 479) (tgt := 484) F dL_law_479 (by decide) (fun _ => ?_) (fun h => absurd hk h)
    refine V_iload (pc := 484) F dL_law_484 1 rfl ?_
    refine V_if_ne (pc := 486) (tgt := 501) F dL_law_486 (by decide) (fun h => absurd rfl h) (fun _ => ?_)
    refine V_aload_n (pc := 489) F dL_law_489 rfl 3 rfl ?_
    refine V_iconst (pc := 490) (v := 0) F dL_law_490 rfl ?_
    refine V_lald (pc := 491) F ((wX7 cy a γ' ++ wX8 cy a' ρ').length + 0) (at_right (k := 0) rfl) (by unfold vp_in; decide) dL_law_491 ?_
    refine V_iload (pc := 492) F dL_law_492 0 rfl ?_
    refine V_i2l (pc := 494) F dL_law_494 ?_
    refine V_lcmp (pc := 495) F dL_law_495 ?_
    refine V_if_eq (pc := 496) (tgt := 501) F dL_law_496 (by decide) (fun _ => ?_) (fun h => absurd (by rw [vp_upd0]; exact lgc_self _) h)
    refine V_goto (pc := 501) (tgt := 1526) F dL_law_501 (by decide) ?_
    refine V.sub (L2 := [(4, .int ii), (3, .ref ho), (2, .ref (a' 0)), (1, .ref (a 0)), (0, .ref b)]) [2, 3, 4, 5, 6] rfl ?_
    exact K γ' ρ' (vp_updL f 0 x.toInt64) S2
  · rcases j with _ | _ | j
    · replace hE : E = IOB := (Option.some.inj hE).symm
      replace hk : ρ'.1 = 1 := hk
      refine V_aload_n (pc := 424) F dL_law_424 rfl 3 rfl ?_
      refine V_aload_n (pc := 425) F dL_law_425 rfl 4 rfl ?_
      refine V_iload (pc := 426) F dL_law_426 0 rfl ?_
      refine V_iconst (pc := 428) (v := 1) F dL_law_428 rfl ?_
      refine V_iadd (pc := 429) F dL_law_429 ?_
      refine V_sld (pc := 430) F G.2.2.2.1 G.2.2.2.2 G.nb i1 dL_law_430 ?_
      refine V_aload_n (pc := 431) F dL_law_431 rfl 4 rfl ?_
      refine V_iload (pc := 432) F dL_law_432 0 rfl ?_
      refine V_iconst (pc := 434) (v := 2) F dL_law_434 rfl ?_
      refine V_iadd (pc := 435) F dL_law_435 ?_
      refine V_sld (pc := 436) F G.2.2.2.1 G.2.2.2.2 G.nb i2 dL_law_436 ?_
      refine V_aload_n (pc := 437) F dL_law_437 rfl 4 rfl ?_
      refine V_iload (pc := 438) F dL_law_438 0 rfl ?_
      refine V_iconst (pc := 440) (v := 3) F dL_law_440 rfl ?_
      refine V_iadd (pc := 441) F dL_law_441 ?_
      refine V_sld (pc := 442) F G.2.2.2.1 G.2.2.2.2 G.nb i3 dL_law_442 ?_
      refine V_aload_n (pc := 443) F dL_law_443 rfl 1 rfl ?_
      refine V_SW (w2 := ((wX7 cy a γ' ++ wX8 cy a' ρ) ++ [oc cy ho f])) (rest := []) (st2 := [.int 1]) (pc := 444) F G.1 G.2.1 G.2.2.1 (WT_change_0 l hfl D cy 900 a ho f γ (xs (ii + 1).toNatClampNeg) (xs (ii + 2).toNatClampNeg) (xs (ii + 3).toNatClampNeg) E γ' h7 hE) (vx_cwSW 5 F.ts gLS_change rfl rfl rfl hdL_change ⟨Nat.le_of_ble_eq_true rfl, Nat.le_of_ble_eq_true rfl⟩) rfl dL_law_444 (Fit2.both (Fit.left Fit.whole) Fit.whole) fstX7 rfl (Nat.le_of_ble_eq_true rfl) hcl hsl rfl rfl rfl ?_
      refine V_istore (L2 := [(5, .int 1), (4, .int ii), (3, .ref ho), (2, .ref (a' 0)), (1, .ref (a 0)), (0, .ref b)]) (pc := 447) F dL_law_447 (by decide) rfl ?_
      refine V_aload_n (pc := 449) F dL_law_449 rfl 3 rfl ?_
      refine V_aload_n (pc := 450) F dL_law_450 rfl 5 rfl ?_
      refine V_iload (pc := 451) F dL_law_451 1 rfl ?_
      refine V_iconst (pc := 453) (v := 1) F dL_law_453 rfl ?_
      refine V_iadd (pc := 454) F dL_law_454 ?_
      refine V_sld (pc := 455) F G.2.2.2.1 G.2.2.2.2 G.nb i1 dL_law_455 ?_
      refine V_aload_n (pc := 456) F dL_law_456 rfl 5 rfl ?_
      refine V_iload (pc := 457) F dL_law_457 1 rfl ?_
      refine V_iconst (pc := 459) (v := 2) F dL_law_459 rfl ?_
      refine V_iadd (pc := 460) F dL_law_460 ?_
      refine V_sld (pc := 461) F G.2.2.2.1 G.2.2.2.2 G.nb i2 dL_law_461 ?_
      refine V_aload_n (pc := 462) F dL_law_462 rfl 5 rfl ?_
      refine V_iload (pc := 463) F dL_law_463 1 rfl ?_
      refine V_iconst (pc := 465) (v := 3) F dL_law_465 rfl ?_
      refine V_iadd (pc := 466) F dL_law_466 ?_
      refine V_sld (pc := 467) F G.2.2.2.1 G.2.2.2.2 G.nb i3 dL_law_467 ?_
      refine V_V (w2 := ((wX7 cy a γ' ++ wX8 cy a' ρ') ++ [oc cy ho f])) (rest := []) (st2 := [.int x]) (pc := 468) F 8 (M_X8_change l D cy 900 a' ρ (xs (ii + 1).toNatClampNeg) (xs (ii + 2).toNatClampNeg) (xs (ii + 3).toNatClampNeg) (x, ρ') h8) (cwV 3 F.ts gL8_change rfl rfl rfl hd_X8_change ⟨Nat.le_of_ble_eq_true rfl, Nat.le_of_ble_eq_true rfl⟩) rfl dL_law_468 (Fit.left (Fit.right Fit.whole)) fstX8 rfl rfl (Nat.le_of_ble_eq_true rfl) hcl hsl rfl rfl rfl ?_
      refine V_istore (L2 := [(6, .int x), (5, .int 1), (4, .int ii), (3, .ref ho), (2, .ref (a' 0)), (1, .ref (a 0)), (0, .ref b)]) (pc := 471) F dL_law_471 (by decide) rfl ?_
      refine V_aload_n (pc := 473) F dL_law_473 rfl 4 rfl ?_
      refine V_V (w2 := ((wX7 cy a γ' ++ wX8 cy a' ρ') ++ [oc cy ho f])) (rest := []) (st2 := [.int ρ'.1]) (pc := 474) F 8 (M_X8_thrown l D cy 900 a' ρ' ρ'.1 rfl) (cwV 0 F.ts gL8_thrown rfl rfl rfl hd_X8_thrown ⟨Nat.le_of_ble_eq_true rfl, Nat.le_of_ble_eq_true rfl⟩) rfl dL_law_474 (Fit.left (Fit.right Fit.whole)) rfl rfl rfl (Nat.le_of_ble_eq_true rfl) hcl hsl rfl rfl rfl ?_
      refine V_iload (pc := 477) F dL_law_477 1 rfl ?_
      refine V_icmp_eq (pc := 479) (tgt := 484) F dL_law_479 (by decide) (fun _ => ?_) (fun h => absurd hk h)
      refine V_iload (pc := 484) F dL_law_484 1 rfl ?_
      refine V_if_ne (pc := 486) (tgt := 501) F dL_law_486 (by decide) (fun _ => ?_) (fun h => absurd h (by decide))
      refine V_goto (pc := 501) (tgt := 1526) F dL_law_501 (by decide) ?_
      refine V.sub (L2 := [(4, .int ii), (3, .ref ho), (2, .ref (a' 0)), (1, .ref (a 0)), (0, .ref b)]) [2, 3, 4, 5, 6] rfl ?_
      exact K γ' ρ' f S2
    · replace hE : E = IAE := (Option.some.inj hE).symm
      replace hk : ρ'.1 = 2 := hk
      refine V_aload_n (pc := 424) F dL_law_424 rfl 3 rfl ?_
      refine V_aload_n (pc := 425) F dL_law_425 rfl 4 rfl ?_
      refine V_iload (pc := 426) F dL_law_426 0 rfl ?_
      refine V_iconst (pc := 428) (v := 1) F dL_law_428 rfl ?_
      refine V_iadd (pc := 429) F dL_law_429 ?_
      refine V_sld (pc := 430) F G.2.2.2.1 G.2.2.2.2 G.nb i1 dL_law_430 ?_
      refine V_aload_n (pc := 431) F dL_law_431 rfl 4 rfl ?_
      refine V_iload (pc := 432) F dL_law_432 0 rfl ?_
      refine V_iconst (pc := 434) (v := 2) F dL_law_434 rfl ?_
      refine V_iadd (pc := 435) F dL_law_435 ?_
      refine V_sld (pc := 436) F G.2.2.2.1 G.2.2.2.2 G.nb i2 dL_law_436 ?_
      refine V_aload_n (pc := 437) F dL_law_437 rfl 4 rfl ?_
      refine V_iload (pc := 438) F dL_law_438 0 rfl ?_
      refine V_iconst (pc := 440) (v := 3) F dL_law_440 rfl ?_
      refine V_iadd (pc := 441) F dL_law_441 ?_
      refine V_sld (pc := 442) F G.2.2.2.1 G.2.2.2.2 G.nb i3 dL_law_442 ?_
      refine V_aload_n (pc := 443) F dL_law_443 rfl 1 rfl ?_
      refine V_SW (w2 := ((wX7 cy a γ' ++ wX8 cy a' ρ) ++ [oc cy ho f])) (rest := []) (st2 := [.int 2]) (pc := 444) F G.1 G.2.1 G.2.2.1 (WT_change_1 l hfl D cy 900 a ho f γ (xs (ii + 1).toNatClampNeg) (xs (ii + 2).toNatClampNeg) (xs (ii + 3).toNatClampNeg) E γ' h7 hE) (vx_cwSW 5 F.ts gLS_change rfl rfl rfl hdL_change ⟨Nat.le_of_ble_eq_true rfl, Nat.le_of_ble_eq_true rfl⟩) rfl dL_law_444 (Fit2.both (Fit.left Fit.whole) Fit.whole) fstX7 rfl (Nat.le_of_ble_eq_true rfl) hcl hsl rfl rfl rfl ?_
      refine V_istore (L2 := [(5, .int 2), (4, .int ii), (3, .ref ho), (2, .ref (a' 0)), (1, .ref (a 0)), (0, .ref b)]) (pc := 447) F dL_law_447 (by decide) rfl ?_
      refine V_aload_n (pc := 449) F dL_law_449 rfl 3 rfl ?_
      refine V_aload_n (pc := 450) F dL_law_450 rfl 5 rfl ?_
      refine V_iload (pc := 451) F dL_law_451 1 rfl ?_
      refine V_iconst (pc := 453) (v := 1) F dL_law_453 rfl ?_
      refine V_iadd (pc := 454) F dL_law_454 ?_
      refine V_sld (pc := 455) F G.2.2.2.1 G.2.2.2.2 G.nb i1 dL_law_455 ?_
      refine V_aload_n (pc := 456) F dL_law_456 rfl 5 rfl ?_
      refine V_iload (pc := 457) F dL_law_457 1 rfl ?_
      refine V_iconst (pc := 459) (v := 2) F dL_law_459 rfl ?_
      refine V_iadd (pc := 460) F dL_law_460 ?_
      refine V_sld (pc := 461) F G.2.2.2.1 G.2.2.2.2 G.nb i2 dL_law_461 ?_
      refine V_aload_n (pc := 462) F dL_law_462 rfl 5 rfl ?_
      refine V_iload (pc := 463) F dL_law_463 1 rfl ?_
      refine V_iconst (pc := 465) (v := 3) F dL_law_465 rfl ?_
      refine V_iadd (pc := 466) F dL_law_466 ?_
      refine V_sld (pc := 467) F G.2.2.2.1 G.2.2.2.2 G.nb i3 dL_law_467 ?_
      refine V_V (w2 := ((wX7 cy a γ' ++ wX8 cy a' ρ') ++ [oc cy ho f])) (rest := []) (st2 := [.int x]) (pc := 468) F 8 (M_X8_change l D cy 900 a' ρ (xs (ii + 1).toNatClampNeg) (xs (ii + 2).toNatClampNeg) (xs (ii + 3).toNatClampNeg) (x, ρ') h8) (cwV 3 F.ts gL8_change rfl rfl rfl hd_X8_change ⟨Nat.le_of_ble_eq_true rfl, Nat.le_of_ble_eq_true rfl⟩) rfl dL_law_468 (Fit.left (Fit.right Fit.whole)) fstX8 rfl rfl (Nat.le_of_ble_eq_true rfl) hcl hsl rfl rfl rfl ?_
      refine V_istore (L2 := [(6, .int x), (5, .int 2), (4, .int ii), (3, .ref ho), (2, .ref (a' 0)), (1, .ref (a 0)), (0, .ref b)]) (pc := 471) F dL_law_471 (by decide) rfl ?_
      refine V_aload_n (pc := 473) F dL_law_473 rfl 4 rfl ?_
      refine V_V (w2 := ((wX7 cy a γ' ++ wX8 cy a' ρ') ++ [oc cy ho f])) (rest := []) (st2 := [.int ρ'.1]) (pc := 474) F 8 (M_X8_thrown l D cy 900 a' ρ' ρ'.1 rfl) (cwV 0 F.ts gL8_thrown rfl rfl rfl hd_X8_thrown ⟨Nat.le_of_ble_eq_true rfl, Nat.le_of_ble_eq_true rfl⟩) rfl dL_law_474 (Fit.left (Fit.right Fit.whole)) rfl rfl rfl (Nat.le_of_ble_eq_true rfl) hcl hsl rfl rfl rfl ?_
      refine V_iload (pc := 477) F dL_law_477 1 rfl ?_
      refine V_icmp_eq (pc := 479) (tgt := 484) F dL_law_479 (by decide) (fun _ => ?_) (fun h => absurd hk h)
      refine V_iload (pc := 484) F dL_law_484 1 rfl ?_
      refine V_if_ne (pc := 486) (tgt := 501) F dL_law_486 (by decide) (fun _ => ?_) (fun h => absurd h (by decide))
      refine V_goto (pc := 501) (tgt := 1526) F dL_law_501 (by decide) ?_
      refine V.sub (L2 := [(4, .int ii), (3, .ref ho), (2, .ref (a' 0)), (1, .ref (a 0)), (0, .ref b)]) [2, 3, 4, 5, 6] rfl ?_
      exact K γ' ρ' f S2
    · exact absurd hE (by simp)
set_option maxHeartbeats 8000000 in
theorem law_set (hfl : l.stackTraces = false) (F : Fx p s m #[.ref b] meth c cL_law 9 RL nme lw_tbl ret D cy (aL s)) (G : FxL s b n xs) (hcl : cells + 1 ≤ room_1.cells) (hsl : slots + 6 ≤ room_1.slots) (S : SR γ ρ) (i1 : vp_in (ii + 1) n) (i2 : vp_in (ii + 2) n) (i3 : vp_in (ii + 3) n) (K : KL p l e s m below meth c D cy b a a' ho cells slots ii) : V p l e room_1 s m #[.ref b] below meth c 9 D (aL s) cells slots (lw_Z below #[.ref b] s) ((wX7 cy a γ ++ wX8 cy a' ρ) ++ [oc cy ho f]) [(4, .int ii), (3, .ref ho), (2, .ref (a' 0)), (1, .ref (a 0)), (0, .ref b)] [] 504 := by
  have hc : CSame [IAE] (fX7_set 900 γ (xs (ii + 1).toNatClampNeg)) (fX8_set 900 ρ (xs (ii + 1).toNatClampNeg)) := set_call (m := γ.1) (h := γ.2.1) (tx := γ.2.2.1) (pf := γ.2.2.2) (t := ρ.1) (z := ρ.2.1) (S' := ρ.2.2.1) (kk := ρ.2.2.2.1) (u := ρ.2.2.2.2) S (show 900 ≤ 900 from Nat.le_refl _) (xs (ii + 1).toNatClampNeg)
  obtain ⟨x, ρ', h8, ⟨hk, γ', h7, S2⟩ | ⟨j, E, γ', hE, hk, h7, S2⟩⟩ := hc
  · refine V_aload_n (pc := 504) F dL_law_504 rfl 3 rfl ?_
    refine V_aload_n (pc := 505) F dL_law_505 rfl 4 rfl ?_
    refine V_iload (pc := 506) F dL_law_506 0 rfl ?_
    refine V_iconst (pc := 508) (v := 1) F dL_law_508 rfl ?_
    refine V_iadd (pc := 509) F dL_law_509 ?_
    refine V_sld (pc := 510) F G.2.2.2.1 G.2.2.2.2 G.nb i1 dL_law_510 ?_
    refine V_aload_n (pc := 511) F dL_law_511 rfl 1 rfl ?_
    refine V_SW (w2 := ((wX7 cy a γ' ++ wX8 cy a' ρ) ++ [oc cy ho (vp_updL f 0 x.toInt64)])) (rest := []) (st2 := [.int 0]) (pc := 512) F G.1 G.2.1 G.2.2.1 (W_set l D cy 900 a ho f γ (xs (ii + 1).toNatClampNeg) (x, γ') h7) (vx_cwSW 3 F.ts gLS_set rfl rfl rfl hdL_set ⟨Nat.le_of_ble_eq_true rfl, Nat.le_of_ble_eq_true rfl⟩) rfl dL_law_512 (Fit2.both (Fit.left Fit.whole) Fit.whole) fstX7 rfl (Nat.le_of_ble_eq_true rfl) hcl hsl rfl rfl rfl ?_
    refine V_istore (L2 := [(5, .int 0), (4, .int ii), (3, .ref ho), (2, .ref (a' 0)), (1, .ref (a 0)), (0, .ref b)]) (pc := 515) F dL_law_515 (by decide) rfl ?_
    refine V_aload_n (pc := 517) F dL_law_517 rfl 3 rfl ?_
    refine V_aload_n (pc := 518) F dL_law_518 rfl 5 rfl ?_
    refine V_iload (pc := 519) F dL_law_519 1 rfl ?_
    refine V_iconst (pc := 521) (v := 1) F dL_law_521 rfl ?_
    refine V_iadd (pc := 522) F dL_law_522 ?_
    refine V_sld (pc := 523) F G.2.2.2.1 G.2.2.2.2 G.nb i1 dL_law_523 ?_
    refine V_V (w2 := ((wX7 cy a γ' ++ wX8 cy a' ρ') ++ [oc cy ho (vp_updL f 0 x.toInt64)])) (rest := []) (st2 := [.int x]) (pc := 524) F 8 (M_X8_set l D cy 900 a' ρ (xs (ii + 1).toNatClampNeg) (x, ρ') h8) (cwV 1 F.ts gL8_set rfl rfl rfl hd_X8_set ⟨Nat.le_of_ble_eq_true rfl, Nat.le_of_ble_eq_true rfl⟩) rfl dL_law_524 (Fit.left (Fit.right Fit.whole)) fstX8 rfl rfl (Nat.le_of_ble_eq_true rfl) hcl hsl rfl rfl rfl ?_
    refine V_istore (L2 := [(6, .int x), (5, .int 0), (4, .int ii), (3, .ref ho), (2, .ref (a' 0)), (1, .ref (a 0)), (0, .ref b)]) (pc := 527) F dL_law_527 (by decide) rfl ?_
    refine V_aload_n (pc := 529) F dL_law_529 rfl 4 rfl ?_
    refine V_V (w2 := ((wX7 cy a γ' ++ wX8 cy a' ρ') ++ [oc cy ho (vp_updL f 0 x.toInt64)])) (rest := []) (st2 := [.int ρ'.1]) (pc := 530) F 8 (M_X8_thrown l D cy 900 a' ρ' ρ'.1 rfl) (cwV 0 F.ts gL8_thrown rfl rfl rfl hd_X8_thrown ⟨Nat.le_of_ble_eq_true rfl, Nat.le_of_ble_eq_true rfl⟩) rfl dL_law_530 (Fit.left (Fit.right Fit.whole)) rfl rfl rfl (Nat.le_of_ble_eq_true rfl) hcl hsl rfl rfl rfl ?_
    refine V_iload (pc := 533) F dL_law_533 1 rfl ?_
    refine V_icmp_eq (pc := 535) (tgt := 540) F dL_law_535 (by decide) (fun _ => ?_) (fun h => absurd hk h)
    refine V_iload (pc := 540) F dL_law_540 1 rfl ?_
    refine V_if_ne (pc := 542) (tgt := 557) F dL_law_542 (by decide) (fun h => absurd rfl h) (fun _ => ?_)
    refine V_aload_n (pc := 545) F dL_law_545 rfl 3 rfl ?_
    refine V_iconst (pc := 546) (v := 0) F dL_law_546 rfl ?_
    refine V_lald (pc := 547) F ((wX7 cy a γ' ++ wX8 cy a' ρ').length + 0) (at_right (k := 0) rfl) (by unfold vp_in; decide) dL_law_547 ?_
    refine V_iload (pc := 548) F dL_law_548 0 rfl ?_
    refine V_i2l (pc := 550) F dL_law_550 ?_
    refine V_lcmp (pc := 551) F dL_law_551 ?_
    refine V_if_eq (pc := 552) (tgt := 557) F dL_law_552 (by decide) (fun _ => ?_) (fun h => absurd (by rw [vp_upd0]; exact lgc_self _) h)
    refine V_goto (pc := 557) (tgt := 1526) F dL_law_557 (by decide) ?_
    refine V.sub (L2 := [(4, .int ii), (3, .ref ho), (2, .ref (a' 0)), (1, .ref (a 0)), (0, .ref b)]) [2, 3, 4, 5, 6] rfl ?_
    exact K γ' ρ' (vp_updL f 0 x.toInt64) S2
  · rcases j with _ | j
    · replace hE : E = IAE := (Option.some.inj hE).symm
      replace hk : ρ'.1 = 1 := hk
      refine V_aload_n (pc := 504) F dL_law_504 rfl 3 rfl ?_
      refine V_aload_n (pc := 505) F dL_law_505 rfl 4 rfl ?_
      refine V_iload (pc := 506) F dL_law_506 0 rfl ?_
      refine V_iconst (pc := 508) (v := 1) F dL_law_508 rfl ?_
      refine V_iadd (pc := 509) F dL_law_509 ?_
      refine V_sld (pc := 510) F G.2.2.2.1 G.2.2.2.2 G.nb i1 dL_law_510 ?_
      refine V_aload_n (pc := 511) F dL_law_511 rfl 1 rfl ?_
      refine V_SW (w2 := ((wX7 cy a γ' ++ wX8 cy a' ρ) ++ [oc cy ho f])) (rest := []) (st2 := [.int 1]) (pc := 512) F G.1 G.2.1 G.2.2.1 (WT_set_0 l hfl D cy 900 a ho f γ (xs (ii + 1).toNatClampNeg) E γ' h7 hE) (vx_cwSW 3 F.ts gLS_set rfl rfl rfl hdL_set ⟨Nat.le_of_ble_eq_true rfl, Nat.le_of_ble_eq_true rfl⟩) rfl dL_law_512 (Fit2.both (Fit.left Fit.whole) Fit.whole) fstX7 rfl (Nat.le_of_ble_eq_true rfl) hcl hsl rfl rfl rfl ?_
      refine V_istore (L2 := [(5, .int 1), (4, .int ii), (3, .ref ho), (2, .ref (a' 0)), (1, .ref (a 0)), (0, .ref b)]) (pc := 515) F dL_law_515 (by decide) rfl ?_
      refine V_aload_n (pc := 517) F dL_law_517 rfl 3 rfl ?_
      refine V_aload_n (pc := 518) F dL_law_518 rfl 5 rfl ?_
      refine V_iload (pc := 519) F dL_law_519 1 rfl ?_
      refine V_iconst (pc := 521) (v := 1) F dL_law_521 rfl ?_
      refine V_iadd (pc := 522) F dL_law_522 ?_
      refine V_sld (pc := 523) F G.2.2.2.1 G.2.2.2.2 G.nb i1 dL_law_523 ?_
      refine V_V (w2 := ((wX7 cy a γ' ++ wX8 cy a' ρ') ++ [oc cy ho f])) (rest := []) (st2 := [.int x]) (pc := 524) F 8 (M_X8_set l D cy 900 a' ρ (xs (ii + 1).toNatClampNeg) (x, ρ') h8) (cwV 1 F.ts gL8_set rfl rfl rfl hd_X8_set ⟨Nat.le_of_ble_eq_true rfl, Nat.le_of_ble_eq_true rfl⟩) rfl dL_law_524 (Fit.left (Fit.right Fit.whole)) fstX8 rfl rfl (Nat.le_of_ble_eq_true rfl) hcl hsl rfl rfl rfl ?_
      refine V_istore (L2 := [(6, .int x), (5, .int 1), (4, .int ii), (3, .ref ho), (2, .ref (a' 0)), (1, .ref (a 0)), (0, .ref b)]) (pc := 527) F dL_law_527 (by decide) rfl ?_
      refine V_aload_n (pc := 529) F dL_law_529 rfl 4 rfl ?_
      refine V_V (w2 := ((wX7 cy a γ' ++ wX8 cy a' ρ') ++ [oc cy ho f])) (rest := []) (st2 := [.int ρ'.1]) (pc := 530) F 8 (M_X8_thrown l D cy 900 a' ρ' ρ'.1 rfl) (cwV 0 F.ts gL8_thrown rfl rfl rfl hd_X8_thrown ⟨Nat.le_of_ble_eq_true rfl, Nat.le_of_ble_eq_true rfl⟩) rfl dL_law_530 (Fit.left (Fit.right Fit.whole)) rfl rfl rfl (Nat.le_of_ble_eq_true rfl) hcl hsl rfl rfl rfl ?_
      refine V_iload (pc := 533) F dL_law_533 1 rfl ?_
      refine V_icmp_eq (pc := 535) (tgt := 540) F dL_law_535 (by decide) (fun _ => ?_) (fun h => absurd hk h)
      refine V_iload (pc := 540) F dL_law_540 1 rfl ?_
      refine V_if_ne (pc := 542) (tgt := 557) F dL_law_542 (by decide) (fun _ => ?_) (fun h => absurd h (by decide))
      refine V_goto (pc := 557) (tgt := 1526) F dL_law_557 (by decide) ?_
      refine V.sub (L2 := [(4, .int ii), (3, .ref ho), (2, .ref (a' 0)), (1, .ref (a 0)), (0, .ref b)]) [2, 3, 4, 5, 6] rfl ?_
      exact K γ' ρ' f S2
    · exact absurd hE (by simp)
set_option maxHeartbeats 8000000 in
theorem law_come (hfl : l.stackTraces = false) (F : Fx p s m #[.ref b] meth c cL_law 9 RL nme lw_tbl ret D cy (aL s)) (G : FxL s b n xs) (hcl : cells + 1 ≤ room_1.cells) (hsl : slots + 6 ≤ room_1.slots) (S : SR γ ρ) (i1 : vp_in (ii + 1) n) (i2 : vp_in (ii + 2) n) (i3 : vp_in (ii + 3) n) (K : KL p l e s m below meth c D cy b a a' ho cells slots ii) : V p l e room_1 s m #[.ref b] below meth c 9 D (aL s) cells slots (lw_Z below #[.ref b] s) ((wX7 cy a γ ++ wX8 cy a' ρ) ++ [oc cy ho f]) [(4, .int ii), (3, .ref ho), (2, .ref (a' 0)), (1, .ref (a 0)), (0, .ref b)] [] 560 := by
  have hc : CSame [IAE] (fX7_come 900 γ (xs (ii + 1).toNatClampNeg)) (fX8_come 900 ρ (xs (ii + 1).toNatClampNeg)) := come_call (m := γ.1) (h := γ.2.1) (tx := γ.2.2.1) (pf := γ.2.2.2) (t := ρ.1) (z := ρ.2.1) (S' := ρ.2.2.1) (kk := ρ.2.2.2.1) (u := ρ.2.2.2.2) S (show 900 ≤ 900 from Nat.le_refl _) (xs (ii + 1).toNatClampNeg)
  obtain ⟨x, ρ', h8, ⟨hk, γ', h7, S2⟩ | ⟨j, E, γ', hE, hk, h7, S2⟩⟩ := hc
  · refine V_aload_n (pc := 560) F dL_law_560 rfl 3 rfl ?_
    refine V_aload_n (pc := 561) F dL_law_561 rfl 4 rfl ?_
    refine V_iload (pc := 562) F dL_law_562 0 rfl ?_
    refine V_iconst (pc := 564) (v := 1) F dL_law_564 rfl ?_
    refine V_iadd (pc := 565) F dL_law_565 ?_
    refine V_sld (pc := 566) F G.2.2.2.1 G.2.2.2.2 G.nb i1 dL_law_566 ?_
    refine V_aload_n (pc := 567) F dL_law_567 rfl 1 rfl ?_
    refine V_SW (w2 := ((wX7 cy a γ' ++ wX8 cy a' ρ) ++ [oc cy ho (vp_updL f 0 x.toInt64)])) (rest := []) (st2 := [.int 0]) (pc := 568) F G.1 G.2.1 G.2.2.1 (W_come l D cy 900 a ho f γ (xs (ii + 1).toNatClampNeg) (x, γ') h7) (vx_cwSW 3 F.ts gLS_come rfl rfl rfl hdL_come ⟨Nat.le_of_ble_eq_true rfl, Nat.le_of_ble_eq_true rfl⟩) rfl dL_law_568 (Fit2.both (Fit.left Fit.whole) Fit.whole) fstX7 rfl (Nat.le_of_ble_eq_true rfl) hcl hsl rfl rfl rfl ?_
    refine V_istore (L2 := [(5, .int 0), (4, .int ii), (3, .ref ho), (2, .ref (a' 0)), (1, .ref (a 0)), (0, .ref b)]) (pc := 571) F dL_law_571 (by decide) rfl ?_
    refine V_aload_n (pc := 573) F dL_law_573 rfl 3 rfl ?_
    refine V_aload_n (pc := 574) F dL_law_574 rfl 5 rfl ?_
    refine V_iload (pc := 575) F dL_law_575 1 rfl ?_
    refine V_iconst (pc := 577) (v := 1) F dL_law_577 rfl ?_
    refine V_iadd (pc := 578) F dL_law_578 ?_
    refine V_sld (pc := 579) F G.2.2.2.1 G.2.2.2.2 G.nb i1 dL_law_579 ?_
    refine V_V (w2 := ((wX7 cy a γ' ++ wX8 cy a' ρ') ++ [oc cy ho (vp_updL f 0 x.toInt64)])) (rest := []) (st2 := [.int x]) (pc := 580) F 8 (M_X8_come l D cy 900 a' ρ (xs (ii + 1).toNatClampNeg) (x, ρ') h8) (cwV 1 F.ts gL8_come rfl rfl rfl hd_X8_come ⟨Nat.le_of_ble_eq_true rfl, Nat.le_of_ble_eq_true rfl⟩) rfl dL_law_580 (Fit.left (Fit.right Fit.whole)) fstX8 rfl rfl (Nat.le_of_ble_eq_true rfl) hcl hsl rfl rfl rfl ?_
    refine V_istore (L2 := [(6, .int x), (5, .int 0), (4, .int ii), (3, .ref ho), (2, .ref (a' 0)), (1, .ref (a 0)), (0, .ref b)]) (pc := 583) F dL_law_583 (by decide) rfl ?_
    refine V_aload_n (pc := 585) F dL_law_585 rfl 4 rfl ?_
    refine V_V (w2 := ((wX7 cy a γ' ++ wX8 cy a' ρ') ++ [oc cy ho (vp_updL f 0 x.toInt64)])) (rest := []) (st2 := [.int ρ'.1]) (pc := 586) F 8 (M_X8_thrown l D cy 900 a' ρ' ρ'.1 rfl) (cwV 0 F.ts gL8_thrown rfl rfl rfl hd_X8_thrown ⟨Nat.le_of_ble_eq_true rfl, Nat.le_of_ble_eq_true rfl⟩) rfl dL_law_586 (Fit.left (Fit.right Fit.whole)) rfl rfl rfl (Nat.le_of_ble_eq_true rfl) hcl hsl rfl rfl rfl ?_
    refine V_iload (pc := 589) F dL_law_589 1 rfl ?_
    refine V_icmp_eq (pc := 591) (tgt := 596) F dL_law_591 (by decide) (fun _ => ?_) (fun h => absurd hk h)
    refine V_iload (pc := 596) F dL_law_596 1 rfl ?_
    refine V_if_ne (pc := 598) (tgt := 613) F dL_law_598 (by decide) (fun h => absurd rfl h) (fun _ => ?_)
    refine V_aload_n (pc := 601) F dL_law_601 rfl 3 rfl ?_
    refine V_iconst (pc := 602) (v := 0) F dL_law_602 rfl ?_
    refine V_lald (pc := 603) F ((wX7 cy a γ' ++ wX8 cy a' ρ').length + 0) (at_right (k := 0) rfl) (by unfold vp_in; decide) dL_law_603 ?_
    refine V_iload (pc := 604) F dL_law_604 0 rfl ?_
    refine V_i2l (pc := 606) F dL_law_606 ?_
    refine V_lcmp (pc := 607) F dL_law_607 ?_
    refine V_if_eq (pc := 608) (tgt := 613) F dL_law_608 (by decide) (fun _ => ?_) (fun h => absurd (by rw [vp_upd0]; exact lgc_self _) h)
    refine V_goto (pc := 613) (tgt := 1526) F dL_law_613 (by decide) ?_
    refine V.sub (L2 := [(4, .int ii), (3, .ref ho), (2, .ref (a' 0)), (1, .ref (a 0)), (0, .ref b)]) [2, 3, 4, 5, 6] rfl ?_
    exact K γ' ρ' (vp_updL f 0 x.toInt64) S2
  · rcases j with _ | j
    · replace hE : E = IAE := (Option.some.inj hE).symm
      replace hk : ρ'.1 = 1 := hk
      refine V_aload_n (pc := 560) F dL_law_560 rfl 3 rfl ?_
      refine V_aload_n (pc := 561) F dL_law_561 rfl 4 rfl ?_
      refine V_iload (pc := 562) F dL_law_562 0 rfl ?_
      refine V_iconst (pc := 564) (v := 1) F dL_law_564 rfl ?_
      refine V_iadd (pc := 565) F dL_law_565 ?_
      refine V_sld (pc := 566) F G.2.2.2.1 G.2.2.2.2 G.nb i1 dL_law_566 ?_
      refine V_aload_n (pc := 567) F dL_law_567 rfl 1 rfl ?_
      refine V_SW (w2 := ((wX7 cy a γ' ++ wX8 cy a' ρ) ++ [oc cy ho f])) (rest := []) (st2 := [.int 1]) (pc := 568) F G.1 G.2.1 G.2.2.1 (WT_come_0 l hfl D cy 900 a ho f γ (xs (ii + 1).toNatClampNeg) E γ' h7 hE) (vx_cwSW 3 F.ts gLS_come rfl rfl rfl hdL_come ⟨Nat.le_of_ble_eq_true rfl, Nat.le_of_ble_eq_true rfl⟩) rfl dL_law_568 (Fit2.both (Fit.left Fit.whole) Fit.whole) fstX7 rfl (Nat.le_of_ble_eq_true rfl) hcl hsl rfl rfl rfl ?_
      refine V_istore (L2 := [(5, .int 1), (4, .int ii), (3, .ref ho), (2, .ref (a' 0)), (1, .ref (a 0)), (0, .ref b)]) (pc := 571) F dL_law_571 (by decide) rfl ?_
      refine V_aload_n (pc := 573) F dL_law_573 rfl 3 rfl ?_
      refine V_aload_n (pc := 574) F dL_law_574 rfl 5 rfl ?_
      refine V_iload (pc := 575) F dL_law_575 1 rfl ?_
      refine V_iconst (pc := 577) (v := 1) F dL_law_577 rfl ?_
      refine V_iadd (pc := 578) F dL_law_578 ?_
      refine V_sld (pc := 579) F G.2.2.2.1 G.2.2.2.2 G.nb i1 dL_law_579 ?_
      refine V_V (w2 := ((wX7 cy a γ' ++ wX8 cy a' ρ') ++ [oc cy ho f])) (rest := []) (st2 := [.int x]) (pc := 580) F 8 (M_X8_come l D cy 900 a' ρ (xs (ii + 1).toNatClampNeg) (x, ρ') h8) (cwV 1 F.ts gL8_come rfl rfl rfl hd_X8_come ⟨Nat.le_of_ble_eq_true rfl, Nat.le_of_ble_eq_true rfl⟩) rfl dL_law_580 (Fit.left (Fit.right Fit.whole)) fstX8 rfl rfl (Nat.le_of_ble_eq_true rfl) hcl hsl rfl rfl rfl ?_
      refine V_istore (L2 := [(6, .int x), (5, .int 1), (4, .int ii), (3, .ref ho), (2, .ref (a' 0)), (1, .ref (a 0)), (0, .ref b)]) (pc := 583) F dL_law_583 (by decide) rfl ?_
      refine V_aload_n (pc := 585) F dL_law_585 rfl 4 rfl ?_
      refine V_V (w2 := ((wX7 cy a γ' ++ wX8 cy a' ρ') ++ [oc cy ho f])) (rest := []) (st2 := [.int ρ'.1]) (pc := 586) F 8 (M_X8_thrown l D cy 900 a' ρ' ρ'.1 rfl) (cwV 0 F.ts gL8_thrown rfl rfl rfl hd_X8_thrown ⟨Nat.le_of_ble_eq_true rfl, Nat.le_of_ble_eq_true rfl⟩) rfl dL_law_586 (Fit.left (Fit.right Fit.whole)) rfl rfl rfl (Nat.le_of_ble_eq_true rfl) hcl hsl rfl rfl rfl ?_
      refine V_iload (pc := 589) F dL_law_589 1 rfl ?_
      refine V_icmp_eq (pc := 591) (tgt := 596) F dL_law_591 (by decide) (fun _ => ?_) (fun h => absurd hk h)
      refine V_iload (pc := 596) F dL_law_596 1 rfl ?_
      refine V_if_ne (pc := 598) (tgt := 613) F dL_law_598 (by decide) (fun _ => ?_) (fun h => absurd h (by decide))
      refine V_goto (pc := 613) (tgt := 1526) F dL_law_613 (by decide) ?_
      refine V.sub (L2 := [(4, .int ii), (3, .ref ho), (2, .ref (a' 0)), (1, .ref (a 0)), (0, .ref b)]) [2, 3, 4, 5, 6] rfl ?_
      exact K γ' ρ' f S2
    · exact absurd hE (by simp)
set_option maxHeartbeats 8000000 in
theorem law_run (hfl : l.stackTraces = false) (F : Fx p s m #[.ref b] meth c cL_law 9 RL nme lw_tbl ret D cy (aL s)) (G : FxL s b n xs) (hcl : cells + 1 ≤ room_1.cells) (hsl : slots + 6 ≤ room_1.slots) (S : SR γ ρ) (i1 : vp_in (ii + 1) n) (i2 : vp_in (ii + 2) n) (i3 : vp_in (ii + 3) n) (K : KL p l e s m below meth c D cy b a a' ho cells slots ii) : V p l e room_1 s m #[.ref b] below meth c 9 D (aL s) cells slots (lw_Z below #[.ref b] s) ((wX7 cy a γ ++ wX8 cy a' ρ) ++ [oc cy ho f]) [(4, .int ii), (3, .ref ho), (2, .ref (a' 0)), (1, .ref (a 0)), (0, .ref b)] [] 616 := by
  have hc : CSame [IAE] (fX7_run 900 γ (xs (ii + 1).toNatClampNeg)) (fX8_run 900 ρ (xs (ii + 1).toNatClampNeg)) := run_call (m := γ.1) (h := γ.2.1) (tx := γ.2.2.1) (pf := γ.2.2.2) (t := ρ.1) (z := ρ.2.1) (S' := ρ.2.2.1) (kk := ρ.2.2.2.1) (u := ρ.2.2.2.2) S (show 900 ≤ 900 from Nat.le_refl _) (xs (ii + 1).toNatClampNeg)
  obtain ⟨x, ρ', h8, ⟨hk, γ', h7, S2⟩ | ⟨j, E, γ', hE, hk, h7, S2⟩⟩ := hc
  · refine V_aload_n (pc := 616) F dL_law_616 rfl 3 rfl ?_
    refine V_aload_n (pc := 617) F dL_law_617 rfl 4 rfl ?_
    refine V_iload (pc := 618) F dL_law_618 0 rfl ?_
    refine V_iconst (pc := 620) (v := 1) F dL_law_620 rfl ?_
    refine V_iadd (pc := 621) F dL_law_621 ?_
    refine V_sld (pc := 622) F G.2.2.2.1 G.2.2.2.2 G.nb i1 dL_law_622 ?_
    refine V_aload_n (pc := 623) F dL_law_623 rfl 1 rfl ?_
    refine V_SW (w2 := ((wX7 cy a γ' ++ wX8 cy a' ρ) ++ [oc cy ho (vp_updL f 0 x.toInt64)])) (rest := []) (st2 := [.int 0]) (pc := 624) F G.1 G.2.1 G.2.2.1 (W_run l D cy 900 a ho f γ (xs (ii + 1).toNatClampNeg) (x, γ') h7) (vx_cwSW 3 F.ts gLS_run rfl rfl rfl hdL_run ⟨Nat.le_of_ble_eq_true rfl, Nat.le_of_ble_eq_true rfl⟩) rfl dL_law_624 (Fit2.both (Fit.left Fit.whole) Fit.whole) fstX7 rfl (Nat.le_of_ble_eq_true rfl) hcl hsl rfl rfl rfl ?_
    refine V_istore (L2 := [(5, .int 0), (4, .int ii), (3, .ref ho), (2, .ref (a' 0)), (1, .ref (a 0)), (0, .ref b)]) (pc := 627) F dL_law_627 (by decide) rfl ?_
    refine V_aload_n (pc := 629) F dL_law_629 rfl 3 rfl ?_
    refine V_aload_n (pc := 630) F dL_law_630 rfl 5 rfl ?_
    refine V_iload (pc := 631) F dL_law_631 1 rfl ?_
    refine V_iconst (pc := 633) (v := 1) F dL_law_633 rfl ?_
    refine V_iadd (pc := 634) F dL_law_634 ?_
    refine V_sld (pc := 635) F G.2.2.2.1 G.2.2.2.2 G.nb i1 dL_law_635 ?_
    refine V_V (w2 := ((wX7 cy a γ' ++ wX8 cy a' ρ') ++ [oc cy ho (vp_updL f 0 x.toInt64)])) (rest := []) (st2 := [.int x]) (pc := 636) F 8 (M_X8_run l D cy 900 a' ρ (xs (ii + 1).toNatClampNeg) (x, ρ') h8) (cwV 1 F.ts gL8_run rfl rfl rfl hd_X8_run ⟨Nat.le_of_ble_eq_true rfl, Nat.le_of_ble_eq_true rfl⟩) rfl dL_law_636 (Fit.left (Fit.right Fit.whole)) fstX8 rfl rfl (Nat.le_of_ble_eq_true rfl) hcl hsl rfl rfl rfl ?_
    refine V_istore (L2 := [(6, .int x), (5, .int 0), (4, .int ii), (3, .ref ho), (2, .ref (a' 0)), (1, .ref (a 0)), (0, .ref b)]) (pc := 639) F dL_law_639 (by decide) rfl ?_
    refine V_aload_n (pc := 641) F dL_law_641 rfl 4 rfl ?_
    refine V_V (w2 := ((wX7 cy a γ' ++ wX8 cy a' ρ') ++ [oc cy ho (vp_updL f 0 x.toInt64)])) (rest := []) (st2 := [.int ρ'.1]) (pc := 642) F 8 (M_X8_thrown l D cy 900 a' ρ' ρ'.1 rfl) (cwV 0 F.ts gL8_thrown rfl rfl rfl hd_X8_thrown ⟨Nat.le_of_ble_eq_true rfl, Nat.le_of_ble_eq_true rfl⟩) rfl dL_law_642 (Fit.left (Fit.right Fit.whole)) rfl rfl rfl (Nat.le_of_ble_eq_true rfl) hcl hsl rfl rfl rfl ?_
    refine V_iload (pc := 645) F dL_law_645 1 rfl ?_
    refine V_icmp_eq (pc := 647) (tgt := 652) F dL_law_647 (by decide) (fun _ => ?_) (fun h => absurd hk h)
    refine V_iload (pc := 652) F dL_law_652 1 rfl ?_
    refine V_if_ne (pc := 654) (tgt := 669) F dL_law_654 (by decide) (fun h => absurd rfl h) (fun _ => ?_)
    refine V_aload_n (pc := 657) F dL_law_657 rfl 3 rfl ?_
    refine V_iconst (pc := 658) (v := 0) F dL_law_658 rfl ?_
    refine V_lald (pc := 659) F ((wX7 cy a γ' ++ wX8 cy a' ρ').length + 0) (at_right (k := 0) rfl) (by unfold vp_in; decide) dL_law_659 ?_
    refine V_iload (pc := 660) F dL_law_660 0 rfl ?_
    refine V_i2l (pc := 662) F dL_law_662 ?_
    refine V_lcmp (pc := 663) F dL_law_663 ?_
    refine V_if_eq (pc := 664) (tgt := 669) F dL_law_664 (by decide) (fun _ => ?_) (fun h => absurd (by rw [vp_upd0]; exact lgc_self _) h)
    refine V_goto (pc := 669) (tgt := 1526) F dL_law_669 (by decide) ?_
    refine V.sub (L2 := [(4, .int ii), (3, .ref ho), (2, .ref (a' 0)), (1, .ref (a 0)), (0, .ref b)]) [2, 3, 4, 5, 6] rfl ?_
    exact K γ' ρ' (vp_updL f 0 x.toInt64) S2
  · rcases j with _ | j
    · replace hE : E = IAE := (Option.some.inj hE).symm
      replace hk : ρ'.1 = 1 := hk
      refine V_aload_n (pc := 616) F dL_law_616 rfl 3 rfl ?_
      refine V_aload_n (pc := 617) F dL_law_617 rfl 4 rfl ?_
      refine V_iload (pc := 618) F dL_law_618 0 rfl ?_
      refine V_iconst (pc := 620) (v := 1) F dL_law_620 rfl ?_
      refine V_iadd (pc := 621) F dL_law_621 ?_
      refine V_sld (pc := 622) F G.2.2.2.1 G.2.2.2.2 G.nb i1 dL_law_622 ?_
      refine V_aload_n (pc := 623) F dL_law_623 rfl 1 rfl ?_
      refine V_SW (w2 := ((wX7 cy a γ' ++ wX8 cy a' ρ) ++ [oc cy ho f])) (rest := []) (st2 := [.int 1]) (pc := 624) F G.1 G.2.1 G.2.2.1 (WT_run_0 l hfl D cy 900 a ho f γ (xs (ii + 1).toNatClampNeg) E γ' h7 hE) (vx_cwSW 3 F.ts gLS_run rfl rfl rfl hdL_run ⟨Nat.le_of_ble_eq_true rfl, Nat.le_of_ble_eq_true rfl⟩) rfl dL_law_624 (Fit2.both (Fit.left Fit.whole) Fit.whole) fstX7 rfl (Nat.le_of_ble_eq_true rfl) hcl hsl rfl rfl rfl ?_
      refine V_istore (L2 := [(5, .int 1), (4, .int ii), (3, .ref ho), (2, .ref (a' 0)), (1, .ref (a 0)), (0, .ref b)]) (pc := 627) F dL_law_627 (by decide) rfl ?_
      refine V_aload_n (pc := 629) F dL_law_629 rfl 3 rfl ?_
      refine V_aload_n (pc := 630) F dL_law_630 rfl 5 rfl ?_
      refine V_iload (pc := 631) F dL_law_631 1 rfl ?_
      refine V_iconst (pc := 633) (v := 1) F dL_law_633 rfl ?_
      refine V_iadd (pc := 634) F dL_law_634 ?_
      refine V_sld (pc := 635) F G.2.2.2.1 G.2.2.2.2 G.nb i1 dL_law_635 ?_
      refine V_V (w2 := ((wX7 cy a γ' ++ wX8 cy a' ρ') ++ [oc cy ho f])) (rest := []) (st2 := [.int x]) (pc := 636) F 8 (M_X8_run l D cy 900 a' ρ (xs (ii + 1).toNatClampNeg) (x, ρ') h8) (cwV 1 F.ts gL8_run rfl rfl rfl hd_X8_run ⟨Nat.le_of_ble_eq_true rfl, Nat.le_of_ble_eq_true rfl⟩) rfl dL_law_636 (Fit.left (Fit.right Fit.whole)) fstX8 rfl rfl (Nat.le_of_ble_eq_true rfl) hcl hsl rfl rfl rfl ?_
      refine V_istore (L2 := [(6, .int x), (5, .int 1), (4, .int ii), (3, .ref ho), (2, .ref (a' 0)), (1, .ref (a 0)), (0, .ref b)]) (pc := 639) F dL_law_639 (by decide) rfl ?_
      refine V_aload_n (pc := 641) F dL_law_641 rfl 4 rfl ?_
      refine V_V (w2 := ((wX7 cy a γ' ++ wX8 cy a' ρ') ++ [oc cy ho f])) (rest := []) (st2 := [.int ρ'.1]) (pc := 642) F 8 (M_X8_thrown l D cy 900 a' ρ' ρ'.1 rfl) (cwV 0 F.ts gL8_thrown rfl rfl rfl hd_X8_thrown ⟨Nat.le_of_ble_eq_true rfl, Nat.le_of_ble_eq_true rfl⟩) rfl dL_law_642 (Fit.left (Fit.right Fit.whole)) rfl rfl rfl (Nat.le_of_ble_eq_true rfl) hcl hsl rfl rfl rfl ?_
      refine V_iload (pc := 645) F dL_law_645 1 rfl ?_
      refine V_icmp_eq (pc := 647) (tgt := 652) F dL_law_647 (by decide) (fun _ => ?_) (fun h => absurd hk h)
      refine V_iload (pc := 652) F dL_law_652 1 rfl ?_
      refine V_if_ne (pc := 654) (tgt := 669) F dL_law_654 (by decide) (fun _ => ?_) (fun h => absurd h (by decide))
      refine V_goto (pc := 669) (tgt := 1526) F dL_law_669 (by decide) ?_
      refine V.sub (L2 := [(4, .int ii), (3, .ref ho), (2, .ref (a' 0)), (1, .ref (a 0)), (0, .ref b)]) [2, 3, 4, 5, 6] rfl ?_
      exact K γ' ρ' f S2
    · exact absurd hE (by simp)
set_option maxHeartbeats 8000000 in
theorem law_start (hfl : l.stackTraces = false) (F : Fx p s m #[.ref b] meth c cL_law 9 RL nme lw_tbl ret D cy (aL s)) (G : FxL s b n xs) (hcl : cells + 1 ≤ room_1.cells) (hsl : slots + 6 ≤ room_1.slots) (S : SR γ ρ) (i1 : vp_in (ii + 1) n) (i2 : vp_in (ii + 2) n) (i3 : vp_in (ii + 3) n) (K : KL p l e s m below meth c D cy b a a' ho cells slots ii) : V p l e room_1 s m #[.ref b] below meth c 9 D (aL s) cells slots (lw_Z below #[.ref b] s) ((wX7 cy a γ ++ wX8 cy a' ρ) ++ [oc cy ho f]) [(4, .int ii), (3, .ref ho), (2, .ref (a' 0)), (1, .ref (a 0)), (0, .ref b)] [] 672 := by
  have hc : CSame [IOB] (fX7_start 900 γ (xs (ii + 1).toNatClampNeg)) (fX8_start 900 ρ (xs (ii + 1).toNatClampNeg)) := start_call (m := γ.1) (h := γ.2.1) (tx := γ.2.2.1) (pf := γ.2.2.2) (t := ρ.1) (z := ρ.2.1) (S' := ρ.2.2.1) (kk := ρ.2.2.2.1) (u := ρ.2.2.2.2) S (show 900 ≤ 900 from Nat.le_refl _) (xs (ii + 1).toNatClampNeg)
  obtain ⟨x, ρ', h8, ⟨hk, γ', h7, S2⟩ | ⟨j, E, γ', hE, hk, h7, S2⟩⟩ := hc
  · refine V_aload_n (pc := 672) F dL_law_672 rfl 3 rfl ?_
    refine V_aload_n (pc := 673) F dL_law_673 rfl 4 rfl ?_
    refine V_iload (pc := 674) F dL_law_674 0 rfl ?_
    refine V_iconst (pc := 676) (v := 1) F dL_law_676 rfl ?_
    refine V_iadd (pc := 677) F dL_law_677 ?_
    refine V_sld (pc := 678) F G.2.2.2.1 G.2.2.2.2 G.nb i1 dL_law_678 ?_
    refine V_aload_n (pc := 679) F dL_law_679 rfl 1 rfl ?_
    refine V_SW (w2 := ((wX7 cy a γ' ++ wX8 cy a' ρ) ++ [oc cy ho (vp_updL f 0 x.toInt64)])) (rest := []) (st2 := [.int 0]) (pc := 680) F G.1 G.2.1 G.2.2.1 (W_start l D cy 900 a ho f γ (xs (ii + 1).toNatClampNeg) (x, γ') h7) (vx_cwSW 3 F.ts gLS_start rfl rfl rfl hdL_start ⟨Nat.le_of_ble_eq_true rfl, Nat.le_of_ble_eq_true rfl⟩) rfl dL_law_680 (Fit2.both (Fit.left Fit.whole) Fit.whole) fstX7 rfl (Nat.le_of_ble_eq_true rfl) hcl hsl rfl rfl rfl ?_
    refine V_istore (L2 := [(5, .int 0), (4, .int ii), (3, .ref ho), (2, .ref (a' 0)), (1, .ref (a 0)), (0, .ref b)]) (pc := 683) F dL_law_683 (by decide) rfl ?_
    refine V_aload_n (pc := 685) F dL_law_685 rfl 3 rfl ?_
    refine V_aload_n (pc := 686) F dL_law_686 rfl 5 rfl ?_
    refine V_iload (pc := 687) F dL_law_687 1 rfl ?_
    refine V_iconst (pc := 689) (v := 1) F dL_law_689 rfl ?_
    refine V_iadd (pc := 690) F dL_law_690 ?_
    refine V_sld (pc := 691) F G.2.2.2.1 G.2.2.2.2 G.nb i1 dL_law_691 ?_
    refine V_V (w2 := ((wX7 cy a γ' ++ wX8 cy a' ρ') ++ [oc cy ho (vp_updL f 0 x.toInt64)])) (rest := []) (st2 := [.int x]) (pc := 692) F 8 (M_X8_start l D cy 900 a' ρ (xs (ii + 1).toNatClampNeg) (x, ρ') h8) (cwV 1 F.ts gL8_start rfl rfl rfl hd_X8_start ⟨Nat.le_of_ble_eq_true rfl, Nat.le_of_ble_eq_true rfl⟩) rfl dL_law_692 (Fit.left (Fit.right Fit.whole)) fstX8 rfl rfl (Nat.le_of_ble_eq_true rfl) hcl hsl rfl rfl rfl ?_
    refine V_istore (L2 := [(6, .int x), (5, .int 0), (4, .int ii), (3, .ref ho), (2, .ref (a' 0)), (1, .ref (a 0)), (0, .ref b)]) (pc := 695) F dL_law_695 (by decide) rfl ?_
    refine V_aload_n (pc := 697) F dL_law_697 rfl 4 rfl ?_
    refine V_V (w2 := ((wX7 cy a γ' ++ wX8 cy a' ρ') ++ [oc cy ho (vp_updL f 0 x.toInt64)])) (rest := []) (st2 := [.int ρ'.1]) (pc := 698) F 8 (M_X8_thrown l D cy 900 a' ρ' ρ'.1 rfl) (cwV 0 F.ts gL8_thrown rfl rfl rfl hd_X8_thrown ⟨Nat.le_of_ble_eq_true rfl, Nat.le_of_ble_eq_true rfl⟩) rfl dL_law_698 (Fit.left (Fit.right Fit.whole)) rfl rfl rfl (Nat.le_of_ble_eq_true rfl) hcl hsl rfl rfl rfl ?_
    refine V_iload (pc := 701) F dL_law_701 1 rfl ?_
    refine V_icmp_eq (pc := 703) (tgt := 708) F dL_law_703 (by decide) (fun _ => ?_) (fun h => absurd hk h)
    refine V_iload (pc := 708) F dL_law_708 1 rfl ?_
    refine V_if_ne (pc := 710) (tgt := 725) F dL_law_710 (by decide) (fun h => absurd rfl h) (fun _ => ?_)
    refine V_aload_n (pc := 713) F dL_law_713 rfl 3 rfl ?_
    refine V_iconst (pc := 714) (v := 0) F dL_law_714 rfl ?_
    refine V_lald (pc := 715) F ((wX7 cy a γ' ++ wX8 cy a' ρ').length + 0) (at_right (k := 0) rfl) (by unfold vp_in; decide) dL_law_715 ?_
    refine V_iload (pc := 716) F dL_law_716 0 rfl ?_
    refine V_i2l (pc := 718) F dL_law_718 ?_
    refine V_lcmp (pc := 719) F dL_law_719 ?_
    refine V_if_eq (pc := 720) (tgt := 725) F dL_law_720 (by decide) (fun _ => ?_) (fun h => absurd (by rw [vp_upd0]; exact lgc_self _) h)
    refine V_goto (pc := 725) (tgt := 1526) F dL_law_725 (by decide) ?_
    refine V.sub (L2 := [(4, .int ii), (3, .ref ho), (2, .ref (a' 0)), (1, .ref (a 0)), (0, .ref b)]) [2, 3, 4, 5, 6] rfl ?_
    exact K γ' ρ' (vp_updL f 0 x.toInt64) S2
  · rcases j with _ | j
    · replace hE : E = IOB := (Option.some.inj hE).symm
      replace hk : ρ'.1 = 1 := hk
      refine V_aload_n (pc := 672) F dL_law_672 rfl 3 rfl ?_
      refine V_aload_n (pc := 673) F dL_law_673 rfl 4 rfl ?_
      refine V_iload (pc := 674) F dL_law_674 0 rfl ?_
      refine V_iconst (pc := 676) (v := 1) F dL_law_676 rfl ?_
      refine V_iadd (pc := 677) F dL_law_677 ?_
      refine V_sld (pc := 678) F G.2.2.2.1 G.2.2.2.2 G.nb i1 dL_law_678 ?_
      refine V_aload_n (pc := 679) F dL_law_679 rfl 1 rfl ?_
      refine V_SW (w2 := ((wX7 cy a γ' ++ wX8 cy a' ρ) ++ [oc cy ho f])) (rest := []) (st2 := [.int 1]) (pc := 680) F G.1 G.2.1 G.2.2.1 (WT_start_0 l hfl D cy 900 a ho f γ (xs (ii + 1).toNatClampNeg) E γ' h7 hE) (vx_cwSW 3 F.ts gLS_start rfl rfl rfl hdL_start ⟨Nat.le_of_ble_eq_true rfl, Nat.le_of_ble_eq_true rfl⟩) rfl dL_law_680 (Fit2.both (Fit.left Fit.whole) Fit.whole) fstX7 rfl (Nat.le_of_ble_eq_true rfl) hcl hsl rfl rfl rfl ?_
      refine V_istore (L2 := [(5, .int 1), (4, .int ii), (3, .ref ho), (2, .ref (a' 0)), (1, .ref (a 0)), (0, .ref b)]) (pc := 683) F dL_law_683 (by decide) rfl ?_
      refine V_aload_n (pc := 685) F dL_law_685 rfl 3 rfl ?_
      refine V_aload_n (pc := 686) F dL_law_686 rfl 5 rfl ?_
      refine V_iload (pc := 687) F dL_law_687 1 rfl ?_
      refine V_iconst (pc := 689) (v := 1) F dL_law_689 rfl ?_
      refine V_iadd (pc := 690) F dL_law_690 ?_
      refine V_sld (pc := 691) F G.2.2.2.1 G.2.2.2.2 G.nb i1 dL_law_691 ?_
      refine V_V (w2 := ((wX7 cy a γ' ++ wX8 cy a' ρ') ++ [oc cy ho f])) (rest := []) (st2 := [.int x]) (pc := 692) F 8 (M_X8_start l D cy 900 a' ρ (xs (ii + 1).toNatClampNeg) (x, ρ') h8) (cwV 1 F.ts gL8_start rfl rfl rfl hd_X8_start ⟨Nat.le_of_ble_eq_true rfl, Nat.le_of_ble_eq_true rfl⟩) rfl dL_law_692 (Fit.left (Fit.right Fit.whole)) fstX8 rfl rfl (Nat.le_of_ble_eq_true rfl) hcl hsl rfl rfl rfl ?_
      refine V_istore (L2 := [(6, .int x), (5, .int 1), (4, .int ii), (3, .ref ho), (2, .ref (a' 0)), (1, .ref (a 0)), (0, .ref b)]) (pc := 695) F dL_law_695 (by decide) rfl ?_
      refine V_aload_n (pc := 697) F dL_law_697 rfl 4 rfl ?_
      refine V_V (w2 := ((wX7 cy a γ' ++ wX8 cy a' ρ') ++ [oc cy ho f])) (rest := []) (st2 := [.int ρ'.1]) (pc := 698) F 8 (M_X8_thrown l D cy 900 a' ρ' ρ'.1 rfl) (cwV 0 F.ts gL8_thrown rfl rfl rfl hd_X8_thrown ⟨Nat.le_of_ble_eq_true rfl, Nat.le_of_ble_eq_true rfl⟩) rfl dL_law_698 (Fit.left (Fit.right Fit.whole)) rfl rfl rfl (Nat.le_of_ble_eq_true rfl) hcl hsl rfl rfl rfl ?_
      refine V_iload (pc := 701) F dL_law_701 1 rfl ?_
      refine V_icmp_eq (pc := 703) (tgt := 708) F dL_law_703 (by decide) (fun _ => ?_) (fun h => absurd hk h)
      refine V_iload (pc := 708) F dL_law_708 1 rfl ?_
      refine V_if_ne (pc := 710) (tgt := 725) F dL_law_710 (by decide) (fun _ => ?_) (fun h => absurd h (by decide))
      refine V_goto (pc := 725) (tgt := 1526) F dL_law_725 (by decide) ?_
      refine V.sub (L2 := [(4, .int ii), (3, .ref ho), (2, .ref (a' 0)), (1, .ref (a 0)), (0, .ref b)]) [2, 3, 4, 5, 6] rfl ?_
      exact K γ' ρ' f S2
    · exact absurd hE (by simp)
set_option maxHeartbeats 8000000 in
theorem law_append (hfl : l.stackTraces = false) (F : Fx p s m #[.ref b] meth c cL_law 9 RL nme lw_tbl ret D cy (aL s)) (G : FxL s b n xs) (hcl : cells + 1 ≤ room_1.cells) (hsl : slots + 6 ≤ room_1.slots) (S : SR γ ρ) (i1 : vp_in (ii + 1) n) (i2 : vp_in (ii + 2) n) (i3 : vp_in (ii + 3) n) (K : KL p l e s m below meth c D cy b a a' ho cells slots ii) : V p l e room_1 s m #[.ref b] below meth c 9 D (aL s) cells slots (lw_Z below #[.ref b] s) ((wX7 cy a γ ++ wX8 cy a' ρ) ++ [oc cy ho f]) [(4, .int ii), (3, .ref ho), (2, .ref (a' 0)), (1, .ref (a 0)), (0, .ref b)] [] 728 := by
  have hc : CSame [IAE, ISE] (fX7_append 900 γ (xs (ii + 1).toNatClampNeg)) (fX8_append 900 ρ (xs (ii + 1).toNatClampNeg)) := append_call (m := γ.1) (h := γ.2.1) (tx := γ.2.2.1) (pf := γ.2.2.2) (t := ρ.1) (z := ρ.2.1) (S' := ρ.2.2.1) (kk := ρ.2.2.2.1) (u := ρ.2.2.2.2) S 900 (xs (ii + 1).toNatClampNeg)
  obtain ⟨x, ρ', h8, ⟨hk, γ', h7, S2⟩ | ⟨j, E, γ', hE, hk, h7, S2⟩⟩ := hc
  · refine V_aload_n (pc := 728) F dL_law_728 rfl 3 rfl ?_
    refine V_aload_n (pc := 729) F dL_law_729 rfl 4 rfl ?_
    refine V_iload (pc := 730) F dL_law_730 0 rfl ?_
    refine V_iconst (pc := 732) (v := 1) F dL_law_732 rfl ?_
    refine V_iadd (pc := 733) F dL_law_733 ?_
    refine V_sld (pc := 734) F G.2.2.2.1 G.2.2.2.2 G.nb i1 dL_law_734 ?_
    refine V_aload_n (pc := 735) F dL_law_735 rfl 1 rfl ?_
    refine V_SW (w2 := ((wX7 cy a γ' ++ wX8 cy a' ρ) ++ [oc cy ho (vp_updL f 0 x.toInt64)])) (rest := []) (st2 := [.int 0]) (pc := 736) F G.1 G.2.1 G.2.2.1 (W_append l D cy 900 a ho f γ (xs (ii + 1).toNatClampNeg) (x, γ') h7) (vx_cwSW 3 F.ts gLS_append rfl rfl rfl hdL_append ⟨Nat.le_of_ble_eq_true rfl, Nat.le_of_ble_eq_true rfl⟩) rfl dL_law_736 (Fit2.both (Fit.left Fit.whole) Fit.whole) fstX7 rfl (Nat.le_of_ble_eq_true rfl) hcl hsl rfl rfl rfl ?_
    refine V_istore (L2 := [(5, .int 0), (4, .int ii), (3, .ref ho), (2, .ref (a' 0)), (1, .ref (a 0)), (0, .ref b)]) (pc := 739) F dL_law_739 (by decide) rfl ?_
    refine V_aload_n (pc := 741) F dL_law_741 rfl 3 rfl ?_
    refine V_aload_n (pc := 742) F dL_law_742 rfl 5 rfl ?_
    refine V_iload (pc := 743) F dL_law_743 1 rfl ?_
    refine V_iconst (pc := 745) (v := 1) F dL_law_745 rfl ?_
    refine V_iadd (pc := 746) F dL_law_746 ?_
    refine V_sld (pc := 747) F G.2.2.2.1 G.2.2.2.2 G.nb i1 dL_law_747 ?_
    refine V_V (w2 := ((wX7 cy a γ' ++ wX8 cy a' ρ') ++ [oc cy ho (vp_updL f 0 x.toInt64)])) (rest := []) (st2 := [.int x]) (pc := 748) F 8 (M_X8_append l D cy 900 a' ρ (xs (ii + 1).toNatClampNeg) (x, ρ') h8) (cwV 1 F.ts gL8_append rfl rfl rfl hd_X8_append ⟨Nat.le_of_ble_eq_true rfl, Nat.le_of_ble_eq_true rfl⟩) rfl dL_law_748 (Fit.left (Fit.right Fit.whole)) fstX8 rfl rfl (Nat.le_of_ble_eq_true rfl) hcl hsl rfl rfl rfl ?_
    refine V_istore (L2 := [(6, .int x), (5, .int 0), (4, .int ii), (3, .ref ho), (2, .ref (a' 0)), (1, .ref (a 0)), (0, .ref b)]) (pc := 751) F dL_law_751 (by decide) rfl ?_
    refine V_aload_n (pc := 753) F dL_law_753 rfl 4 rfl ?_
    refine V_V (w2 := ((wX7 cy a γ' ++ wX8 cy a' ρ') ++ [oc cy ho (vp_updL f 0 x.toInt64)])) (rest := []) (st2 := [.int ρ'.1]) (pc := 754) F 8 (M_X8_thrown l D cy 900 a' ρ' ρ'.1 rfl) (cwV 0 F.ts gL8_thrown rfl rfl rfl hd_X8_thrown ⟨Nat.le_of_ble_eq_true rfl, Nat.le_of_ble_eq_true rfl⟩) rfl dL_law_754 (Fit.left (Fit.right Fit.whole)) rfl rfl rfl (Nat.le_of_ble_eq_true rfl) hcl hsl rfl rfl rfl ?_
    refine V_iload (pc := 757) F dL_law_757 1 rfl ?_
    refine V_icmp_eq (pc := 759) (tgt := 764) F dL_law_759 (by decide) (fun _ => ?_) (fun h => absurd hk h)
    refine V_iload (pc := 764) F dL_law_764 1 rfl ?_
    refine V_if_ne (pc := 766) (tgt := 781) F dL_law_766 (by decide) (fun h => absurd rfl h) (fun _ => ?_)
    refine V_aload_n (pc := 769) F dL_law_769 rfl 3 rfl ?_
    refine V_iconst (pc := 770) (v := 0) F dL_law_770 rfl ?_
    refine V_lald (pc := 771) F ((wX7 cy a γ' ++ wX8 cy a' ρ').length + 0) (at_right (k := 0) rfl) (by unfold vp_in; decide) dL_law_771 ?_
    refine V_iload (pc := 772) F dL_law_772 0 rfl ?_
    refine V_i2l (pc := 774) F dL_law_774 ?_
    refine V_lcmp (pc := 775) F dL_law_775 ?_
    refine V_if_eq (pc := 776) (tgt := 781) F dL_law_776 (by decide) (fun _ => ?_) (fun h => absurd (by rw [vp_upd0]; exact lgc_self _) h)
    refine V_goto (pc := 781) (tgt := 1526) F dL_law_781 (by decide) ?_
    refine V.sub (L2 := [(4, .int ii), (3, .ref ho), (2, .ref (a' 0)), (1, .ref (a 0)), (0, .ref b)]) [2, 3, 4, 5, 6] rfl ?_
    exact K γ' ρ' (vp_updL f 0 x.toInt64) S2
  · rcases j with _ | _ | j
    · replace hE : E = IAE := (Option.some.inj hE).symm
      replace hk : ρ'.1 = 1 := hk
      refine V_aload_n (pc := 728) F dL_law_728 rfl 3 rfl ?_
      refine V_aload_n (pc := 729) F dL_law_729 rfl 4 rfl ?_
      refine V_iload (pc := 730) F dL_law_730 0 rfl ?_
      refine V_iconst (pc := 732) (v := 1) F dL_law_732 rfl ?_
      refine V_iadd (pc := 733) F dL_law_733 ?_
      refine V_sld (pc := 734) F G.2.2.2.1 G.2.2.2.2 G.nb i1 dL_law_734 ?_
      refine V_aload_n (pc := 735) F dL_law_735 rfl 1 rfl ?_
      refine V_SW (w2 := ((wX7 cy a γ' ++ wX8 cy a' ρ) ++ [oc cy ho f])) (rest := []) (st2 := [.int 1]) (pc := 736) F G.1 G.2.1 G.2.2.1 (WT_append_0 l hfl D cy 900 a ho f γ (xs (ii + 1).toNatClampNeg) E γ' h7 hE) (vx_cwSW 3 F.ts gLS_append rfl rfl rfl hdL_append ⟨Nat.le_of_ble_eq_true rfl, Nat.le_of_ble_eq_true rfl⟩) rfl dL_law_736 (Fit2.both (Fit.left Fit.whole) Fit.whole) fstX7 rfl (Nat.le_of_ble_eq_true rfl) hcl hsl rfl rfl rfl ?_
      refine V_istore (L2 := [(5, .int 1), (4, .int ii), (3, .ref ho), (2, .ref (a' 0)), (1, .ref (a 0)), (0, .ref b)]) (pc := 739) F dL_law_739 (by decide) rfl ?_
      refine V_aload_n (pc := 741) F dL_law_741 rfl 3 rfl ?_
      refine V_aload_n (pc := 742) F dL_law_742 rfl 5 rfl ?_
      refine V_iload (pc := 743) F dL_law_743 1 rfl ?_
      refine V_iconst (pc := 745) (v := 1) F dL_law_745 rfl ?_
      refine V_iadd (pc := 746) F dL_law_746 ?_
      refine V_sld (pc := 747) F G.2.2.2.1 G.2.2.2.2 G.nb i1 dL_law_747 ?_
      refine V_V (w2 := ((wX7 cy a γ' ++ wX8 cy a' ρ') ++ [oc cy ho f])) (rest := []) (st2 := [.int x]) (pc := 748) F 8 (M_X8_append l D cy 900 a' ρ (xs (ii + 1).toNatClampNeg) (x, ρ') h8) (cwV 1 F.ts gL8_append rfl rfl rfl hd_X8_append ⟨Nat.le_of_ble_eq_true rfl, Nat.le_of_ble_eq_true rfl⟩) rfl dL_law_748 (Fit.left (Fit.right Fit.whole)) fstX8 rfl rfl (Nat.le_of_ble_eq_true rfl) hcl hsl rfl rfl rfl ?_
      refine V_istore (L2 := [(6, .int x), (5, .int 1), (4, .int ii), (3, .ref ho), (2, .ref (a' 0)), (1, .ref (a 0)), (0, .ref b)]) (pc := 751) F dL_law_751 (by decide) rfl ?_
      refine V_aload_n (pc := 753) F dL_law_753 rfl 4 rfl ?_
      refine V_V (w2 := ((wX7 cy a γ' ++ wX8 cy a' ρ') ++ [oc cy ho f])) (rest := []) (st2 := [.int ρ'.1]) (pc := 754) F 8 (M_X8_thrown l D cy 900 a' ρ' ρ'.1 rfl) (cwV 0 F.ts gL8_thrown rfl rfl rfl hd_X8_thrown ⟨Nat.le_of_ble_eq_true rfl, Nat.le_of_ble_eq_true rfl⟩) rfl dL_law_754 (Fit.left (Fit.right Fit.whole)) rfl rfl rfl (Nat.le_of_ble_eq_true rfl) hcl hsl rfl rfl rfl ?_
      refine V_iload (pc := 757) F dL_law_757 1 rfl ?_
      refine V_icmp_eq (pc := 759) (tgt := 764) F dL_law_759 (by decide) (fun _ => ?_) (fun h => absurd hk h)
      refine V_iload (pc := 764) F dL_law_764 1 rfl ?_
      refine V_if_ne (pc := 766) (tgt := 781) F dL_law_766 (by decide) (fun _ => ?_) (fun h => absurd h (by decide))
      refine V_goto (pc := 781) (tgt := 1526) F dL_law_781 (by decide) ?_
      refine V.sub (L2 := [(4, .int ii), (3, .ref ho), (2, .ref (a' 0)), (1, .ref (a 0)), (0, .ref b)]) [2, 3, 4, 5, 6] rfl ?_
      exact K γ' ρ' f S2
    · replace hE : E = ISE := (Option.some.inj hE).symm
      replace hk : ρ'.1 = 2 := hk
      refine V_aload_n (pc := 728) F dL_law_728 rfl 3 rfl ?_
      refine V_aload_n (pc := 729) F dL_law_729 rfl 4 rfl ?_
      refine V_iload (pc := 730) F dL_law_730 0 rfl ?_
      refine V_iconst (pc := 732) (v := 1) F dL_law_732 rfl ?_
      refine V_iadd (pc := 733) F dL_law_733 ?_
      refine V_sld (pc := 734) F G.2.2.2.1 G.2.2.2.2 G.nb i1 dL_law_734 ?_
      refine V_aload_n (pc := 735) F dL_law_735 rfl 1 rfl ?_
      refine V_SW (w2 := ((wX7 cy a γ' ++ wX8 cy a' ρ) ++ [oc cy ho f])) (rest := []) (st2 := [.int 2]) (pc := 736) F G.1 G.2.1 G.2.2.1 (WT_append_1 l hfl D cy 900 a ho f γ (xs (ii + 1).toNatClampNeg) E γ' h7 hE) (vx_cwSW 3 F.ts gLS_append rfl rfl rfl hdL_append ⟨Nat.le_of_ble_eq_true rfl, Nat.le_of_ble_eq_true rfl⟩) rfl dL_law_736 (Fit2.both (Fit.left Fit.whole) Fit.whole) fstX7 rfl (Nat.le_of_ble_eq_true rfl) hcl hsl rfl rfl rfl ?_
      refine V_istore (L2 := [(5, .int 2), (4, .int ii), (3, .ref ho), (2, .ref (a' 0)), (1, .ref (a 0)), (0, .ref b)]) (pc := 739) F dL_law_739 (by decide) rfl ?_
      refine V_aload_n (pc := 741) F dL_law_741 rfl 3 rfl ?_
      refine V_aload_n (pc := 742) F dL_law_742 rfl 5 rfl ?_
      refine V_iload (pc := 743) F dL_law_743 1 rfl ?_
      refine V_iconst (pc := 745) (v := 1) F dL_law_745 rfl ?_
      refine V_iadd (pc := 746) F dL_law_746 ?_
      refine V_sld (pc := 747) F G.2.2.2.1 G.2.2.2.2 G.nb i1 dL_law_747 ?_
      refine V_V (w2 := ((wX7 cy a γ' ++ wX8 cy a' ρ') ++ [oc cy ho f])) (rest := []) (st2 := [.int x]) (pc := 748) F 8 (M_X8_append l D cy 900 a' ρ (xs (ii + 1).toNatClampNeg) (x, ρ') h8) (cwV 1 F.ts gL8_append rfl rfl rfl hd_X8_append ⟨Nat.le_of_ble_eq_true rfl, Nat.le_of_ble_eq_true rfl⟩) rfl dL_law_748 (Fit.left (Fit.right Fit.whole)) fstX8 rfl rfl (Nat.le_of_ble_eq_true rfl) hcl hsl rfl rfl rfl ?_
      refine V_istore (L2 := [(6, .int x), (5, .int 2), (4, .int ii), (3, .ref ho), (2, .ref (a' 0)), (1, .ref (a 0)), (0, .ref b)]) (pc := 751) F dL_law_751 (by decide) rfl ?_
      refine V_aload_n (pc := 753) F dL_law_753 rfl 4 rfl ?_
      refine V_V (w2 := ((wX7 cy a γ' ++ wX8 cy a' ρ') ++ [oc cy ho f])) (rest := []) (st2 := [.int ρ'.1]) (pc := 754) F 8 (M_X8_thrown l D cy 900 a' ρ' ρ'.1 rfl) (cwV 0 F.ts gL8_thrown rfl rfl rfl hd_X8_thrown ⟨Nat.le_of_ble_eq_true rfl, Nat.le_of_ble_eq_true rfl⟩) rfl dL_law_754 (Fit.left (Fit.right Fit.whole)) rfl rfl rfl (Nat.le_of_ble_eq_true rfl) hcl hsl rfl rfl rfl ?_
      refine V_iload (pc := 757) F dL_law_757 1 rfl ?_
      refine V_icmp_eq (pc := 759) (tgt := 764) F dL_law_759 (by decide) (fun _ => ?_) (fun h => absurd hk h)
      refine V_iload (pc := 764) F dL_law_764 1 rfl ?_
      refine V_if_ne (pc := 766) (tgt := 781) F dL_law_766 (by decide) (fun _ => ?_) (fun h => absurd h (by decide))
      refine V_goto (pc := 781) (tgt := 1526) F dL_law_781 (by decide) ?_
      refine V.sub (L2 := [(4, .int ii), (3, .ref ho), (2, .ref (a' 0)), (1, .ref (a 0)), (0, .ref b)]) [2, 3, 4, 5, 6] rfl ?_
      exact K γ' ρ' f S2
    · exact absurd hE (by simp)
set_option maxHeartbeats 8000000 in
theorem law_clearBuffer (hfl : l.stackTraces = false) (F : Fx p s m #[.ref b] meth c cL_law 9 RL nme lw_tbl ret D cy (aL s)) (G : FxL s b n xs) (hcl : cells + 1 ≤ room_1.cells) (hsl : slots + 6 ≤ room_1.slots) (S : SR γ ρ) (i1 : vp_in (ii + 1) n) (i2 : vp_in (ii + 2) n) (i3 : vp_in (ii + 3) n) (K : KL p l e s m below meth c D cy b a a' ho cells slots ii) : V p l e room_1 s m #[.ref b] below meth c 9 D (aL s) cells slots (lw_Z below #[.ref b] s) ((wX7 cy a γ ++ wX8 cy a' ρ) ++ [oc cy ho f]) [(4, .int ii), (3, .ref ho), (2, .ref (a' 0)), (1, .ref (a 0)), (0, .ref b)] [] 784 := by
  obtain ⟨x, γ', ρ', h7, h8, S2⟩ : ∃ x γ' ρ', fX7_clearBuffer 900 γ = some (x, γ') ∧ fX8_clearBuffer 900 ρ = some (x, ρ') ∧ SR γ' ρ' := clearBuffer_call (m := γ.1) (h := γ.2.1) (tx := γ.2.2.1) (pf := γ.2.2.2) (t := ρ.1) (z := ρ.2.1) (S' := ρ.2.2.1) (kk := ρ.2.2.2.1) (u := ρ.2.2.2.2) S 900
  refine V_aload_n (pc := 784) F dL_law_784 rfl 3 rfl ?_
  refine V_V (w2 := ((wX7 cy a γ' ++ wX8 cy a' ρ) ++ [oc cy ho f])) (rest := []) (st2 := [.int x]) (pc := 785) F 7 (M_X7_clearBuffer l D cy 900 a γ (x, γ') h7) (cwV 0 F.ts gL7_clearBuffer rfl rfl rfl hd_X7_clearBuffer ⟨Nat.le_of_ble_eq_true rfl, Nat.le_of_ble_eq_true rfl⟩) rfl dL_law_785 (Fit.left (Fit.left Fit.whole)) fstX7 rfl rfl (Nat.le_of_ble_eq_true rfl) (Nat.le_of_succ_le hcl) (Nat.le_trans (Nat.le_add_right _ 6) hsl) rfl rfl rfl ?_
  refine V_aload_n (pc := 788) F dL_law_788 rfl 2 rfl ?_
  refine V_V (w2 := ((wX7 cy a γ' ++ wX8 cy a' ρ') ++ [oc cy ho f])) (rest := [.int x]) (st2 := [.int x, .int x]) (pc := 789) F 8 (M_X8_clearBuffer l D cy 900 a' ρ (x, ρ') h8) (cwV 0 F.ts gL8_clearBuffer rfl rfl rfl hd_X8_clearBuffer ⟨Nat.le_of_ble_eq_true rfl, Nat.le_of_ble_eq_true rfl⟩) rfl dL_law_789 (Fit.left (Fit.right Fit.whole)) fstX8 rfl rfl (Nat.le_of_ble_eq_true rfl) (Nat.le_of_succ_le hcl) (Nat.le_trans (Nat.le_add_right _ 6) hsl) rfl rfl rfl ?_
  refine V_icmp_eq (pc := 792) (tgt := 1526) F dL_law_792 (by decide) (fun _ => ?_) (fun h => absurd rfl h)
  refine V_widen (k := cells + 1) (n := slots + 6) (Nat.le_add_right _ 1) (Nat.le_add_right _ 6) ?_
  exact K γ' ρ' f S2
set_option maxHeartbeats 8000000 in
theorem law_firstError (hfl : l.stackTraces = false) (F : Fx p s m #[.ref b] meth c cL_law 9 RL nme lw_tbl ret D cy (aL s)) (G : FxL s b n xs) (hcl : cells + 1 ≤ room_1.cells) (hsl : slots + 6 ≤ room_1.slots) (S : SR γ ρ) (i1 : vp_in (ii + 1) n) (i2 : vp_in (ii + 2) n) (i3 : vp_in (ii + 3) n) (K : KL p l e s m below meth c D cy b a a' ho cells slots ii) : V p l e room_1 s m #[.ref b] below meth c 9 D (aL s) cells slots (lw_Z below #[.ref b] s) ((wX7 cy a γ ++ wX8 cy a' ρ) ++ [oc cy ho f]) [(4, .int ii), (3, .ref ho), (2, .ref (a' 0)), (1, .ref (a 0)), (0, .ref b)] [] 797 := by
  obtain ⟨x, γ', ρ', h7, h8, S2⟩ : ∃ x γ' ρ', fX7_firstError 900 γ = some (x, γ') ∧ fX8_firstError 900 ρ = some (x, ρ') ∧ SR γ' ρ' := firstError_call (m := γ.1) (h := γ.2.1) (tx := γ.2.2.1) (pf := γ.2.2.2) (t := ρ.1) (z := ρ.2.1) (S' := ρ.2.2.1) (kk := ρ.2.2.2.1) (u := ρ.2.2.2.2) S (show 900 ≤ 900 from Nat.le_refl _)
  refine V_aload_n (pc := 797) F dL_law_797 rfl 3 rfl ?_
  refine V_V (w2 := ((wX7 cy a γ' ++ wX8 cy a' ρ) ++ [oc cy ho f])) (rest := []) (st2 := [.int x]) (pc := 798) F 7 (M_X7_firstError l D cy 900 a γ (x, γ') h7) (cwV 0 F.ts gL7_firstError rfl rfl rfl hd_X7_firstError ⟨Nat.le_of_ble_eq_true rfl, Nat.le_of_ble_eq_true rfl⟩) rfl dL_law_798 (Fit.left (Fit.left Fit.whole)) fstX7 rfl rfl (Nat.le_of_ble_eq_true rfl) (Nat.le_of_succ_le hcl) (Nat.le_trans (Nat.le_add_right _ 6) hsl) rfl rfl rfl ?_
  refine V_aload_n (pc := 801) F dL_law_801 rfl 2 rfl ?_
  refine V_V (w2 := ((wX7 cy a γ' ++ wX8 cy a' ρ') ++ [oc cy ho f])) (rest := [.int x]) (st2 := [.int x, .int x]) (pc := 802) F 8 (M_X8_firstError l D cy 900 a' ρ (x, ρ') h8) (cwV 0 F.ts gL8_firstError rfl rfl rfl hd_X8_firstError ⟨Nat.le_of_ble_eq_true rfl, Nat.le_of_ble_eq_true rfl⟩) rfl dL_law_802 (Fit.left (Fit.right Fit.whole)) fstX8 rfl rfl (Nat.le_of_ble_eq_true rfl) (Nat.le_of_succ_le hcl) (Nat.le_trans (Nat.le_add_right _ 6) hsl) rfl rfl rfl ?_
  refine V_icmp_eq (pc := 805) (tgt := 1526) F dL_law_805 (by decide) (fun _ => ?_) (fun h => absurd rfl h)
  refine V_widen (k := cells + 1) (n := slots + 6) (Nat.le_add_right _ 1) (Nat.le_add_right _ 6) ?_
  exact K γ' ρ' f S2
set_option maxHeartbeats 8000000 in
theorem law_build (hfl : l.stackTraces = false) (F : Fx p s m #[.ref b] meth c cL_law 9 RL nme lw_tbl ret D cy (aL s)) (G : FxL s b n xs) (hcl : cells + 1 ≤ room_1.cells) (hsl : slots + 6 ≤ room_1.slots) (S : SR γ ρ) (i1 : vp_in (ii + 1) n) (i2 : vp_in (ii + 2) n) (i3 : vp_in (ii + 3) n) (K : KL p l e s m below meth c D cy b a a' ho cells slots ii) : V p l e room_1 s m #[.ref b] below meth c 9 D (aL s) cells slots (lw_Z below #[.ref b] s) ((wX7 cy a γ ++ wX8 cy a' ρ) ++ [oc cy ho f]) [(4, .int ii), (3, .ref ho), (2, .ref (a' 0)), (1, .ref (a 0)), (0, .ref b)] [] 810 := by
  have hc : CSame [IAE] (fX7_build 900 γ) (fX8_build 900 ρ) := build_call (m := γ.1) (h := γ.2.1) (tx := γ.2.2.1) (pf := γ.2.2.2) (t := ρ.1) (z := ρ.2.1) (S' := ρ.2.2.1) (kk := ρ.2.2.2.1) (u := ρ.2.2.2.2) S (show 900 ≤ 900 from Nat.le_refl _)
  obtain ⟨x, ρ', h8, ⟨hk, γ', h7, S2⟩ | ⟨j, E, γ', hE, hk, h7, S2⟩⟩ := hc
  · refine V_aload_n (pc := 810) F dL_law_810 rfl 3 rfl ?_
    refine V_aload_n (pc := 811) F dL_law_811 rfl 1 rfl ?_
    refine V_SW (w2 := ((wX7 cy a γ' ++ wX8 cy a' ρ) ++ [oc cy ho (vp_updL f 0 x.toInt64)])) (rest := []) (st2 := [.int 0]) (pc := 812) F G.1 G.2.1 G.2.2.1 (W_build l D cy 900 a ho f γ  (x, γ') h7) (vx_cwSW 2 F.ts gLS_build rfl rfl rfl hdL_build ⟨Nat.le_of_ble_eq_true rfl, Nat.le_of_ble_eq_true rfl⟩) rfl dL_law_812 (Fit2.both (Fit.left Fit.whole) Fit.whole) fstX7 rfl (Nat.le_of_ble_eq_true rfl) hcl hsl rfl rfl rfl ?_
    refine V_istore (L2 := [(5, .int 0), (4, .int ii), (3, .ref ho), (2, .ref (a' 0)), (1, .ref (a 0)), (0, .ref b)]) (pc := 815) F dL_law_815 (by decide) rfl ?_
    refine V_aload_n (pc := 817) F dL_law_817 rfl 3 rfl ?_
    refine V_V (w2 := ((wX7 cy a γ' ++ wX8 cy a' ρ') ++ [oc cy ho (vp_updL f 0 x.toInt64)])) (rest := []) (st2 := [.int x]) (pc := 818) F 8 (M_X8_build l D cy 900 a' ρ (x, ρ') h8) (cwV 0 F.ts gL8_build rfl rfl rfl hd_X8_build ⟨Nat.le_of_ble_eq_true rfl, Nat.le_of_ble_eq_true rfl⟩) rfl dL_law_818 (Fit.left (Fit.right Fit.whole)) fstX8 rfl rfl (Nat.le_of_ble_eq_true rfl) hcl hsl rfl rfl rfl ?_
    refine V_istore (L2 := [(6, .int x), (5, .int 0), (4, .int ii), (3, .ref ho), (2, .ref (a' 0)), (1, .ref (a 0)), (0, .ref b)]) (pc := 821) F dL_law_821 (by decide) rfl ?_
    refine V_aload_n (pc := 823) F dL_law_823 rfl 4 rfl ?_
    refine V_V (w2 := ((wX7 cy a γ' ++ wX8 cy a' ρ') ++ [oc cy ho (vp_updL f 0 x.toInt64)])) (rest := []) (st2 := [.int ρ'.1]) (pc := 824) F 8 (M_X8_thrown l D cy 900 a' ρ' ρ'.1 rfl) (cwV 0 F.ts gL8_thrown rfl rfl rfl hd_X8_thrown ⟨Nat.le_of_ble_eq_true rfl, Nat.le_of_ble_eq_true rfl⟩) rfl dL_law_824 (Fit.left (Fit.right Fit.whole)) rfl rfl rfl (Nat.le_of_ble_eq_true rfl) hcl hsl rfl rfl rfl ?_
    refine V_iload (pc := 827) F dL_law_827 1 rfl ?_
    refine V_icmp_eq (pc := 829) (tgt := 834) F dL_law_829 (by decide) (fun _ => ?_) (fun h => absurd hk h)
    refine V_iload (pc := 834) F dL_law_834 1 rfl ?_
    refine V_if_ne (pc := 836) (tgt := 851) F dL_law_836 (by decide) (fun h => absurd rfl h) (fun _ => ?_)
    refine V_aload_n (pc := 839) F dL_law_839 rfl 3 rfl ?_
    refine V_iconst (pc := 840) (v := 0) F dL_law_840 rfl ?_
    refine V_lald (pc := 841) F ((wX7 cy a γ' ++ wX8 cy a' ρ').length + 0) (at_right (k := 0) rfl) (by unfold vp_in; decide) dL_law_841 ?_
    refine V_iload (pc := 842) F dL_law_842 0 rfl ?_
    refine V_i2l (pc := 844) F dL_law_844 ?_
    refine V_lcmp (pc := 845) F dL_law_845 ?_
    refine V_if_eq (pc := 846) (tgt := 851) F dL_law_846 (by decide) (fun _ => ?_) (fun h => absurd (by rw [vp_upd0]; exact lgc_self _) h)
    refine V_goto (pc := 851) (tgt := 1526) F dL_law_851 (by decide) ?_
    refine V.sub (L2 := [(4, .int ii), (3, .ref ho), (2, .ref (a' 0)), (1, .ref (a 0)), (0, .ref b)]) [2, 3, 4, 5, 6] rfl ?_
    exact K γ' ρ' (vp_updL f 0 x.toInt64) S2
  · rcases j with _ | j
    · replace hE : E = IAE := (Option.some.inj hE).symm
      replace hk : ρ'.1 = 1 := hk
      refine V_aload_n (pc := 810) F dL_law_810 rfl 3 rfl ?_
      refine V_aload_n (pc := 811) F dL_law_811 rfl 1 rfl ?_
      refine V_SW (w2 := ((wX7 cy a γ' ++ wX8 cy a' ρ) ++ [oc cy ho f])) (rest := []) (st2 := [.int 1]) (pc := 812) F G.1 G.2.1 G.2.2.1 (WT_build_0 l hfl D cy 900 a ho f γ  E γ' h7 hE) (vx_cwSW 2 F.ts gLS_build rfl rfl rfl hdL_build ⟨Nat.le_of_ble_eq_true rfl, Nat.le_of_ble_eq_true rfl⟩) rfl dL_law_812 (Fit2.both (Fit.left Fit.whole) Fit.whole) fstX7 rfl (Nat.le_of_ble_eq_true rfl) hcl hsl rfl rfl rfl ?_
      refine V_istore (L2 := [(5, .int 1), (4, .int ii), (3, .ref ho), (2, .ref (a' 0)), (1, .ref (a 0)), (0, .ref b)]) (pc := 815) F dL_law_815 (by decide) rfl ?_
      refine V_aload_n (pc := 817) F dL_law_817 rfl 3 rfl ?_
      refine V_V (w2 := ((wX7 cy a γ' ++ wX8 cy a' ρ') ++ [oc cy ho f])) (rest := []) (st2 := [.int x]) (pc := 818) F 8 (M_X8_build l D cy 900 a' ρ (x, ρ') h8) (cwV 0 F.ts gL8_build rfl rfl rfl hd_X8_build ⟨Nat.le_of_ble_eq_true rfl, Nat.le_of_ble_eq_true rfl⟩) rfl dL_law_818 (Fit.left (Fit.right Fit.whole)) fstX8 rfl rfl (Nat.le_of_ble_eq_true rfl) hcl hsl rfl rfl rfl ?_
      refine V_istore (L2 := [(6, .int x), (5, .int 1), (4, .int ii), (3, .ref ho), (2, .ref (a' 0)), (1, .ref (a 0)), (0, .ref b)]) (pc := 821) F dL_law_821 (by decide) rfl ?_
      refine V_aload_n (pc := 823) F dL_law_823 rfl 4 rfl ?_
      refine V_V (w2 := ((wX7 cy a γ' ++ wX8 cy a' ρ') ++ [oc cy ho f])) (rest := []) (st2 := [.int ρ'.1]) (pc := 824) F 8 (M_X8_thrown l D cy 900 a' ρ' ρ'.1 rfl) (cwV 0 F.ts gL8_thrown rfl rfl rfl hd_X8_thrown ⟨Nat.le_of_ble_eq_true rfl, Nat.le_of_ble_eq_true rfl⟩) rfl dL_law_824 (Fit.left (Fit.right Fit.whole)) rfl rfl rfl (Nat.le_of_ble_eq_true rfl) hcl hsl rfl rfl rfl ?_
      refine V_iload (pc := 827) F dL_law_827 1 rfl ?_
      refine V_icmp_eq (pc := 829) (tgt := 834) F dL_law_829 (by decide) (fun _ => ?_) (fun h => absurd hk h)
      refine V_iload (pc := 834) F dL_law_834 1 rfl ?_
      refine V_if_ne (pc := 836) (tgt := 851) F dL_law_836 (by decide) (fun _ => ?_) (fun h => absurd h (by decide))
      refine V_goto (pc := 851) (tgt := 1526) F dL_law_851 (by decide) ?_
      refine V.sub (L2 := [(4, .int ii), (3, .ref ho), (2, .ref (a' 0)), (1, .ref (a 0)), (0, .ref b)]) [2, 3, 4, 5, 6] rfl ?_
      exact K γ' ρ' f S2
    · exact absurd hE (by simp)
set_option maxHeartbeats 8000000 in
theorem law_undo (hfl : l.stackTraces = false) (F : Fx p s m #[.ref b] meth c cL_law 9 RL nme lw_tbl ret D cy (aL s)) (G : FxL s b n xs) (hcl : cells + 1 ≤ room_1.cells) (hsl : slots + 6 ≤ room_1.slots) (S : SR γ ρ) (i1 : vp_in (ii + 1) n) (i2 : vp_in (ii + 2) n) (i3 : vp_in (ii + 3) n) (K : KL p l e s m below meth c D cy b a a' ho cells slots ii) : V p l e room_1 s m #[.ref b] below meth c 9 D (aL s) cells slots (lw_Z below #[.ref b] s) ((wX7 cy a γ ++ wX8 cy a' ρ) ++ [oc cy ho f]) [(4, .int ii), (3, .ref ho), (2, .ref (a' 0)), (1, .ref (a 0)), (0, .ref b)] [] 854 := by
  have hc : CSame [ISE] (fX7_undo 900 γ) (fX8_undo 900 ρ) := undo_call (m := γ.1) (h := γ.2.1) (tx := γ.2.2.1) (pf := γ.2.2.2) (t := ρ.1) (z := ρ.2.1) (S' := ρ.2.2.1) (kk := ρ.2.2.2.1) (u := ρ.2.2.2.2) S (show 900 ≤ 900 from Nat.le_refl _)
  obtain ⟨x, ρ', h8, ⟨hk, γ', h7, S2⟩ | ⟨j, E, γ', hE, hk, h7, S2⟩⟩ := hc
  · refine V_aload_n (pc := 854) F dL_law_854 rfl 3 rfl ?_
    refine V_aload_n (pc := 855) F dL_law_855 rfl 1 rfl ?_
    refine V_SW (w2 := ((wX7 cy a γ' ++ wX8 cy a' ρ) ++ [oc cy ho (vp_updL f 0 x.toInt64)])) (rest := []) (st2 := [.int 0]) (pc := 856) F G.1 G.2.1 G.2.2.1 (W_undo l D cy 900 a ho f γ  (x, γ') h7) (vx_cwSW 2 F.ts gLS_undo rfl rfl rfl hdL_undo ⟨Nat.le_of_ble_eq_true rfl, Nat.le_of_ble_eq_true rfl⟩) rfl dL_law_856 (Fit2.both (Fit.left Fit.whole) Fit.whole) fstX7 rfl (Nat.le_of_ble_eq_true rfl) hcl hsl rfl rfl rfl ?_
    refine V_istore (L2 := [(5, .int 0), (4, .int ii), (3, .ref ho), (2, .ref (a' 0)), (1, .ref (a 0)), (0, .ref b)]) (pc := 859) F dL_law_859 (by decide) rfl ?_
    refine V_aload_n (pc := 861) F dL_law_861 rfl 3 rfl ?_
    refine V_V (w2 := ((wX7 cy a γ' ++ wX8 cy a' ρ') ++ [oc cy ho (vp_updL f 0 x.toInt64)])) (rest := []) (st2 := [.int x]) (pc := 862) F 8 (M_X8_undo l D cy 900 a' ρ (x, ρ') h8) (cwV 0 F.ts gL8_undo rfl rfl rfl hd_X8_undo ⟨Nat.le_of_ble_eq_true rfl, Nat.le_of_ble_eq_true rfl⟩) rfl dL_law_862 (Fit.left (Fit.right Fit.whole)) fstX8 rfl rfl (Nat.le_of_ble_eq_true rfl) hcl hsl rfl rfl rfl ?_
    refine V_istore (L2 := [(6, .int x), (5, .int 0), (4, .int ii), (3, .ref ho), (2, .ref (a' 0)), (1, .ref (a 0)), (0, .ref b)]) (pc := 865) F dL_law_865 (by decide) rfl ?_
    refine V_aload_n (pc := 867) F dL_law_867 rfl 4 rfl ?_
    refine V_V (w2 := ((wX7 cy a γ' ++ wX8 cy a' ρ') ++ [oc cy ho (vp_updL f 0 x.toInt64)])) (rest := []) (st2 := [.int ρ'.1]) (pc := 868) F 8 (M_X8_thrown l D cy 900 a' ρ' ρ'.1 rfl) (cwV 0 F.ts gL8_thrown rfl rfl rfl hd_X8_thrown ⟨Nat.le_of_ble_eq_true rfl, Nat.le_of_ble_eq_true rfl⟩) rfl dL_law_868 (Fit.left (Fit.right Fit.whole)) rfl rfl rfl (Nat.le_of_ble_eq_true rfl) hcl hsl rfl rfl rfl ?_
    refine V_iload (pc := 871) F dL_law_871 1 rfl ?_
    refine V_icmp_eq (pc := 873) (tgt := 878) F dL_law_873 (by decide) (fun _ => ?_) (fun h => absurd hk h)
    refine V_iload (pc := 878) F dL_law_878 1 rfl ?_
    refine V_if_ne (pc := 880) (tgt := 895) F dL_law_880 (by decide) (fun h => absurd rfl h) (fun _ => ?_)
    refine V_aload_n (pc := 883) F dL_law_883 rfl 3 rfl ?_
    refine V_iconst (pc := 884) (v := 0) F dL_law_884 rfl ?_
    refine V_lald (pc := 885) F ((wX7 cy a γ' ++ wX8 cy a' ρ').length + 0) (at_right (k := 0) rfl) (by unfold vp_in; decide) dL_law_885 ?_
    refine V_iload (pc := 886) F dL_law_886 0 rfl ?_
    refine V_i2l (pc := 888) F dL_law_888 ?_
    refine V_lcmp (pc := 889) F dL_law_889 ?_
    refine V_if_eq (pc := 890) (tgt := 895) F dL_law_890 (by decide) (fun _ => ?_) (fun h => absurd (by rw [vp_upd0]; exact lgc_self _) h)
    refine V_goto (pc := 895) (tgt := 1526) F dL_law_895 (by decide) ?_
    refine V.sub (L2 := [(4, .int ii), (3, .ref ho), (2, .ref (a' 0)), (1, .ref (a 0)), (0, .ref b)]) [2, 3, 4, 5, 6] rfl ?_
    exact K γ' ρ' (vp_updL f 0 x.toInt64) S2
  · rcases j with _ | j
    · replace hE : E = ISE := (Option.some.inj hE).symm
      replace hk : ρ'.1 = 1 := hk
      refine V_aload_n (pc := 854) F dL_law_854 rfl 3 rfl ?_
      refine V_aload_n (pc := 855) F dL_law_855 rfl 1 rfl ?_
      refine V_SW (w2 := ((wX7 cy a γ' ++ wX8 cy a' ρ) ++ [oc cy ho f])) (rest := []) (st2 := [.int 1]) (pc := 856) F G.1 G.2.1 G.2.2.1 (WT_undo_0 l hfl D cy 900 a ho f γ  E γ' h7 hE) (vx_cwSW 2 F.ts gLS_undo rfl rfl rfl hdL_undo ⟨Nat.le_of_ble_eq_true rfl, Nat.le_of_ble_eq_true rfl⟩) rfl dL_law_856 (Fit2.both (Fit.left Fit.whole) Fit.whole) fstX7 rfl (Nat.le_of_ble_eq_true rfl) hcl hsl rfl rfl rfl ?_
      refine V_istore (L2 := [(5, .int 1), (4, .int ii), (3, .ref ho), (2, .ref (a' 0)), (1, .ref (a 0)), (0, .ref b)]) (pc := 859) F dL_law_859 (by decide) rfl ?_
      refine V_aload_n (pc := 861) F dL_law_861 rfl 3 rfl ?_
      refine V_V (w2 := ((wX7 cy a γ' ++ wX8 cy a' ρ') ++ [oc cy ho f])) (rest := []) (st2 := [.int x]) (pc := 862) F 8 (M_X8_undo l D cy 900 a' ρ (x, ρ') h8) (cwV 0 F.ts gL8_undo rfl rfl rfl hd_X8_undo ⟨Nat.le_of_ble_eq_true rfl, Nat.le_of_ble_eq_true rfl⟩) rfl dL_law_862 (Fit.left (Fit.right Fit.whole)) fstX8 rfl rfl (Nat.le_of_ble_eq_true rfl) hcl hsl rfl rfl rfl ?_
      refine V_istore (L2 := [(6, .int x), (5, .int 1), (4, .int ii), (3, .ref ho), (2, .ref (a' 0)), (1, .ref (a 0)), (0, .ref b)]) (pc := 865) F dL_law_865 (by decide) rfl ?_
      refine V_aload_n (pc := 867) F dL_law_867 rfl 4 rfl ?_
      refine V_V (w2 := ((wX7 cy a γ' ++ wX8 cy a' ρ') ++ [oc cy ho f])) (rest := []) (st2 := [.int ρ'.1]) (pc := 868) F 8 (M_X8_thrown l D cy 900 a' ρ' ρ'.1 rfl) (cwV 0 F.ts gL8_thrown rfl rfl rfl hd_X8_thrown ⟨Nat.le_of_ble_eq_true rfl, Nat.le_of_ble_eq_true rfl⟩) rfl dL_law_868 (Fit.left (Fit.right Fit.whole)) rfl rfl rfl (Nat.le_of_ble_eq_true rfl) hcl hsl rfl rfl rfl ?_
      refine V_iload (pc := 871) F dL_law_871 1 rfl ?_
      refine V_icmp_eq (pc := 873) (tgt := 878) F dL_law_873 (by decide) (fun _ => ?_) (fun h => absurd hk h)
      refine V_iload (pc := 878) F dL_law_878 1 rfl ?_
      refine V_if_ne (pc := 880) (tgt := 895) F dL_law_880 (by decide) (fun _ => ?_) (fun h => absurd h (by decide))
      refine V_goto (pc := 895) (tgt := 1526) F dL_law_895 (by decide) ?_
      refine V.sub (L2 := [(4, .int ii), (3, .ref ho), (2, .ref (a' 0)), (1, .ref (a 0)), (0, .ref b)]) [2, 3, 4, 5, 6] rfl ?_
      exact K γ' ρ' f S2
    · exact absurd hE (by simp)
set_option maxHeartbeats 8000000 in
theorem law_phase (hfl : l.stackTraces = false) (F : Fx p s m #[.ref b] meth c cL_law 9 RL nme lw_tbl ret D cy (aL s)) (G : FxL s b n xs) (hcl : cells + 1 ≤ room_1.cells) (hsl : slots + 6 ≤ room_1.slots) (S : SR γ ρ) (i1 : vp_in (ii + 1) n) (i2 : vp_in (ii + 2) n) (i3 : vp_in (ii + 3) n) (K : KL p l e s m below meth c D cy b a a' ho cells slots ii) : V p l e room_1 s m #[.ref b] below meth c 9 D (aL s) cells slots (lw_Z below #[.ref b] s) ((wX7 cy a γ ++ wX8 cy a' ρ) ++ [oc cy ho f]) [(4, .int ii), (3, .ref ho), (2, .ref (a' 0)), (1, .ref (a 0)), (0, .ref b)] [] 898 := by
  have hc : CSame [IOB, IAE] (fX7_phase 900 γ (xs (ii + 1).toNatClampNeg) (xs (ii + 2).toNatClampNeg)) (fX8_phase 900 ρ (xs (ii + 1).toNatClampNeg) (xs (ii + 2).toNatClampNeg)) := phase_call (m := γ.1) (h := γ.2.1) (tx := γ.2.2.1) (pf := γ.2.2.2) (t := ρ.1) (z := ρ.2.1) (S' := ρ.2.2.1) (kk := ρ.2.2.2.1) (u := ρ.2.2.2.2) S (show 900 ≤ 900 from Nat.le_refl _) (xs (ii + 1).toNatClampNeg) (xs (ii + 2).toNatClampNeg)
  obtain ⟨x, ρ', h8, ⟨hk, γ', h7, S2⟩ | ⟨j, E, γ', hE, hk, h7, S2⟩⟩ := hc
  · refine V_aload_n (pc := 898) F dL_law_898 rfl 3 rfl ?_
    refine V_aload_n (pc := 899) F dL_law_899 rfl 4 rfl ?_
    refine V_iload (pc := 900) F dL_law_900 0 rfl ?_
    refine V_iconst (pc := 902) (v := 1) F dL_law_902 rfl ?_
    refine V_iadd (pc := 903) F dL_law_903 ?_
    refine V_sld (pc := 904) F G.2.2.2.1 G.2.2.2.2 G.nb i1 dL_law_904 ?_
    refine V_aload_n (pc := 905) F dL_law_905 rfl 4 rfl ?_
    refine V_iload (pc := 906) F dL_law_906 0 rfl ?_
    refine V_iconst (pc := 908) (v := 2) F dL_law_908 rfl ?_
    refine V_iadd (pc := 909) F dL_law_909 ?_
    refine V_sld (pc := 910) F G.2.2.2.1 G.2.2.2.2 G.nb i2 dL_law_910 ?_
    refine V_aload_n (pc := 911) F dL_law_911 rfl 1 rfl ?_
    refine V_SW (w2 := ((wX7 cy a γ' ++ wX8 cy a' ρ) ++ [oc cy ho (vp_updL f 0 x.toInt64)])) (rest := []) (st2 := [.int 0]) (pc := 912) F G.1 G.2.1 G.2.2.1 (W_phase l D cy 900 a ho f γ (xs (ii + 1).toNatClampNeg) (xs (ii + 2).toNatClampNeg) (x, γ') h7) (vx_cwSW 4 F.ts gLS_phase rfl rfl rfl hdL_phase ⟨Nat.le_of_ble_eq_true rfl, Nat.le_of_ble_eq_true rfl⟩) rfl dL_law_912 (Fit2.both (Fit.left Fit.whole) Fit.whole) fstX7 rfl (Nat.le_of_ble_eq_true rfl) hcl hsl rfl rfl rfl ?_
    refine V_istore (L2 := [(5, .int 0), (4, .int ii), (3, .ref ho), (2, .ref (a' 0)), (1, .ref (a 0)), (0, .ref b)]) (pc := 915) F dL_law_915 (by decide) rfl ?_
    refine V_aload_n (pc := 917) F dL_law_917 rfl 3 rfl ?_
    refine V_aload_n (pc := 918) F dL_law_918 rfl 5 rfl ?_
    refine V_iload (pc := 919) F dL_law_919 1 rfl ?_
    refine V_iconst (pc := 921) (v := 1) F dL_law_921 rfl ?_
    refine V_iadd (pc := 922) F dL_law_922 ?_
    refine V_sld (pc := 923) F G.2.2.2.1 G.2.2.2.2 G.nb i1 dL_law_923 ?_
    refine V_aload_n (pc := 924) F dL_law_924 rfl 5 rfl ?_
    refine V_iload (pc := 925) F dL_law_925 1 rfl ?_
    refine V_iconst (pc := 927) (v := 2) F dL_law_927 rfl ?_
    refine V_iadd (pc := 928) F dL_law_928 ?_
    refine V_sld (pc := 929) F G.2.2.2.1 G.2.2.2.2 G.nb i2 dL_law_929 ?_
    refine V_V (w2 := ((wX7 cy a γ' ++ wX8 cy a' ρ') ++ [oc cy ho (vp_updL f 0 x.toInt64)])) (rest := []) (st2 := [.int x]) (pc := 930) F 8 (M_X8_phase l D cy 900 a' ρ (xs (ii + 1).toNatClampNeg) (xs (ii + 2).toNatClampNeg) (x, ρ') h8) (cwV 2 F.ts gL8_phase rfl rfl rfl hd_X8_phase ⟨Nat.le_of_ble_eq_true rfl, Nat.le_of_ble_eq_true rfl⟩) rfl dL_law_930 (Fit.left (Fit.right Fit.whole)) fstX8 rfl rfl (Nat.le_of_ble_eq_true rfl) hcl hsl rfl rfl rfl ?_
    refine V_istore (L2 := [(6, .int x), (5, .int 0), (4, .int ii), (3, .ref ho), (2, .ref (a' 0)), (1, .ref (a 0)), (0, .ref b)]) (pc := 933) F dL_law_933 (by decide) rfl ?_
    refine V_aload_n (pc := 935) F dL_law_935 rfl 4 rfl ?_
    refine V_V (w2 := ((wX7 cy a γ' ++ wX8 cy a' ρ') ++ [oc cy ho (vp_updL f 0 x.toInt64)])) (rest := []) (st2 := [.int ρ'.1]) (pc := 936) F 8 (M_X8_thrown l D cy 900 a' ρ' ρ'.1 rfl) (cwV 0 F.ts gL8_thrown rfl rfl rfl hd_X8_thrown ⟨Nat.le_of_ble_eq_true rfl, Nat.le_of_ble_eq_true rfl⟩) rfl dL_law_936 (Fit.left (Fit.right Fit.whole)) rfl rfl rfl (Nat.le_of_ble_eq_true rfl) hcl hsl rfl rfl rfl ?_
    refine V_iload (pc := 939) F dL_law_939 1 rfl ?_
    refine V_icmp_eq (pc := 941) (tgt := 946) F dL_law_941 (by decide) (fun _ => ?_) (fun h => absurd hk h)
    refine V_iload (pc := 946) F dL_law_946 1 rfl ?_
    refine V_if_ne (pc := 948) (tgt := 963) F dL_law_948 (by decide) (fun h => absurd rfl h) (fun _ => ?_)
    refine V_aload_n (pc := 951) F dL_law_951 rfl 3 rfl ?_
    refine V_iconst (pc := 952) (v := 0) F dL_law_952 rfl ?_
    refine V_lald (pc := 953) F ((wX7 cy a γ' ++ wX8 cy a' ρ').length + 0) (at_right (k := 0) rfl) (by unfold vp_in; decide) dL_law_953 ?_
    refine V_iload (pc := 954) F dL_law_954 0 rfl ?_
    refine V_i2l (pc := 956) F dL_law_956 ?_
    refine V_lcmp (pc := 957) F dL_law_957 ?_
    refine V_if_eq (pc := 958) (tgt := 963) F dL_law_958 (by decide) (fun _ => ?_) (fun h => absurd (by rw [vp_upd0]; exact lgc_self _) h)
    refine V_goto (pc := 963) (tgt := 1526) F dL_law_963 (by decide) ?_
    refine V.sub (L2 := [(4, .int ii), (3, .ref ho), (2, .ref (a' 0)), (1, .ref (a 0)), (0, .ref b)]) [2, 3, 4, 5, 6] rfl ?_
    exact K γ' ρ' (vp_updL f 0 x.toInt64) S2
  · rcases j with _ | _ | j
    · replace hE : E = IOB := (Option.some.inj hE).symm
      replace hk : ρ'.1 = 1 := hk
      refine V_aload_n (pc := 898) F dL_law_898 rfl 3 rfl ?_
      refine V_aload_n (pc := 899) F dL_law_899 rfl 4 rfl ?_
      refine V_iload (pc := 900) F dL_law_900 0 rfl ?_
      refine V_iconst (pc := 902) (v := 1) F dL_law_902 rfl ?_
      refine V_iadd (pc := 903) F dL_law_903 ?_
      refine V_sld (pc := 904) F G.2.2.2.1 G.2.2.2.2 G.nb i1 dL_law_904 ?_
      refine V_aload_n (pc := 905) F dL_law_905 rfl 4 rfl ?_
      refine V_iload (pc := 906) F dL_law_906 0 rfl ?_
      refine V_iconst (pc := 908) (v := 2) F dL_law_908 rfl ?_
      refine V_iadd (pc := 909) F dL_law_909 ?_
      refine V_sld (pc := 910) F G.2.2.2.1 G.2.2.2.2 G.nb i2 dL_law_910 ?_
      refine V_aload_n (pc := 911) F dL_law_911 rfl 1 rfl ?_
      refine V_SW (w2 := ((wX7 cy a γ' ++ wX8 cy a' ρ) ++ [oc cy ho f])) (rest := []) (st2 := [.int 1]) (pc := 912) F G.1 G.2.1 G.2.2.1 (WT_phase_0 l hfl D cy 900 a ho f γ (xs (ii + 1).toNatClampNeg) (xs (ii + 2).toNatClampNeg) E γ' h7 hE) (vx_cwSW 4 F.ts gLS_phase rfl rfl rfl hdL_phase ⟨Nat.le_of_ble_eq_true rfl, Nat.le_of_ble_eq_true rfl⟩) rfl dL_law_912 (Fit2.both (Fit.left Fit.whole) Fit.whole) fstX7 rfl (Nat.le_of_ble_eq_true rfl) hcl hsl rfl rfl rfl ?_
      refine V_istore (L2 := [(5, .int 1), (4, .int ii), (3, .ref ho), (2, .ref (a' 0)), (1, .ref (a 0)), (0, .ref b)]) (pc := 915) F dL_law_915 (by decide) rfl ?_
      refine V_aload_n (pc := 917) F dL_law_917 rfl 3 rfl ?_
      refine V_aload_n (pc := 918) F dL_law_918 rfl 5 rfl ?_
      refine V_iload (pc := 919) F dL_law_919 1 rfl ?_
      refine V_iconst (pc := 921) (v := 1) F dL_law_921 rfl ?_
      refine V_iadd (pc := 922) F dL_law_922 ?_
      refine V_sld (pc := 923) F G.2.2.2.1 G.2.2.2.2 G.nb i1 dL_law_923 ?_
      refine V_aload_n (pc := 924) F dL_law_924 rfl 5 rfl ?_
      refine V_iload (pc := 925) F dL_law_925 1 rfl ?_
      refine V_iconst (pc := 927) (v := 2) F dL_law_927 rfl ?_
      refine V_iadd (pc := 928) F dL_law_928 ?_
      refine V_sld (pc := 929) F G.2.2.2.1 G.2.2.2.2 G.nb i2 dL_law_929 ?_
      refine V_V (w2 := ((wX7 cy a γ' ++ wX8 cy a' ρ') ++ [oc cy ho f])) (rest := []) (st2 := [.int x]) (pc := 930) F 8 (M_X8_phase l D cy 900 a' ρ (xs (ii + 1).toNatClampNeg) (xs (ii + 2).toNatClampNeg) (x, ρ') h8) (cwV 2 F.ts gL8_phase rfl rfl rfl hd_X8_phase ⟨Nat.le_of_ble_eq_true rfl, Nat.le_of_ble_eq_true rfl⟩) rfl dL_law_930 (Fit.left (Fit.right Fit.whole)) fstX8 rfl rfl (Nat.le_of_ble_eq_true rfl) hcl hsl rfl rfl rfl ?_
      refine V_istore (L2 := [(6, .int x), (5, .int 1), (4, .int ii), (3, .ref ho), (2, .ref (a' 0)), (1, .ref (a 0)), (0, .ref b)]) (pc := 933) F dL_law_933 (by decide) rfl ?_
      refine V_aload_n (pc := 935) F dL_law_935 rfl 4 rfl ?_
      refine V_V (w2 := ((wX7 cy a γ' ++ wX8 cy a' ρ') ++ [oc cy ho f])) (rest := []) (st2 := [.int ρ'.1]) (pc := 936) F 8 (M_X8_thrown l D cy 900 a' ρ' ρ'.1 rfl) (cwV 0 F.ts gL8_thrown rfl rfl rfl hd_X8_thrown ⟨Nat.le_of_ble_eq_true rfl, Nat.le_of_ble_eq_true rfl⟩) rfl dL_law_936 (Fit.left (Fit.right Fit.whole)) rfl rfl rfl (Nat.le_of_ble_eq_true rfl) hcl hsl rfl rfl rfl ?_
      refine V_iload (pc := 939) F dL_law_939 1 rfl ?_
      refine V_icmp_eq (pc := 941) (tgt := 946) F dL_law_941 (by decide) (fun _ => ?_) (fun h => absurd hk h)
      refine V_iload (pc := 946) F dL_law_946 1 rfl ?_
      refine V_if_ne (pc := 948) (tgt := 963) F dL_law_948 (by decide) (fun _ => ?_) (fun h => absurd h (by decide))
      refine V_goto (pc := 963) (tgt := 1526) F dL_law_963 (by decide) ?_
      refine V.sub (L2 := [(4, .int ii), (3, .ref ho), (2, .ref (a' 0)), (1, .ref (a 0)), (0, .ref b)]) [2, 3, 4, 5, 6] rfl ?_
      exact K γ' ρ' f S2
    · replace hE : E = IAE := (Option.some.inj hE).symm
      replace hk : ρ'.1 = 2 := hk
      refine V_aload_n (pc := 898) F dL_law_898 rfl 3 rfl ?_
      refine V_aload_n (pc := 899) F dL_law_899 rfl 4 rfl ?_
      refine V_iload (pc := 900) F dL_law_900 0 rfl ?_
      refine V_iconst (pc := 902) (v := 1) F dL_law_902 rfl ?_
      refine V_iadd (pc := 903) F dL_law_903 ?_
      refine V_sld (pc := 904) F G.2.2.2.1 G.2.2.2.2 G.nb i1 dL_law_904 ?_
      refine V_aload_n (pc := 905) F dL_law_905 rfl 4 rfl ?_
      refine V_iload (pc := 906) F dL_law_906 0 rfl ?_
      refine V_iconst (pc := 908) (v := 2) F dL_law_908 rfl ?_
      refine V_iadd (pc := 909) F dL_law_909 ?_
      refine V_sld (pc := 910) F G.2.2.2.1 G.2.2.2.2 G.nb i2 dL_law_910 ?_
      refine V_aload_n (pc := 911) F dL_law_911 rfl 1 rfl ?_
      refine V_SW (w2 := ((wX7 cy a γ' ++ wX8 cy a' ρ) ++ [oc cy ho f])) (rest := []) (st2 := [.int 2]) (pc := 912) F G.1 G.2.1 G.2.2.1 (WT_phase_1 l hfl D cy 900 a ho f γ (xs (ii + 1).toNatClampNeg) (xs (ii + 2).toNatClampNeg) E γ' h7 hE) (vx_cwSW 4 F.ts gLS_phase rfl rfl rfl hdL_phase ⟨Nat.le_of_ble_eq_true rfl, Nat.le_of_ble_eq_true rfl⟩) rfl dL_law_912 (Fit2.both (Fit.left Fit.whole) Fit.whole) fstX7 rfl (Nat.le_of_ble_eq_true rfl) hcl hsl rfl rfl rfl ?_
      refine V_istore (L2 := [(5, .int 2), (4, .int ii), (3, .ref ho), (2, .ref (a' 0)), (1, .ref (a 0)), (0, .ref b)]) (pc := 915) F dL_law_915 (by decide) rfl ?_
      refine V_aload_n (pc := 917) F dL_law_917 rfl 3 rfl ?_
      refine V_aload_n (pc := 918) F dL_law_918 rfl 5 rfl ?_
      refine V_iload (pc := 919) F dL_law_919 1 rfl ?_
      refine V_iconst (pc := 921) (v := 1) F dL_law_921 rfl ?_
      refine V_iadd (pc := 922) F dL_law_922 ?_
      refine V_sld (pc := 923) F G.2.2.2.1 G.2.2.2.2 G.nb i1 dL_law_923 ?_
      refine V_aload_n (pc := 924) F dL_law_924 rfl 5 rfl ?_
      refine V_iload (pc := 925) F dL_law_925 1 rfl ?_
      refine V_iconst (pc := 927) (v := 2) F dL_law_927 rfl ?_
      refine V_iadd (pc := 928) F dL_law_928 ?_
      refine V_sld (pc := 929) F G.2.2.2.1 G.2.2.2.2 G.nb i2 dL_law_929 ?_
      refine V_V (w2 := ((wX7 cy a γ' ++ wX8 cy a' ρ') ++ [oc cy ho f])) (rest := []) (st2 := [.int x]) (pc := 930) F 8 (M_X8_phase l D cy 900 a' ρ (xs (ii + 1).toNatClampNeg) (xs (ii + 2).toNatClampNeg) (x, ρ') h8) (cwV 2 F.ts gL8_phase rfl rfl rfl hd_X8_phase ⟨Nat.le_of_ble_eq_true rfl, Nat.le_of_ble_eq_true rfl⟩) rfl dL_law_930 (Fit.left (Fit.right Fit.whole)) fstX8 rfl rfl (Nat.le_of_ble_eq_true rfl) hcl hsl rfl rfl rfl ?_
      refine V_istore (L2 := [(6, .int x), (5, .int 2), (4, .int ii), (3, .ref ho), (2, .ref (a' 0)), (1, .ref (a 0)), (0, .ref b)]) (pc := 933) F dL_law_933 (by decide) rfl ?_
      refine V_aload_n (pc := 935) F dL_law_935 rfl 4 rfl ?_
      refine V_V (w2 := ((wX7 cy a γ' ++ wX8 cy a' ρ') ++ [oc cy ho f])) (rest := []) (st2 := [.int ρ'.1]) (pc := 936) F 8 (M_X8_thrown l D cy 900 a' ρ' ρ'.1 rfl) (cwV 0 F.ts gL8_thrown rfl rfl rfl hd_X8_thrown ⟨Nat.le_of_ble_eq_true rfl, Nat.le_of_ble_eq_true rfl⟩) rfl dL_law_936 (Fit.left (Fit.right Fit.whole)) rfl rfl rfl (Nat.le_of_ble_eq_true rfl) hcl hsl rfl rfl rfl ?_
      refine V_iload (pc := 939) F dL_law_939 1 rfl ?_
      refine V_icmp_eq (pc := 941) (tgt := 946) F dL_law_941 (by decide) (fun _ => ?_) (fun h => absurd hk h)
      refine V_iload (pc := 946) F dL_law_946 1 rfl ?_
      refine V_if_ne (pc := 948) (tgt := 963) F dL_law_948 (by decide) (fun _ => ?_) (fun h => absurd h (by decide))
      refine V_goto (pc := 963) (tgt := 1526) F dL_law_963 (by decide) ?_
      refine V.sub (L2 := [(4, .int ii), (3, .ref ho), (2, .ref (a' 0)), (1, .ref (a 0)), (0, .ref b)]) [2, 3, 4, 5, 6] rfl ?_
      exact K γ' ρ' f S2
    · exact absurd hE (by simp)
set_option maxHeartbeats 8000000 in
theorem law_rule (hfl : l.stackTraces = false) (F : Fx p s m #[.ref b] meth c cL_law 9 RL nme lw_tbl ret D cy (aL s)) (G : FxL s b n xs) (hcl : cells + 1 ≤ room_1.cells) (hsl : slots + 6 ≤ room_1.slots) (S : SR γ ρ) (i1 : vp_in (ii + 1) n) (i2 : vp_in (ii + 2) n) (i3 : vp_in (ii + 3) n) (K : KL p l e s m below meth c D cy b a a' ho cells slots ii) : V p l e room_1 s m #[.ref b] below meth c 9 D (aL s) cells slots (lw_Z below #[.ref b] s) ((wX7 cy a γ ++ wX8 cy a' ρ) ++ [oc cy ho f]) [(4, .int ii), (3, .ref ho), (2, .ref (a' 0)), (1, .ref (a 0)), (0, .ref b)] [] 966 := by
  have hc : CSame0 [IOB, IAE] γ (fX7_rule 900 γ (xs (ii + 1).toNatClampNeg) (xs (ii + 2).toNatClampNeg) (xs (ii + 3).toNatClampNeg)) (fX8_rule 900 ρ (xs (ii + 1).toNatClampNeg) (xs (ii + 2).toNatClampNeg) (xs (ii + 3).toNatClampNeg)) := rule_call (m := γ.1) (h := γ.2.1) (tx := γ.2.2.1) (pf := γ.2.2.2) (t := ρ.1) (z := ρ.2.1) (S' := ρ.2.2.1) (kk := ρ.2.2.2.1) (u := ρ.2.2.2.2) S (show 900 ≤ 900 from Nat.le_refl _) (xs (ii + 1).toNatClampNeg) (xs (ii + 2).toNatClampNeg) (xs (ii + 3).toNatClampNeg)
  obtain ⟨x, ρ', h8, S2, ⟨hk, h7⟩ | ⟨j, E, hE, hk, h7⟩⟩ := hc
  · refine V_aload_n (pc := 966) F dL_law_966 rfl 3 rfl ?_
    refine V_aload_n (pc := 967) F dL_law_967 rfl 4 rfl ?_
    refine V_iload (pc := 968) F dL_law_968 0 rfl ?_
    refine V_iconst (pc := 970) (v := 1) F dL_law_970 rfl ?_
    refine V_iadd (pc := 971) F dL_law_971 ?_
    refine V_sld (pc := 972) F G.2.2.2.1 G.2.2.2.2 G.nb i1 dL_law_972 ?_
    refine V_aload_n (pc := 973) F dL_law_973 rfl 4 rfl ?_
    refine V_iload (pc := 974) F dL_law_974 0 rfl ?_
    refine V_iconst (pc := 976) (v := 2) F dL_law_976 rfl ?_
    refine V_iadd (pc := 977) F dL_law_977 ?_
    refine V_sld (pc := 978) F G.2.2.2.1 G.2.2.2.2 G.nb i2 dL_law_978 ?_
    refine V_aload_n (pc := 979) F dL_law_979 rfl 4 rfl ?_
    refine V_iload (pc := 980) F dL_law_980 0 rfl ?_
    refine V_iconst (pc := 982) (v := 3) F dL_law_982 rfl ?_
    refine V_iadd (pc := 983) F dL_law_983 ?_
    refine V_sld (pc := 984) F G.2.2.2.1 G.2.2.2.2 G.nb i3 dL_law_984 ?_
    refine V_aload_n (pc := 985) F dL_law_985 rfl 1 rfl ?_
    refine V_SW (w2 := ((wX7 cy a γ ++ wX8 cy a' ρ) ++ [oc cy ho (vp_updL f 0 x.toInt64)])) (rest := []) (st2 := [.int 0]) (pc := 986) F G.1 G.2.1 G.2.2.1 (W_rule l D cy 900 a ho f γ (xs (ii + 1).toNatClampNeg) (xs (ii + 2).toNatClampNeg) (xs (ii + 3).toNatClampNeg) x h7) (vx_cwSW 5 F.ts gLS_rule rfl rfl rfl hdL_rule ⟨Nat.le_of_ble_eq_true rfl, Nat.le_of_ble_eq_true rfl⟩) rfl dL_law_986 (Fit2.both (Fit.left Fit.whole) Fit.whole) rfl rfl (Nat.le_of_ble_eq_true rfl) hcl hsl rfl rfl rfl ?_
    refine V_istore (L2 := [(5, .int 0), (4, .int ii), (3, .ref ho), (2, .ref (a' 0)), (1, .ref (a 0)), (0, .ref b)]) (pc := 989) F dL_law_989 (by decide) rfl ?_
    refine V_aload_n (pc := 991) F dL_law_991 rfl 3 rfl ?_
    refine V_aload_n (pc := 992) F dL_law_992 rfl 5 rfl ?_
    refine V_iload (pc := 993) F dL_law_993 1 rfl ?_
    refine V_iconst (pc := 995) (v := 1) F dL_law_995 rfl ?_
    refine V_iadd (pc := 996) F dL_law_996 ?_
    refine V_sld (pc := 997) F G.2.2.2.1 G.2.2.2.2 G.nb i1 dL_law_997 ?_
    refine V_aload_n (pc := 998) F dL_law_998 rfl 5 rfl ?_
    refine V_iload (pc := 999) F dL_law_999 1 rfl ?_
    refine V_iconst (pc := 1001) (v := 2) F dL_law_1001 rfl ?_
    refine V_iadd (pc := 1002) F dL_law_1002 ?_
    refine V_sld (pc := 1003) F G.2.2.2.1 G.2.2.2.2 G.nb i2 dL_law_1003 ?_
    refine V_aload_n (pc := 1004) F dL_law_1004 rfl 5 rfl ?_
    refine V_iload (pc := 1005) F dL_law_1005 1 rfl ?_
    refine V_iconst (pc := 1007) (v := 3) F dL_law_1007 rfl ?_
    refine V_iadd (pc := 1008) F dL_law_1008 ?_
    refine V_sld (pc := 1009) F G.2.2.2.1 G.2.2.2.2 G.nb i3 dL_law_1009 ?_
    refine V_V (w2 := ((wX7 cy a γ ++ wX8 cy a' ρ') ++ [oc cy ho (vp_updL f 0 x.toInt64)])) (rest := []) (st2 := [.int x]) (pc := 1010) F 8 (M_X8_rule l D cy 900 a' ρ (xs (ii + 1).toNatClampNeg) (xs (ii + 2).toNatClampNeg) (xs (ii + 3).toNatClampNeg) (x, ρ') h8) (cwV 3 F.ts gL8_rule rfl rfl rfl hd_X8_rule ⟨Nat.le_of_ble_eq_true rfl, Nat.le_of_ble_eq_true rfl⟩) rfl dL_law_1010 (Fit.left (Fit.right Fit.whole)) fstX8 rfl rfl (Nat.le_of_ble_eq_true rfl) hcl hsl rfl rfl rfl ?_
    refine V_istore (L2 := [(6, .int x), (5, .int 0), (4, .int ii), (3, .ref ho), (2, .ref (a' 0)), (1, .ref (a 0)), (0, .ref b)]) (pc := 1013) F dL_law_1013 (by decide) rfl ?_
    refine V_aload_n (pc := 1015) F dL_law_1015 rfl 4 rfl ?_
    refine V_V (w2 := ((wX7 cy a γ ++ wX8 cy a' ρ') ++ [oc cy ho (vp_updL f 0 x.toInt64)])) (rest := []) (st2 := [.int ρ'.1]) (pc := 1016) F 8 (M_X8_thrown l D cy 900 a' ρ' ρ'.1 rfl) (cwV 0 F.ts gL8_thrown rfl rfl rfl hd_X8_thrown ⟨Nat.le_of_ble_eq_true rfl, Nat.le_of_ble_eq_true rfl⟩) rfl dL_law_1016 (Fit.left (Fit.right Fit.whole)) rfl rfl rfl (Nat.le_of_ble_eq_true rfl) hcl hsl rfl rfl rfl ?_
    refine V_iload (pc := 1019) F dL_law_1019 1 rfl ?_
    refine V_icmp_eq (pc := 1021) (tgt := 1026) F dL_law_1021 (by decide) (fun _ => ?_) (fun h => absurd hk h)
    refine V_iload (pc := 1026) F dL_law_1026 1 rfl ?_
    refine V_if_ne (pc := 1028) (tgt := 1043) F dL_law_1028 (by decide) (fun h => absurd rfl h) (fun _ => ?_)
    refine V_aload_n (pc := 1031) F dL_law_1031 rfl 3 rfl ?_
    refine V_iconst (pc := 1032) (v := 0) F dL_law_1032 rfl ?_
    refine V_lald (pc := 1033) F ((wX7 cy a γ ++ wX8 cy a' ρ').length + 0) (at_right (k := 0) rfl) (by unfold vp_in; decide) dL_law_1033 ?_
    refine V_iload (pc := 1034) F dL_law_1034 0 rfl ?_
    refine V_i2l (pc := 1036) F dL_law_1036 ?_
    refine V_lcmp (pc := 1037) F dL_law_1037 ?_
    refine V_if_eq (pc := 1038) (tgt := 1043) F dL_law_1038 (by decide) (fun _ => ?_) (fun h => absurd (by rw [vp_upd0]; exact lgc_self _) h)
    refine V_goto (pc := 1043) (tgt := 1526) F dL_law_1043 (by decide) ?_
    refine V.sub (L2 := [(4, .int ii), (3, .ref ho), (2, .ref (a' 0)), (1, .ref (a 0)), (0, .ref b)]) [2, 3, 4, 5, 6] rfl ?_
    exact K γ ρ' (vp_updL f 0 x.toInt64) S2
  · rcases j with _ | _ | j
    · replace hE : E = IOB := (Option.some.inj hE).symm
      replace hk : ρ'.1 = 1 := hk
      refine V_aload_n (pc := 966) F dL_law_966 rfl 3 rfl ?_
      refine V_aload_n (pc := 967) F dL_law_967 rfl 4 rfl ?_
      refine V_iload (pc := 968) F dL_law_968 0 rfl ?_
      refine V_iconst (pc := 970) (v := 1) F dL_law_970 rfl ?_
      refine V_iadd (pc := 971) F dL_law_971 ?_
      refine V_sld (pc := 972) F G.2.2.2.1 G.2.2.2.2 G.nb i1 dL_law_972 ?_
      refine V_aload_n (pc := 973) F dL_law_973 rfl 4 rfl ?_
      refine V_iload (pc := 974) F dL_law_974 0 rfl ?_
      refine V_iconst (pc := 976) (v := 2) F dL_law_976 rfl ?_
      refine V_iadd (pc := 977) F dL_law_977 ?_
      refine V_sld (pc := 978) F G.2.2.2.1 G.2.2.2.2 G.nb i2 dL_law_978 ?_
      refine V_aload_n (pc := 979) F dL_law_979 rfl 4 rfl ?_
      refine V_iload (pc := 980) F dL_law_980 0 rfl ?_
      refine V_iconst (pc := 982) (v := 3) F dL_law_982 rfl ?_
      refine V_iadd (pc := 983) F dL_law_983 ?_
      refine V_sld (pc := 984) F G.2.2.2.1 G.2.2.2.2 G.nb i3 dL_law_984 ?_
      refine V_aload_n (pc := 985) F dL_law_985 rfl 1 rfl ?_
      refine V_SW (w2 := ((wX7 cy a γ ++ wX8 cy a' ρ) ++ [oc cy ho f])) (rest := []) (st2 := [.int 1]) (pc := 986) F G.1 G.2.1 G.2.2.1 (WT_rule_0 l hfl D cy 900 a ho f γ (xs (ii + 1).toNatClampNeg) (xs (ii + 2).toNatClampNeg) (xs (ii + 3).toNatClampNeg) E h7 hE) (vx_cwSW 5 F.ts gLS_rule rfl rfl rfl hdL_rule ⟨Nat.le_of_ble_eq_true rfl, Nat.le_of_ble_eq_true rfl⟩) rfl dL_law_986 (Fit2.both (Fit.left Fit.whole) Fit.whole) rfl rfl (Nat.le_of_ble_eq_true rfl) hcl hsl rfl rfl rfl ?_
      refine V_istore (L2 := [(5, .int 1), (4, .int ii), (3, .ref ho), (2, .ref (a' 0)), (1, .ref (a 0)), (0, .ref b)]) (pc := 989) F dL_law_989 (by decide) rfl ?_
      refine V_aload_n (pc := 991) F dL_law_991 rfl 3 rfl ?_
      refine V_aload_n (pc := 992) F dL_law_992 rfl 5 rfl ?_
      refine V_iload (pc := 993) F dL_law_993 1 rfl ?_
      refine V_iconst (pc := 995) (v := 1) F dL_law_995 rfl ?_
      refine V_iadd (pc := 996) F dL_law_996 ?_
      refine V_sld (pc := 997) F G.2.2.2.1 G.2.2.2.2 G.nb i1 dL_law_997 ?_
      refine V_aload_n (pc := 998) F dL_law_998 rfl 5 rfl ?_
      refine V_iload (pc := 999) F dL_law_999 1 rfl ?_
      refine V_iconst (pc := 1001) (v := 2) F dL_law_1001 rfl ?_
      refine V_iadd (pc := 1002) F dL_law_1002 ?_
      refine V_sld (pc := 1003) F G.2.2.2.1 G.2.2.2.2 G.nb i2 dL_law_1003 ?_
      refine V_aload_n (pc := 1004) F dL_law_1004 rfl 5 rfl ?_
      refine V_iload (pc := 1005) F dL_law_1005 1 rfl ?_
      refine V_iconst (pc := 1007) (v := 3) F dL_law_1007 rfl ?_
      refine V_iadd (pc := 1008) F dL_law_1008 ?_
      refine V_sld (pc := 1009) F G.2.2.2.1 G.2.2.2.2 G.nb i3 dL_law_1009 ?_
      refine V_V (w2 := ((wX7 cy a γ ++ wX8 cy a' ρ') ++ [oc cy ho f])) (rest := []) (st2 := [.int x]) (pc := 1010) F 8 (M_X8_rule l D cy 900 a' ρ (xs (ii + 1).toNatClampNeg) (xs (ii + 2).toNatClampNeg) (xs (ii + 3).toNatClampNeg) (x, ρ') h8) (cwV 3 F.ts gL8_rule rfl rfl rfl hd_X8_rule ⟨Nat.le_of_ble_eq_true rfl, Nat.le_of_ble_eq_true rfl⟩) rfl dL_law_1010 (Fit.left (Fit.right Fit.whole)) fstX8 rfl rfl (Nat.le_of_ble_eq_true rfl) hcl hsl rfl rfl rfl ?_
      refine V_istore (L2 := [(6, .int x), (5, .int 1), (4, .int ii), (3, .ref ho), (2, .ref (a' 0)), (1, .ref (a 0)), (0, .ref b)]) (pc := 1013) F dL_law_1013 (by decide) rfl ?_
      refine V_aload_n (pc := 1015) F dL_law_1015 rfl 4 rfl ?_
      refine V_V (w2 := ((wX7 cy a γ ++ wX8 cy a' ρ') ++ [oc cy ho f])) (rest := []) (st2 := [.int ρ'.1]) (pc := 1016) F 8 (M_X8_thrown l D cy 900 a' ρ' ρ'.1 rfl) (cwV 0 F.ts gL8_thrown rfl rfl rfl hd_X8_thrown ⟨Nat.le_of_ble_eq_true rfl, Nat.le_of_ble_eq_true rfl⟩) rfl dL_law_1016 (Fit.left (Fit.right Fit.whole)) rfl rfl rfl (Nat.le_of_ble_eq_true rfl) hcl hsl rfl rfl rfl ?_
      refine V_iload (pc := 1019) F dL_law_1019 1 rfl ?_
      refine V_icmp_eq (pc := 1021) (tgt := 1026) F dL_law_1021 (by decide) (fun _ => ?_) (fun h => absurd hk h)
      refine V_iload (pc := 1026) F dL_law_1026 1 rfl ?_
      refine V_if_ne (pc := 1028) (tgt := 1043) F dL_law_1028 (by decide) (fun _ => ?_) (fun h => absurd h (by decide))
      refine V_goto (pc := 1043) (tgt := 1526) F dL_law_1043 (by decide) ?_
      refine V.sub (L2 := [(4, .int ii), (3, .ref ho), (2, .ref (a' 0)), (1, .ref (a 0)), (0, .ref b)]) [2, 3, 4, 5, 6] rfl ?_
      exact K γ ρ' f S2
    · replace hE : E = IAE := (Option.some.inj hE).symm
      replace hk : ρ'.1 = 2 := hk
      refine V_aload_n (pc := 966) F dL_law_966 rfl 3 rfl ?_
      refine V_aload_n (pc := 967) F dL_law_967 rfl 4 rfl ?_
      refine V_iload (pc := 968) F dL_law_968 0 rfl ?_
      refine V_iconst (pc := 970) (v := 1) F dL_law_970 rfl ?_
      refine V_iadd (pc := 971) F dL_law_971 ?_
      refine V_sld (pc := 972) F G.2.2.2.1 G.2.2.2.2 G.nb i1 dL_law_972 ?_
      refine V_aload_n (pc := 973) F dL_law_973 rfl 4 rfl ?_
      refine V_iload (pc := 974) F dL_law_974 0 rfl ?_
      refine V_iconst (pc := 976) (v := 2) F dL_law_976 rfl ?_
      refine V_iadd (pc := 977) F dL_law_977 ?_
      refine V_sld (pc := 978) F G.2.2.2.1 G.2.2.2.2 G.nb i2 dL_law_978 ?_
      refine V_aload_n (pc := 979) F dL_law_979 rfl 4 rfl ?_
      refine V_iload (pc := 980) F dL_law_980 0 rfl ?_
      refine V_iconst (pc := 982) (v := 3) F dL_law_982 rfl ?_
      refine V_iadd (pc := 983) F dL_law_983 ?_
      refine V_sld (pc := 984) F G.2.2.2.1 G.2.2.2.2 G.nb i3 dL_law_984 ?_
      refine V_aload_n (pc := 985) F dL_law_985 rfl 1 rfl ?_
      refine V_SW (w2 := ((wX7 cy a γ ++ wX8 cy a' ρ) ++ [oc cy ho f])) (rest := []) (st2 := [.int 2]) (pc := 986) F G.1 G.2.1 G.2.2.1 (WT_rule_1 l hfl D cy 900 a ho f γ (xs (ii + 1).toNatClampNeg) (xs (ii + 2).toNatClampNeg) (xs (ii + 3).toNatClampNeg) E h7 hE) (vx_cwSW 5 F.ts gLS_rule rfl rfl rfl hdL_rule ⟨Nat.le_of_ble_eq_true rfl, Nat.le_of_ble_eq_true rfl⟩) rfl dL_law_986 (Fit2.both (Fit.left Fit.whole) Fit.whole) rfl rfl (Nat.le_of_ble_eq_true rfl) hcl hsl rfl rfl rfl ?_
      refine V_istore (L2 := [(5, .int 2), (4, .int ii), (3, .ref ho), (2, .ref (a' 0)), (1, .ref (a 0)), (0, .ref b)]) (pc := 989) F dL_law_989 (by decide) rfl ?_
      refine V_aload_n (pc := 991) F dL_law_991 rfl 3 rfl ?_
      refine V_aload_n (pc := 992) F dL_law_992 rfl 5 rfl ?_
      refine V_iload (pc := 993) F dL_law_993 1 rfl ?_
      refine V_iconst (pc := 995) (v := 1) F dL_law_995 rfl ?_
      refine V_iadd (pc := 996) F dL_law_996 ?_
      refine V_sld (pc := 997) F G.2.2.2.1 G.2.2.2.2 G.nb i1 dL_law_997 ?_
      refine V_aload_n (pc := 998) F dL_law_998 rfl 5 rfl ?_
      refine V_iload (pc := 999) F dL_law_999 1 rfl ?_
      refine V_iconst (pc := 1001) (v := 2) F dL_law_1001 rfl ?_
      refine V_iadd (pc := 1002) F dL_law_1002 ?_
      refine V_sld (pc := 1003) F G.2.2.2.1 G.2.2.2.2 G.nb i2 dL_law_1003 ?_
      refine V_aload_n (pc := 1004) F dL_law_1004 rfl 5 rfl ?_
      refine V_iload (pc := 1005) F dL_law_1005 1 rfl ?_
      refine V_iconst (pc := 1007) (v := 3) F dL_law_1007 rfl ?_
      refine V_iadd (pc := 1008) F dL_law_1008 ?_
      refine V_sld (pc := 1009) F G.2.2.2.1 G.2.2.2.2 G.nb i3 dL_law_1009 ?_
      refine V_V (w2 := ((wX7 cy a γ ++ wX8 cy a' ρ') ++ [oc cy ho f])) (rest := []) (st2 := [.int x]) (pc := 1010) F 8 (M_X8_rule l D cy 900 a' ρ (xs (ii + 1).toNatClampNeg) (xs (ii + 2).toNatClampNeg) (xs (ii + 3).toNatClampNeg) (x, ρ') h8) (cwV 3 F.ts gL8_rule rfl rfl rfl hd_X8_rule ⟨Nat.le_of_ble_eq_true rfl, Nat.le_of_ble_eq_true rfl⟩) rfl dL_law_1010 (Fit.left (Fit.right Fit.whole)) fstX8 rfl rfl (Nat.le_of_ble_eq_true rfl) hcl hsl rfl rfl rfl ?_
      refine V_istore (L2 := [(6, .int x), (5, .int 2), (4, .int ii), (3, .ref ho), (2, .ref (a' 0)), (1, .ref (a 0)), (0, .ref b)]) (pc := 1013) F dL_law_1013 (by decide) rfl ?_
      refine V_aload_n (pc := 1015) F dL_law_1015 rfl 4 rfl ?_
      refine V_V (w2 := ((wX7 cy a γ ++ wX8 cy a' ρ') ++ [oc cy ho f])) (rest := []) (st2 := [.int ρ'.1]) (pc := 1016) F 8 (M_X8_thrown l D cy 900 a' ρ' ρ'.1 rfl) (cwV 0 F.ts gL8_thrown rfl rfl rfl hd_X8_thrown ⟨Nat.le_of_ble_eq_true rfl, Nat.le_of_ble_eq_true rfl⟩) rfl dL_law_1016 (Fit.left (Fit.right Fit.whole)) rfl rfl rfl (Nat.le_of_ble_eq_true rfl) hcl hsl rfl rfl rfl ?_
      refine V_iload (pc := 1019) F dL_law_1019 1 rfl ?_
      refine V_icmp_eq (pc := 1021) (tgt := 1026) F dL_law_1021 (by decide) (fun _ => ?_) (fun h => absurd hk h)
      refine V_iload (pc := 1026) F dL_law_1026 1 rfl ?_
      refine V_if_ne (pc := 1028) (tgt := 1043) F dL_law_1028 (by decide) (fun _ => ?_) (fun h => absurd h (by decide))
      refine V_goto (pc := 1043) (tgt := 1526) F dL_law_1043 (by decide) ?_
      refine V.sub (L2 := [(4, .int ii), (3, .ref ho), (2, .ref (a' 0)), (1, .ref (a 0)), (0, .ref b)]) [2, 3, 4, 5, 6] rfl ?_
      exact K γ ρ' f S2
    · exact absurd hE (by simp)
set_option maxHeartbeats 8000000 in
theorem law_direction (hfl : l.stackTraces = false) (F : Fx p s m #[.ref b] meth c cL_law 9 RL nme lw_tbl ret D cy (aL s)) (G : FxL s b n xs) (hcl : cells + 1 ≤ room_1.cells) (hsl : slots + 6 ≤ room_1.slots) (S : SR γ ρ) (i1 : vp_in (ii + 1) n) (i2 : vp_in (ii + 2) n) (i3 : vp_in (ii + 3) n) (K : KL p l e s m below meth c D cy b a a' ho cells slots ii) : V p l e room_1 s m #[.ref b] below meth c 9 D (aL s) cells slots (lw_Z below #[.ref b] s) ((wX7 cy a γ ++ wX8 cy a' ρ) ++ [oc cy ho f]) [(4, .int ii), (3, .ref ho), (2, .ref (a' 0)), (1, .ref (a 0)), (0, .ref b)] [] 1046 := by
  have hc : CSame0 [IAE] γ (fX7_direction 900 γ (xs (ii + 1).toNatClampNeg) (xs (ii + 2).toNatClampNeg)) (fX8_direction 900 ρ (xs (ii + 1).toNatClampNeg) (xs (ii + 2).toNatClampNeg)) := direction_call (m := γ.1) (h := γ.2.1) (tx := γ.2.2.1) (pf := γ.2.2.2) (t := ρ.1) (z := ρ.2.1) (S' := ρ.2.2.1) (kk := ρ.2.2.2.1) (u := ρ.2.2.2.2) S (show 900 ≤ 900 from Nat.le_refl _) (xs (ii + 1).toNatClampNeg) (xs (ii + 2).toNatClampNeg)
  obtain ⟨x, ρ', h8, S2, ⟨hk, h7⟩ | ⟨j, E, hE, hk, h7⟩⟩ := hc
  · refine V_aload_n (pc := 1046) F dL_law_1046 rfl 3 rfl ?_
    refine V_aload_n (pc := 1047) F dL_law_1047 rfl 4 rfl ?_
    refine V_iload (pc := 1048) F dL_law_1048 0 rfl ?_
    refine V_iconst (pc := 1050) (v := 1) F dL_law_1050 rfl ?_
    refine V_iadd (pc := 1051) F dL_law_1051 ?_
    refine V_sld (pc := 1052) F G.2.2.2.1 G.2.2.2.2 G.nb i1 dL_law_1052 ?_
    refine V_aload_n (pc := 1053) F dL_law_1053 rfl 4 rfl ?_
    refine V_iload (pc := 1054) F dL_law_1054 0 rfl ?_
    refine V_iconst (pc := 1056) (v := 2) F dL_law_1056 rfl ?_
    refine V_iadd (pc := 1057) F dL_law_1057 ?_
    refine V_sld (pc := 1058) F G.2.2.2.1 G.2.2.2.2 G.nb i2 dL_law_1058 ?_
    refine V_aload_n (pc := 1059) F dL_law_1059 rfl 1 rfl ?_
    refine V_SW (w2 := ((wX7 cy a γ ++ wX8 cy a' ρ) ++ [oc cy ho (vp_updL f 0 x.toInt64)])) (rest := []) (st2 := [.int 0]) (pc := 1060) F G.1 G.2.1 G.2.2.1 (W_direction l D cy 900 a ho f γ (xs (ii + 1).toNatClampNeg) (xs (ii + 2).toNatClampNeg) x h7) (vx_cwSW 4 F.ts gLS_direction rfl rfl rfl hdL_direction ⟨Nat.le_of_ble_eq_true rfl, Nat.le_of_ble_eq_true rfl⟩) rfl dL_law_1060 (Fit2.both (Fit.left Fit.whole) Fit.whole) rfl rfl (Nat.le_of_ble_eq_true rfl) hcl hsl rfl rfl rfl ?_
    refine V_istore (L2 := [(5, .int 0), (4, .int ii), (3, .ref ho), (2, .ref (a' 0)), (1, .ref (a 0)), (0, .ref b)]) (pc := 1063) F dL_law_1063 (by decide) rfl ?_
    refine V_aload_n (pc := 1065) F dL_law_1065 rfl 3 rfl ?_
    refine V_aload_n (pc := 1066) F dL_law_1066 rfl 5 rfl ?_
    refine V_iload (pc := 1067) F dL_law_1067 1 rfl ?_
    refine V_iconst (pc := 1069) (v := 1) F dL_law_1069 rfl ?_
    refine V_iadd (pc := 1070) F dL_law_1070 ?_
    refine V_sld (pc := 1071) F G.2.2.2.1 G.2.2.2.2 G.nb i1 dL_law_1071 ?_
    refine V_aload_n (pc := 1072) F dL_law_1072 rfl 5 rfl ?_
    refine V_iload (pc := 1073) F dL_law_1073 1 rfl ?_
    refine V_iconst (pc := 1075) (v := 2) F dL_law_1075 rfl ?_
    refine V_iadd (pc := 1076) F dL_law_1076 ?_
    refine V_sld (pc := 1077) F G.2.2.2.1 G.2.2.2.2 G.nb i2 dL_law_1077 ?_
    refine V_V (w2 := ((wX7 cy a γ ++ wX8 cy a' ρ') ++ [oc cy ho (vp_updL f 0 x.toInt64)])) (rest := []) (st2 := [.int x]) (pc := 1078) F 8 (M_X8_direction l D cy 900 a' ρ (xs (ii + 1).toNatClampNeg) (xs (ii + 2).toNatClampNeg) (x, ρ') h8) (cwV 2 F.ts gL8_direction rfl rfl rfl hd_X8_direction ⟨Nat.le_of_ble_eq_true rfl, Nat.le_of_ble_eq_true rfl⟩) rfl dL_law_1078 (Fit.left (Fit.right Fit.whole)) fstX8 rfl rfl (Nat.le_of_ble_eq_true rfl) hcl hsl rfl rfl rfl ?_
    refine V_istore (L2 := [(6, .int x), (5, .int 0), (4, .int ii), (3, .ref ho), (2, .ref (a' 0)), (1, .ref (a 0)), (0, .ref b)]) (pc := 1081) F dL_law_1081 (by decide) rfl ?_
    refine V_aload_n (pc := 1083) F dL_law_1083 rfl 4 rfl ?_
    refine V_V (w2 := ((wX7 cy a γ ++ wX8 cy a' ρ') ++ [oc cy ho (vp_updL f 0 x.toInt64)])) (rest := []) (st2 := [.int ρ'.1]) (pc := 1084) F 8 (M_X8_thrown l D cy 900 a' ρ' ρ'.1 rfl) (cwV 0 F.ts gL8_thrown rfl rfl rfl hd_X8_thrown ⟨Nat.le_of_ble_eq_true rfl, Nat.le_of_ble_eq_true rfl⟩) rfl dL_law_1084 (Fit.left (Fit.right Fit.whole)) rfl rfl rfl (Nat.le_of_ble_eq_true rfl) hcl hsl rfl rfl rfl ?_
    refine V_iload (pc := 1087) F dL_law_1087 1 rfl ?_
    refine V_icmp_eq (pc := 1089) (tgt := 1094) F dL_law_1089 (by decide) (fun _ => ?_) (fun h => absurd hk h)
    refine V_iload (pc := 1094) F dL_law_1094 1 rfl ?_
    refine V_if_ne (pc := 1096) (tgt := 1111) F dL_law_1096 (by decide) (fun h => absurd rfl h) (fun _ => ?_)
    refine V_aload_n (pc := 1099) F dL_law_1099 rfl 3 rfl ?_
    refine V_iconst (pc := 1100) (v := 0) F dL_law_1100 rfl ?_
    refine V_lald (pc := 1101) F ((wX7 cy a γ ++ wX8 cy a' ρ').length + 0) (at_right (k := 0) rfl) (by unfold vp_in; decide) dL_law_1101 ?_
    refine V_iload (pc := 1102) F dL_law_1102 0 rfl ?_
    refine V_i2l (pc := 1104) F dL_law_1104 ?_
    refine V_lcmp (pc := 1105) F dL_law_1105 ?_
    refine V_if_eq (pc := 1106) (tgt := 1111) F dL_law_1106 (by decide) (fun _ => ?_) (fun h => absurd (by rw [vp_upd0]; exact lgc_self _) h)
    refine V_goto (pc := 1111) (tgt := 1526) F dL_law_1111 (by decide) ?_
    refine V.sub (L2 := [(4, .int ii), (3, .ref ho), (2, .ref (a' 0)), (1, .ref (a 0)), (0, .ref b)]) [2, 3, 4, 5, 6] rfl ?_
    exact K γ ρ' (vp_updL f 0 x.toInt64) S2
  · rcases j with _ | j
    · replace hE : E = IAE := (Option.some.inj hE).symm
      replace hk : ρ'.1 = 1 := hk
      refine V_aload_n (pc := 1046) F dL_law_1046 rfl 3 rfl ?_
      refine V_aload_n (pc := 1047) F dL_law_1047 rfl 4 rfl ?_
      refine V_iload (pc := 1048) F dL_law_1048 0 rfl ?_
      refine V_iconst (pc := 1050) (v := 1) F dL_law_1050 rfl ?_
      refine V_iadd (pc := 1051) F dL_law_1051 ?_
      refine V_sld (pc := 1052) F G.2.2.2.1 G.2.2.2.2 G.nb i1 dL_law_1052 ?_
      refine V_aload_n (pc := 1053) F dL_law_1053 rfl 4 rfl ?_
      refine V_iload (pc := 1054) F dL_law_1054 0 rfl ?_
      refine V_iconst (pc := 1056) (v := 2) F dL_law_1056 rfl ?_
      refine V_iadd (pc := 1057) F dL_law_1057 ?_
      refine V_sld (pc := 1058) F G.2.2.2.1 G.2.2.2.2 G.nb i2 dL_law_1058 ?_
      refine V_aload_n (pc := 1059) F dL_law_1059 rfl 1 rfl ?_
      refine V_SW (w2 := ((wX7 cy a γ ++ wX8 cy a' ρ) ++ [oc cy ho f])) (rest := []) (st2 := [.int 1]) (pc := 1060) F G.1 G.2.1 G.2.2.1 (WT_direction_0 l hfl D cy 900 a ho f γ (xs (ii + 1).toNatClampNeg) (xs (ii + 2).toNatClampNeg) E h7 hE) (vx_cwSW 4 F.ts gLS_direction rfl rfl rfl hdL_direction ⟨Nat.le_of_ble_eq_true rfl, Nat.le_of_ble_eq_true rfl⟩) rfl dL_law_1060 (Fit2.both (Fit.left Fit.whole) Fit.whole) rfl rfl (Nat.le_of_ble_eq_true rfl) hcl hsl rfl rfl rfl ?_
      refine V_istore (L2 := [(5, .int 1), (4, .int ii), (3, .ref ho), (2, .ref (a' 0)), (1, .ref (a 0)), (0, .ref b)]) (pc := 1063) F dL_law_1063 (by decide) rfl ?_
      refine V_aload_n (pc := 1065) F dL_law_1065 rfl 3 rfl ?_
      refine V_aload_n (pc := 1066) F dL_law_1066 rfl 5 rfl ?_
      refine V_iload (pc := 1067) F dL_law_1067 1 rfl ?_
      refine V_iconst (pc := 1069) (v := 1) F dL_law_1069 rfl ?_
      refine V_iadd (pc := 1070) F dL_law_1070 ?_
      refine V_sld (pc := 1071) F G.2.2.2.1 G.2.2.2.2 G.nb i1 dL_law_1071 ?_
      refine V_aload_n (pc := 1072) F dL_law_1072 rfl 5 rfl ?_
      refine V_iload (pc := 1073) F dL_law_1073 1 rfl ?_
      refine V_iconst (pc := 1075) (v := 2) F dL_law_1075 rfl ?_
      refine V_iadd (pc := 1076) F dL_law_1076 ?_
      refine V_sld (pc := 1077) F G.2.2.2.1 G.2.2.2.2 G.nb i2 dL_law_1077 ?_
      refine V_V (w2 := ((wX7 cy a γ ++ wX8 cy a' ρ') ++ [oc cy ho f])) (rest := []) (st2 := [.int x]) (pc := 1078) F 8 (M_X8_direction l D cy 900 a' ρ (xs (ii + 1).toNatClampNeg) (xs (ii + 2).toNatClampNeg) (x, ρ') h8) (cwV 2 F.ts gL8_direction rfl rfl rfl hd_X8_direction ⟨Nat.le_of_ble_eq_true rfl, Nat.le_of_ble_eq_true rfl⟩) rfl dL_law_1078 (Fit.left (Fit.right Fit.whole)) fstX8 rfl rfl (Nat.le_of_ble_eq_true rfl) hcl hsl rfl rfl rfl ?_
      refine V_istore (L2 := [(6, .int x), (5, .int 1), (4, .int ii), (3, .ref ho), (2, .ref (a' 0)), (1, .ref (a 0)), (0, .ref b)]) (pc := 1081) F dL_law_1081 (by decide) rfl ?_
      refine V_aload_n (pc := 1083) F dL_law_1083 rfl 4 rfl ?_
      refine V_V (w2 := ((wX7 cy a γ ++ wX8 cy a' ρ') ++ [oc cy ho f])) (rest := []) (st2 := [.int ρ'.1]) (pc := 1084) F 8 (M_X8_thrown l D cy 900 a' ρ' ρ'.1 rfl) (cwV 0 F.ts gL8_thrown rfl rfl rfl hd_X8_thrown ⟨Nat.le_of_ble_eq_true rfl, Nat.le_of_ble_eq_true rfl⟩) rfl dL_law_1084 (Fit.left (Fit.right Fit.whole)) rfl rfl rfl (Nat.le_of_ble_eq_true rfl) hcl hsl rfl rfl rfl ?_
      refine V_iload (pc := 1087) F dL_law_1087 1 rfl ?_
      refine V_icmp_eq (pc := 1089) (tgt := 1094) F dL_law_1089 (by decide) (fun _ => ?_) (fun h => absurd hk h)
      refine V_iload (pc := 1094) F dL_law_1094 1 rfl ?_
      refine V_if_ne (pc := 1096) (tgt := 1111) F dL_law_1096 (by decide) (fun _ => ?_) (fun h => absurd h (by decide))
      refine V_goto (pc := 1111) (tgt := 1526) F dL_law_1111 (by decide) ?_
      refine V.sub (L2 := [(4, .int ii), (3, .ref ho), (2, .ref (a' 0)), (1, .ref (a 0)), (0, .ref b)]) [2, 3, 4, 5, 6] rfl ?_
      exact K γ ρ' f S2
    · exact absurd hE (by simp)
set_option maxHeartbeats 8000000 in
theorem law_count (hfl : l.stackTraces = false) (F : Fx p s m #[.ref b] meth c cL_law 9 RL nme lw_tbl ret D cy (aL s)) (G : FxL s b n xs) (hcl : cells + 1 ≤ room_1.cells) (hsl : slots + 6 ≤ room_1.slots) (S : SR γ ρ) (i1 : vp_in (ii + 1) n) (i2 : vp_in (ii + 2) n) (i3 : vp_in (ii + 3) n) (K : KL p l e s m below meth c D cy b a a' ho cells slots ii) : V p l e room_1 s m #[.ref b] below meth c 9 D (aL s) cells slots (lw_Z below #[.ref b] s) ((wX7 cy a γ ++ wX8 cy a' ρ) ++ [oc cy ho f]) [(4, .int ii), (3, .ref ho), (2, .ref (a' 0)), (1, .ref (a 0)), (0, .ref b)] [] 1114 := by
  have hc : CSame [IAE] (fX7_count 900 γ (xs (ii + 1).toNatClampNeg)) (fX8_count 900 ρ (xs (ii + 1).toNatClampNeg)) := count_call (m := γ.1) (h := γ.2.1) (tx := γ.2.2.1) (pf := γ.2.2.2) (t := ρ.1) (z := ρ.2.1) (S' := ρ.2.2.1) (kk := ρ.2.2.2.1) (u := ρ.2.2.2.2) S (show 900 ≤ 900 from Nat.le_refl _) (xs (ii + 1).toNatClampNeg)
  obtain ⟨x, ρ', h8, ⟨hk, γ', h7, S2⟩ | ⟨j, E, γ', hE, hk, h7, S2⟩⟩ := hc
  · refine V_aload_n (pc := 1114) F dL_law_1114 rfl 3 rfl ?_
    refine V_aload_n (pc := 1115) F dL_law_1115 rfl 4 rfl ?_
    refine V_iload (pc := 1116) F dL_law_1116 0 rfl ?_
    refine V_iconst (pc := 1118) (v := 1) F dL_law_1118 rfl ?_
    refine V_iadd (pc := 1119) F dL_law_1119 ?_
    refine V_sld (pc := 1120) F G.2.2.2.1 G.2.2.2.2 G.nb i1 dL_law_1120 ?_
    refine V_aload_n (pc := 1121) F dL_law_1121 rfl 1 rfl ?_
    refine V_SW (w2 := ((wX7 cy a γ' ++ wX8 cy a' ρ) ++ [oc cy ho (vp_updL f 0 x.toInt64)])) (rest := []) (st2 := [.int 0]) (pc := 1122) F G.1 G.2.1 G.2.2.1 (W_count l D cy 900 a ho f γ (xs (ii + 1).toNatClampNeg) (x, γ') h7) (vx_cwSW 3 F.ts gLS_count rfl rfl rfl hdL_count ⟨Nat.le_of_ble_eq_true rfl, Nat.le_of_ble_eq_true rfl⟩) rfl dL_law_1122 (Fit2.both (Fit.left Fit.whole) Fit.whole) fstX7 rfl (Nat.le_of_ble_eq_true rfl) hcl hsl rfl rfl rfl ?_
    refine V_istore (L2 := [(5, .int 0), (4, .int ii), (3, .ref ho), (2, .ref (a' 0)), (1, .ref (a 0)), (0, .ref b)]) (pc := 1125) F dL_law_1125 (by decide) rfl ?_
    refine V_aload_n (pc := 1127) F dL_law_1127 rfl 3 rfl ?_
    refine V_aload_n (pc := 1128) F dL_law_1128 rfl 5 rfl ?_
    refine V_iload (pc := 1129) F dL_law_1129 1 rfl ?_
    refine V_iconst (pc := 1131) (v := 1) F dL_law_1131 rfl ?_
    refine V_iadd (pc := 1132) F dL_law_1132 ?_
    refine V_sld (pc := 1133) F G.2.2.2.1 G.2.2.2.2 G.nb i1 dL_law_1133 ?_
    refine V_V (w2 := ((wX7 cy a γ' ++ wX8 cy a' ρ') ++ [oc cy ho (vp_updL f 0 x.toInt64)])) (rest := []) (st2 := [.int x]) (pc := 1134) F 8 (M_X8_count l D cy 900 a' ρ (xs (ii + 1).toNatClampNeg) (x, ρ') h8) (cwV 1 F.ts gL8_count rfl rfl rfl hd_X8_count ⟨Nat.le_of_ble_eq_true rfl, Nat.le_of_ble_eq_true rfl⟩) rfl dL_law_1134 (Fit.left (Fit.right Fit.whole)) fstX8 rfl rfl (Nat.le_of_ble_eq_true rfl) hcl hsl rfl rfl rfl ?_
    refine V_istore (L2 := [(6, .int x), (5, .int 0), (4, .int ii), (3, .ref ho), (2, .ref (a' 0)), (1, .ref (a 0)), (0, .ref b)]) (pc := 1137) F dL_law_1137 (by decide) rfl ?_
    refine V_aload_n (pc := 1139) F dL_law_1139 rfl 4 rfl ?_
    refine V_V (w2 := ((wX7 cy a γ' ++ wX8 cy a' ρ') ++ [oc cy ho (vp_updL f 0 x.toInt64)])) (rest := []) (st2 := [.int ρ'.1]) (pc := 1140) F 8 (M_X8_thrown l D cy 900 a' ρ' ρ'.1 rfl) (cwV 0 F.ts gL8_thrown rfl rfl rfl hd_X8_thrown ⟨Nat.le_of_ble_eq_true rfl, Nat.le_of_ble_eq_true rfl⟩) rfl dL_law_1140 (Fit.left (Fit.right Fit.whole)) rfl rfl rfl (Nat.le_of_ble_eq_true rfl) hcl hsl rfl rfl rfl ?_
    refine V_iload (pc := 1143) F dL_law_1143 1 rfl ?_
    refine V_icmp_eq (pc := 1145) (tgt := 1150) F dL_law_1145 (by decide) (fun _ => ?_) (fun h => absurd hk h)
    refine V_iload (pc := 1150) F dL_law_1150 1 rfl ?_
    refine V_if_ne (pc := 1152) (tgt := 1167) F dL_law_1152 (by decide) (fun h => absurd rfl h) (fun _ => ?_)
    refine V_aload_n (pc := 1155) F dL_law_1155 rfl 3 rfl ?_
    refine V_iconst (pc := 1156) (v := 0) F dL_law_1156 rfl ?_
    refine V_lald (pc := 1157) F ((wX7 cy a γ' ++ wX8 cy a' ρ').length + 0) (at_right (k := 0) rfl) (by unfold vp_in; decide) dL_law_1157 ?_
    refine V_iload (pc := 1158) F dL_law_1158 0 rfl ?_
    refine V_i2l (pc := 1160) F dL_law_1160 ?_
    refine V_lcmp (pc := 1161) F dL_law_1161 ?_
    refine V_if_eq (pc := 1162) (tgt := 1167) F dL_law_1162 (by decide) (fun _ => ?_) (fun h => absurd (by rw [vp_upd0]; exact lgc_self _) h)
    refine V_goto (pc := 1167) (tgt := 1526) F dL_law_1167 (by decide) ?_
    refine V.sub (L2 := [(4, .int ii), (3, .ref ho), (2, .ref (a' 0)), (1, .ref (a 0)), (0, .ref b)]) [2, 3, 4, 5, 6] rfl ?_
    exact K γ' ρ' (vp_updL f 0 x.toInt64) S2
  · rcases j with _ | j
    · replace hE : E = IAE := (Option.some.inj hE).symm
      replace hk : ρ'.1 = 1 := hk
      refine V_aload_n (pc := 1114) F dL_law_1114 rfl 3 rfl ?_
      refine V_aload_n (pc := 1115) F dL_law_1115 rfl 4 rfl ?_
      refine V_iload (pc := 1116) F dL_law_1116 0 rfl ?_
      refine V_iconst (pc := 1118) (v := 1) F dL_law_1118 rfl ?_
      refine V_iadd (pc := 1119) F dL_law_1119 ?_
      refine V_sld (pc := 1120) F G.2.2.2.1 G.2.2.2.2 G.nb i1 dL_law_1120 ?_
      refine V_aload_n (pc := 1121) F dL_law_1121 rfl 1 rfl ?_
      refine V_SW (w2 := ((wX7 cy a γ' ++ wX8 cy a' ρ) ++ [oc cy ho f])) (rest := []) (st2 := [.int 1]) (pc := 1122) F G.1 G.2.1 G.2.2.1 (WT_count_0 l hfl D cy 900 a ho f γ (xs (ii + 1).toNatClampNeg) E γ' h7 hE) (vx_cwSW 3 F.ts gLS_count rfl rfl rfl hdL_count ⟨Nat.le_of_ble_eq_true rfl, Nat.le_of_ble_eq_true rfl⟩) rfl dL_law_1122 (Fit2.both (Fit.left Fit.whole) Fit.whole) fstX7 rfl (Nat.le_of_ble_eq_true rfl) hcl hsl rfl rfl rfl ?_
      refine V_istore (L2 := [(5, .int 1), (4, .int ii), (3, .ref ho), (2, .ref (a' 0)), (1, .ref (a 0)), (0, .ref b)]) (pc := 1125) F dL_law_1125 (by decide) rfl ?_
      refine V_aload_n (pc := 1127) F dL_law_1127 rfl 3 rfl ?_
      refine V_aload_n (pc := 1128) F dL_law_1128 rfl 5 rfl ?_
      refine V_iload (pc := 1129) F dL_law_1129 1 rfl ?_
      refine V_iconst (pc := 1131) (v := 1) F dL_law_1131 rfl ?_
      refine V_iadd (pc := 1132) F dL_law_1132 ?_
      refine V_sld (pc := 1133) F G.2.2.2.1 G.2.2.2.2 G.nb i1 dL_law_1133 ?_
      refine V_V (w2 := ((wX7 cy a γ' ++ wX8 cy a' ρ') ++ [oc cy ho f])) (rest := []) (st2 := [.int x]) (pc := 1134) F 8 (M_X8_count l D cy 900 a' ρ (xs (ii + 1).toNatClampNeg) (x, ρ') h8) (cwV 1 F.ts gL8_count rfl rfl rfl hd_X8_count ⟨Nat.le_of_ble_eq_true rfl, Nat.le_of_ble_eq_true rfl⟩) rfl dL_law_1134 (Fit.left (Fit.right Fit.whole)) fstX8 rfl rfl (Nat.le_of_ble_eq_true rfl) hcl hsl rfl rfl rfl ?_
      refine V_istore (L2 := [(6, .int x), (5, .int 1), (4, .int ii), (3, .ref ho), (2, .ref (a' 0)), (1, .ref (a 0)), (0, .ref b)]) (pc := 1137) F dL_law_1137 (by decide) rfl ?_
      refine V_aload_n (pc := 1139) F dL_law_1139 rfl 4 rfl ?_
      refine V_V (w2 := ((wX7 cy a γ' ++ wX8 cy a' ρ') ++ [oc cy ho f])) (rest := []) (st2 := [.int ρ'.1]) (pc := 1140) F 8 (M_X8_thrown l D cy 900 a' ρ' ρ'.1 rfl) (cwV 0 F.ts gL8_thrown rfl rfl rfl hd_X8_thrown ⟨Nat.le_of_ble_eq_true rfl, Nat.le_of_ble_eq_true rfl⟩) rfl dL_law_1140 (Fit.left (Fit.right Fit.whole)) rfl rfl rfl (Nat.le_of_ble_eq_true rfl) hcl hsl rfl rfl rfl ?_
      refine V_iload (pc := 1143) F dL_law_1143 1 rfl ?_
      refine V_icmp_eq (pc := 1145) (tgt := 1150) F dL_law_1145 (by decide) (fun _ => ?_) (fun h => absurd hk h)
      refine V_iload (pc := 1150) F dL_law_1150 1 rfl ?_
      refine V_if_ne (pc := 1152) (tgt := 1167) F dL_law_1152 (by decide) (fun _ => ?_) (fun h => absurd h (by decide))
      refine V_goto (pc := 1167) (tgt := 1526) F dL_law_1167 (by decide) ?_
      refine V.sub (L2 := [(4, .int ii), (3, .ref ho), (2, .ref (a' 0)), (1, .ref (a 0)), (0, .ref b)]) [2, 3, 4, 5, 6] rfl ?_
      exact K γ' ρ' f S2
    · exact absurd hE (by simp)
set_option maxHeartbeats 8000000 in
theorem law_starves (hfl : l.stackTraces = false) (F : Fx p s m #[.ref b] meth c cL_law 9 RL nme lw_tbl ret D cy (aL s)) (G : FxL s b n xs) (hcl : cells + 1 ≤ room_1.cells) (hsl : slots + 6 ≤ room_1.slots) (S : SR γ ρ) (i1 : vp_in (ii + 1) n) (i2 : vp_in (ii + 2) n) (i3 : vp_in (ii + 3) n) (K : KL p l e s m below meth c D cy b a a' ho cells slots ii) : V p l e room_1 s m #[.ref b] below meth c 9 D (aL s) cells slots (lw_Z below #[.ref b] s) ((wX7 cy a γ ++ wX8 cy a' ρ) ++ [oc cy ho f]) [(4, .int ii), (3, .ref ho), (2, .ref (a' 0)), (1, .ref (a 0)), (0, .ref b)] [] 1170 := by
  have hc : CSame [IOB, IAE] (fX7_starves 900 γ (xs (ii + 1).toNatClampNeg) (xs (ii + 2).toNatClampNeg)) (fX8_starves 900 ρ (xs (ii + 1).toNatClampNeg) (xs (ii + 2).toNatClampNeg)) := starves_call (m := γ.1) (h := γ.2.1) (tx := γ.2.2.1) (pf := γ.2.2.2) (t := ρ.1) (z := ρ.2.1) (S' := ρ.2.2.1) (kk := ρ.2.2.2.1) (u := ρ.2.2.2.2) S (show 900 ≤ 900 from Nat.le_refl _) (xs (ii + 1).toNatClampNeg) (xs (ii + 2).toNatClampNeg)
  obtain ⟨x, ρ', h8, ⟨hk, γ', h7, S2⟩ | ⟨j, E, γ', hE, hk, h7, S2⟩⟩ := hc
  · refine V_aload_n (pc := 1170) F dL_law_1170 rfl 3 rfl ?_
    refine V_aload_n (pc := 1171) F dL_law_1171 rfl 4 rfl ?_
    refine V_iload (pc := 1172) F dL_law_1172 0 rfl ?_
    refine V_iconst (pc := 1174) (v := 1) F dL_law_1174 rfl ?_
    refine V_iadd (pc := 1175) F dL_law_1175 ?_
    refine V_sld (pc := 1176) F G.2.2.2.1 G.2.2.2.2 G.nb i1 dL_law_1176 ?_
    refine V_aload_n (pc := 1177) F dL_law_1177 rfl 4 rfl ?_
    refine V_iload (pc := 1178) F dL_law_1178 0 rfl ?_
    refine V_iconst (pc := 1180) (v := 2) F dL_law_1180 rfl ?_
    refine V_iadd (pc := 1181) F dL_law_1181 ?_
    refine V_sld (pc := 1182) F G.2.2.2.1 G.2.2.2.2 G.nb i2 dL_law_1182 ?_
    refine V_aload_n (pc := 1183) F dL_law_1183 rfl 1 rfl ?_
    refine V_SW (w2 := ((wX7 cy a γ' ++ wX8 cy a' ρ) ++ [oc cy ho (vp_updL f 0 x.toInt64)])) (rest := []) (st2 := [.int 0]) (pc := 1184) F G.1 G.2.1 G.2.2.1 (W_starves l D cy 900 a ho f γ (xs (ii + 1).toNatClampNeg) (xs (ii + 2).toNatClampNeg) (x, γ') h7) (vx_cwSW 4 F.ts gLS_starves rfl rfl rfl hdL_starves ⟨Nat.le_of_ble_eq_true rfl, Nat.le_of_ble_eq_true rfl⟩) rfl dL_law_1184 (Fit2.both (Fit.left Fit.whole) Fit.whole) fstX7 rfl (Nat.le_of_ble_eq_true rfl) hcl hsl rfl rfl rfl ?_
    refine V_istore (L2 := [(5, .int 0), (4, .int ii), (3, .ref ho), (2, .ref (a' 0)), (1, .ref (a 0)), (0, .ref b)]) (pc := 1187) F dL_law_1187 (by decide) rfl ?_
    refine V_aload_n (pc := 1189) F dL_law_1189 rfl 3 rfl ?_
    refine V_aload_n (pc := 1190) F dL_law_1190 rfl 5 rfl ?_
    refine V_iload (pc := 1191) F dL_law_1191 1 rfl ?_
    refine V_iconst (pc := 1193) (v := 1) F dL_law_1193 rfl ?_
    refine V_iadd (pc := 1194) F dL_law_1194 ?_
    refine V_sld (pc := 1195) F G.2.2.2.1 G.2.2.2.2 G.nb i1 dL_law_1195 ?_
    refine V_aload_n (pc := 1196) F dL_law_1196 rfl 5 rfl ?_
    refine V_iload (pc := 1197) F dL_law_1197 1 rfl ?_
    refine V_iconst (pc := 1199) (v := 2) F dL_law_1199 rfl ?_
    refine V_iadd (pc := 1200) F dL_law_1200 ?_
    refine V_sld (pc := 1201) F G.2.2.2.1 G.2.2.2.2 G.nb i2 dL_law_1201 ?_
    refine V_V (w2 := ((wX7 cy a γ' ++ wX8 cy a' ρ') ++ [oc cy ho (vp_updL f 0 x.toInt64)])) (rest := []) (st2 := [.int x]) (pc := 1202) F 8 (M_X8_starves l D cy 900 a' ρ (xs (ii + 1).toNatClampNeg) (xs (ii + 2).toNatClampNeg) (x, ρ') h8) (cwV 2 F.ts gL8_starves rfl rfl rfl hd_X8_starves ⟨Nat.le_of_ble_eq_true rfl, Nat.le_of_ble_eq_true rfl⟩) rfl dL_law_1202 (Fit.left (Fit.right Fit.whole)) fstX8 rfl rfl (Nat.le_of_ble_eq_true rfl) hcl hsl rfl rfl rfl ?_
    refine V_istore (L2 := [(6, .int x), (5, .int 0), (4, .int ii), (3, .ref ho), (2, .ref (a' 0)), (1, .ref (a 0)), (0, .ref b)]) (pc := 1205) F dL_law_1205 (by decide) rfl ?_
    refine V_aload_n (pc := 1207) F dL_law_1207 rfl 4 rfl ?_
    refine V_V (w2 := ((wX7 cy a γ' ++ wX8 cy a' ρ') ++ [oc cy ho (vp_updL f 0 x.toInt64)])) (rest := []) (st2 := [.int ρ'.1]) (pc := 1208) F 8 (M_X8_thrown l D cy 900 a' ρ' ρ'.1 rfl) (cwV 0 F.ts gL8_thrown rfl rfl rfl hd_X8_thrown ⟨Nat.le_of_ble_eq_true rfl, Nat.le_of_ble_eq_true rfl⟩) rfl dL_law_1208 (Fit.left (Fit.right Fit.whole)) rfl rfl rfl (Nat.le_of_ble_eq_true rfl) hcl hsl rfl rfl rfl ?_
    refine V_iload (pc := 1211) F dL_law_1211 1 rfl ?_
    refine V_icmp_eq (pc := 1213) (tgt := 1218) F dL_law_1213 (by decide) (fun _ => ?_) (fun h => absurd hk h)
    refine V_iload (pc := 1218) F dL_law_1218 1 rfl ?_
    refine V_if_ne (pc := 1220) (tgt := 1235) F dL_law_1220 (by decide) (fun h => absurd rfl h) (fun _ => ?_)
    refine V_aload_n (pc := 1223) F dL_law_1223 rfl 3 rfl ?_
    refine V_iconst (pc := 1224) (v := 0) F dL_law_1224 rfl ?_
    refine V_lald (pc := 1225) F ((wX7 cy a γ' ++ wX8 cy a' ρ').length + 0) (at_right (k := 0) rfl) (by unfold vp_in; decide) dL_law_1225 ?_
    refine V_iload (pc := 1226) F dL_law_1226 0 rfl ?_
    refine V_i2l (pc := 1228) F dL_law_1228 ?_
    refine V_lcmp (pc := 1229) F dL_law_1229 ?_
    refine V_if_eq (pc := 1230) (tgt := 1235) F dL_law_1230 (by decide) (fun _ => ?_) (fun h => absurd (by rw [vp_upd0]; exact lgc_self _) h)
    refine V_goto (pc := 1235) (tgt := 1526) F dL_law_1235 (by decide) ?_
    refine V.sub (L2 := [(4, .int ii), (3, .ref ho), (2, .ref (a' 0)), (1, .ref (a 0)), (0, .ref b)]) [2, 3, 4, 5, 6] rfl ?_
    exact K γ' ρ' (vp_updL f 0 x.toInt64) S2
  · rcases j with _ | _ | j
    · replace hE : E = IOB := (Option.some.inj hE).symm
      replace hk : ρ'.1 = 1 := hk
      refine V_aload_n (pc := 1170) F dL_law_1170 rfl 3 rfl ?_
      refine V_aload_n (pc := 1171) F dL_law_1171 rfl 4 rfl ?_
      refine V_iload (pc := 1172) F dL_law_1172 0 rfl ?_
      refine V_iconst (pc := 1174) (v := 1) F dL_law_1174 rfl ?_
      refine V_iadd (pc := 1175) F dL_law_1175 ?_
      refine V_sld (pc := 1176) F G.2.2.2.1 G.2.2.2.2 G.nb i1 dL_law_1176 ?_
      refine V_aload_n (pc := 1177) F dL_law_1177 rfl 4 rfl ?_
      refine V_iload (pc := 1178) F dL_law_1178 0 rfl ?_
      refine V_iconst (pc := 1180) (v := 2) F dL_law_1180 rfl ?_
      refine V_iadd (pc := 1181) F dL_law_1181 ?_
      refine V_sld (pc := 1182) F G.2.2.2.1 G.2.2.2.2 G.nb i2 dL_law_1182 ?_
      refine V_aload_n (pc := 1183) F dL_law_1183 rfl 1 rfl ?_
      refine V_SW (w2 := ((wX7 cy a γ' ++ wX8 cy a' ρ) ++ [oc cy ho f])) (rest := []) (st2 := [.int 1]) (pc := 1184) F G.1 G.2.1 G.2.2.1 (WT_starves_0 l hfl D cy 900 a ho f γ (xs (ii + 1).toNatClampNeg) (xs (ii + 2).toNatClampNeg) E γ' h7 hE) (vx_cwSW 4 F.ts gLS_starves rfl rfl rfl hdL_starves ⟨Nat.le_of_ble_eq_true rfl, Nat.le_of_ble_eq_true rfl⟩) rfl dL_law_1184 (Fit2.both (Fit.left Fit.whole) Fit.whole) fstX7 rfl (Nat.le_of_ble_eq_true rfl) hcl hsl rfl rfl rfl ?_
      refine V_istore (L2 := [(5, .int 1), (4, .int ii), (3, .ref ho), (2, .ref (a' 0)), (1, .ref (a 0)), (0, .ref b)]) (pc := 1187) F dL_law_1187 (by decide) rfl ?_
      refine V_aload_n (pc := 1189) F dL_law_1189 rfl 3 rfl ?_
      refine V_aload_n (pc := 1190) F dL_law_1190 rfl 5 rfl ?_
      refine V_iload (pc := 1191) F dL_law_1191 1 rfl ?_
      refine V_iconst (pc := 1193) (v := 1) F dL_law_1193 rfl ?_
      refine V_iadd (pc := 1194) F dL_law_1194 ?_
      refine V_sld (pc := 1195) F G.2.2.2.1 G.2.2.2.2 G.nb i1 dL_law_1195 ?_
      refine V_aload_n (pc := 1196) F dL_law_1196 rfl 5 rfl ?_
      refine V_iload (pc := 1197) F dL_law_1197 1 rfl ?_
      refine V_iconst (pc := 1199) (v := 2) F dL_law_1199 rfl ?_
      refine V_iadd (pc := 1200) F dL_law_1200 ?_
      refine V_sld (pc := 1201) F G.2.2.2.1 G.2.2.2.2 G.nb i2 dL_law_1201 ?_
      refine V_V (w2 := ((wX7 cy a γ' ++ wX8 cy a' ρ') ++ [oc cy ho f])) (rest := []) (st2 := [.int x]) (pc := 1202) F 8 (M_X8_starves l D cy 900 a' ρ (xs (ii + 1).toNatClampNeg) (xs (ii + 2).toNatClampNeg) (x, ρ') h8) (cwV 2 F.ts gL8_starves rfl rfl rfl hd_X8_starves ⟨Nat.le_of_ble_eq_true rfl, Nat.le_of_ble_eq_true rfl⟩) rfl dL_law_1202 (Fit.left (Fit.right Fit.whole)) fstX8 rfl rfl (Nat.le_of_ble_eq_true rfl) hcl hsl rfl rfl rfl ?_
      refine V_istore (L2 := [(6, .int x), (5, .int 1), (4, .int ii), (3, .ref ho), (2, .ref (a' 0)), (1, .ref (a 0)), (0, .ref b)]) (pc := 1205) F dL_law_1205 (by decide) rfl ?_
      refine V_aload_n (pc := 1207) F dL_law_1207 rfl 4 rfl ?_
      refine V_V (w2 := ((wX7 cy a γ' ++ wX8 cy a' ρ') ++ [oc cy ho f])) (rest := []) (st2 := [.int ρ'.1]) (pc := 1208) F 8 (M_X8_thrown l D cy 900 a' ρ' ρ'.1 rfl) (cwV 0 F.ts gL8_thrown rfl rfl rfl hd_X8_thrown ⟨Nat.le_of_ble_eq_true rfl, Nat.le_of_ble_eq_true rfl⟩) rfl dL_law_1208 (Fit.left (Fit.right Fit.whole)) rfl rfl rfl (Nat.le_of_ble_eq_true rfl) hcl hsl rfl rfl rfl ?_
      refine V_iload (pc := 1211) F dL_law_1211 1 rfl ?_
      refine V_icmp_eq (pc := 1213) (tgt := 1218) F dL_law_1213 (by decide) (fun _ => ?_) (fun h => absurd hk h)
      refine V_iload (pc := 1218) F dL_law_1218 1 rfl ?_
      refine V_if_ne (pc := 1220) (tgt := 1235) F dL_law_1220 (by decide) (fun _ => ?_) (fun h => absurd h (by decide))
      refine V_goto (pc := 1235) (tgt := 1526) F dL_law_1235 (by decide) ?_
      refine V.sub (L2 := [(4, .int ii), (3, .ref ho), (2, .ref (a' 0)), (1, .ref (a 0)), (0, .ref b)]) [2, 3, 4, 5, 6] rfl ?_
      exact K γ' ρ' f S2
    · replace hE : E = IAE := (Option.some.inj hE).symm
      replace hk : ρ'.1 = 2 := hk
      refine V_aload_n (pc := 1170) F dL_law_1170 rfl 3 rfl ?_
      refine V_aload_n (pc := 1171) F dL_law_1171 rfl 4 rfl ?_
      refine V_iload (pc := 1172) F dL_law_1172 0 rfl ?_
      refine V_iconst (pc := 1174) (v := 1) F dL_law_1174 rfl ?_
      refine V_iadd (pc := 1175) F dL_law_1175 ?_
      refine V_sld (pc := 1176) F G.2.2.2.1 G.2.2.2.2 G.nb i1 dL_law_1176 ?_
      refine V_aload_n (pc := 1177) F dL_law_1177 rfl 4 rfl ?_
      refine V_iload (pc := 1178) F dL_law_1178 0 rfl ?_
      refine V_iconst (pc := 1180) (v := 2) F dL_law_1180 rfl ?_
      refine V_iadd (pc := 1181) F dL_law_1181 ?_
      refine V_sld (pc := 1182) F G.2.2.2.1 G.2.2.2.2 G.nb i2 dL_law_1182 ?_
      refine V_aload_n (pc := 1183) F dL_law_1183 rfl 1 rfl ?_
      refine V_SW (w2 := ((wX7 cy a γ' ++ wX8 cy a' ρ) ++ [oc cy ho f])) (rest := []) (st2 := [.int 2]) (pc := 1184) F G.1 G.2.1 G.2.2.1 (WT_starves_1 l hfl D cy 900 a ho f γ (xs (ii + 1).toNatClampNeg) (xs (ii + 2).toNatClampNeg) E γ' h7 hE) (vx_cwSW 4 F.ts gLS_starves rfl rfl rfl hdL_starves ⟨Nat.le_of_ble_eq_true rfl, Nat.le_of_ble_eq_true rfl⟩) rfl dL_law_1184 (Fit2.both (Fit.left Fit.whole) Fit.whole) fstX7 rfl (Nat.le_of_ble_eq_true rfl) hcl hsl rfl rfl rfl ?_
      refine V_istore (L2 := [(5, .int 2), (4, .int ii), (3, .ref ho), (2, .ref (a' 0)), (1, .ref (a 0)), (0, .ref b)]) (pc := 1187) F dL_law_1187 (by decide) rfl ?_
      refine V_aload_n (pc := 1189) F dL_law_1189 rfl 3 rfl ?_
      refine V_aload_n (pc := 1190) F dL_law_1190 rfl 5 rfl ?_
      refine V_iload (pc := 1191) F dL_law_1191 1 rfl ?_
      refine V_iconst (pc := 1193) (v := 1) F dL_law_1193 rfl ?_
      refine V_iadd (pc := 1194) F dL_law_1194 ?_
      refine V_sld (pc := 1195) F G.2.2.2.1 G.2.2.2.2 G.nb i1 dL_law_1195 ?_
      refine V_aload_n (pc := 1196) F dL_law_1196 rfl 5 rfl ?_
      refine V_iload (pc := 1197) F dL_law_1197 1 rfl ?_
      refine V_iconst (pc := 1199) (v := 2) F dL_law_1199 rfl ?_
      refine V_iadd (pc := 1200) F dL_law_1200 ?_
      refine V_sld (pc := 1201) F G.2.2.2.1 G.2.2.2.2 G.nb i2 dL_law_1201 ?_
      refine V_V (w2 := ((wX7 cy a γ' ++ wX8 cy a' ρ') ++ [oc cy ho f])) (rest := []) (st2 := [.int x]) (pc := 1202) F 8 (M_X8_starves l D cy 900 a' ρ (xs (ii + 1).toNatClampNeg) (xs (ii + 2).toNatClampNeg) (x, ρ') h8) (cwV 2 F.ts gL8_starves rfl rfl rfl hd_X8_starves ⟨Nat.le_of_ble_eq_true rfl, Nat.le_of_ble_eq_true rfl⟩) rfl dL_law_1202 (Fit.left (Fit.right Fit.whole)) fstX8 rfl rfl (Nat.le_of_ble_eq_true rfl) hcl hsl rfl rfl rfl ?_
      refine V_istore (L2 := [(6, .int x), (5, .int 2), (4, .int ii), (3, .ref ho), (2, .ref (a' 0)), (1, .ref (a 0)), (0, .ref b)]) (pc := 1205) F dL_law_1205 (by decide) rfl ?_
      refine V_aload_n (pc := 1207) F dL_law_1207 rfl 4 rfl ?_
      refine V_V (w2 := ((wX7 cy a γ' ++ wX8 cy a' ρ') ++ [oc cy ho f])) (rest := []) (st2 := [.int ρ'.1]) (pc := 1208) F 8 (M_X8_thrown l D cy 900 a' ρ' ρ'.1 rfl) (cwV 0 F.ts gL8_thrown rfl rfl rfl hd_X8_thrown ⟨Nat.le_of_ble_eq_true rfl, Nat.le_of_ble_eq_true rfl⟩) rfl dL_law_1208 (Fit.left (Fit.right Fit.whole)) rfl rfl rfl (Nat.le_of_ble_eq_true rfl) hcl hsl rfl rfl rfl ?_
      refine V_iload (pc := 1211) F dL_law_1211 1 rfl ?_
      refine V_icmp_eq (pc := 1213) (tgt := 1218) F dL_law_1213 (by decide) (fun _ => ?_) (fun h => absurd hk h)
      refine V_iload (pc := 1218) F dL_law_1218 1 rfl ?_
      refine V_if_ne (pc := 1220) (tgt := 1235) F dL_law_1220 (by decide) (fun _ => ?_) (fun h => absurd h (by decide))
      refine V_goto (pc := 1235) (tgt := 1526) F dL_law_1235 (by decide) ?_
      refine V.sub (L2 := [(4, .int ii), (3, .ref ho), (2, .ref (a' 0)), (1, .ref (a 0)), (0, .ref b)]) [2, 3, 4, 5, 6] rfl ?_
      exact K γ' ρ' f S2
    · exact absurd hE (by simp)
set_option maxHeartbeats 8000000 in
theorem law_rounds (hfl : l.stackTraces = false) (F : Fx p s m #[.ref b] meth c cL_law 9 RL nme lw_tbl ret D cy (aL s)) (G : FxL s b n xs) (hcl : cells + 1 ≤ room_1.cells) (hsl : slots + 6 ≤ room_1.slots) (S : SR γ ρ) (i1 : vp_in (ii + 1) n) (i2 : vp_in (ii + 2) n) (i3 : vp_in (ii + 3) n) (K : KL p l e s m below meth c D cy b a a' ho cells slots ii) : V p l e room_1 s m #[.ref b] below meth c 9 D (aL s) cells slots (lw_Z below #[.ref b] s) ((wX7 cy a γ ++ wX8 cy a' ρ) ++ [oc cy ho f]) [(4, .int ii), (3, .ref ho), (2, .ref (a' 0)), (1, .ref (a 0)), (0, .ref b)] [] 1238 := by
  have hc : CSame [IAE] (fX7_rounds 900 γ (xs (ii + 1).toNatClampNeg)) (fX8_rounds 900 ρ (xs (ii + 1).toNatClampNeg)) := rounds_call (m := γ.1) (h := γ.2.1) (tx := γ.2.2.1) (pf := γ.2.2.2) (t := ρ.1) (z := ρ.2.1) (S' := ρ.2.2.1) (kk := ρ.2.2.2.1) (u := ρ.2.2.2.2) S (show 900 ≤ 900 from Nat.le_refl _) (xs (ii + 1).toNatClampNeg)
  obtain ⟨x, ρ', h8, ⟨hk, γ', h7, S2⟩ | ⟨j, E, γ', hE, hk, h7, S2⟩⟩ := hc
  · refine V_aload_n (pc := 1238) F dL_law_1238 rfl 3 rfl ?_
    refine V_aload_n (pc := 1239) F dL_law_1239 rfl 4 rfl ?_
    refine V_iload (pc := 1240) F dL_law_1240 0 rfl ?_
    refine V_iconst (pc := 1242) (v := 1) F dL_law_1242 rfl ?_
    refine V_iadd (pc := 1243) F dL_law_1243 ?_
    refine V_sld (pc := 1244) F G.2.2.2.1 G.2.2.2.2 G.nb i1 dL_law_1244 ?_
    refine V_aload_n (pc := 1245) F dL_law_1245 rfl 1 rfl ?_
    refine V_SW (w2 := ((wX7 cy a γ' ++ wX8 cy a' ρ) ++ [oc cy ho (vp_updL f 0 x.toInt64)])) (rest := []) (st2 := [.int 0]) (pc := 1246) F G.1 G.2.1 G.2.2.1 (W_rounds l D cy 900 a ho f γ (xs (ii + 1).toNatClampNeg) (x, γ') h7) (vx_cwSW 3 F.ts gLS_rounds rfl rfl rfl hdL_rounds ⟨Nat.le_of_ble_eq_true rfl, Nat.le_of_ble_eq_true rfl⟩) rfl dL_law_1246 (Fit2.both (Fit.left Fit.whole) Fit.whole) fstX7 rfl (Nat.le_of_ble_eq_true rfl) hcl hsl rfl rfl rfl ?_
    refine V_istore (L2 := [(5, .int 0), (4, .int ii), (3, .ref ho), (2, .ref (a' 0)), (1, .ref (a 0)), (0, .ref b)]) (pc := 1249) F dL_law_1249 (by decide) rfl ?_
    refine V_aload_n (pc := 1251) F dL_law_1251 rfl 3 rfl ?_
    refine V_aload_n (pc := 1252) F dL_law_1252 rfl 5 rfl ?_
    refine V_iload (pc := 1253) F dL_law_1253 1 rfl ?_
    refine V_iconst (pc := 1255) (v := 1) F dL_law_1255 rfl ?_
    refine V_iadd (pc := 1256) F dL_law_1256 ?_
    refine V_sld (pc := 1257) F G.2.2.2.1 G.2.2.2.2 G.nb i1 dL_law_1257 ?_
    refine V_V (w2 := ((wX7 cy a γ' ++ wX8 cy a' ρ') ++ [oc cy ho (vp_updL f 0 x.toInt64)])) (rest := []) (st2 := [.int x]) (pc := 1258) F 8 (M_X8_rounds l D cy 900 a' ρ (xs (ii + 1).toNatClampNeg) (x, ρ') h8) (cwV 1 F.ts gL8_rounds rfl rfl rfl hd_X8_rounds ⟨Nat.le_of_ble_eq_true rfl, Nat.le_of_ble_eq_true rfl⟩) rfl dL_law_1258 (Fit.left (Fit.right Fit.whole)) fstX8 rfl rfl (Nat.le_of_ble_eq_true rfl) hcl hsl rfl rfl rfl ?_
    refine V_istore (L2 := [(6, .int x), (5, .int 0), (4, .int ii), (3, .ref ho), (2, .ref (a' 0)), (1, .ref (a 0)), (0, .ref b)]) (pc := 1261) F dL_law_1261 (by decide) rfl ?_
    refine V_aload_n (pc := 1263) F dL_law_1263 rfl 4 rfl ?_
    refine V_V (w2 := ((wX7 cy a γ' ++ wX8 cy a' ρ') ++ [oc cy ho (vp_updL f 0 x.toInt64)])) (rest := []) (st2 := [.int ρ'.1]) (pc := 1264) F 8 (M_X8_thrown l D cy 900 a' ρ' ρ'.1 rfl) (cwV 0 F.ts gL8_thrown rfl rfl rfl hd_X8_thrown ⟨Nat.le_of_ble_eq_true rfl, Nat.le_of_ble_eq_true rfl⟩) rfl dL_law_1264 (Fit.left (Fit.right Fit.whole)) rfl rfl rfl (Nat.le_of_ble_eq_true rfl) hcl hsl rfl rfl rfl ?_
    refine V_iload (pc := 1267) F dL_law_1267 1 rfl ?_
    refine V_icmp_eq (pc := 1269) (tgt := 1274) F dL_law_1269 (by decide) (fun _ => ?_) (fun h => absurd hk h)
    refine V_iload (pc := 1274) F dL_law_1274 1 rfl ?_
    refine V_if_ne (pc := 1276) (tgt := 1291) F dL_law_1276 (by decide) (fun h => absurd rfl h) (fun _ => ?_)
    refine V_aload_n (pc := 1279) F dL_law_1279 rfl 3 rfl ?_
    refine V_iconst (pc := 1280) (v := 0) F dL_law_1280 rfl ?_
    refine V_lald (pc := 1281) F ((wX7 cy a γ' ++ wX8 cy a' ρ').length + 0) (at_right (k := 0) rfl) (by unfold vp_in; decide) dL_law_1281 ?_
    refine V_iload (pc := 1282) F dL_law_1282 0 rfl ?_
    refine V_i2l (pc := 1284) F dL_law_1284 ?_
    refine V_lcmp (pc := 1285) F dL_law_1285 ?_
    refine V_if_eq (pc := 1286) (tgt := 1291) F dL_law_1286 (by decide) (fun _ => ?_) (fun h => absurd (by rw [vp_upd0]; exact lgc_self _) h)
    refine V_goto (pc := 1291) (tgt := 1526) F dL_law_1291 (by decide) ?_
    refine V.sub (L2 := [(4, .int ii), (3, .ref ho), (2, .ref (a' 0)), (1, .ref (a 0)), (0, .ref b)]) [2, 3, 4, 5, 6] rfl ?_
    exact K γ' ρ' (vp_updL f 0 x.toInt64) S2
  · rcases j with _ | j
    · replace hE : E = IAE := (Option.some.inj hE).symm
      replace hk : ρ'.1 = 1 := hk
      refine V_aload_n (pc := 1238) F dL_law_1238 rfl 3 rfl ?_
      refine V_aload_n (pc := 1239) F dL_law_1239 rfl 4 rfl ?_
      refine V_iload (pc := 1240) F dL_law_1240 0 rfl ?_
      refine V_iconst (pc := 1242) (v := 1) F dL_law_1242 rfl ?_
      refine V_iadd (pc := 1243) F dL_law_1243 ?_
      refine V_sld (pc := 1244) F G.2.2.2.1 G.2.2.2.2 G.nb i1 dL_law_1244 ?_
      refine V_aload_n (pc := 1245) F dL_law_1245 rfl 1 rfl ?_
      refine V_SW (w2 := ((wX7 cy a γ' ++ wX8 cy a' ρ) ++ [oc cy ho f])) (rest := []) (st2 := [.int 1]) (pc := 1246) F G.1 G.2.1 G.2.2.1 (WT_rounds_0 l hfl D cy 900 a ho f γ (xs (ii + 1).toNatClampNeg) E γ' h7 hE) (vx_cwSW 3 F.ts gLS_rounds rfl rfl rfl hdL_rounds ⟨Nat.le_of_ble_eq_true rfl, Nat.le_of_ble_eq_true rfl⟩) rfl dL_law_1246 (Fit2.both (Fit.left Fit.whole) Fit.whole) fstX7 rfl (Nat.le_of_ble_eq_true rfl) hcl hsl rfl rfl rfl ?_
      refine V_istore (L2 := [(5, .int 1), (4, .int ii), (3, .ref ho), (2, .ref (a' 0)), (1, .ref (a 0)), (0, .ref b)]) (pc := 1249) F dL_law_1249 (by decide) rfl ?_
      refine V_aload_n (pc := 1251) F dL_law_1251 rfl 3 rfl ?_
      refine V_aload_n (pc := 1252) F dL_law_1252 rfl 5 rfl ?_
      refine V_iload (pc := 1253) F dL_law_1253 1 rfl ?_
      refine V_iconst (pc := 1255) (v := 1) F dL_law_1255 rfl ?_
      refine V_iadd (pc := 1256) F dL_law_1256 ?_
      refine V_sld (pc := 1257) F G.2.2.2.1 G.2.2.2.2 G.nb i1 dL_law_1257 ?_
      refine V_V (w2 := ((wX7 cy a γ' ++ wX8 cy a' ρ') ++ [oc cy ho f])) (rest := []) (st2 := [.int x]) (pc := 1258) F 8 (M_X8_rounds l D cy 900 a' ρ (xs (ii + 1).toNatClampNeg) (x, ρ') h8) (cwV 1 F.ts gL8_rounds rfl rfl rfl hd_X8_rounds ⟨Nat.le_of_ble_eq_true rfl, Nat.le_of_ble_eq_true rfl⟩) rfl dL_law_1258 (Fit.left (Fit.right Fit.whole)) fstX8 rfl rfl (Nat.le_of_ble_eq_true rfl) hcl hsl rfl rfl rfl ?_
      refine V_istore (L2 := [(6, .int x), (5, .int 1), (4, .int ii), (3, .ref ho), (2, .ref (a' 0)), (1, .ref (a 0)), (0, .ref b)]) (pc := 1261) F dL_law_1261 (by decide) rfl ?_
      refine V_aload_n (pc := 1263) F dL_law_1263 rfl 4 rfl ?_
      refine V_V (w2 := ((wX7 cy a γ' ++ wX8 cy a' ρ') ++ [oc cy ho f])) (rest := []) (st2 := [.int ρ'.1]) (pc := 1264) F 8 (M_X8_thrown l D cy 900 a' ρ' ρ'.1 rfl) (cwV 0 F.ts gL8_thrown rfl rfl rfl hd_X8_thrown ⟨Nat.le_of_ble_eq_true rfl, Nat.le_of_ble_eq_true rfl⟩) rfl dL_law_1264 (Fit.left (Fit.right Fit.whole)) rfl rfl rfl (Nat.le_of_ble_eq_true rfl) hcl hsl rfl rfl rfl ?_
      refine V_iload (pc := 1267) F dL_law_1267 1 rfl ?_
      refine V_icmp_eq (pc := 1269) (tgt := 1274) F dL_law_1269 (by decide) (fun _ => ?_) (fun h => absurd hk h)
      refine V_iload (pc := 1274) F dL_law_1274 1 rfl ?_
      refine V_if_ne (pc := 1276) (tgt := 1291) F dL_law_1276 (by decide) (fun _ => ?_) (fun h => absurd h (by decide))
      refine V_goto (pc := 1291) (tgt := 1526) F dL_law_1291 (by decide) ?_
      refine V.sub (L2 := [(4, .int ii), (3, .ref ho), (2, .ref (a' 0)), (1, .ref (a 0)), (0, .ref b)]) [2, 3, 4, 5, 6] rfl ?_
      exact K γ' ρ' f S2
    · exact absurd hE (by simp)
set_option maxHeartbeats 8000000 in
theorem law_waitFor (hfl : l.stackTraces = false) (F : Fx p s m #[.ref b] meth c cL_law 9 RL nme lw_tbl ret D cy (aL s)) (G : FxL s b n xs) (hcl : cells + 1 ≤ room_1.cells) (hsl : slots + 6 ≤ room_1.slots) (S : SR γ ρ) (i1 : vp_in (ii + 1) n) (i2 : vp_in (ii + 2) n) (i3 : vp_in (ii + 3) n) (K : KL p l e s m below meth c D cy b a a' ho cells slots ii) : V p l e room_1 s m #[.ref b] below meth c 9 D (aL s) cells slots (lw_Z below #[.ref b] s) ((wX7 cy a γ ++ wX8 cy a' ρ) ++ [oc cy ho f]) [(4, .int ii), (3, .ref ho), (2, .ref (a' 0)), (1, .ref (a 0)), (0, .ref b)] [] 1294 := by
  by_cases hz : xs (ii + 3).toNatClampNeg = 0
  · have hc : CSame [IOB, IAE] (fX7_waitFor 900 γ (xs (ii + 1).toNatClampNeg) (xs (ii + 2).toNatClampNeg) 0) (fX8_waitFor 900 ρ (xs (ii + 1).toNatClampNeg) (xs (ii + 2).toNatClampNeg) 0) := waitFor_call (m := γ.1) (h := γ.2.1) (tx := γ.2.2.1) (pf := γ.2.2.2) (t := ρ.1) (z := ρ.2.1) (S' := ρ.2.2.1) (kk := ρ.2.2.2.1) (u := ρ.2.2.2.2) S (show 900 ≤ 900 from Nat.le_refl _) (xs (ii + 1).toNatClampNeg) (xs (ii + 2).toNatClampNeg) 0
    obtain ⟨x, ρ', h8, ⟨hk, γ', h7, S2⟩ | ⟨j, E, γ', hE, hk, h7, S2⟩⟩ := hc
    · refine V_aload_n (pc := 1294) F dL_law_1294 rfl 3 rfl ?_
      refine V_aload_n (pc := 1295) F dL_law_1295 rfl 4 rfl ?_
      refine V_iload (pc := 1296) F dL_law_1296 0 rfl ?_
      refine V_iconst (pc := 1298) (v := 1) F dL_law_1298 rfl ?_
      refine V_iadd (pc := 1299) F dL_law_1299 ?_
      refine V_sld (pc := 1300) F G.2.2.2.1 G.2.2.2.2 G.nb i1 dL_law_1300 ?_
      refine V_aload_n (pc := 1301) F dL_law_1301 rfl 4 rfl ?_
      refine V_iload (pc := 1302) F dL_law_1302 0 rfl ?_
      refine V_iconst (pc := 1304) (v := 2) F dL_law_1304 rfl ?_
      refine V_iadd (pc := 1305) F dL_law_1305 ?_
      refine V_sld (pc := 1306) F G.2.2.2.1 G.2.2.2.2 G.nb i2 dL_law_1306 ?_
      refine V_aload_n (pc := 1307) F dL_law_1307 rfl 4 rfl ?_
      refine V_iload (pc := 1308) F dL_law_1308 0 rfl ?_
      refine V_iconst (pc := 1310) (v := 3) F dL_law_1310 rfl ?_
      refine V_iadd (pc := 1311) F dL_law_1311 ?_
      refine V_sld (pc := 1312) F G.2.2.2.1 G.2.2.2.2 G.nb i3 dL_law_1312 ?_
      refine V_if_eq (pc := 1313) (tgt := 1320) F dL_law_1313 (by decide) (fun _ => ?_) (fun h => absurd hz h)
      refine V_iconst (pc := 1320) (v := 0) F dL_law_1320 rfl ?_
      refine V_aload_n (pc := 1321) F dL_law_1321 rfl 1 rfl ?_
      refine V_SW (w2 := ((wX7 cy a γ' ++ wX8 cy a' ρ) ++ [oc cy ho (vp_updL f 0 x.toInt64)])) (rest := []) (st2 := [.int 0]) (pc := 1322) F G.1 G.2.1 G.2.2.1 (W_waitFor l D cy 900 a ho f γ (xs (ii + 1).toNatClampNeg) (xs (ii + 2).toNatClampNeg) (0) (x, γ') h7) (vx_cwSW 5 F.ts gLS_waitFor rfl rfl rfl hdL_waitFor ⟨Nat.le_of_ble_eq_true rfl, Nat.le_of_ble_eq_true rfl⟩) rfl dL_law_1322 (Fit2.both (Fit.left Fit.whole) Fit.whole) fstX7 rfl (Nat.le_of_ble_eq_true rfl) hcl hsl rfl rfl rfl ?_
      refine V_istore (L2 := [(5, .int 0), (4, .int ii), (3, .ref ho), (2, .ref (a' 0)), (1, .ref (a 0)), (0, .ref b)]) (pc := 1325) F dL_law_1325 (by decide) rfl ?_
      refine V_aload_n (pc := 1327) F dL_law_1327 rfl 3 rfl ?_
      refine V_aload_n (pc := 1328) F dL_law_1328 rfl 5 rfl ?_
      refine V_iload (pc := 1329) F dL_law_1329 1 rfl ?_
      refine V_iconst (pc := 1331) (v := 1) F dL_law_1331 rfl ?_
      refine V_iadd (pc := 1332) F dL_law_1332 ?_
      refine V_sld (pc := 1333) F G.2.2.2.1 G.2.2.2.2 G.nb i1 dL_law_1333 ?_
      refine V_aload_n (pc := 1334) F dL_law_1334 rfl 5 rfl ?_
      refine V_iload (pc := 1335) F dL_law_1335 1 rfl ?_
      refine V_iconst (pc := 1337) (v := 2) F dL_law_1337 rfl ?_
      refine V_iadd (pc := 1338) F dL_law_1338 ?_
      refine V_sld (pc := 1339) F G.2.2.2.1 G.2.2.2.2 G.nb i2 dL_law_1339 ?_
      refine V_aload_n (pc := 1340) F dL_law_1340 rfl 5 rfl ?_
      refine V_iload (pc := 1341) F dL_law_1341 1 rfl ?_
      refine V_iconst (pc := 1343) (v := 3) F dL_law_1343 rfl ?_
      refine V_iadd (pc := 1344) F dL_law_1344 ?_
      refine V_sld (pc := 1345) F G.2.2.2.1 G.2.2.2.2 G.nb i3 dL_law_1345 ?_
      refine V_if_eq (pc := 1346) (tgt := 1353) F dL_law_1346 (by decide) (fun _ => ?_) (fun h => absurd hz h)
      refine V_iconst (pc := 1353) (v := 0) F dL_law_1353 rfl ?_
      refine V_V (w2 := ((wX7 cy a γ' ++ wX8 cy a' ρ') ++ [oc cy ho (vp_updL f 0 x.toInt64)])) (rest := []) (st2 := [.int x]) (pc := 1354) F 8 (M_X8_waitFor l D cy 900 a' ρ (xs (ii + 1).toNatClampNeg) (xs (ii + 2).toNatClampNeg) (0) (x, ρ') h8) (cwV 3 F.ts gL8_waitFor rfl rfl rfl hd_X8_waitFor ⟨Nat.le_of_ble_eq_true rfl, Nat.le_of_ble_eq_true rfl⟩) rfl dL_law_1354 (Fit.left (Fit.right Fit.whole)) fstX8 rfl rfl (Nat.le_of_ble_eq_true rfl) hcl hsl rfl rfl rfl ?_
      refine V_istore (L2 := [(6, .int x), (5, .int 0), (4, .int ii), (3, .ref ho), (2, .ref (a' 0)), (1, .ref (a 0)), (0, .ref b)]) (pc := 1357) F dL_law_1357 (by decide) rfl ?_
      refine V_aload_n (pc := 1359) F dL_law_1359 rfl 4 rfl ?_
      refine V_V (w2 := ((wX7 cy a γ' ++ wX8 cy a' ρ') ++ [oc cy ho (vp_updL f 0 x.toInt64)])) (rest := []) (st2 := [.int ρ'.1]) (pc := 1360) F 8 (M_X8_thrown l D cy 900 a' ρ' ρ'.1 rfl) (cwV 0 F.ts gL8_thrown rfl rfl rfl hd_X8_thrown ⟨Nat.le_of_ble_eq_true rfl, Nat.le_of_ble_eq_true rfl⟩) rfl dL_law_1360 (Fit.left (Fit.right Fit.whole)) rfl rfl rfl (Nat.le_of_ble_eq_true rfl) hcl hsl rfl rfl rfl ?_
      refine V_iload (pc := 1363) F dL_law_1363 1 rfl ?_
      refine V_icmp_eq (pc := 1365) (tgt := 1370) F dL_law_1365 (by decide) (fun _ => ?_) (fun h => absurd hk h)
      refine V_iload (pc := 1370) F dL_law_1370 1 rfl ?_
      refine V_if_ne (pc := 1372) (tgt := 1387) F dL_law_1372 (by decide) (fun h => absurd rfl h) (fun _ => ?_)
      refine V_aload_n (pc := 1375) F dL_law_1375 rfl 3 rfl ?_
      refine V_iconst (pc := 1376) (v := 0) F dL_law_1376 rfl ?_
      refine V_lald (pc := 1377) F ((wX7 cy a γ' ++ wX8 cy a' ρ').length + 0) (at_right (k := 0) rfl) (by unfold vp_in; decide) dL_law_1377 ?_
      refine V_iload (pc := 1378) F dL_law_1378 0 rfl ?_
      refine V_i2l (pc := 1380) F dL_law_1380 ?_
      refine V_lcmp (pc := 1381) F dL_law_1381 ?_
      refine V_if_eq (pc := 1382) (tgt := 1387) F dL_law_1382 (by decide) (fun _ => ?_) (fun h => absurd (by rw [vp_upd0]; exact lgc_self _) h)
      refine V_goto (pc := 1387) (tgt := 1526) F dL_law_1387 (by decide) ?_
      refine V.sub (L2 := [(4, .int ii), (3, .ref ho), (2, .ref (a' 0)), (1, .ref (a 0)), (0, .ref b)]) [2, 3, 4, 5, 6] rfl ?_
      exact K γ' ρ' (vp_updL f 0 x.toInt64) S2
    · rcases j with _ | _ | j
      · replace hE : E = IOB := (Option.some.inj hE).symm
        replace hk : ρ'.1 = 1 := hk
        refine V_aload_n (pc := 1294) F dL_law_1294 rfl 3 rfl ?_
        refine V_aload_n (pc := 1295) F dL_law_1295 rfl 4 rfl ?_
        refine V_iload (pc := 1296) F dL_law_1296 0 rfl ?_
        refine V_iconst (pc := 1298) (v := 1) F dL_law_1298 rfl ?_
        refine V_iadd (pc := 1299) F dL_law_1299 ?_
        refine V_sld (pc := 1300) F G.2.2.2.1 G.2.2.2.2 G.nb i1 dL_law_1300 ?_
        refine V_aload_n (pc := 1301) F dL_law_1301 rfl 4 rfl ?_
        refine V_iload (pc := 1302) F dL_law_1302 0 rfl ?_
        refine V_iconst (pc := 1304) (v := 2) F dL_law_1304 rfl ?_
        refine V_iadd (pc := 1305) F dL_law_1305 ?_
        refine V_sld (pc := 1306) F G.2.2.2.1 G.2.2.2.2 G.nb i2 dL_law_1306 ?_
        refine V_aload_n (pc := 1307) F dL_law_1307 rfl 4 rfl ?_
        refine V_iload (pc := 1308) F dL_law_1308 0 rfl ?_
        refine V_iconst (pc := 1310) (v := 3) F dL_law_1310 rfl ?_
        refine V_iadd (pc := 1311) F dL_law_1311 ?_
        refine V_sld (pc := 1312) F G.2.2.2.1 G.2.2.2.2 G.nb i3 dL_law_1312 ?_
        refine V_if_eq (pc := 1313) (tgt := 1320) F dL_law_1313 (by decide) (fun _ => ?_) (fun h => absurd hz h)
        refine V_iconst (pc := 1320) (v := 0) F dL_law_1320 rfl ?_
        refine V_aload_n (pc := 1321) F dL_law_1321 rfl 1 rfl ?_
        refine V_SW (w2 := ((wX7 cy a γ' ++ wX8 cy a' ρ) ++ [oc cy ho f])) (rest := []) (st2 := [.int 1]) (pc := 1322) F G.1 G.2.1 G.2.2.1 (WT_waitFor_0 l hfl D cy 900 a ho f γ (xs (ii + 1).toNatClampNeg) (xs (ii + 2).toNatClampNeg) (0) E γ' h7 hE) (vx_cwSW 5 F.ts gLS_waitFor rfl rfl rfl hdL_waitFor ⟨Nat.le_of_ble_eq_true rfl, Nat.le_of_ble_eq_true rfl⟩) rfl dL_law_1322 (Fit2.both (Fit.left Fit.whole) Fit.whole) fstX7 rfl (Nat.le_of_ble_eq_true rfl) hcl hsl rfl rfl rfl ?_
        refine V_istore (L2 := [(5, .int 1), (4, .int ii), (3, .ref ho), (2, .ref (a' 0)), (1, .ref (a 0)), (0, .ref b)]) (pc := 1325) F dL_law_1325 (by decide) rfl ?_
        refine V_aload_n (pc := 1327) F dL_law_1327 rfl 3 rfl ?_
        refine V_aload_n (pc := 1328) F dL_law_1328 rfl 5 rfl ?_
        refine V_iload (pc := 1329) F dL_law_1329 1 rfl ?_
        refine V_iconst (pc := 1331) (v := 1) F dL_law_1331 rfl ?_
        refine V_iadd (pc := 1332) F dL_law_1332 ?_
        refine V_sld (pc := 1333) F G.2.2.2.1 G.2.2.2.2 G.nb i1 dL_law_1333 ?_
        refine V_aload_n (pc := 1334) F dL_law_1334 rfl 5 rfl ?_
        refine V_iload (pc := 1335) F dL_law_1335 1 rfl ?_
        refine V_iconst (pc := 1337) (v := 2) F dL_law_1337 rfl ?_
        refine V_iadd (pc := 1338) F dL_law_1338 ?_
        refine V_sld (pc := 1339) F G.2.2.2.1 G.2.2.2.2 G.nb i2 dL_law_1339 ?_
        refine V_aload_n (pc := 1340) F dL_law_1340 rfl 5 rfl ?_
        refine V_iload (pc := 1341) F dL_law_1341 1 rfl ?_
        refine V_iconst (pc := 1343) (v := 3) F dL_law_1343 rfl ?_
        refine V_iadd (pc := 1344) F dL_law_1344 ?_
        refine V_sld (pc := 1345) F G.2.2.2.1 G.2.2.2.2 G.nb i3 dL_law_1345 ?_
        refine V_if_eq (pc := 1346) (tgt := 1353) F dL_law_1346 (by decide) (fun _ => ?_) (fun h => absurd hz h)
        refine V_iconst (pc := 1353) (v := 0) F dL_law_1353 rfl ?_
        refine V_V (w2 := ((wX7 cy a γ' ++ wX8 cy a' ρ') ++ [oc cy ho f])) (rest := []) (st2 := [.int x]) (pc := 1354) F 8 (M_X8_waitFor l D cy 900 a' ρ (xs (ii + 1).toNatClampNeg) (xs (ii + 2).toNatClampNeg) (0) (x, ρ') h8) (cwV 3 F.ts gL8_waitFor rfl rfl rfl hd_X8_waitFor ⟨Nat.le_of_ble_eq_true rfl, Nat.le_of_ble_eq_true rfl⟩) rfl dL_law_1354 (Fit.left (Fit.right Fit.whole)) fstX8 rfl rfl (Nat.le_of_ble_eq_true rfl) hcl hsl rfl rfl rfl ?_
        refine V_istore (L2 := [(6, .int x), (5, .int 1), (4, .int ii), (3, .ref ho), (2, .ref (a' 0)), (1, .ref (a 0)), (0, .ref b)]) (pc := 1357) F dL_law_1357 (by decide) rfl ?_
        refine V_aload_n (pc := 1359) F dL_law_1359 rfl 4 rfl ?_
        refine V_V (w2 := ((wX7 cy a γ' ++ wX8 cy a' ρ') ++ [oc cy ho f])) (rest := []) (st2 := [.int ρ'.1]) (pc := 1360) F 8 (M_X8_thrown l D cy 900 a' ρ' ρ'.1 rfl) (cwV 0 F.ts gL8_thrown rfl rfl rfl hd_X8_thrown ⟨Nat.le_of_ble_eq_true rfl, Nat.le_of_ble_eq_true rfl⟩) rfl dL_law_1360 (Fit.left (Fit.right Fit.whole)) rfl rfl rfl (Nat.le_of_ble_eq_true rfl) hcl hsl rfl rfl rfl ?_
        refine V_iload (pc := 1363) F dL_law_1363 1 rfl ?_
        refine V_icmp_eq (pc := 1365) (tgt := 1370) F dL_law_1365 (by decide) (fun _ => ?_) (fun h => absurd hk h)
        refine V_iload (pc := 1370) F dL_law_1370 1 rfl ?_
        refine V_if_ne (pc := 1372) (tgt := 1387) F dL_law_1372 (by decide) (fun _ => ?_) (fun h => absurd h (by decide))
        refine V_goto (pc := 1387) (tgt := 1526) F dL_law_1387 (by decide) ?_
        refine V.sub (L2 := [(4, .int ii), (3, .ref ho), (2, .ref (a' 0)), (1, .ref (a 0)), (0, .ref b)]) [2, 3, 4, 5, 6] rfl ?_
        exact K γ' ρ' f S2
      · replace hE : E = IAE := (Option.some.inj hE).symm
        replace hk : ρ'.1 = 2 := hk
        refine V_aload_n (pc := 1294) F dL_law_1294 rfl 3 rfl ?_
        refine V_aload_n (pc := 1295) F dL_law_1295 rfl 4 rfl ?_
        refine V_iload (pc := 1296) F dL_law_1296 0 rfl ?_
        refine V_iconst (pc := 1298) (v := 1) F dL_law_1298 rfl ?_
        refine V_iadd (pc := 1299) F dL_law_1299 ?_
        refine V_sld (pc := 1300) F G.2.2.2.1 G.2.2.2.2 G.nb i1 dL_law_1300 ?_
        refine V_aload_n (pc := 1301) F dL_law_1301 rfl 4 rfl ?_
        refine V_iload (pc := 1302) F dL_law_1302 0 rfl ?_
        refine V_iconst (pc := 1304) (v := 2) F dL_law_1304 rfl ?_
        refine V_iadd (pc := 1305) F dL_law_1305 ?_
        refine V_sld (pc := 1306) F G.2.2.2.1 G.2.2.2.2 G.nb i2 dL_law_1306 ?_
        refine V_aload_n (pc := 1307) F dL_law_1307 rfl 4 rfl ?_
        refine V_iload (pc := 1308) F dL_law_1308 0 rfl ?_
        refine V_iconst (pc := 1310) (v := 3) F dL_law_1310 rfl ?_
        refine V_iadd (pc := 1311) F dL_law_1311 ?_
        refine V_sld (pc := 1312) F G.2.2.2.1 G.2.2.2.2 G.nb i3 dL_law_1312 ?_
        refine V_if_eq (pc := 1313) (tgt := 1320) F dL_law_1313 (by decide) (fun _ => ?_) (fun h => absurd hz h)
        refine V_iconst (pc := 1320) (v := 0) F dL_law_1320 rfl ?_
        refine V_aload_n (pc := 1321) F dL_law_1321 rfl 1 rfl ?_
        refine V_SW (w2 := ((wX7 cy a γ' ++ wX8 cy a' ρ) ++ [oc cy ho f])) (rest := []) (st2 := [.int 2]) (pc := 1322) F G.1 G.2.1 G.2.2.1 (WT_waitFor_1 l hfl D cy 900 a ho f γ (xs (ii + 1).toNatClampNeg) (xs (ii + 2).toNatClampNeg) (0) E γ' h7 hE) (vx_cwSW 5 F.ts gLS_waitFor rfl rfl rfl hdL_waitFor ⟨Nat.le_of_ble_eq_true rfl, Nat.le_of_ble_eq_true rfl⟩) rfl dL_law_1322 (Fit2.both (Fit.left Fit.whole) Fit.whole) fstX7 rfl (Nat.le_of_ble_eq_true rfl) hcl hsl rfl rfl rfl ?_
        refine V_istore (L2 := [(5, .int 2), (4, .int ii), (3, .ref ho), (2, .ref (a' 0)), (1, .ref (a 0)), (0, .ref b)]) (pc := 1325) F dL_law_1325 (by decide) rfl ?_
        refine V_aload_n (pc := 1327) F dL_law_1327 rfl 3 rfl ?_
        refine V_aload_n (pc := 1328) F dL_law_1328 rfl 5 rfl ?_
        refine V_iload (pc := 1329) F dL_law_1329 1 rfl ?_
        refine V_iconst (pc := 1331) (v := 1) F dL_law_1331 rfl ?_
        refine V_iadd (pc := 1332) F dL_law_1332 ?_
        refine V_sld (pc := 1333) F G.2.2.2.1 G.2.2.2.2 G.nb i1 dL_law_1333 ?_
        refine V_aload_n (pc := 1334) F dL_law_1334 rfl 5 rfl ?_
        refine V_iload (pc := 1335) F dL_law_1335 1 rfl ?_
        refine V_iconst (pc := 1337) (v := 2) F dL_law_1337 rfl ?_
        refine V_iadd (pc := 1338) F dL_law_1338 ?_
        refine V_sld (pc := 1339) F G.2.2.2.1 G.2.2.2.2 G.nb i2 dL_law_1339 ?_
        refine V_aload_n (pc := 1340) F dL_law_1340 rfl 5 rfl ?_
        refine V_iload (pc := 1341) F dL_law_1341 1 rfl ?_
        refine V_iconst (pc := 1343) (v := 3) F dL_law_1343 rfl ?_
        refine V_iadd (pc := 1344) F dL_law_1344 ?_
        refine V_sld (pc := 1345) F G.2.2.2.1 G.2.2.2.2 G.nb i3 dL_law_1345 ?_
        refine V_if_eq (pc := 1346) (tgt := 1353) F dL_law_1346 (by decide) (fun _ => ?_) (fun h => absurd hz h)
        refine V_iconst (pc := 1353) (v := 0) F dL_law_1353 rfl ?_
        refine V_V (w2 := ((wX7 cy a γ' ++ wX8 cy a' ρ') ++ [oc cy ho f])) (rest := []) (st2 := [.int x]) (pc := 1354) F 8 (M_X8_waitFor l D cy 900 a' ρ (xs (ii + 1).toNatClampNeg) (xs (ii + 2).toNatClampNeg) (0) (x, ρ') h8) (cwV 3 F.ts gL8_waitFor rfl rfl rfl hd_X8_waitFor ⟨Nat.le_of_ble_eq_true rfl, Nat.le_of_ble_eq_true rfl⟩) rfl dL_law_1354 (Fit.left (Fit.right Fit.whole)) fstX8 rfl rfl (Nat.le_of_ble_eq_true rfl) hcl hsl rfl rfl rfl ?_
        refine V_istore (L2 := [(6, .int x), (5, .int 2), (4, .int ii), (3, .ref ho), (2, .ref (a' 0)), (1, .ref (a 0)), (0, .ref b)]) (pc := 1357) F dL_law_1357 (by decide) rfl ?_
        refine V_aload_n (pc := 1359) F dL_law_1359 rfl 4 rfl ?_
        refine V_V (w2 := ((wX7 cy a γ' ++ wX8 cy a' ρ') ++ [oc cy ho f])) (rest := []) (st2 := [.int ρ'.1]) (pc := 1360) F 8 (M_X8_thrown l D cy 900 a' ρ' ρ'.1 rfl) (cwV 0 F.ts gL8_thrown rfl rfl rfl hd_X8_thrown ⟨Nat.le_of_ble_eq_true rfl, Nat.le_of_ble_eq_true rfl⟩) rfl dL_law_1360 (Fit.left (Fit.right Fit.whole)) rfl rfl rfl (Nat.le_of_ble_eq_true rfl) hcl hsl rfl rfl rfl ?_
        refine V_iload (pc := 1363) F dL_law_1363 1 rfl ?_
        refine V_icmp_eq (pc := 1365) (tgt := 1370) F dL_law_1365 (by decide) (fun _ => ?_) (fun h => absurd hk h)
        refine V_iload (pc := 1370) F dL_law_1370 1 rfl ?_
        refine V_if_ne (pc := 1372) (tgt := 1387) F dL_law_1372 (by decide) (fun _ => ?_) (fun h => absurd h (by decide))
        refine V_goto (pc := 1387) (tgt := 1526) F dL_law_1387 (by decide) ?_
        refine V.sub (L2 := [(4, .int ii), (3, .ref ho), (2, .ref (a' 0)), (1, .ref (a 0)), (0, .ref b)]) [2, 3, 4, 5, 6] rfl ?_
        exact K γ' ρ' f S2
      · exact absurd hE (by simp)
  · have hc : CSame [IOB, IAE] (fX7_waitFor 900 γ (xs (ii + 1).toNatClampNeg) (xs (ii + 2).toNatClampNeg) 1) (fX8_waitFor 900 ρ (xs (ii + 1).toNatClampNeg) (xs (ii + 2).toNatClampNeg) 1) := waitFor_call (m := γ.1) (h := γ.2.1) (tx := γ.2.2.1) (pf := γ.2.2.2) (t := ρ.1) (z := ρ.2.1) (S' := ρ.2.2.1) (kk := ρ.2.2.2.1) (u := ρ.2.2.2.2) S (show 900 ≤ 900 from Nat.le_refl _) (xs (ii + 1).toNatClampNeg) (xs (ii + 2).toNatClampNeg) 1
    obtain ⟨x, ρ', h8, ⟨hk, γ', h7, S2⟩ | ⟨j, E, γ', hE, hk, h7, S2⟩⟩ := hc
    · refine V_aload_n (pc := 1294) F dL_law_1294 rfl 3 rfl ?_
      refine V_aload_n (pc := 1295) F dL_law_1295 rfl 4 rfl ?_
      refine V_iload (pc := 1296) F dL_law_1296 0 rfl ?_
      refine V_iconst (pc := 1298) (v := 1) F dL_law_1298 rfl ?_
      refine V_iadd (pc := 1299) F dL_law_1299 ?_
      refine V_sld (pc := 1300) F G.2.2.2.1 G.2.2.2.2 G.nb i1 dL_law_1300 ?_
      refine V_aload_n (pc := 1301) F dL_law_1301 rfl 4 rfl ?_
      refine V_iload (pc := 1302) F dL_law_1302 0 rfl ?_
      refine V_iconst (pc := 1304) (v := 2) F dL_law_1304 rfl ?_
      refine V_iadd (pc := 1305) F dL_law_1305 ?_
      refine V_sld (pc := 1306) F G.2.2.2.1 G.2.2.2.2 G.nb i2 dL_law_1306 ?_
      refine V_aload_n (pc := 1307) F dL_law_1307 rfl 4 rfl ?_
      refine V_iload (pc := 1308) F dL_law_1308 0 rfl ?_
      refine V_iconst (pc := 1310) (v := 3) F dL_law_1310 rfl ?_
      refine V_iadd (pc := 1311) F dL_law_1311 ?_
      refine V_sld (pc := 1312) F G.2.2.2.1 G.2.2.2.2 G.nb i3 dL_law_1312 ?_
      refine V_if_eq (pc := 1313) (tgt := 1320) F dL_law_1313 (by decide) (fun h => absurd h hz) (fun _ => ?_)
      refine V_iconst (pc := 1316) (v := 1) F dL_law_1316 rfl ?_
      refine V_goto (pc := 1317) (tgt := 1321) F dL_law_1317 (by decide) ?_
      refine V_aload_n (pc := 1321) F dL_law_1321 rfl 1 rfl ?_
      refine V_SW (w2 := ((wX7 cy a γ' ++ wX8 cy a' ρ) ++ [oc cy ho (vp_updL f 0 x.toInt64)])) (rest := []) (st2 := [.int 0]) (pc := 1322) F G.1 G.2.1 G.2.2.1 (W_waitFor l D cy 900 a ho f γ (xs (ii + 1).toNatClampNeg) (xs (ii + 2).toNatClampNeg) (1) (x, γ') h7) (vx_cwSW 5 F.ts gLS_waitFor rfl rfl rfl hdL_waitFor ⟨Nat.le_of_ble_eq_true rfl, Nat.le_of_ble_eq_true rfl⟩) rfl dL_law_1322 (Fit2.both (Fit.left Fit.whole) Fit.whole) fstX7 rfl (Nat.le_of_ble_eq_true rfl) hcl hsl rfl rfl rfl ?_
      refine V_istore (L2 := [(5, .int 0), (4, .int ii), (3, .ref ho), (2, .ref (a' 0)), (1, .ref (a 0)), (0, .ref b)]) (pc := 1325) F dL_law_1325 (by decide) rfl ?_
      refine V_aload_n (pc := 1327) F dL_law_1327 rfl 3 rfl ?_
      refine V_aload_n (pc := 1328) F dL_law_1328 rfl 5 rfl ?_
      refine V_iload (pc := 1329) F dL_law_1329 1 rfl ?_
      refine V_iconst (pc := 1331) (v := 1) F dL_law_1331 rfl ?_
      refine V_iadd (pc := 1332) F dL_law_1332 ?_
      refine V_sld (pc := 1333) F G.2.2.2.1 G.2.2.2.2 G.nb i1 dL_law_1333 ?_
      refine V_aload_n (pc := 1334) F dL_law_1334 rfl 5 rfl ?_
      refine V_iload (pc := 1335) F dL_law_1335 1 rfl ?_
      refine V_iconst (pc := 1337) (v := 2) F dL_law_1337 rfl ?_
      refine V_iadd (pc := 1338) F dL_law_1338 ?_
      refine V_sld (pc := 1339) F G.2.2.2.1 G.2.2.2.2 G.nb i2 dL_law_1339 ?_
      refine V_aload_n (pc := 1340) F dL_law_1340 rfl 5 rfl ?_
      refine V_iload (pc := 1341) F dL_law_1341 1 rfl ?_
      refine V_iconst (pc := 1343) (v := 3) F dL_law_1343 rfl ?_
      refine V_iadd (pc := 1344) F dL_law_1344 ?_
      refine V_sld (pc := 1345) F G.2.2.2.1 G.2.2.2.2 G.nb i3 dL_law_1345 ?_
      refine V_if_eq (pc := 1346) (tgt := 1353) F dL_law_1346 (by decide) (fun h => absurd h hz) (fun _ => ?_)
      refine V_iconst (pc := 1349) (v := 1) F dL_law_1349 rfl ?_
      refine V_goto (pc := 1350) (tgt := 1354) F dL_law_1350 (by decide) ?_
      refine V_V (w2 := ((wX7 cy a γ' ++ wX8 cy a' ρ') ++ [oc cy ho (vp_updL f 0 x.toInt64)])) (rest := []) (st2 := [.int x]) (pc := 1354) F 8 (M_X8_waitFor l D cy 900 a' ρ (xs (ii + 1).toNatClampNeg) (xs (ii + 2).toNatClampNeg) (1) (x, ρ') h8) (cwV 3 F.ts gL8_waitFor rfl rfl rfl hd_X8_waitFor ⟨Nat.le_of_ble_eq_true rfl, Nat.le_of_ble_eq_true rfl⟩) rfl dL_law_1354 (Fit.left (Fit.right Fit.whole)) fstX8 rfl rfl (Nat.le_of_ble_eq_true rfl) hcl hsl rfl rfl rfl ?_
      refine V_istore (L2 := [(6, .int x), (5, .int 0), (4, .int ii), (3, .ref ho), (2, .ref (a' 0)), (1, .ref (a 0)), (0, .ref b)]) (pc := 1357) F dL_law_1357 (by decide) rfl ?_
      refine V_aload_n (pc := 1359) F dL_law_1359 rfl 4 rfl ?_
      refine V_V (w2 := ((wX7 cy a γ' ++ wX8 cy a' ρ') ++ [oc cy ho (vp_updL f 0 x.toInt64)])) (rest := []) (st2 := [.int ρ'.1]) (pc := 1360) F 8 (M_X8_thrown l D cy 900 a' ρ' ρ'.1 rfl) (cwV 0 F.ts gL8_thrown rfl rfl rfl hd_X8_thrown ⟨Nat.le_of_ble_eq_true rfl, Nat.le_of_ble_eq_true rfl⟩) rfl dL_law_1360 (Fit.left (Fit.right Fit.whole)) rfl rfl rfl (Nat.le_of_ble_eq_true rfl) hcl hsl rfl rfl rfl ?_
      refine V_iload (pc := 1363) F dL_law_1363 1 rfl ?_
      refine V_icmp_eq (pc := 1365) (tgt := 1370) F dL_law_1365 (by decide) (fun _ => ?_) (fun h => absurd hk h)
      refine V_iload (pc := 1370) F dL_law_1370 1 rfl ?_
      refine V_if_ne (pc := 1372) (tgt := 1387) F dL_law_1372 (by decide) (fun h => absurd rfl h) (fun _ => ?_)
      refine V_aload_n (pc := 1375) F dL_law_1375 rfl 3 rfl ?_
      refine V_iconst (pc := 1376) (v := 0) F dL_law_1376 rfl ?_
      refine V_lald (pc := 1377) F ((wX7 cy a γ' ++ wX8 cy a' ρ').length + 0) (at_right (k := 0) rfl) (by unfold vp_in; decide) dL_law_1377 ?_
      refine V_iload (pc := 1378) F dL_law_1378 0 rfl ?_
      refine V_i2l (pc := 1380) F dL_law_1380 ?_
      refine V_lcmp (pc := 1381) F dL_law_1381 ?_
      refine V_if_eq (pc := 1382) (tgt := 1387) F dL_law_1382 (by decide) (fun _ => ?_) (fun h => absurd (by rw [vp_upd0]; exact lgc_self _) h)
      refine V_goto (pc := 1387) (tgt := 1526) F dL_law_1387 (by decide) ?_
      refine V.sub (L2 := [(4, .int ii), (3, .ref ho), (2, .ref (a' 0)), (1, .ref (a 0)), (0, .ref b)]) [2, 3, 4, 5, 6] rfl ?_
      exact K γ' ρ' (vp_updL f 0 x.toInt64) S2
    · rcases j with _ | _ | j
      · replace hE : E = IOB := (Option.some.inj hE).symm
        replace hk : ρ'.1 = 1 := hk
        refine V_aload_n (pc := 1294) F dL_law_1294 rfl 3 rfl ?_
        refine V_aload_n (pc := 1295) F dL_law_1295 rfl 4 rfl ?_
        refine V_iload (pc := 1296) F dL_law_1296 0 rfl ?_
        refine V_iconst (pc := 1298) (v := 1) F dL_law_1298 rfl ?_
        refine V_iadd (pc := 1299) F dL_law_1299 ?_
        refine V_sld (pc := 1300) F G.2.2.2.1 G.2.2.2.2 G.nb i1 dL_law_1300 ?_
        refine V_aload_n (pc := 1301) F dL_law_1301 rfl 4 rfl ?_
        refine V_iload (pc := 1302) F dL_law_1302 0 rfl ?_
        refine V_iconst (pc := 1304) (v := 2) F dL_law_1304 rfl ?_
        refine V_iadd (pc := 1305) F dL_law_1305 ?_
        refine V_sld (pc := 1306) F G.2.2.2.1 G.2.2.2.2 G.nb i2 dL_law_1306 ?_
        refine V_aload_n (pc := 1307) F dL_law_1307 rfl 4 rfl ?_
        refine V_iload (pc := 1308) F dL_law_1308 0 rfl ?_
        refine V_iconst (pc := 1310) (v := 3) F dL_law_1310 rfl ?_
        refine V_iadd (pc := 1311) F dL_law_1311 ?_
        refine V_sld (pc := 1312) F G.2.2.2.1 G.2.2.2.2 G.nb i3 dL_law_1312 ?_
        refine V_if_eq (pc := 1313) (tgt := 1320) F dL_law_1313 (by decide) (fun h => absurd h hz) (fun _ => ?_)
        refine V_iconst (pc := 1316) (v := 1) F dL_law_1316 rfl ?_
        refine V_goto (pc := 1317) (tgt := 1321) F dL_law_1317 (by decide) ?_
        refine V_aload_n (pc := 1321) F dL_law_1321 rfl 1 rfl ?_
        refine V_SW (w2 := ((wX7 cy a γ' ++ wX8 cy a' ρ) ++ [oc cy ho f])) (rest := []) (st2 := [.int 1]) (pc := 1322) F G.1 G.2.1 G.2.2.1 (WT_waitFor_0 l hfl D cy 900 a ho f γ (xs (ii + 1).toNatClampNeg) (xs (ii + 2).toNatClampNeg) (1) E γ' h7 hE) (vx_cwSW 5 F.ts gLS_waitFor rfl rfl rfl hdL_waitFor ⟨Nat.le_of_ble_eq_true rfl, Nat.le_of_ble_eq_true rfl⟩) rfl dL_law_1322 (Fit2.both (Fit.left Fit.whole) Fit.whole) fstX7 rfl (Nat.le_of_ble_eq_true rfl) hcl hsl rfl rfl rfl ?_
        refine V_istore (L2 := [(5, .int 1), (4, .int ii), (3, .ref ho), (2, .ref (a' 0)), (1, .ref (a 0)), (0, .ref b)]) (pc := 1325) F dL_law_1325 (by decide) rfl ?_
        refine V_aload_n (pc := 1327) F dL_law_1327 rfl 3 rfl ?_
        refine V_aload_n (pc := 1328) F dL_law_1328 rfl 5 rfl ?_
        refine V_iload (pc := 1329) F dL_law_1329 1 rfl ?_
        refine V_iconst (pc := 1331) (v := 1) F dL_law_1331 rfl ?_
        refine V_iadd (pc := 1332) F dL_law_1332 ?_
        refine V_sld (pc := 1333) F G.2.2.2.1 G.2.2.2.2 G.nb i1 dL_law_1333 ?_
        refine V_aload_n (pc := 1334) F dL_law_1334 rfl 5 rfl ?_
        refine V_iload (pc := 1335) F dL_law_1335 1 rfl ?_
        refine V_iconst (pc := 1337) (v := 2) F dL_law_1337 rfl ?_
        refine V_iadd (pc := 1338) F dL_law_1338 ?_
        refine V_sld (pc := 1339) F G.2.2.2.1 G.2.2.2.2 G.nb i2 dL_law_1339 ?_
        refine V_aload_n (pc := 1340) F dL_law_1340 rfl 5 rfl ?_
        refine V_iload (pc := 1341) F dL_law_1341 1 rfl ?_
        refine V_iconst (pc := 1343) (v := 3) F dL_law_1343 rfl ?_
        refine V_iadd (pc := 1344) F dL_law_1344 ?_
        refine V_sld (pc := 1345) F G.2.2.2.1 G.2.2.2.2 G.nb i3 dL_law_1345 ?_
        refine V_if_eq (pc := 1346) (tgt := 1353) F dL_law_1346 (by decide) (fun h => absurd h hz) (fun _ => ?_)
        refine V_iconst (pc := 1349) (v := 1) F dL_law_1349 rfl ?_
        refine V_goto (pc := 1350) (tgt := 1354) F dL_law_1350 (by decide) ?_
        refine V_V (w2 := ((wX7 cy a γ' ++ wX8 cy a' ρ') ++ [oc cy ho f])) (rest := []) (st2 := [.int x]) (pc := 1354) F 8 (M_X8_waitFor l D cy 900 a' ρ (xs (ii + 1).toNatClampNeg) (xs (ii + 2).toNatClampNeg) (1) (x, ρ') h8) (cwV 3 F.ts gL8_waitFor rfl rfl rfl hd_X8_waitFor ⟨Nat.le_of_ble_eq_true rfl, Nat.le_of_ble_eq_true rfl⟩) rfl dL_law_1354 (Fit.left (Fit.right Fit.whole)) fstX8 rfl rfl (Nat.le_of_ble_eq_true rfl) hcl hsl rfl rfl rfl ?_
        refine V_istore (L2 := [(6, .int x), (5, .int 1), (4, .int ii), (3, .ref ho), (2, .ref (a' 0)), (1, .ref (a 0)), (0, .ref b)]) (pc := 1357) F dL_law_1357 (by decide) rfl ?_
        refine V_aload_n (pc := 1359) F dL_law_1359 rfl 4 rfl ?_
        refine V_V (w2 := ((wX7 cy a γ' ++ wX8 cy a' ρ') ++ [oc cy ho f])) (rest := []) (st2 := [.int ρ'.1]) (pc := 1360) F 8 (M_X8_thrown l D cy 900 a' ρ' ρ'.1 rfl) (cwV 0 F.ts gL8_thrown rfl rfl rfl hd_X8_thrown ⟨Nat.le_of_ble_eq_true rfl, Nat.le_of_ble_eq_true rfl⟩) rfl dL_law_1360 (Fit.left (Fit.right Fit.whole)) rfl rfl rfl (Nat.le_of_ble_eq_true rfl) hcl hsl rfl rfl rfl ?_
        refine V_iload (pc := 1363) F dL_law_1363 1 rfl ?_
        refine V_icmp_eq (pc := 1365) (tgt := 1370) F dL_law_1365 (by decide) (fun _ => ?_) (fun h => absurd hk h)
        refine V_iload (pc := 1370) F dL_law_1370 1 rfl ?_
        refine V_if_ne (pc := 1372) (tgt := 1387) F dL_law_1372 (by decide) (fun _ => ?_) (fun h => absurd h (by decide))
        refine V_goto (pc := 1387) (tgt := 1526) F dL_law_1387 (by decide) ?_
        refine V.sub (L2 := [(4, .int ii), (3, .ref ho), (2, .ref (a' 0)), (1, .ref (a 0)), (0, .ref b)]) [2, 3, 4, 5, 6] rfl ?_
        exact K γ' ρ' f S2
      · replace hE : E = IAE := (Option.some.inj hE).symm
        replace hk : ρ'.1 = 2 := hk
        refine V_aload_n (pc := 1294) F dL_law_1294 rfl 3 rfl ?_
        refine V_aload_n (pc := 1295) F dL_law_1295 rfl 4 rfl ?_
        refine V_iload (pc := 1296) F dL_law_1296 0 rfl ?_
        refine V_iconst (pc := 1298) (v := 1) F dL_law_1298 rfl ?_
        refine V_iadd (pc := 1299) F dL_law_1299 ?_
        refine V_sld (pc := 1300) F G.2.2.2.1 G.2.2.2.2 G.nb i1 dL_law_1300 ?_
        refine V_aload_n (pc := 1301) F dL_law_1301 rfl 4 rfl ?_
        refine V_iload (pc := 1302) F dL_law_1302 0 rfl ?_
        refine V_iconst (pc := 1304) (v := 2) F dL_law_1304 rfl ?_
        refine V_iadd (pc := 1305) F dL_law_1305 ?_
        refine V_sld (pc := 1306) F G.2.2.2.1 G.2.2.2.2 G.nb i2 dL_law_1306 ?_
        refine V_aload_n (pc := 1307) F dL_law_1307 rfl 4 rfl ?_
        refine V_iload (pc := 1308) F dL_law_1308 0 rfl ?_
        refine V_iconst (pc := 1310) (v := 3) F dL_law_1310 rfl ?_
        refine V_iadd (pc := 1311) F dL_law_1311 ?_
        refine V_sld (pc := 1312) F G.2.2.2.1 G.2.2.2.2 G.nb i3 dL_law_1312 ?_
        refine V_if_eq (pc := 1313) (tgt := 1320) F dL_law_1313 (by decide) (fun h => absurd h hz) (fun _ => ?_)
        refine V_iconst (pc := 1316) (v := 1) F dL_law_1316 rfl ?_
        refine V_goto (pc := 1317) (tgt := 1321) F dL_law_1317 (by decide) ?_
        refine V_aload_n (pc := 1321) F dL_law_1321 rfl 1 rfl ?_
        refine V_SW (w2 := ((wX7 cy a γ' ++ wX8 cy a' ρ) ++ [oc cy ho f])) (rest := []) (st2 := [.int 2]) (pc := 1322) F G.1 G.2.1 G.2.2.1 (WT_waitFor_1 l hfl D cy 900 a ho f γ (xs (ii + 1).toNatClampNeg) (xs (ii + 2).toNatClampNeg) (1) E γ' h7 hE) (vx_cwSW 5 F.ts gLS_waitFor rfl rfl rfl hdL_waitFor ⟨Nat.le_of_ble_eq_true rfl, Nat.le_of_ble_eq_true rfl⟩) rfl dL_law_1322 (Fit2.both (Fit.left Fit.whole) Fit.whole) fstX7 rfl (Nat.le_of_ble_eq_true rfl) hcl hsl rfl rfl rfl ?_
        refine V_istore (L2 := [(5, .int 2), (4, .int ii), (3, .ref ho), (2, .ref (a' 0)), (1, .ref (a 0)), (0, .ref b)]) (pc := 1325) F dL_law_1325 (by decide) rfl ?_
        refine V_aload_n (pc := 1327) F dL_law_1327 rfl 3 rfl ?_
        refine V_aload_n (pc := 1328) F dL_law_1328 rfl 5 rfl ?_
        refine V_iload (pc := 1329) F dL_law_1329 1 rfl ?_
        refine V_iconst (pc := 1331) (v := 1) F dL_law_1331 rfl ?_
        refine V_iadd (pc := 1332) F dL_law_1332 ?_
        refine V_sld (pc := 1333) F G.2.2.2.1 G.2.2.2.2 G.nb i1 dL_law_1333 ?_
        refine V_aload_n (pc := 1334) F dL_law_1334 rfl 5 rfl ?_
        refine V_iload (pc := 1335) F dL_law_1335 1 rfl ?_
        refine V_iconst (pc := 1337) (v := 2) F dL_law_1337 rfl ?_
        refine V_iadd (pc := 1338) F dL_law_1338 ?_
        refine V_sld (pc := 1339) F G.2.2.2.1 G.2.2.2.2 G.nb i2 dL_law_1339 ?_
        refine V_aload_n (pc := 1340) F dL_law_1340 rfl 5 rfl ?_
        refine V_iload (pc := 1341) F dL_law_1341 1 rfl ?_
        refine V_iconst (pc := 1343) (v := 3) F dL_law_1343 rfl ?_
        refine V_iadd (pc := 1344) F dL_law_1344 ?_
        refine V_sld (pc := 1345) F G.2.2.2.1 G.2.2.2.2 G.nb i3 dL_law_1345 ?_
        refine V_if_eq (pc := 1346) (tgt := 1353) F dL_law_1346 (by decide) (fun h => absurd h hz) (fun _ => ?_)
        refine V_iconst (pc := 1349) (v := 1) F dL_law_1349 rfl ?_
        refine V_goto (pc := 1350) (tgt := 1354) F dL_law_1350 (by decide) ?_
        refine V_V (w2 := ((wX7 cy a γ' ++ wX8 cy a' ρ') ++ [oc cy ho f])) (rest := []) (st2 := [.int x]) (pc := 1354) F 8 (M_X8_waitFor l D cy 900 a' ρ (xs (ii + 1).toNatClampNeg) (xs (ii + 2).toNatClampNeg) (1) (x, ρ') h8) (cwV 3 F.ts gL8_waitFor rfl rfl rfl hd_X8_waitFor ⟨Nat.le_of_ble_eq_true rfl, Nat.le_of_ble_eq_true rfl⟩) rfl dL_law_1354 (Fit.left (Fit.right Fit.whole)) fstX8 rfl rfl (Nat.le_of_ble_eq_true rfl) hcl hsl rfl rfl rfl ?_
        refine V_istore (L2 := [(6, .int x), (5, .int 2), (4, .int ii), (3, .ref ho), (2, .ref (a' 0)), (1, .ref (a 0)), (0, .ref b)]) (pc := 1357) F dL_law_1357 (by decide) rfl ?_
        refine V_aload_n (pc := 1359) F dL_law_1359 rfl 4 rfl ?_
        refine V_V (w2 := ((wX7 cy a γ' ++ wX8 cy a' ρ') ++ [oc cy ho f])) (rest := []) (st2 := [.int ρ'.1]) (pc := 1360) F 8 (M_X8_thrown l D cy 900 a' ρ' ρ'.1 rfl) (cwV 0 F.ts gL8_thrown rfl rfl rfl hd_X8_thrown ⟨Nat.le_of_ble_eq_true rfl, Nat.le_of_ble_eq_true rfl⟩) rfl dL_law_1360 (Fit.left (Fit.right Fit.whole)) rfl rfl rfl (Nat.le_of_ble_eq_true rfl) hcl hsl rfl rfl rfl ?_
        refine V_iload (pc := 1363) F dL_law_1363 1 rfl ?_
        refine V_icmp_eq (pc := 1365) (tgt := 1370) F dL_law_1365 (by decide) (fun _ => ?_) (fun h => absurd hk h)
        refine V_iload (pc := 1370) F dL_law_1370 1 rfl ?_
        refine V_if_ne (pc := 1372) (tgt := 1387) F dL_law_1372 (by decide) (fun _ => ?_) (fun h => absurd h (by decide))
        refine V_goto (pc := 1387) (tgt := 1526) F dL_law_1387 (by decide) ?_
        refine V.sub (L2 := [(4, .int ii), (3, .ref ho), (2, .ref (a' 0)), (1, .ref (a 0)), (0, .ref b)]) [2, 3, 4, 5, 6] rfl ?_
        exact K γ' ρ' f S2
      · exact absurd hE (by simp)
set_option maxHeartbeats 8000000 in
theorem law_slowest (hfl : l.stackTraces = false) (F : Fx p s m #[.ref b] meth c cL_law 9 RL nme lw_tbl ret D cy (aL s)) (G : FxL s b n xs) (hcl : cells + 1 ≤ room_1.cells) (hsl : slots + 6 ≤ room_1.slots) (S : SR γ ρ) (i1 : vp_in (ii + 1) n) (i2 : vp_in (ii + 2) n) (i3 : vp_in (ii + 3) n) (K : KL p l e s m below meth c D cy b a a' ho cells slots ii) : V p l e room_1 s m #[.ref b] below meth c 9 D (aL s) cells slots (lw_Z below #[.ref b] s) ((wX7 cy a γ ++ wX8 cy a' ρ) ++ [oc cy ho f]) [(4, .int ii), (3, .ref ho), (2, .ref (a' 0)), (1, .ref (a 0)), (0, .ref b)] [] 1390 := by
  obtain ⟨x, γ', ρ', h7, h8, S2⟩ : ∃ x γ' ρ', fX7_slowest 900 γ = some (x, γ') ∧ fX8_slowest 900 ρ = some (x, ρ') ∧ SR γ' ρ' := slowest_call (m := γ.1) (h := γ.2.1) (tx := γ.2.2.1) (pf := γ.2.2.2) (t := ρ.1) (z := ρ.2.1) (S' := ρ.2.2.1) (kk := ρ.2.2.2.1) (u := ρ.2.2.2.2) S (show 900 ≤ 900 from Nat.le_refl _)
  refine V_aload_n (pc := 1390) F dL_law_1390 rfl 3 rfl ?_
  refine V_V (w2 := ((wX7 cy a γ' ++ wX8 cy a' ρ) ++ [oc cy ho f])) (rest := []) (st2 := [.int x]) (pc := 1391) F 7 (M_X7_slowest l D cy 900 a γ (x, γ') h7) (cwV 0 F.ts gL7_slowest rfl rfl rfl hd_X7_slowest ⟨Nat.le_of_ble_eq_true rfl, Nat.le_of_ble_eq_true rfl⟩) rfl dL_law_1391 (Fit.left (Fit.left Fit.whole)) fstX7 rfl rfl (Nat.le_of_ble_eq_true rfl) (Nat.le_of_succ_le hcl) (Nat.le_trans (Nat.le_add_right _ 6) hsl) rfl rfl rfl ?_
  refine V_aload_n (pc := 1394) F dL_law_1394 rfl 2 rfl ?_
  refine V_V (w2 := ((wX7 cy a γ' ++ wX8 cy a' ρ') ++ [oc cy ho f])) (rest := [.int x]) (st2 := [.int x, .int x]) (pc := 1395) F 8 (M_X8_slowest l D cy 900 a' ρ (x, ρ') h8) (cwV 0 F.ts gL8_slowest rfl rfl rfl hd_X8_slowest ⟨Nat.le_of_ble_eq_true rfl, Nat.le_of_ble_eq_true rfl⟩) rfl dL_law_1395 (Fit.left (Fit.right Fit.whole)) fstX8 rfl rfl (Nat.le_of_ble_eq_true rfl) (Nat.le_of_succ_le hcl) (Nat.le_trans (Nat.le_add_right _ 6) hsl) rfl rfl rfl ?_
  refine V_icmp_eq (pc := 1398) (tgt := 1526) F dL_law_1398 (by decide) (fun _ => ?_) (fun h => absurd rfl h)
  refine V_widen (k := cells + 1) (n := slots + 6) (Nat.le_add_right _ 1) (Nat.le_add_right _ 6) ?_
  exact K γ' ρ' f S2
set_option maxHeartbeats 8000000 in
theorem law_remedy (hfl : l.stackTraces = false) (F : Fx p s m #[.ref b] meth c cL_law 9 RL nme lw_tbl ret D cy (aL s)) (G : FxL s b n xs) (hcl : cells + 1 ≤ room_1.cells) (hsl : slots + 6 ≤ room_1.slots) (S : SR γ ρ) (i1 : vp_in (ii + 1) n) (i2 : vp_in (ii + 2) n) (i3 : vp_in (ii + 3) n) (K : KL p l e s m below meth c D cy b a a' ho cells slots ii) : V p l e room_1 s m #[.ref b] below meth c 9 D (aL s) cells slots (lw_Z below #[.ref b] s) ((wX7 cy a γ ++ wX8 cy a' ρ) ++ [oc cy ho f]) [(4, .int ii), (3, .ref ho), (2, .ref (a' 0)), (1, .ref (a 0)), (0, .ref b)] [] 1403 := by
  have hc : CSame [IOB, IAE] (fX7_remedy 900 γ (xs (ii + 1).toNatClampNeg) (xs (ii + 2).toNatClampNeg)) (fX8_remedy 900 ρ (xs (ii + 1).toNatClampNeg) (xs (ii + 2).toNatClampNeg)) := remedy_call (m := γ.1) (h := γ.2.1) (tx := γ.2.2.1) (pf := γ.2.2.2) (t := ρ.1) (z := ρ.2.1) (S' := ρ.2.2.1) (kk := ρ.2.2.2.1) (u := ρ.2.2.2.2) S (show 900 ≤ 900 from Nat.le_refl _) (xs (ii + 1).toNatClampNeg) (xs (ii + 2).toNatClampNeg)
  obtain ⟨x, ρ', h8, ⟨hk, γ', h7, S2⟩ | ⟨j, E, γ', hE, hk, h7, S2⟩⟩ := hc
  · refine V_aload_n (pc := 1403) F dL_law_1403 rfl 3 rfl ?_
    refine V_aload_n (pc := 1404) F dL_law_1404 rfl 4 rfl ?_
    refine V_iload (pc := 1405) F dL_law_1405 0 rfl ?_
    refine V_iconst (pc := 1407) (v := 1) F dL_law_1407 rfl ?_
    refine V_iadd (pc := 1408) F dL_law_1408 ?_
    refine V_sld (pc := 1409) F G.2.2.2.1 G.2.2.2.2 G.nb i1 dL_law_1409 ?_
    refine V_aload_n (pc := 1410) F dL_law_1410 rfl 4 rfl ?_
    refine V_iload (pc := 1411) F dL_law_1411 0 rfl ?_
    refine V_iconst (pc := 1413) (v := 2) F dL_law_1413 rfl ?_
    refine V_iadd (pc := 1414) F dL_law_1414 ?_
    refine V_sld (pc := 1415) F G.2.2.2.1 G.2.2.2.2 G.nb i2 dL_law_1415 ?_
    refine V_aload_n (pc := 1416) F dL_law_1416 rfl 1 rfl ?_
    refine V_SW (w2 := ((wX7 cy a γ' ++ wX8 cy a' ρ) ++ [oc cy ho (vp_updL f 0 x.toInt64)])) (rest := []) (st2 := [.int 0]) (pc := 1417) F G.1 G.2.1 G.2.2.1 (W_remedy l D cy 900 a ho f γ (xs (ii + 1).toNatClampNeg) (xs (ii + 2).toNatClampNeg) (x, γ') h7) (vx_cwSW 4 F.ts gLS_remedy rfl rfl rfl hdL_remedy ⟨Nat.le_of_ble_eq_true rfl, Nat.le_of_ble_eq_true rfl⟩) rfl dL_law_1417 (Fit2.both (Fit.left Fit.whole) Fit.whole) fstX7 rfl (Nat.le_of_ble_eq_true rfl) hcl hsl rfl rfl rfl ?_
    refine V_istore (L2 := [(5, .int 0), (4, .int ii), (3, .ref ho), (2, .ref (a' 0)), (1, .ref (a 0)), (0, .ref b)]) (pc := 1420) F dL_law_1420 (by decide) rfl ?_
    refine V_aload_n (pc := 1422) F dL_law_1422 rfl 3 rfl ?_
    refine V_aload_n (pc := 1423) F dL_law_1423 rfl 5 rfl ?_
    refine V_iload (pc := 1424) F dL_law_1424 1 rfl ?_
    refine V_iconst (pc := 1426) (v := 1) F dL_law_1426 rfl ?_
    refine V_iadd (pc := 1427) F dL_law_1427 ?_
    refine V_sld (pc := 1428) F G.2.2.2.1 G.2.2.2.2 G.nb i1 dL_law_1428 ?_
    refine V_aload_n (pc := 1429) F dL_law_1429 rfl 5 rfl ?_
    refine V_iload (pc := 1430) F dL_law_1430 1 rfl ?_
    refine V_iconst (pc := 1432) (v := 2) F dL_law_1432 rfl ?_
    refine V_iadd (pc := 1433) F dL_law_1433 ?_
    refine V_sld (pc := 1434) F G.2.2.2.1 G.2.2.2.2 G.nb i2 dL_law_1434 ?_
    refine V_V (w2 := ((wX7 cy a γ' ++ wX8 cy a' ρ') ++ [oc cy ho (vp_updL f 0 x.toInt64)])) (rest := []) (st2 := [.int x]) (pc := 1435) F 8 (M_X8_remedy l D cy 900 a' ρ (xs (ii + 1).toNatClampNeg) (xs (ii + 2).toNatClampNeg) (x, ρ') h8) (cwV 2 F.ts gL8_remedy rfl rfl rfl hd_X8_remedy ⟨Nat.le_of_ble_eq_true rfl, Nat.le_of_ble_eq_true rfl⟩) rfl dL_law_1435 (Fit.left (Fit.right Fit.whole)) fstX8 rfl rfl (Nat.le_of_ble_eq_true rfl) hcl hsl rfl rfl rfl ?_
    refine V_istore (L2 := [(6, .int x), (5, .int 0), (4, .int ii), (3, .ref ho), (2, .ref (a' 0)), (1, .ref (a 0)), (0, .ref b)]) (pc := 1438) F dL_law_1438 (by decide) rfl ?_
    refine V_aload_n (pc := 1440) F dL_law_1440 rfl 4 rfl ?_
    refine V_V (w2 := ((wX7 cy a γ' ++ wX8 cy a' ρ') ++ [oc cy ho (vp_updL f 0 x.toInt64)])) (rest := []) (st2 := [.int ρ'.1]) (pc := 1441) F 8 (M_X8_thrown l D cy 900 a' ρ' ρ'.1 rfl) (cwV 0 F.ts gL8_thrown rfl rfl rfl hd_X8_thrown ⟨Nat.le_of_ble_eq_true rfl, Nat.le_of_ble_eq_true rfl⟩) rfl dL_law_1441 (Fit.left (Fit.right Fit.whole)) rfl rfl rfl (Nat.le_of_ble_eq_true rfl) hcl hsl rfl rfl rfl ?_
    refine V_iload (pc := 1444) F dL_law_1444 1 rfl ?_
    refine V_icmp_eq (pc := 1446) (tgt := 1451) F dL_law_1446 (by decide) (fun _ => ?_) (fun h => absurd hk h)
    refine V_iload (pc := 1451) F dL_law_1451 1 rfl ?_
    refine V_if_ne (pc := 1453) (tgt := 1468) F dL_law_1453 (by decide) (fun h => absurd rfl h) (fun _ => ?_)
    refine V_aload_n (pc := 1456) F dL_law_1456 rfl 3 rfl ?_
    refine V_iconst (pc := 1457) (v := 0) F dL_law_1457 rfl ?_
    refine V_lald (pc := 1458) F ((wX7 cy a γ' ++ wX8 cy a' ρ').length + 0) (at_right (k := 0) rfl) (by unfold vp_in; decide) dL_law_1458 ?_
    refine V_iload (pc := 1459) F dL_law_1459 0 rfl ?_
    refine V_i2l (pc := 1461) F dL_law_1461 ?_
    refine V_lcmp (pc := 1462) F dL_law_1462 ?_
    refine V_if_eq (pc := 1463) (tgt := 1468) F dL_law_1463 (by decide) (fun _ => ?_) (fun h => absurd (by rw [vp_upd0]; exact lgc_self _) h)
    refine V_goto (pc := 1468) (tgt := 1526) F dL_law_1468 (by decide) ?_
    refine V.sub (L2 := [(4, .int ii), (3, .ref ho), (2, .ref (a' 0)), (1, .ref (a 0)), (0, .ref b)]) [2, 3, 4, 5, 6] rfl ?_
    exact K γ' ρ' (vp_updL f 0 x.toInt64) S2
  · rcases j with _ | _ | j
    · replace hE : E = IOB := (Option.some.inj hE).symm
      replace hk : ρ'.1 = 1 := hk
      refine V_aload_n (pc := 1403) F dL_law_1403 rfl 3 rfl ?_
      refine V_aload_n (pc := 1404) F dL_law_1404 rfl 4 rfl ?_
      refine V_iload (pc := 1405) F dL_law_1405 0 rfl ?_
      refine V_iconst (pc := 1407) (v := 1) F dL_law_1407 rfl ?_
      refine V_iadd (pc := 1408) F dL_law_1408 ?_
      refine V_sld (pc := 1409) F G.2.2.2.1 G.2.2.2.2 G.nb i1 dL_law_1409 ?_
      refine V_aload_n (pc := 1410) F dL_law_1410 rfl 4 rfl ?_
      refine V_iload (pc := 1411) F dL_law_1411 0 rfl ?_
      refine V_iconst (pc := 1413) (v := 2) F dL_law_1413 rfl ?_
      refine V_iadd (pc := 1414) F dL_law_1414 ?_
      refine V_sld (pc := 1415) F G.2.2.2.1 G.2.2.2.2 G.nb i2 dL_law_1415 ?_
      refine V_aload_n (pc := 1416) F dL_law_1416 rfl 1 rfl ?_
      refine V_SW (w2 := ((wX7 cy a γ' ++ wX8 cy a' ρ) ++ [oc cy ho f])) (rest := []) (st2 := [.int 1]) (pc := 1417) F G.1 G.2.1 G.2.2.1 (WT_remedy_0 l hfl D cy 900 a ho f γ (xs (ii + 1).toNatClampNeg) (xs (ii + 2).toNatClampNeg) E γ' h7 hE) (vx_cwSW 4 F.ts gLS_remedy rfl rfl rfl hdL_remedy ⟨Nat.le_of_ble_eq_true rfl, Nat.le_of_ble_eq_true rfl⟩) rfl dL_law_1417 (Fit2.both (Fit.left Fit.whole) Fit.whole) fstX7 rfl (Nat.le_of_ble_eq_true rfl) hcl hsl rfl rfl rfl ?_
      refine V_istore (L2 := [(5, .int 1), (4, .int ii), (3, .ref ho), (2, .ref (a' 0)), (1, .ref (a 0)), (0, .ref b)]) (pc := 1420) F dL_law_1420 (by decide) rfl ?_
      refine V_aload_n (pc := 1422) F dL_law_1422 rfl 3 rfl ?_
      refine V_aload_n (pc := 1423) F dL_law_1423 rfl 5 rfl ?_
      refine V_iload (pc := 1424) F dL_law_1424 1 rfl ?_
      refine V_iconst (pc := 1426) (v := 1) F dL_law_1426 rfl ?_
      refine V_iadd (pc := 1427) F dL_law_1427 ?_
      refine V_sld (pc := 1428) F G.2.2.2.1 G.2.2.2.2 G.nb i1 dL_law_1428 ?_
      refine V_aload_n (pc := 1429) F dL_law_1429 rfl 5 rfl ?_
      refine V_iload (pc := 1430) F dL_law_1430 1 rfl ?_
      refine V_iconst (pc := 1432) (v := 2) F dL_law_1432 rfl ?_
      refine V_iadd (pc := 1433) F dL_law_1433 ?_
      refine V_sld (pc := 1434) F G.2.2.2.1 G.2.2.2.2 G.nb i2 dL_law_1434 ?_
      refine V_V (w2 := ((wX7 cy a γ' ++ wX8 cy a' ρ') ++ [oc cy ho f])) (rest := []) (st2 := [.int x]) (pc := 1435) F 8 (M_X8_remedy l D cy 900 a' ρ (xs (ii + 1).toNatClampNeg) (xs (ii + 2).toNatClampNeg) (x, ρ') h8) (cwV 2 F.ts gL8_remedy rfl rfl rfl hd_X8_remedy ⟨Nat.le_of_ble_eq_true rfl, Nat.le_of_ble_eq_true rfl⟩) rfl dL_law_1435 (Fit.left (Fit.right Fit.whole)) fstX8 rfl rfl (Nat.le_of_ble_eq_true rfl) hcl hsl rfl rfl rfl ?_
      refine V_istore (L2 := [(6, .int x), (5, .int 1), (4, .int ii), (3, .ref ho), (2, .ref (a' 0)), (1, .ref (a 0)), (0, .ref b)]) (pc := 1438) F dL_law_1438 (by decide) rfl ?_
      refine V_aload_n (pc := 1440) F dL_law_1440 rfl 4 rfl ?_
      refine V_V (w2 := ((wX7 cy a γ' ++ wX8 cy a' ρ') ++ [oc cy ho f])) (rest := []) (st2 := [.int ρ'.1]) (pc := 1441) F 8 (M_X8_thrown l D cy 900 a' ρ' ρ'.1 rfl) (cwV 0 F.ts gL8_thrown rfl rfl rfl hd_X8_thrown ⟨Nat.le_of_ble_eq_true rfl, Nat.le_of_ble_eq_true rfl⟩) rfl dL_law_1441 (Fit.left (Fit.right Fit.whole)) rfl rfl rfl (Nat.le_of_ble_eq_true rfl) hcl hsl rfl rfl rfl ?_
      refine V_iload (pc := 1444) F dL_law_1444 1 rfl ?_
      refine V_icmp_eq (pc := 1446) (tgt := 1451) F dL_law_1446 (by decide) (fun _ => ?_) (fun h => absurd hk h)
      refine V_iload (pc := 1451) F dL_law_1451 1 rfl ?_
      refine V_if_ne (pc := 1453) (tgt := 1468) F dL_law_1453 (by decide) (fun _ => ?_) (fun h => absurd h (by decide))
      refine V_goto (pc := 1468) (tgt := 1526) F dL_law_1468 (by decide) ?_
      refine V.sub (L2 := [(4, .int ii), (3, .ref ho), (2, .ref (a' 0)), (1, .ref (a 0)), (0, .ref b)]) [2, 3, 4, 5, 6] rfl ?_
      exact K γ' ρ' f S2
    · replace hE : E = IAE := (Option.some.inj hE).symm
      replace hk : ρ'.1 = 2 := hk
      refine V_aload_n (pc := 1403) F dL_law_1403 rfl 3 rfl ?_
      refine V_aload_n (pc := 1404) F dL_law_1404 rfl 4 rfl ?_
      refine V_iload (pc := 1405) F dL_law_1405 0 rfl ?_
      refine V_iconst (pc := 1407) (v := 1) F dL_law_1407 rfl ?_
      refine V_iadd (pc := 1408) F dL_law_1408 ?_
      refine V_sld (pc := 1409) F G.2.2.2.1 G.2.2.2.2 G.nb i1 dL_law_1409 ?_
      refine V_aload_n (pc := 1410) F dL_law_1410 rfl 4 rfl ?_
      refine V_iload (pc := 1411) F dL_law_1411 0 rfl ?_
      refine V_iconst (pc := 1413) (v := 2) F dL_law_1413 rfl ?_
      refine V_iadd (pc := 1414) F dL_law_1414 ?_
      refine V_sld (pc := 1415) F G.2.2.2.1 G.2.2.2.2 G.nb i2 dL_law_1415 ?_
      refine V_aload_n (pc := 1416) F dL_law_1416 rfl 1 rfl ?_
      refine V_SW (w2 := ((wX7 cy a γ' ++ wX8 cy a' ρ) ++ [oc cy ho f])) (rest := []) (st2 := [.int 2]) (pc := 1417) F G.1 G.2.1 G.2.2.1 (WT_remedy_1 l hfl D cy 900 a ho f γ (xs (ii + 1).toNatClampNeg) (xs (ii + 2).toNatClampNeg) E γ' h7 hE) (vx_cwSW 4 F.ts gLS_remedy rfl rfl rfl hdL_remedy ⟨Nat.le_of_ble_eq_true rfl, Nat.le_of_ble_eq_true rfl⟩) rfl dL_law_1417 (Fit2.both (Fit.left Fit.whole) Fit.whole) fstX7 rfl (Nat.le_of_ble_eq_true rfl) hcl hsl rfl rfl rfl ?_
      refine V_istore (L2 := [(5, .int 2), (4, .int ii), (3, .ref ho), (2, .ref (a' 0)), (1, .ref (a 0)), (0, .ref b)]) (pc := 1420) F dL_law_1420 (by decide) rfl ?_
      refine V_aload_n (pc := 1422) F dL_law_1422 rfl 3 rfl ?_
      refine V_aload_n (pc := 1423) F dL_law_1423 rfl 5 rfl ?_
      refine V_iload (pc := 1424) F dL_law_1424 1 rfl ?_
      refine V_iconst (pc := 1426) (v := 1) F dL_law_1426 rfl ?_
      refine V_iadd (pc := 1427) F dL_law_1427 ?_
      refine V_sld (pc := 1428) F G.2.2.2.1 G.2.2.2.2 G.nb i1 dL_law_1428 ?_
      refine V_aload_n (pc := 1429) F dL_law_1429 rfl 5 rfl ?_
      refine V_iload (pc := 1430) F dL_law_1430 1 rfl ?_
      refine V_iconst (pc := 1432) (v := 2) F dL_law_1432 rfl ?_
      refine V_iadd (pc := 1433) F dL_law_1433 ?_
      refine V_sld (pc := 1434) F G.2.2.2.1 G.2.2.2.2 G.nb i2 dL_law_1434 ?_
      refine V_V (w2 := ((wX7 cy a γ' ++ wX8 cy a' ρ') ++ [oc cy ho f])) (rest := []) (st2 := [.int x]) (pc := 1435) F 8 (M_X8_remedy l D cy 900 a' ρ (xs (ii + 1).toNatClampNeg) (xs (ii + 2).toNatClampNeg) (x, ρ') h8) (cwV 2 F.ts gL8_remedy rfl rfl rfl hd_X8_remedy ⟨Nat.le_of_ble_eq_true rfl, Nat.le_of_ble_eq_true rfl⟩) rfl dL_law_1435 (Fit.left (Fit.right Fit.whole)) fstX8 rfl rfl (Nat.le_of_ble_eq_true rfl) hcl hsl rfl rfl rfl ?_
      refine V_istore (L2 := [(6, .int x), (5, .int 2), (4, .int ii), (3, .ref ho), (2, .ref (a' 0)), (1, .ref (a 0)), (0, .ref b)]) (pc := 1438) F dL_law_1438 (by decide) rfl ?_
      refine V_aload_n (pc := 1440) F dL_law_1440 rfl 4 rfl ?_
      refine V_V (w2 := ((wX7 cy a γ' ++ wX8 cy a' ρ') ++ [oc cy ho f])) (rest := []) (st2 := [.int ρ'.1]) (pc := 1441) F 8 (M_X8_thrown l D cy 900 a' ρ' ρ'.1 rfl) (cwV 0 F.ts gL8_thrown rfl rfl rfl hd_X8_thrown ⟨Nat.le_of_ble_eq_true rfl, Nat.le_of_ble_eq_true rfl⟩) rfl dL_law_1441 (Fit.left (Fit.right Fit.whole)) rfl rfl rfl (Nat.le_of_ble_eq_true rfl) hcl hsl rfl rfl rfl ?_
      refine V_iload (pc := 1444) F dL_law_1444 1 rfl ?_
      refine V_icmp_eq (pc := 1446) (tgt := 1451) F dL_law_1446 (by decide) (fun _ => ?_) (fun h => absurd hk h)
      refine V_iload (pc := 1451) F dL_law_1451 1 rfl ?_
      refine V_if_ne (pc := 1453) (tgt := 1468) F dL_law_1453 (by decide) (fun _ => ?_) (fun h => absurd h (by decide))
      refine V_goto (pc := 1468) (tgt := 1526) F dL_law_1468 (by decide) ?_
      refine V.sub (L2 := [(4, .int ii), (3, .ref ho), (2, .ref (a' 0)), (1, .ref (a 0)), (0, .ref b)]) [2, 3, 4, 5, 6] rfl ?_
      exact K γ' ρ' f S2
    · exact absurd hE (by simp)
set_option maxHeartbeats 8000000 in
theorem law_safeShare (hfl : l.stackTraces = false) (F : Fx p s m #[.ref b] meth c cL_law 9 RL nme lw_tbl ret D cy (aL s)) (G : FxL s b n xs) (hcl : cells + 1 ≤ room_1.cells) (hsl : slots + 6 ≤ room_1.slots) (S : SR γ ρ) (i1 : vp_in (ii + 1) n) (i2 : vp_in (ii + 2) n) (i3 : vp_in (ii + 3) n) (K : KL p l e s m below meth c D cy b a a' ho cells slots ii) : V p l e room_1 s m #[.ref b] below meth c 9 D (aL s) cells slots (lw_Z below #[.ref b] s) ((wX7 cy a γ ++ wX8 cy a' ρ) ++ [oc cy ho f]) [(4, .int ii), (3, .ref ho), (2, .ref (a' 0)), (1, .ref (a 0)), (0, .ref b)] [] 1471 := by
  obtain ⟨x, ρ', h7, h8, S2⟩ : ∃ y ρ', fX7_safeShare 900 γ = some y ∧ fX8_safeShare 900 ρ = some (y, ρ') ∧ SR γ ρ' := share_call (m := γ.1) (h := γ.2.1) (tx := γ.2.2.1) (pf := γ.2.2.2) (t := ρ.1) (z := ρ.2.1) (S' := ρ.2.2.1) (kk := ρ.2.2.2.1) (u := ρ.2.2.2.2) S (show 900 ≤ 900 from Nat.le_refl _)
  by_cases hz : Op.cmpValue (FP.dcmp x x) .l = 0
  · refine V_aload_n (pc := 1471) F dL_law_1471 rfl 3 rfl ?_
    refine V_V (w2 := ((wX7 cy a γ ++ wX8 cy a' ρ) ++ [oc cy ho f])) (rest := []) (st2 := [.double x]) (pc := 1472) F 7 (M_X7_safeShare l D cy 900 a γ x h7) (cwV 0 F.ts gL7_safeShare rfl rfl rfl hd_X7_safeShare ⟨Nat.le_of_ble_eq_true rfl, Nat.le_of_ble_eq_true rfl⟩) rfl dL_law_1472 (Fit.left (Fit.left Fit.whole)) rfl rfl rfl (Nat.le_of_ble_eq_true rfl) (Nat.le_of_succ_le hcl) (Nat.le_trans (Nat.le_add_right _ 6) hsl) rfl rfl rfl ?_
    refine V_dstore (L2 := [(5, .double x), (4, .int ii), (3, .ref ho), (2, .ref (a' 0)), (1, .ref (a 0)), (0, .ref b)]) (pc := 1475) F dL_law_1475 (by decide) rfl ?_
    refine V_aload_n (pc := 1477) F dL_law_1477 rfl 3 rfl ?_
    refine V_V (w2 := ((wX7 cy a γ ++ wX8 cy a' ρ') ++ [oc cy ho f])) (rest := []) (st2 := [.double x]) (pc := 1478) F 8 (M_X8_safeShare l D cy 900 a' ρ (x, ρ') h8) (cwV 0 F.ts gL8_safeShare rfl rfl rfl hd_X8_safeShare ⟨Nat.le_of_ble_eq_true rfl, Nat.le_of_ble_eq_true rfl⟩) rfl dL_law_1478 (Fit.left (Fit.right Fit.whole)) fstX8 rfl rfl (Nat.le_of_ble_eq_true rfl) (Nat.le_of_succ_le hcl) (Nat.le_trans (Nat.le_add_right _ 6) hsl) rfl rfl rfl ?_
    refine V_dstore (L2 := [(7, .double x), (5, .double x), (4, .int ii), (3, .ref ho), (2, .ref (a' 0)), (1, .ref (a 0)), (0, .ref b)]) (pc := 1481) F dL_law_1481 (by decide) rfl ?_
    refine V_dload (pc := 1483) F dL_law_1483 1 rfl ?_
    refine V_dload (pc := 1485) F dL_law_1485 0 rfl ?_
    refine V_dcmp (pc := 1487) F dL_law_1487 ?_
    refine V_if_eq (pc := 1488) (tgt := 1509) F dL_law_1488 (by decide) (fun _ => ?_) (fun h => absurd hz h)
    refine V_goto (pc := 1509) (tgt := 1526) F dL_law_1509 (by decide) ?_
    refine V_widen (k := cells + 1) (n := slots + 6) (Nat.le_add_right _ 1) (Nat.le_add_right _ 6) ?_
    refine V.sub (L2 := [(4, .int ii), (3, .ref ho), (2, .ref (a' 0)), (1, .ref (a 0)), (0, .ref b)]) [2, 3, 4, 5, 6] rfl ?_
    exact K γ ρ' f S2
  · refine V_aload_n (pc := 1471) F dL_law_1471 rfl 3 rfl ?_
    refine V_V (w2 := ((wX7 cy a γ ++ wX8 cy a' ρ) ++ [oc cy ho f])) (rest := []) (st2 := [.double x]) (pc := 1472) F 7 (M_X7_safeShare l D cy 900 a γ x h7) (cwV 0 F.ts gL7_safeShare rfl rfl rfl hd_X7_safeShare ⟨Nat.le_of_ble_eq_true rfl, Nat.le_of_ble_eq_true rfl⟩) rfl dL_law_1472 (Fit.left (Fit.left Fit.whole)) rfl rfl rfl (Nat.le_of_ble_eq_true rfl) (Nat.le_of_succ_le hcl) (Nat.le_trans (Nat.le_add_right _ 6) hsl) rfl rfl rfl ?_
    refine V_dstore (L2 := [(5, .double x), (4, .int ii), (3, .ref ho), (2, .ref (a' 0)), (1, .ref (a 0)), (0, .ref b)]) (pc := 1475) F dL_law_1475 (by decide) rfl ?_
    refine V_aload_n (pc := 1477) F dL_law_1477 rfl 3 rfl ?_
    refine V_V (w2 := ((wX7 cy a γ ++ wX8 cy a' ρ') ++ [oc cy ho f])) (rest := []) (st2 := [.double x]) (pc := 1478) F 8 (M_X8_safeShare l D cy 900 a' ρ (x, ρ') h8) (cwV 0 F.ts gL8_safeShare rfl rfl rfl hd_X8_safeShare ⟨Nat.le_of_ble_eq_true rfl, Nat.le_of_ble_eq_true rfl⟩) rfl dL_law_1478 (Fit.left (Fit.right Fit.whole)) fstX8 rfl rfl (Nat.le_of_ble_eq_true rfl) (Nat.le_of_succ_le hcl) (Nat.le_trans (Nat.le_add_right _ 6) hsl) rfl rfl rfl ?_
    refine V_dstore (L2 := [(7, .double x), (5, .double x), (4, .int ii), (3, .ref ho), (2, .ref (a' 0)), (1, .ref (a 0)), (0, .ref b)]) (pc := 1481) F dL_law_1481 (by decide) rfl ?_
    refine V_dload (pc := 1483) F dL_law_1483 1 rfl ?_
    refine V_dload (pc := 1485) F dL_law_1485 0 rfl ?_
    refine V_dcmp (pc := 1487) F dL_law_1487 ?_
    refine V_if_eq (pc := 1488) (tgt := 1509) F dL_law_1488 (by decide) (fun h => absurd h hz) (fun _ => ?_)
    refine V_dload (pc := 1491) F dL_law_1491 1 rfl ?_
    refine V_dload (pc := 1493) F dL_law_1493 1 rfl ?_
    refine V_dcmp (pc := 1495) F dL_law_1495 ?_
    refine V_if_eq (pc := 1496) (tgt := 1507) F dL_law_1496 (by decide) (fun h => absurd h hz) (fun _ => ?_)
    refine V_dload (pc := 1499) F dL_law_1499 0 rfl ?_
    refine V_dload (pc := 1501) F dL_law_1501 0 rfl ?_
    refine V_dcmp (pc := 1503) F dL_law_1503 ?_
    refine V_if_ne (pc := 1504) (tgt := 1509) F dL_law_1504 (by decide) (fun _ => ?_) (fun h => absurd h hz)
    refine V_goto (pc := 1509) (tgt := 1526) F dL_law_1509 (by decide) ?_
    refine V_widen (k := cells + 1) (n := slots + 6) (Nat.le_add_right _ 1) (Nat.le_add_right _ 6) ?_
    refine V.sub (L2 := [(4, .int ii), (3, .ref ho), (2, .ref (a' 0)), (1, .ref (a 0)), (0, .ref b)]) [2, 3, 4, 5, 6] rfl ?_
    exact K γ ρ' f S2
set_option maxHeartbeats 8000000 in
theorem law_digest (hfl : l.stackTraces = false) (F : Fx p s m #[.ref b] meth c cL_law 9 RL nme lw_tbl ret D cy (aL s)) (G : FxL s b n xs) (hcl : cells + 1 ≤ room_1.cells) (hsl : slots + 6 ≤ room_1.slots) (S : SR γ ρ) (i1 : vp_in (ii + 1) n) (i2 : vp_in (ii + 2) n) (i3 : vp_in (ii + 3) n) (K : KL p l e s m below meth c D cy b a a' ho cells slots ii) : V p l e room_1 s m #[.ref b] below meth c 9 D (aL s) cells slots (lw_Z below #[.ref b] s) ((wX7 cy a γ ++ wX8 cy a' ρ) ++ [oc cy ho f]) [(4, .int ii), (3, .ref ho), (2, .ref (a' 0)), (1, .ref (a 0)), (0, .ref b)] [] 1512 := by
  obtain ⟨x, γ', ρ', h7, h8, S2⟩ : ∃ x γ' ρ', fX7_digest 900 γ = some (.inr (x, γ')) ∧ fX8_digest 900 ρ = some (x, ρ') ∧ SR γ' ρ' := digest_call (m := γ.1) (h := γ.2.1) (tx := γ.2.2.1) (pf := γ.2.2.2) (t := ρ.1) (z := ρ.2.1) (S' := ρ.2.2.1) (kk := ρ.2.2.2.1) (u := ρ.2.2.2.2) S (show 900 ≤ 900 from Nat.le_refl _)
  refine V_aload_n (pc := 1512) F dL_law_1512 rfl 3 rfl ?_
  refine V_V (w2 := ((wX7 cy a γ' ++ wX8 cy a' ρ) ++ [oc cy ho f])) (rest := []) (st2 := [.long x]) (pc := 1513) F 7 (M_X7_digest l D cy 900 a γ (x, γ') h7) (cwV 0 F.ts gL7_digest rfl rfl rfl hd_X7_digest ⟨Nat.le_of_ble_eq_true rfl, Nat.le_of_ble_eq_true rfl⟩) rfl dL_law_1513 (Fit.left (Fit.left Fit.whole)) fstX7 rfl rfl (Nat.le_of_ble_eq_true rfl) (Nat.le_of_succ_le hcl) (Nat.le_trans (Nat.le_add_right _ 6) hsl) rfl rfl rfl ?_
  refine V_aload_n (pc := 1516) F dL_law_1516 rfl 2 rfl ?_
  refine V_V (w2 := ((wX7 cy a γ' ++ wX8 cy a' ρ') ++ [oc cy ho f])) (rest := [.long x]) (st2 := [.long x, .long x]) (pc := 1517) F 8 (M_X8_digest l D cy 900 a' ρ (x, ρ') h8) (cwV 0 F.ts gL8_digest rfl rfl rfl hd_X8_digest ⟨Nat.le_of_ble_eq_true rfl, Nat.le_of_ble_eq_true rfl⟩) rfl dL_law_1517 (Fit.left (Fit.right Fit.whole)) fstX8 rfl rfl (Nat.le_of_ble_eq_true rfl) (Nat.le_of_succ_le hcl) (Nat.le_trans (Nat.le_add_right _ 6) hsl) rfl rfl rfl ?_
  refine V_lcmp (pc := 1520) F dL_law_1520 ?_
  refine V_if_eq (pc := 1521) (tgt := 1526) F dL_law_1521 (by decide) (fun _ => ?_) (fun h => absurd (lgc_self _) h)
  refine V_widen (k := cells + 1) (n := slots + 6) (Nat.le_add_right _ 1) (Nat.le_add_right _ 6) ?_
  exact K γ' ρ' f S2
end VC
