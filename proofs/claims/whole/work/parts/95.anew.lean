/-! what the law knows of the classes at its start -/
set_option maxRecDepth 20000 in
theorem nW_in : ∀ q ∈ nW, Cond.methodLinkNest q.1 q.2.1 q.2.2 "LeafTrees" ∈ lw_tbl := by decide +kernel
set_option maxRecDepth 20000 in
theorem kn_ao : Cond.arrayOver (.object "LeafTrees$Row") ∈ lw_tbl ∧ Cond.arrayOver (.object "LeafTrees$Rule") ∈ lw_tbl ∧ Cond.arrayOver (.object "LeafTrees$Tally") ∈ lw_tbl ∧ Cond.arrayOver (.array .long) ∈ lw_tbl := by decide +kernel
set_option maxRecDepth 20000 in
theorem kn_ac : Cond.arrayClass .int ∈ lw_tbl ∧ Cond.arrayClass .long ∈ lw_tbl ∧ Cond.arrayClass .boolean ∈ lw_tbl := by decide +kernel
set_option maxRecDepth 20000 in
theorem kn_in1 : Cond.instantiable RX0 6 ∈ lw_tbl ∧ Cond.instantiable RX1 5 ∈ lw_tbl ∧ Cond.instantiable RX2 5 ∈ lw_tbl ∧ Cond.instantiable RX3 2 ∈ lw_tbl ∧ Cond.instantiable RX4 3 ∈ lw_tbl := by decide +kernel
set_option maxRecDepth 20000 in
theorem kn_in2 : Cond.instantiable RX5 2 ∈ lw_tbl ∧ Cond.instantiable RX6 1 ∈ lw_tbl ∧ Cond.instantiable RX7 3 ∈ lw_tbl ∧ Cond.instantiable RX8 4 ∈ lw_tbl ∧ Cond.instantiable RX9 14 ∈ lw_tbl ∧ Cond.instantiable RX10 22 ∈ lw_tbl := by decide +kernel
set_option maxRecDepth 20000 in
theorem kn_new : Cond.classLink RL 7 RX9 ∈ lw_tbl ∧ Cond.classLink RL 10 RX10 ∈ lw_tbl ∧ Cond.initialized RX9 ∈ lw_tbl ∧ Cond.initialized RX10 ∈ lw_tbl ∧ Cond.methodLink RL 9 yX9_init ∈ lw_tbl ∧ Cond.methodLink RL 12 yX10_init ∈ lw_tbl ∧ Cond.instanceMethod yX9_init ∈ lw_tbl ∧ Cond.instanceMethod yX10_init ∈ lw_tbl := by decide +kernel
section LU
variable {args : Array Value} {s : State}
theorem law_nw (h : ∀ w ∈ lw_tbl, w.before args s = true) : nwOK s := ⟨fun q hq => va_Nw.of rfl (h _ (nW_in q hq)), va_AO.of (h _ kn_ao.1), va_AO.of (h _ kn_ao.2.1), va_AO.of (h _ kn_ao.2.2.1), va_AOA.of (h _ kn_ao.2.2.2)⟩
theorem law_known (h : ∀ w ∈ lw_tbl, w.before args s = true) : ∃ (dC : Nat → ClassId) (dI : Nat → Nat → Nat) (aC : Nat → ClassId), va_K (dC, dI) vwCl (gT aC) s :=
  known_all (Ts := wsL_law) (fun w hw => h w (wsL_law_in w hw)) inlX0 (h _ kn_in1.1) inlX1 (h _ kn_in1.2.1) inlX2 (h _ kn_in1.2.2.1) inlX3 (h _ kn_in1.2.2.2.1) inlX4 (h _ kn_in1.2.2.2.2) inlX5 (h _ kn_in2.1) inlX6 (h _ kn_in2.2.1) inlX7 (h _ kn_in2.2.2.1) inlX8 (h _ kn_in2.2.2.2.1) inlX9 (h _ kn_in2.2.2.2.2.1) inlX10 (h _ kn_in2.2.2.2.2.2) (h _ kn_ac.1) (h _ kn_ac.2.1) (h _ kn_ac.2.2) (law_nw h)
end LU
