/-! the law, call by call -/
section LQ1
variable {p : Program} {l : Launch} {e : Env} {s : State} {m : MethodId} {below : List Frame} {meth : Method} {c : Code} {H : Heap} {locs : List Loc} {Qp : State → Prop} {b L i A n : Nat} {xs : Nat → Int32} {dC : Nat → ClassId} {dI : Nat → Nat → Nat} {aC : Nat → ClassId} {ls : Array Slot} {am ad cap : Nat → Nat} {v w : Nat → Int32} {R Q : Nat → List Int32} {F K : Nat → Nat → Int32} {G J : Nat → Nat → Int64}
set_option maxHeartbeats 1000000 in
set_option maxRecDepth 100000 in
/-- act -/
theorem la_act (hX : LX p s m c b L xs dC dI aC) (hl : lv_has ls 4 [(0, .ref b), (1, .ref (ad 0)), (2, .ref (am 0)), (3, .int (nI i))]) (hi : i + 5 ≤ L) (hW : WO dC dI aC am s.heap.size ad cap (v, R, F, G) (w, Q, K, J) H) (hS : va_S (lwA s) s.heap H locs) (hLL : LL A n (v, R, F, G) (w, Q, K, J)) (kk : LN p l e s m below meth c b dC dI aC am (ad 0) Qp ls) : W p l e room_1 s m #[Value.ref b] below meth c H locs (134 + (cs cap - 96)) (4820 + 4 * (cs cap - 96)) Qp (F0 m 136 ls []) := by
  obtain ⟨hx, hb, hml, hown, hts, hXX, hbl, hK, hL⟩ := id hX
  have ha : LA A n v R F := hLL.1
  have hc : LC A n v R F G := hLL.2.1
  have hm : LM A n v R F w Q K J := hLL.2.2
  have hq := hm.2.2.2.2.1
  have hV := ha.2.2.2.2.1
  have hf := la_room hW.2.2.2.2.2.1
  refine lv_aload_n hx hb dL_law_136 rfl (lv_at hl 1 rfl) ?_
  refine la_arg (t := 1) hX hS hl hi (by decide) (by decide) dL_law_137 dL_law_138 dL_law_139 dL_law_140 dL_law_141 ?_
  refine ly_xi (As := [.int (xs (i + 1))]) (rest := []) ⟨hx, hb, hml, hown, hts⟩ (x_act l dC dI aC ad cap hW.1 v R F G A ha.2.1 ha.1.1 (xs (i + 1))) (cwV 1 hts gL_law_X9_act rfl rfl rfl (by decide +kernel) ⟨Nat.le_of_ble_eq_true rfl, Nat.le_of_ble_eq_true rfl⟩) hK hW hS rfl hl.1 rfl (Nat.le_of_ble_eq_true rfl) dL_law_142 hf (fun r1 u1 H1 locs1 hp1 hW1 hS1 => ?_)
  obtain ⟨e1, rfl⟩ := hp1
  refine lv_aload_n hx hb dL_law_145 rfl (lv_at hl 2 rfl) ?_
  refine la_arg (t := 1) hX hS1 hl hi (by decide) (by decide) dL_law_146 dL_law_147 dL_law_148 dL_law_149 dL_law_150 ?_
  refine ly_mi (As := [.int (xs (i + 1))]) (rest := [.int r1]) ⟨hx, hb, hml, hown, hts⟩ (k_act l dC dI aC am hW.2.1 w Q K J A hm.1 ha.1.1 (xs (i + 1))) (cwV 1 hts gL_law_X10_act rfl rfl rfl (by decide +kernel) ⟨Nat.le_of_ble_eq_true rfl, Nat.le_of_ble_eq_true rfl⟩) hK hW1 hS1 rfl hl.1 rfl (Nat.le_of_ble_eq_true rfl) dL_law_151 hf (fun r2 z1 H2 locs2 hp2 hW2 hS2 => ?_)
  obtain ⟨e2, rfl⟩ := hp2
  have hr : r1 = r2 := e1.trans e2.symm
  refine lv_icmp_eq (tgt := 726) hx hb dL_law_154 (by decide) (fun _ => ?_) (fun ne => absurd hr ne)
  refine kk ad cap _ _ H2 locs2 rfl hW2 hS2 ?_
  rw [xAct]
  by_cases q : (¬ xs (i + 1) < nI 2 ∧ ¬ nI 3 < xs (i + 1)) ∧ A ≠ 4
  · rw [if_pos q, if_pos q]; exact ⟨A + 1, n, hLL.act (act_in.mpr q.1) q.2⟩
  · rw [if_neg q, if_neg q]; exact ⟨A, n, hLL⟩
set_option maxHeartbeats 1000000 in
set_option maxRecDepth 100000 in
/-- put -/
theorem la_put (hX : LX p s m c b L xs dC dI aC) (hl : lv_has ls 4 [(0, .ref b), (1, .ref (ad 0)), (2, .ref (am 0)), (3, .int (nI i))]) (hi : i + 5 ≤ L) (hW : WO dC dI aC am s.heap.size ad cap (v, R, F, G) (w, Q, K, J) H) (hS : va_S (lwA s) s.heap H locs) (hLL : LL A n (v, R, F, G) (w, Q, K, J)) (kk : LN p l e s m below meth c b dC dI aC am (ad 0) Qp ls) : W p l e room_1 s m #[Value.ref b] below meth c H locs (134 + (cs cap - 96)) (4820 + 4 * (cs cap - 96)) Qp (F0 m 159 ls []) := by
  obtain ⟨hx, hb, hml, hown, hts, hXX, hbl, hK, hL⟩ := id hX
  have ha : LA A n v R F := hLL.1
  have hc : LC A n v R F G := hLL.2.1
  have hm : LM A n v R F w Q K J := hLL.2.2
  have hq := hm.2.2.2.2.1
  have hV := ha.2.2.2.2.1
  have hf := la_room hW.2.2.2.2.2.1
  refine lv_aload_n hx hb dL_law_159 rfl (lv_at hl 1 rfl) ?_
  refine la_arg (t := 1) hX hS hl hi (by decide) (by decide) dL_law_160 dL_law_161 dL_law_162 dL_law_163 dL_law_164 ?_
  refine la_arg (t := 2) hX hS hl hi (by decide) (by decide) dL_law_165 dL_law_166 dL_law_167 dL_law_168 dL_law_169 ?_
  refine ly_xi (As := [.int (xs (i + 1)), .int (xs (i + 2))]) (rest := []) ⟨hx, hb, hml, hown, hts⟩ (x_put l dC dI aC ad cap hW.1 v R F G A ha.2.1 ha.1.1 (xs (i + 1)) (xs (i + 2))) (cwV 2 hts gL_law_X9_put rfl rfl rfl (by decide +kernel) ⟨Nat.le_of_ble_eq_true rfl, Nat.le_of_ble_eq_true rfl⟩) hK hW hS rfl hl.1 rfl (Nat.le_of_ble_eq_true rfl) dL_law_170 hf (fun r1 u1 H1 locs1 hp1 hW1 hS1 => ?_)
  obtain ⟨e1, rfl⟩ := hp1
  refine lv_aload_n hx hb dL_law_173 rfl (lv_at hl 2 rfl) ?_
  refine la_arg (t := 1) hX hS1 hl hi (by decide) (by decide) dL_law_174 dL_law_175 dL_law_176 dL_law_177 dL_law_178 ?_
  refine la_arg (t := 2) hX hS1 hl hi (by decide) (by decide) dL_law_179 dL_law_180 dL_law_181 dL_law_182 dL_law_183 ?_
  refine ly_mi (As := [.int (xs (i + 1)), .int (xs (i + 2))]) (rest := [.int r1]) ⟨hx, hb, hml, hown, hts⟩ (k_put l dC dI aC am hW.2.1 w Q K J A hm.1 ha.1.1 (xs (i + 1)) (xs (i + 2))) (cwV 2 hts gL_law_X10_put rfl rfl rfl (by decide +kernel) ⟨Nat.le_of_ble_eq_true rfl, Nat.le_of_ble_eq_true rfl⟩) hK hW1 hS1 rfl hl.1 rfl (Nat.le_of_ble_eq_true rfl) dL_law_184 hf (fun r2 z1 H2 locs2 hp2 hW2 hS2 => ?_)
  obtain ⟨e2, rfl⟩ := hp2
  have hw := w_put (a := (xs (i + 1))) (z := (xs (i + 2))) hq hV ha.1.1
  have hr : r1 = r2 := e1.trans (hw.1.symm.trans e2.symm)
  refine lv_icmp_eq (tgt := 726) hx hb dL_law_187 (by decide) (fun _ => ?_) (fun ne => absurd hr ne)
  exact kk ad cap _ _ H2 locs2 rfl hW2 hS2 ⟨A, n, hLL.rows hw.2 (fun _ _ => rfl) rfl rfl rfl rfl rfl rfl rfl⟩
set_option maxHeartbeats 1000000 in
set_option maxRecDepth 100000 in
/-- empty -/
theorem la_empty (hX : LX p s m c b L xs dC dI aC) (hl : lv_has ls 4 [(0, .ref b), (1, .ref (ad 0)), (2, .ref (am 0)), (3, .int (nI i))]) (hi : i + 5 ≤ L) (hW : WO dC dI aC am s.heap.size ad cap (v, R, F, G) (w, Q, K, J) H) (hS : va_S (lwA s) s.heap H locs) (hLL : LL A n (v, R, F, G) (w, Q, K, J)) (kk : LN p l e s m below meth c b dC dI aC am (ad 0) Qp ls) : W p l e room_1 s m #[Value.ref b] below meth c H locs (134 + (cs cap - 96)) (4820 + 4 * (cs cap - 96)) Qp (F0 m 192 ls []) := by
  obtain ⟨hx, hb, hml, hown, hts, hXX, hbl, hK, hL⟩ := id hX
  have ha : LA A n v R F := hLL.1
  have hc : LC A n v R F G := hLL.2.1
  have hm : LM A n v R F w Q K J := hLL.2.2
  have hq := hm.2.2.2.2.1
  have hV := ha.2.2.2.2.1
  have hf := la_room hW.2.2.2.2.2.1
  refine lv_aload_n hx hb dL_law_192 rfl (lv_at hl 1 rfl) ?_
  refine la_arg (t := 1) hX hS hl hi (by decide) (by decide) dL_law_193 dL_law_194 dL_law_195 dL_law_196 dL_law_197 ?_
  refine ly_xi (As := [.int (xs (i + 1))]) (rest := []) ⟨hx, hb, hml, hown, hts⟩ (x_empty l dC dI aC ad cap hW.1 v R F G (xs (i + 1))) (cwV 1 hts gL_law_X9_empty rfl rfl rfl (by decide +kernel) ⟨Nat.le_of_ble_eq_true rfl, Nat.le_of_ble_eq_true rfl⟩) hK hW hS rfl hl.1 rfl (Nat.le_of_ble_eq_true rfl) dL_law_198 hf (fun r1 u1 H1 locs1 hp1 hW1 hS1 => ?_)
  obtain ⟨e1, rfl⟩ := hp1
  refine lv_aload_n hx hb dL_law_201 rfl (lv_at hl 2 rfl) ?_
  refine la_arg (t := 1) hX hS1 hl hi (by decide) (by decide) dL_law_202 dL_law_203 dL_law_204 dL_law_205 dL_law_206 ?_
  refine ly_mi (As := [.int (xs (i + 1))]) (rest := [.int r1]) ⟨hx, hb, hml, hown, hts⟩ (k_empty l dC dI aC am hW.2.1 w Q K J (xs (i + 1))) (cwV 1 hts gL_law_X10_empty rfl rfl rfl (by decide +kernel) ⟨Nat.le_of_ble_eq_true rfl, Nat.le_of_ble_eq_true rfl⟩) hK hW1 hS1 rfl hl.1 rfl (Nat.le_of_ble_eq_true rfl) dL_law_207 hf (fun r2 z1 H2 locs2 hp2 hW2 hS2 => ?_)
  obtain ⟨e2, rfl⟩ := hp2
  have hw := w_empty (a := (xs (i + 1))) hq hV
  have hr : r1 = r2 := e1.trans (hw.1.symm.trans e2.symm)
  refine lv_icmp_eq (tgt := 726) hx hb dL_law_210 (by decide) (fun _ => ?_) (fun ne => absurd hr ne)
  exact kk ad cap _ _ H2 locs2 rfl hW2 hS2 ⟨A, n, hLL.rows hw.2 (fun _ _ => rfl) rfl rfl rfl rfl rfl rfl rfl⟩
set_option maxHeartbeats 1000000 in
set_option maxRecDepth 100000 in
/-- at -/
theorem la_at (hX : LX p s m c b L xs dC dI aC) (hl : lv_has ls 4 [(0, .ref b), (1, .ref (ad 0)), (2, .ref (am 0)), (3, .int (nI i))]) (hi : i + 5 ≤ L) (hW : WO dC dI aC am s.heap.size ad cap (v, R, F, G) (w, Q, K, J) H) (hS : va_S (lwA s) s.heap H locs) (hLL : LL A n (v, R, F, G) (w, Q, K, J)) (kk : LN p l e s m below meth c b dC dI aC am (ad 0) Qp ls) : W p l e room_1 s m #[Value.ref b] below meth c H locs (134 + (cs cap - 96)) (4820 + 4 * (cs cap - 96)) Qp (F0 m 215 ls []) := by
  obtain ⟨hx, hb, hml, hown, hts, hXX, hbl, hK, hL⟩ := id hX
  have ha : LA A n v R F := hLL.1
  have hc : LC A n v R F G := hLL.2.1
  have hm : LM A n v R F w Q K J := hLL.2.2
  have hq := hm.2.2.2.2.1
  have hV := ha.2.2.2.2.1
  have hf := la_room hW.2.2.2.2.2.1
  refine lv_aload_n hx hb dL_law_215 rfl (lv_at hl 1 rfl) ?_
  refine la_arg (t := 1) hX hS hl hi (by decide) (by decide) dL_law_216 dL_law_217 dL_law_218 dL_law_219 dL_law_220 ?_
  refine la_arg (t := 2) hX hS hl hi (by decide) (by decide) dL_law_221 dL_law_222 dL_law_223 dL_law_224 dL_law_225 ?_
  refine ly_xpi (As := [.int (xs (i + 1)), .int (xs (i + 2))]) (rest := []) ⟨hx, hb, hml, hown, hts⟩ (x_at l dC dI aC ad cap v R F G (xs (i + 1)) (xs (i + 2))) (cwV 2 hts gL_law_X9_at rfl rfl rfl (by decide +kernel) ⟨Nat.le_of_ble_eq_true rfl, Nat.le_of_ble_eq_true rfl⟩) hK hW rfl hl.1 rfl (Nat.le_of_ble_eq_true rfl) dL_law_226 hf (fun r1 e1 => ?_)
  refine lv_aload_n hx hb dL_law_229 rfl (lv_at hl 2 rfl) ?_
  refine la_arg (t := 1) hX hS hl hi (by decide) (by decide) dL_law_230 dL_law_231 dL_law_232 dL_law_233 dL_law_234 ?_
  refine la_arg (t := 2) hX hS hl hi (by decide) (by decide) dL_law_235 dL_law_236 dL_law_237 dL_law_238 dL_law_239 ?_
  refine ly_mpi (As := [.int (xs (i + 1)), .int (xs (i + 2))]) (rest := [.int r1]) ⟨hx, hb, hml, hown, hts⟩ (k_at l dC dI aC am w Q K J (xs (i + 1)) (xs (i + 2))) (cwV 2 hts gL_law_X10_at rfl rfl rfl (by decide +kernel) ⟨Nat.le_of_ble_eq_true rfl, Nat.le_of_ble_eq_true rfl⟩) hK hW rfl hl.1 rfl (Nat.le_of_ble_eq_true rfl) dL_law_240 hf (fun r2 e2 => ?_)
  have hr : r1 = r2 := e1.trans ((w_at hq).symm.trans e2.symm)
  refine lv_icmp_eq (tgt := 726) hx hb dL_law_243 (by decide) (fun _ => ?_) (fun ne => absurd hr ne)
  exact kk ad cap _ _ H locs rfl hW hS ⟨A, n, hLL⟩
set_option maxHeartbeats 1000000 in
set_option maxRecDepth 100000 in
/-- about -/
theorem la_about (hX : LX p s m c b L xs dC dI aC) (hl : lv_has ls 4 [(0, .ref b), (1, .ref (ad 0)), (2, .ref (am 0)), (3, .int (nI i))]) (hi : i + 5 ≤ L) (hW : WO dC dI aC am s.heap.size ad cap (v, R, F, G) (w, Q, K, J) H) (hS : va_S (lwA s) s.heap H locs) (hLL : LL A n (v, R, F, G) (w, Q, K, J)) (kk : LN p l e s m below meth c b dC dI aC am (ad 0) Qp ls) : W p l e room_1 s m #[Value.ref b] below meth c H locs (134 + (cs cap - 96)) (4820 + 4 * (cs cap - 96)) Qp (F0 m 248 ls []) := by
  obtain ⟨hx, hb, hml, hown, hts, hXX, hbl, hK, hL⟩ := id hX
  have ha : LA A n v R F := hLL.1
  have hc : LC A n v R F G := hLL.2.1
  have hm : LM A n v R F w Q K J := hLL.2.2
  have hq := hm.2.2.2.2.1
  have hV := ha.2.2.2.2.1
  have hf := la_room hW.2.2.2.2.2.1
  refine lv_aload_n hx hb dL_law_248 rfl (lv_at hl 1 rfl) ?_
  refine la_arg (t := 1) hX hS hl hi (by decide) (by decide) dL_law_249 dL_law_250 dL_law_251 dL_law_252 dL_law_253 ?_
  refine la_arg (t := 2) hX hS hl hi (by decide) (by decide) dL_law_254 dL_law_255 dL_law_256 dL_law_257 dL_law_258 ?_
  refine ly_xi (As := [.int (xs (i + 1)), .int (xs (i + 2))]) (rest := []) ⟨hx, hb, hml, hown, hts⟩ (x_about l dC dI aC ad cap hW.1 v R F G A ha.1 ha.2.1 ha.hV (xs (i + 1)) (xs (i + 2))) (cwV 2 hts gL_law_X9_about rfl rfl rfl (by decide +kernel) ⟨Nat.le_of_ble_eq_true rfl, Nat.le_of_ble_eq_true rfl⟩) hK hW hS rfl hl.1 rfl (Nat.le_of_ble_eq_true rfl) dL_law_259 hf (fun r1 u1 H1 locs1 hp1 hW1 hS1 => ?_)
  obtain ⟨f1, rfl, e1⟩ := hp1
  refine lv_aload_n hx hb dL_law_262 rfl (lv_at hl 2 rfl) ?_
  refine la_arg (t := 1) hX hS1 hl hi (by decide) (by decide) dL_law_263 dL_law_264 dL_law_265 dL_law_266 dL_law_267 ?_
  refine la_arg (t := 2) hX hS1 hl hi (by decide) (by decide) dL_law_268 dL_law_269 dL_law_270 dL_law_271 dL_law_272 ?_
  refine ly_mi (As := [.int (xs (i + 1)), .int (xs (i + 2))]) (rest := [.int r1]) ⟨hx, hb, hml, hown, hts⟩ (k_about l dC dI aC am hW.2.1 w Q K J A (hm.hE ha) (hm.hV10 ha) (xs (i + 1)) (xs (i + 2))) (cwV 2 hts gL_law_X10_about rfl rfl rfl (by decide +kernel) ⟨Nat.le_of_ble_eq_true rfl, Nat.le_of_ble_eq_true rfl⟩) hK hW1 hS1 rfl hl.1 rfl (Nat.le_of_ble_eq_true rfl) dL_law_273 hf (fun r2 z1 H2 locs2 hp2 hW2 hS2 => ?_)
  obtain ⟨o1, rfl, e2⟩ := hp2
  rw [hm.2.2.1] at e2
  have hr : r1 = r2 := e1.trans ((w_about hq).symm.trans e2.symm)
  refine lv_icmp_eq (tgt := 726) hx hb dL_law_276 (by decide) (fun _ => ?_) (fun ne => absurd hr ne)
  exact kk ad cap _ _ H2 locs2 rfl hW2 hS2 ⟨A, n, hLL.rows (rw4_id hq hV) (fun _ _ => rfl) rfl rfl rfl rfl rfl rfl rfl⟩
set_option maxHeartbeats 1000000 in
set_option maxRecDepth 100000 in
/-- graft -/
theorem la_graft (hX : LX p s m c b L xs dC dI aC) (hl : lv_has ls 4 [(0, .ref b), (1, .ref (ad 0)), (2, .ref (am 0)), (3, .int (nI i))]) (hi : i + 5 ≤ L) (hW : WO dC dI aC am s.heap.size ad cap (v, R, F, G) (w, Q, K, J) H) (hS : va_S (lwA s) s.heap H locs) (hLL : LL A n (v, R, F, G) (w, Q, K, J)) (kk : LN p l e s m below meth c b dC dI aC am (ad 0) Qp ls) : W p l e room_1 s m #[Value.ref b] below meth c H locs (134 + (cs cap - 96)) (4820 + 4 * (cs cap - 96)) Qp (F0 m 281 ls []) := by
  obtain ⟨hx, hb, hml, hown, hts, hXX, hbl, hK, hL⟩ := id hX
  have ha : LA A n v R F := hLL.1
  have hc : LC A n v R F G := hLL.2.1
  have hm : LM A n v R F w Q K J := hLL.2.2
  have hq := hm.2.2.2.2.1
  have hV := ha.2.2.2.2.1
  have hf := la_room hW.2.2.2.2.2.1
  refine lv_aload_n hx hb dL_law_281 rfl (lv_at hl 1 rfl) ?_
  refine la_arg (t := 1) hX hS hl hi (by decide) (by decide) dL_law_282 dL_law_283 dL_law_284 dL_law_285 dL_law_286 ?_
  refine la_arg (t := 2) hX hS hl hi (by decide) (by decide) dL_law_287 dL_law_288 dL_law_289 dL_law_290 dL_law_291 ?_
  refine la_arg (t := 3) hX hS hl hi (by decide) (by decide) dL_law_292 dL_law_293 dL_law_294 dL_law_295 dL_law_296 ?_
  refine la_arg (t := 4) hX hS hl hi (by decide) (by decide) dL_law_297 dL_law_298 dL_law_299 dL_law_300 dL_law_301 ?_
  refine ly_xi (As := [.int (xs (i + 1)), .int (xs (i + 2)), .int (xs (i + 3)), .int (xs (i + 4))]) (rest := []) ⟨hx, hb, hml, hown, hts⟩ (x_graft l dC dI aC ad cap hW.1 v R F G A ha.1 ha.2.1 ha.hV (xs (i + 1)) (xs (i + 2)) (xs (i + 3)) (xs (i + 4))) (cwV 4 hts gL_law_X9_graft rfl rfl rfl (by decide +kernel) ⟨Nat.le_of_ble_eq_true rfl, Nat.le_of_ble_eq_true rfl⟩) hK hW hS rfl hl.1 rfl (Nat.le_of_ble_eq_true rfl) dL_law_302 hf (fun r1 u1 H1 locs1 hp1 hW1 hS1 => ?_)
  obtain ⟨R1, rfl, g1, e1⟩ := hp1
  refine lv_aload_n hx hb dL_law_305 rfl (lv_at hl 2 rfl) ?_
  refine la_arg (t := 1) hX hS1 hl hi (by decide) (by decide) dL_law_306 dL_law_307 dL_law_308 dL_law_309 dL_law_310 ?_
  refine la_arg (t := 2) hX hS1 hl hi (by decide) (by decide) dL_law_311 dL_law_312 dL_law_313 dL_law_314 dL_law_315 ?_
  refine la_arg (t := 3) hX hS1 hl hi (by decide) (by decide) dL_law_316 dL_law_317 dL_law_318 dL_law_319 dL_law_320 ?_
  refine la_arg (t := 4) hX hS1 hl hi (by decide) (by decide) dL_law_321 dL_law_322 dL_law_323 dL_law_324 dL_law_325 ?_
  refine ly_mi (As := [.int (xs (i + 1)), .int (xs (i + 2)), .int (xs (i + 3)), .int (xs (i + 4))]) (rest := [.int r1]) ⟨hx, hb, hml, hown, hts⟩ (k_graft l dC dI aC am hW.2.1 w Q K J A (hm.hE ha) (hm.hV10 ha) (xs (i + 1)) (xs (i + 2)) (xs (i + 3)) (xs (i + 4))) (cwV 4 hts gL_law_X10_graft rfl rfl rfl (by decide +kernel) ⟨Nat.le_of_ble_eq_true rfl, Nat.le_of_ble_eq_true rfl⟩) hK hW1 hS1 rfl hl.1 rfl (Nat.le_of_ble_eq_true rfl) dL_law_326 hf (fun r2 z1 H2 locs2 hp2 hW2 hS2 => ?_)
  obtain ⟨Q1, rfl, g2, e2⟩ := hp2
  rw [hm.2.2.1] at e2 g2
  have hw := w_graft (E := F 0) (a := (xs (i + 1))) (i := (xs (i + 2))) (b := (xs (i + 3))) (to := (xs (i + 4))) hq hV
  have hr : r1 = r2 := e1.trans (hw.1.symm.trans e2.symm)
  refine lv_icmp_eq (tgt := 726) hx hb dL_law_329 (by decide) (fun _ => ?_) (fun ne => absurd hr ne)
  exact kk ad cap _ _ H2 locs2 rfl hW2 hS2 ⟨A, n, hLL.rows (rw4_tr hw.2 g1 g2) (fun _ _ => rfl) rfl rfl rfl rfl rfl rfl rfl⟩
set_option maxHeartbeats 1000000 in
set_option maxRecDepth 100000 in
/-- same -/
theorem la_same (hX : LX p s m c b L xs dC dI aC) (hl : lv_has ls 4 [(0, .ref b), (1, .ref (ad 0)), (2, .ref (am 0)), (3, .int (nI i))]) (hi : i + 5 ≤ L) (hW : WO dC dI aC am s.heap.size ad cap (v, R, F, G) (w, Q, K, J) H) (hS : va_S (lwA s) s.heap H locs) (hLL : LL A n (v, R, F, G) (w, Q, K, J)) (kk : LN p l e s m below meth c b dC dI aC am (ad 0) Qp ls) : W p l e room_1 s m #[Value.ref b] below meth c H locs (134 + (cs cap - 96)) (4820 + 4 * (cs cap - 96)) Qp (F0 m 334 ls []) := by
  obtain ⟨hx, hb, hml, hown, hts, hXX, hbl, hK, hL⟩ := id hX
  have ha : LA A n v R F := hLL.1
  have hc : LC A n v R F G := hLL.2.1
  have hm : LM A n v R F w Q K J := hLL.2.2
  have hq := hm.2.2.2.2.1
  have hV := ha.2.2.2.2.1
  have hf := la_room hW.2.2.2.2.2.1
  refine lv_aload_n hx hb dL_law_334 rfl (lv_at hl 1 rfl) ?_
  refine la_arg (t := 1) hX hS hl hi (by decide) (by decide) dL_law_335 dL_law_336 dL_law_337 dL_law_338 dL_law_339 ?_
  refine la_arg (t := 2) hX hS hl hi (by decide) (by decide) dL_law_340 dL_law_341 dL_law_342 dL_law_343 dL_law_344 ?_
  refine ly_xpi (As := [.int (xs (i + 1)), .int (xs (i + 2))]) (rest := []) ⟨hx, hb, hml, hown, hts⟩ (x_same l dC dI aC ad cap v R F G A ha.1 ha.2.1 ha.hV (xs (i + 1)) (xs (i + 2))) (cwV 2 hts gL_law_X9_same rfl rfl rfl (by decide +kernel) ⟨Nat.le_of_ble_eq_true rfl, Nat.le_of_ble_eq_true rfl⟩) hK hW rfl hl.1 rfl (Nat.le_of_ble_eq_true rfl) dL_law_345 hf (fun r1 e1 => ?_)
  refine lv_aload_n hx hb dL_law_348 rfl (lv_at hl 2 rfl) ?_
  refine la_arg (t := 1) hX hS hl hi (by decide) (by decide) dL_law_349 dL_law_350 dL_law_351 dL_law_352 dL_law_353 ?_
  refine la_arg (t := 2) hX hS hl hi (by decide) (by decide) dL_law_354 dL_law_355 dL_law_356 dL_law_357 dL_law_358 ?_
  refine ly_mpi (As := [.int (xs (i + 1)), .int (xs (i + 2))]) (rest := [.int r1]) ⟨hx, hb, hml, hown, hts⟩ (k_same l dC dI aC am w Q K J A (hm.hE ha) (hm.hV10 ha) (xs (i + 1)) (xs (i + 2))) (cwV 2 hts gL_law_X10_same rfl rfl rfl (by decide +kernel) ⟨Nat.le_of_ble_eq_true rfl, Nat.le_of_ble_eq_true rfl⟩) hK hW rfl hl.1 rfl (Nat.le_of_ble_eq_true rfl) dL_law_359 hf (fun r2 e2 => ?_)
  rw [hm.2.2.1] at e2
  have hr : r1 = r2 := e1.trans ((w_same hq).symm.trans e2.symm)
  refine lv_icmp_eq (tgt := 726) hx hb dL_law_362 (by decide) (fun _ => ?_) (fun ne => absurd hr ne)
  exact kk ad cap _ _ H locs rfl hW hS ⟨A, n, hLL⟩
set_option maxHeartbeats 1000000 in
set_option maxRecDepth 100000 in
/-- rule -/
theorem la_rule (hX : LX p s m c b L xs dC dI aC) (hl : lv_has ls 4 [(0, .ref b), (1, .ref (ad 0)), (2, .ref (am 0)), (3, .int (nI i))]) (hi : i + 5 ≤ L) (hW : WO dC dI aC am s.heap.size ad cap (v, R, F, G) (w, Q, K, J) H) (hS : va_S (lwA s) s.heap H locs) (hLL : LL A n (v, R, F, G) (w, Q, K, J)) (kk : LN p l e s m below meth c b dC dI aC am (ad 0) Qp ls) : W p l e room_1 s m #[Value.ref b] below meth c H locs (134 + (cs cap - 96)) (4820 + 4 * (cs cap - 96)) Qp (F0 m 367 ls []) := by
  obtain ⟨hx, hb, hml, hown, hts, hXX, hbl, hK, hL⟩ := id hX
  have ha : LA A n v R F := hLL.1
  have hc : LC A n v R F G := hLL.2.1
  have hm : LM A n v R F w Q K J := hLL.2.2
  have hq := hm.2.2.2.2.1
  have hV := ha.2.2.2.2.1
  have hf := la_room hW.2.2.2.2.2.1
  refine lv_aload_n hx hb dL_law_367 rfl (lv_at hl 1 rfl) ?_
  refine la_arg (t := 1) hX hS hl hi (by decide) (by decide) dL_law_368 dL_law_369 dL_law_370 dL_law_371 dL_law_372 ?_
  refine la_arg (t := 2) hX hS hl hi (by decide) (by decide) dL_law_373 dL_law_374 dL_law_375 dL_law_376 dL_law_377 ?_
  refine ly_xi (As := [.int (xs (i + 1)), .int (xs (i + 2))]) (rest := []) ⟨hx, hb, hml, hown, hts⟩ (x_rule l dC dI aC ad cap hW.1 v R F G A ha.1 ha.2.1 ha.hV n ha.2.2.1 ha.2.2.2.1 (xs (i + 1)) (xs (i + 2))) (cwV 2 hts gL_law_X9_rule rfl rfl rfl (by decide +kernel) ⟨Nat.le_of_ble_eq_true rfl, Nat.le_of_ble_eq_true rfl⟩) hK hW hS rfl hl.1 rfl (Nat.le_of_ble_eq_true rfl) dL_law_378 hf (fun r1 u1 H1 locs1 hp1 hW1 hS1 => ?_)
  obtain ⟨e1, rfl⟩ := hp1
  refine lv_aload_n hx hb dL_law_381 rfl (lv_at hl 2 rfl) ?_
  refine la_arg (t := 1) hX hS1 hl hi (by decide) (by decide) dL_law_382 dL_law_383 dL_law_384 dL_law_385 dL_law_386 ?_
  refine la_arg (t := 2) hX hS1 hl hi (by decide) (by decide) dL_law_387 dL_law_388 dL_law_389 dL_law_390 dL_law_391 ?_
  refine ly_mi (As := [.int (xs (i + 1)), .int (xs (i + 2))]) (rest := [.int r1]) ⟨hx, hb, hml, hown, hts⟩ (k_rule l dC dI aC am hW.2.1 w Q K J A (hm.hE ha) (hm.hV10 ha) n hm.2.1 ha.2.2.2.1 (xs (i + 1)) (xs (i + 2))) (cwV 2 hts gL_law_X10_rule rfl rfl rfl (by decide +kernel) ⟨Nat.le_of_ble_eq_true rfl, Nat.le_of_ble_eq_true rfl⟩) hK hW1 hS1 rfl hl.1 rfl (Nat.le_of_ble_eq_true rfl) dL_law_392 hf (fun r2 z1 H2 locs2 hp2 hW2 hS2 => ?_)
  obtain ⟨e2, rfl⟩ := hp2
  have hw := LL.rule (a := (xs (i + 1))) (b := (xs (i + 2))) hLL
  have hr : r1 = r2 := e1.trans (hw.1.symm.trans e2.symm)
  refine lv_icmp_eq (tgt := 726) hx hb dL_law_395 (by decide) (fun _ => ?_) (fun ne => absurd hr ne)
  exact kk ad cap _ _ H2 locs2 rfl hW2 hS2 ⟨A, hw.2⟩
set_option maxHeartbeats 1000000 in
set_option maxRecDepth 100000 in
/-- nought -/
theorem la_nought (hX : LX p s m c b L xs dC dI aC) (hl : lv_has ls 4 [(0, .ref b), (1, .ref (ad 0)), (2, .ref (am 0)), (3, .int (nI i))]) (hi : i + 5 ≤ L) (hW : WO dC dI aC am s.heap.size ad cap (v, R, F, G) (w, Q, K, J) H) (hS : va_S (lwA s) s.heap H locs) (hLL : LL A n (v, R, F, G) (w, Q, K, J)) (kk : LN p l e s m below meth c b dC dI aC am (ad 0) Qp ls) : W p l e room_1 s m #[Value.ref b] below meth c H locs (134 + (cs cap - 96)) (4820 + 4 * (cs cap - 96)) Qp (F0 m 400 ls []) := by
  obtain ⟨hx, hb, hml, hown, hts, hXX, hbl, hK, hL⟩ := id hX
  have ha : LA A n v R F := hLL.1
  have hc : LC A n v R F G := hLL.2.1
  have hm : LM A n v R F w Q K J := hLL.2.2
  have hq := hm.2.2.2.2.1
  have hV := ha.2.2.2.2.1
  have hf := la_room hW.2.2.2.2.2.1
  refine lv_aload_n hx hb dL_law_400 rfl (lv_at hl 1 rfl) ?_
  refine la_arg (t := 1) hX hS hl hi (by decide) (by decide) dL_law_401 dL_law_402 dL_law_403 dL_law_404 dL_law_405 ?_
  refine ly_xi (As := [.int (xs (i + 1))]) (rest := []) ⟨hx, hb, hml, hown, hts⟩ (x_nought l dC dI aC ad cap hW.1 v R F G A ha.1 ha.2.1 ha.hV n ha.2.2.1 ha.2.2.2.1 (xs (i + 1))) (cwV 1 hts gL_law_X9_nought rfl rfl rfl (by decide +kernel) ⟨Nat.le_of_ble_eq_true rfl, Nat.le_of_ble_eq_true rfl⟩) hK hW hS rfl hl.1 rfl (Nat.le_of_ble_eq_true rfl) dL_law_406 hf (fun r1 u1 H1 locs1 hp1 hW1 hS1 => ?_)
  obtain ⟨e1, rfl⟩ := hp1
  refine lv_aload_n hx hb dL_law_409 rfl (lv_at hl 2 rfl) ?_
  refine la_arg (t := 1) hX hS1 hl hi (by decide) (by decide) dL_law_410 dL_law_411 dL_law_412 dL_law_413 dL_law_414 ?_
  refine ly_mi (As := [.int (xs (i + 1))]) (rest := [.int r1]) ⟨hx, hb, hml, hown, hts⟩ (k_nought l dC dI aC am hW.2.1 w Q K J A (hm.hE ha) (hm.hV10 ha) n hm.2.1 ha.2.2.2.1 (xs (i + 1))) (cwV 1 hts gL_law_X10_nought rfl rfl rfl (by decide +kernel) ⟨Nat.le_of_ble_eq_true rfl, Nat.le_of_ble_eq_true rfl⟩) hK hW1 hS1 rfl hl.1 rfl (Nat.le_of_ble_eq_true rfl) dL_law_415 hf (fun r2 z1 H2 locs2 hp2 hW2 hS2 => ?_)
  obtain ⟨e2, rfl⟩ := hp2
  have hw := LL.nought (a := (xs (i + 1))) hLL
  have hr : r1 = r2 := e1.trans (hw.1.symm.trans e2.symm)
  refine lv_icmp_eq (tgt := 726) hx hb dL_law_418 (by decide) (fun _ => ?_) (fun ne => absurd hr ne)
  exact kk ad cap _ _ H2 locs2 rfl hW2 hS2 ⟨A, hw.2⟩
set_option maxHeartbeats 1000000 in
set_option maxRecDepth 100000 in
/-- unrule -/
theorem la_unrule (hX : LX p s m c b L xs dC dI aC) (hl : lv_has ls 4 [(0, .ref b), (1, .ref (ad 0)), (2, .ref (am 0)), (3, .int (nI i))]) (hi : i + 5 ≤ L) (hW : WO dC dI aC am s.heap.size ad cap (v, R, F, G) (w, Q, K, J) H) (hS : va_S (lwA s) s.heap H locs) (hLL : LL A n (v, R, F, G) (w, Q, K, J)) (kk : LN p l e s m below meth c b dC dI aC am (ad 0) Qp ls) : W p l e room_1 s m #[Value.ref b] below meth c H locs (134 + (cs cap - 96)) (4820 + 4 * (cs cap - 96)) Qp (F0 m 423 ls []) := by
  obtain ⟨hx, hb, hml, hown, hts, hXX, hbl, hK, hL⟩ := id hX
  have ha : LA A n v R F := hLL.1
  have hc : LC A n v R F G := hLL.2.1
  have hm : LM A n v R F w Q K J := hLL.2.2
  have hq := hm.2.2.2.2.1
  have hV := ha.2.2.2.2.1
  have hf := la_room hW.2.2.2.2.2.1
  refine lv_aload_n hx hb dL_law_423 rfl (lv_at hl 1 rfl) ?_
  refine ly_xi (As := []) (rest := []) ⟨hx, hb, hml, hown, hts⟩ (x_unrule l dC dI aC ad cap hW.1 v R F G n ha.2.2.1 ha.2.2.2.1 ) (cwV 0 hts gL_law_X9_unrule rfl rfl rfl (by decide +kernel) ⟨Nat.le_of_ble_eq_true rfl, Nat.le_of_ble_eq_true rfl⟩) hK hW hS rfl hl.1 rfl (Nat.le_of_ble_eq_true rfl) dL_law_424 hf (fun r1 u1 H1 locs1 hp1 hW1 hS1 => ?_)
  obtain ⟨e1, rfl⟩ := hp1
  refine lv_aload_n hx hb dL_law_427 rfl (lv_at hl 2 rfl) ?_
  refine ly_mi (As := []) (rest := [.int r1]) ⟨hx, hb, hml, hown, hts⟩ (k_unrule l dC dI aC am hW.2.1 w Q K J n hm.2.1 ) (cwV 0 hts gL_law_X10_unrule rfl rfl rfl (by decide +kernel) ⟨Nat.le_of_ble_eq_true rfl, Nat.le_of_ble_eq_true rfl⟩) hK hW1 hS1 rfl hl.1 rfl (Nat.le_of_ble_eq_true rfl) dL_law_428 hf (fun r2 z1 H2 locs2 hp2 hW2 hS2 => ?_)
  obtain ⟨e2, rfl⟩ := hp2
  have hr : r1 = r2 := e1.trans e2.symm
  refine lv_icmp_eq (tgt := 726) hx hb dL_law_431 (by decide) (fun _ => ?_) (fun ne => absurd hr ne)
  exact kk ad cap _ _ H2 locs2 rfl hW2 hS2 ⟨A, 0, hLL.unrule⟩
set_option maxHeartbeats 1000000 in
set_option maxRecDepth 100000 in
/-- side -/
theorem la_side (hX : LX p s m c b L xs dC dI aC) (hl : lv_has ls 4 [(0, .ref b), (1, .ref (ad 0)), (2, .ref (am 0)), (3, .int (nI i))]) (hi : i + 5 ≤ L) (hW : WO dC dI aC am s.heap.size ad cap (v, R, F, G) (w, Q, K, J) H) (hS : va_S (lwA s) s.heap H locs) (hLL : LL A n (v, R, F, G) (w, Q, K, J)) (kk : LN p l e s m below meth c b dC dI aC am (ad 0) Qp ls) : W p l e room_1 s m #[Value.ref b] below meth c H locs (134 + (cs cap - 96)) (4820 + 4 * (cs cap - 96)) Qp (F0 m 436 ls []) := by
  obtain ⟨hx, hb, hml, hown, hts, hXX, hbl, hK, hL⟩ := id hX
  have ha : LA A n v R F := hLL.1
  have hc : LC A n v R F G := hLL.2.1
  have hm : LM A n v R F w Q K J := hLL.2.2
  have hq := hm.2.2.2.2.1
  have hV := ha.2.2.2.2.1
  have hf := la_room hW.2.2.2.2.2.1
  refine lv_aload_n hx hb dL_law_436 rfl (lv_at hl 1 rfl) ?_
  refine la_arg (t := 1) hX hS hl hi (by decide) (by decide) dL_law_437 dL_law_438 dL_law_439 dL_law_440 dL_law_441 ?_
  refine la_arg (t := 2) hX hS hl hi (by decide) (by decide) dL_law_442 dL_law_443 dL_law_444 dL_law_445 dL_law_446 ?_
  refine la_arg (t := 3) hX hS hl hi (by decide) (by decide) dL_law_447 dL_law_448 dL_law_449 dL_law_450 dL_law_451 ?_
  refine ly_xi (As := [.int (xs (i + 1)), .int (xs (i + 2)), .int (xs (i + 3))]) (rest := []) ⟨hx, hb, hml, hown, hts⟩ (x_side l dC dI aC ad cap hW.1 v R F G n ha.2.2.1 ha.2.2.2.1 (xs (i + 1)) (xs (i + 2)) (xs (i + 3))) (cwV 3 hts gL_law_X9_side rfl rfl rfl (by decide +kernel) ⟨Nat.le_of_ble_eq_true rfl, Nat.le_of_ble_eq_true rfl⟩) hK hW hS rfl hl.1 rfl (Nat.le_of_ble_eq_true rfl) dL_law_452 hf (fun r1 u1 H1 locs1 hp1 hW1 hS1 => ?_)
  obtain ⟨e1, rfl⟩ := hp1
  refine lv_aload_n hx hb dL_law_455 rfl (lv_at hl 2 rfl) ?_
  refine la_arg (t := 1) hX hS1 hl hi (by decide) (by decide) dL_law_456 dL_law_457 dL_law_458 dL_law_459 dL_law_460 ?_
  refine la_arg (t := 2) hX hS1 hl hi (by decide) (by decide) dL_law_461 dL_law_462 dL_law_463 dL_law_464 dL_law_465 ?_
  refine la_arg (t := 3) hX hS1 hl hi (by decide) (by decide) dL_law_466 dL_law_467 dL_law_468 dL_law_469 dL_law_470 ?_
  refine ly_mi (As := [.int (xs (i + 1)), .int (xs (i + 2)), .int (xs (i + 3))]) (rest := [.int r1]) ⟨hx, hb, hml, hown, hts⟩ (k_side l dC dI aC am hW.2.1 w Q K J n hm.2.1 ha.2.2.2.1 (xs (i + 1)) (xs (i + 2)) (xs (i + 3))) (cwV 3 hts gL_law_X10_side rfl rfl rfl (by decide +kernel) ⟨Nat.le_of_ble_eq_true rfl, Nat.le_of_ble_eq_true rfl⟩) hK hW1 hS1 rfl hl.1 rfl (Nat.le_of_ble_eq_true rfl) dL_law_471 hf (fun r2 z1 H2 locs2 hp2 hW2 hS2 => ?_)
  obtain ⟨e2, rfl⟩ := hp2
  have hw := w_side (k := (xs (i + 1))) (w := (xs (i + 2))) (to := (xs (i + 3))) hq hV ha.2.2.2.1
  have hr : r1 = r2 := e1.trans (hw.1.symm.trans e2.symm)
  refine lv_icmp_eq (tgt := 726) hx hb dL_law_474 (by decide) (fun _ => ?_) (fun ne => absurd hr ne)
  exact kk ad cap _ _ H2 locs2 rfl hW2 hS2 ⟨A, n, hLL.rows hw.2 (fun _ _ => rfl) rfl rfl rfl rfl rfl rfl rfl⟩
end LQ1
