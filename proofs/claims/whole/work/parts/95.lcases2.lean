/-! the law, call by call -/
section LQ2
variable {p : Program} {l : Launch} {e : Env} {s : State} {m : MethodId} {below : List Frame} {meth : Method} {c : Code} {H : Heap} {locs : List Loc} {Qp : State → Prop} {b L i A n : Nat} {xs : Nat → Int32} {dC : Nat → ClassId} {dI : Nat → Nat → Nat} {aC : Nat → ClassId} {ls : Array Slot} {am ad cap : Nat → Nat} {v w : Nat → Int32} {R Q : Nat → List Int32} {F K : Nat → Nat → Int32} {G J : Nat → Nat → Int64}
set_option maxHeartbeats 1000000 in
set_option maxRecDepth 100000 in
/-- matches -/
theorem la_matches (hX : LX p s m c b L xs dC dI aC) (hl : lv_has ls 4 [(0, .ref b), (1, .ref (ad 0)), (2, .ref (am 0)), (3, .int (nI i))]) (hi : i + 5 ≤ L) (hW : WO dC dI aC am s.heap.size ad cap (v, R, F, G) (w, Q, K, J) H) (hS : va_S (lwA s) s.heap H locs) (hLL : LL A n (v, R, F, G) (w, Q, K, J)) (kk : LN p l e s m below meth c b dC dI aC am (ad 0) Qp ls) : W p l e room_1 s m #[Value.ref b] below meth c H locs (134 + (cs cap - 96)) (4820 + 4 * (cs cap - 96)) Qp (F0 m 479 ls []) := by
  obtain ⟨hx, hb, hml, hown, hts, hXX, hbl, hK, hL⟩ := id hX
  have ha : LA A n v R F := hLL.1
  have hc : LC A n v R F G := hLL.2.1
  have hm : LM A n v R F w Q K J := hLL.2.2
  have hq := hm.2.2.2.2.1
  have hV := ha.2.2.2.2.1
  have hf := la_room hW.2.2.2.2.2.1
  refine lv_aload_n hx hb dL_law_479 rfl (lv_at hl 1 rfl) ?_
  refine la_arg (t := 1) hX hS hl hi (by decide) (by decide) dL_law_480 dL_law_481 dL_law_482 dL_law_483 dL_law_484 ?_
  refine la_arg (t := 2) hX hS hl hi (by decide) (by decide) dL_law_485 dL_law_486 dL_law_487 dL_law_488 dL_law_489 ?_
  refine ly_xi (As := [.int (xs (i + 1)), .int (xs (i + 2))]) (rest := []) ⟨hx, hb, hml, hown, hts⟩ (x_matches l dC dI aC ad cap hW.1 v R F G A ha.1 ha.2.1 ha.hV n ha.2.2.1 ha.2.2.2.1 (xs (i + 1)) (xs (i + 2))) (cwV 2 hts gL_law_X9_matches rfl rfl rfl (by decide +kernel) ⟨Nat.le_of_ble_eq_true rfl, Nat.le_of_ble_eq_true rfl⟩) hK hW hS rfl hl.1 rfl (Nat.le_of_ble_eq_true rfl) dL_law_490 hf (fun r1 u1 H1 locs1 hp1 hW1 hS1 => ?_)
  obtain ⟨f1, c1, rfl, e1⟩ := hp1
  refine lv_aload_n hx hb dL_law_493 rfl (lv_at hl 2 rfl) ?_
  refine la_arg (t := 1) hX hS1 hl hi (by decide) (by decide) dL_law_494 dL_law_495 dL_law_496 dL_law_497 dL_law_498 ?_
  refine la_arg (t := 2) hX hS1 hl hi (by decide) (by decide) dL_law_499 dL_law_500 dL_law_501 dL_law_502 dL_law_503 ?_
  refine ly_mi (As := [.int (xs (i + 1)), .int (xs (i + 2))]) (rest := [.int r1]) ⟨hx, hb, hml, hown, hts⟩ (k_matchesV l dC dI aC am hW.2.1 w Q K J A (hm.hE ha) (hm.hV10 ha) n hm.2.1 ha.2.2.2.1 (hm.hL ha) (xs (i + 1)) (xs (i + 2))) (cwV 2 hts gL_law_X10_matches rfl rfl rfl (by decide +kernel) ⟨Nat.le_of_ble_eq_true rfl, Nat.le_of_ble_eq_true rfl⟩) hK hW1 hS1 rfl hl.1 rfl (Nat.le_of_ble_eq_true rfl) dL_law_504 hf (fun r2 z1 H2 locs2 hp2 hW2 hS2 => ?_)
  obtain ⟨a0, b0, c0, d0, rfl, e2⟩ := hp2
  rw [hm.2.2.1] at e2
  have hr : r1 = r2 := e1.trans ((w_matches hq ha.2.2.2.1).symm.trans e2.symm)
  refine lv_icmp_eq (tgt := 726) hx hb dL_law_507 (by decide) (fun _ => ?_) (fun ne => absurd hr ne)
  exact kk ad cap _ _ H2 locs2 rfl hW2 hS2 ⟨A, n, hLL.rows (rw4_id hq hV) (fun _ _ => rfl) rfl rfl rfl rfl rfl rfl rfl⟩
set_option maxHeartbeats 1000000 in
set_option maxRecDepth 100000 in
/-- step -/
theorem la_step (hX : LX p s m c b L xs dC dI aC) (hl : lv_has ls 4 [(0, .ref b), (1, .ref (ad 0)), (2, .ref (am 0)), (3, .int (nI i))]) (hi : i + 5 ≤ L) (hW : WO dC dI aC am s.heap.size ad cap (v, R, F, G) (w, Q, K, J) H) (hS : va_S (lwA s) s.heap H locs) (hLL : LL A n (v, R, F, G) (w, Q, K, J)) (kk : LN p l e s m below meth c b dC dI aC am (ad 0) Qp ls) : W p l e room_1 s m #[Value.ref b] below meth c H locs (134 + (cs cap - 96)) (4820 + 4 * (cs cap - 96)) Qp (F0 m 512 ls []) := by
  obtain ⟨hx, hb, hml, hown, hts, hXX, hbl, hK, hL⟩ := id hX
  have ha : LA A n v R F := hLL.1
  have hc : LC A n v R F G := hLL.2.1
  have hm : LM A n v R F w Q K J := hLL.2.2
  have hq := hm.2.2.2.2.1
  have hV := ha.2.2.2.2.1
  have hf := la_room hW.2.2.2.2.2.1
  refine lv_aload_n hx hb dL_law_512 rfl (lv_at hl 1 rfl) ?_
  refine la_arg (t := 1) hX hS hl hi (by decide) (by decide) dL_law_513 dL_law_514 dL_law_515 dL_law_516 dL_law_517 ?_
  refine ly_xi (As := [.int (xs (i + 1))]) (rest := []) ⟨hx, hb, hml, hown, hts⟩ (x_step l dC dI aC ad cap hW.1 v R F G A ha.1 ha.2.1 n ha.2.2.1 ha.2.2.2.1 ha.2.2.2.2.2.1 ha.hl0 ha.hV (xs (i + 1))) (cwV 1 hts gL_law_X9_step rfl rfl rfl (by decide +kernel) ⟨Nat.le_of_ble_eq_true rfl, Nat.le_of_ble_eq_true rfl⟩) hK hW hS rfl hl.1 rfl (Nat.le_of_ble_eq_true rfl) dL_law_518 hf (fun r1 u1 H1 locs1 hp1 hW1 hS1 => ?_)
  obtain ⟨f1, c1, R1, rfl, g1, e1⟩ := hp1
  refine lv_aload_n hx hb dL_law_521 rfl (lv_at hl 2 rfl) ?_
  refine la_arg (t := 1) hX hS1 hl hi (by decide) (by decide) dL_law_522 dL_law_523 dL_law_524 dL_law_525 dL_law_526 ?_
  refine ly_mi (As := [.int (xs (i + 1))]) (rest := [.int r1]) ⟨hx, hb, hml, hown, hts⟩ (k_step l dC dI aC am hW.2.1 w Q K J A (hm.hE ha) n hm.2.1 ha.2.2.2.1 (hm.hL ha) (hm.hQ0 ha) (hm.hV10 ha) (xs (i + 1))) (cwV 1 hts gL_law_X10_step rfl rfl rfl (by decide +kernel) ⟨Nat.le_of_ble_eq_true rfl, Nat.le_of_ble_eq_true rfl⟩) hK hW1 hS1 rfl hl.1 rfl (Nat.le_of_ble_eq_true rfl) dL_law_527 hf (fun r2 z1 H2 locs2 hp2 hW2 hS2 => ?_)
  obtain ⟨a0, b0, c0, d0, Q1, rfl, g2, e2⟩ := hp2
  rw [hm.2.2.1, hm.2.2.2.1] at e2 g2
  have hw := w_step (E := F 0) (tn := tnX v) (a := (xs (i + 1))) hq hV ha.2.2.2.1
  have hr : r1 = r2 := e1.trans (hw.1.symm.trans e2.symm)
  refine lv_icmp_eq (tgt := 726) hx hb dL_law_530 (by decide) (fun _ => ?_) (fun ne => absurd hr ne)
  exact kk ad cap _ _ H2 locs2 rfl hW2 hS2 ⟨A, n, hLL.rows (rw4_tr hw.2 g1 g2) (fun _ _ => rfl) rfl rfl rfl rfl rfl rfl rfl⟩
set_option maxHeartbeats 1000000 in
set_option maxRecDepth 100000 in
/-- normal -/
theorem la_normal (hX : LX p s m c b L xs dC dI aC) (hl : lv_has ls 4 [(0, .ref b), (1, .ref (ad 0)), (2, .ref (am 0)), (3, .int (nI i))]) (hi : i + 5 ≤ L) (hW : WO dC dI aC am s.heap.size ad cap (v, R, F, G) (w, Q, K, J) H) (hS : va_S (lwA s) s.heap H locs) (hLL : LL A n (v, R, F, G) (w, Q, K, J)) (kk : LN p l e s m below meth c b dC dI aC am (ad 0) Qp ls) : W p l e room_1 s m #[Value.ref b] below meth c H locs (134 + (cs cap - 96)) (4820 + 4 * (cs cap - 96)) Qp (F0 m 535 ls []) := by
  obtain ⟨hx, hb, hml, hown, hts, hXX, hbl, hK, hL⟩ := id hX
  have ha : LA A n v R F := hLL.1
  have hc : LC A n v R F G := hLL.2.1
  have hm : LM A n v R F w Q K J := hLL.2.2
  have hq := hm.2.2.2.2.1
  have hV := ha.2.2.2.2.1
  have hf := la_room hW.2.2.2.2.2.1
  refine lv_aload_n hx hb dL_law_535 rfl (lv_at hl 1 rfl) ?_
  refine la_arg (t := 1) hX hS hl hi (by decide) (by decide) dL_law_536 dL_law_537 dL_law_538 dL_law_539 dL_law_540 ?_
  refine ly_xi (As := [.int (xs (i + 1))]) (rest := []) ⟨hx, hb, hml, hown, hts⟩ (x_normal l dC dI aC ad cap hW.1 v R F G A ha.1 ha.2.1 n ha.2.2.1 ha.2.2.2.1 ha.2.2.2.2.2.1 ha.hl0 ha.hV ha.hVr (xs (i + 1))) (cwV 1 hts gL_law_X9_normal rfl rfl rfl (by decide +kernel) ⟨Nat.le_of_ble_eq_true rfl, Nat.le_of_ble_eq_true rfl⟩) hK hW hS rfl hl.1 rfl (Nat.le_of_ble_eq_true rfl) dL_law_541 hf (fun r1 u1 H1 locs1 hp1 hW1 hS1 => ?_)
  obtain ⟨f1, c1, R1, rfl, g1, e1⟩ := hp1
  refine lv_aload_n hx hb dL_law_544 rfl (lv_at hl 2 rfl) ?_
  refine la_arg (t := 1) hX hS1 hl hi (by decide) (by decide) dL_law_545 dL_law_546 dL_law_547 dL_law_548 dL_law_549 ?_
  refine ly_mi (As := [.int (xs (i + 1))]) (rest := [.int r1]) ⟨hx, hb, hml, hown, hts⟩ (k_normal l dC dI aC am hW.2.1 w Q K J A (hm.hE ha) n hm.2.1 ha.2.2.2.1 (hm.hL ha) (hm.hQ0 ha) (hm.hV26 ha) (xs (i + 1))) (cwV 1 hts gL_law_X10_normal rfl rfl rfl (by decide +kernel) ⟨Nat.le_of_ble_eq_true rfl, Nat.le_of_ble_eq_true rfl⟩) hK hW1 hS1 rfl hl.1 rfl (Nat.le_of_ble_eq_true rfl) dL_law_550 hf (fun r2 z1 H2 locs2 hp2 hW2 hS2 => ?_)
  obtain ⟨a0, b0, c0, d0, Q1, rfl, g2, e2⟩ := hp2
  rw [hm.2.2.1, hm.2.2.2.1] at e2 g2
  have hw := w_normal (E := F 0) (tn := tnX v) (a := (xs (i + 1))) hq hV ha.2.2.2.1
  have hr : r1 = r2 := e1.trans (hw.1.symm.trans e2.symm)
  refine lv_icmp_eq (tgt := 726) hx hb dL_law_553 (by decide) (fun _ => ?_) (fun ne => absurd hr ne)
  exact kk ad cap _ _ H2 locs2 rfl hW2 hS2 ⟨A, n, hLL.rows (rw4_tr hw.2 g1 g2) (fun _ _ => rfl) rfl rfl rfl rfl rfl rfl rfl⟩
set_option maxHeartbeats 1000000 in
set_option maxRecDepth 100000 in
/-- howMany -/
theorem la_howMany (hX : LX p s m c b L xs dC dI aC) (hl : lv_has ls 4 [(0, .ref b), (1, .ref (ad 0)), (2, .ref (am 0)), (3, .int (nI i))]) (hi : i + 5 ≤ L) (hW : WO dC dI aC am s.heap.size ad cap (v, R, F, G) (w, Q, K, J) H) (hS : va_S (lwA s) s.heap H locs) (hLL : LL A n (v, R, F, G) (w, Q, K, J)) (kk : LN p l e s m below meth c b dC dI aC am (ad 0) Qp ls) : W p l e room_1 s m #[Value.ref b] below meth c H locs (134 + (cs cap - 96)) (4820 + 4 * (cs cap - 96)) Qp (F0 m 558 ls []) := by
  obtain ⟨hx, hb, hml, hown, hts, hXX, hbl, hK, hL⟩ := id hX
  have ha : LA A n v R F := hLL.1
  have hc : LC A n v R F G := hLL.2.1
  have hm : LM A n v R F w Q K J := hLL.2.2
  have hq := hm.2.2.2.2.1
  have hV := ha.2.2.2.2.1
  have hf := la_room hW.2.2.2.2.2.1
  refine lv_aload_n hx hb dL_law_558 rfl (lv_at hl 1 rfl) ?_
  refine la_arg (t := 1) hX hS hl hi (by decide) (by decide) dL_law_559 dL_law_560 dL_law_561 dL_law_562 dL_law_563 ?_
  refine ly_xg (As := [.int (xs (i + 1))]) (rest := []) ⟨hx, hb, hml, hown, hts⟩ (x_howMany l dC dI aC ad cap hW.1 (fun j hj => (hW.2.2.2.2.2.1 j hj).2) v R F G A ha.1 ha.2.1 n ha.2.2.1 ha.2.2.2.1 ha.hT ha.hVl (fun j hj => (ha.2.2.2.2.2.2 j hj).2) (fun j hj => (hW.2.2.2.2.2.1 j hj).1) (cmM (F 0) R n A) (fun T0 j h1 h6 => cen_many ha.1 ha.2.2.2.1 ha.hT ha.hl0 (fun j hj => (ha.2.2.2.2.2.2 j hj).2) T0 j h1 h6) hc.1 (xs (i + 1))) (cwV 1 hts gL_law_X9_howMany rfl rfl rfl (by decide +kernel) ⟨Nat.le_of_ble_eq_true rfl, Nat.le_of_ble_eq_true rfl⟩) hK hW hS rfl hl.1 rfl (Nat.le_of_ble_eq_true rfl) dL_law_564 (la_roomg hW.2.2.2.2.2.1) (fun r1 ad1 cap1 u1 H1 locs1 hp1 had hW1 hS1 => ?_)
  obtain ⟨v1, F1, G1, rfl, g1, g2, g3, g4, e1⟩ := hp1
  have hf := la_room hW1.2.2.2.2.2.1
  refine lv_aload_n hx hb dL_law_567 rfl (lv_at hl 2 rfl) ?_
  refine la_arg (t := 1) hX hS1 hl hi (by decide) (by decide) dL_law_568 dL_law_569 dL_law_570 dL_law_571 dL_law_572 ?_
  refine ly_ml (As := [.int (xs (i + 1))]) (rest := [.long r1]) ⟨hx, hb, hml, hown, hts⟩ (k_howMany l dC dI aC am hW.2.1 w Q K J A (hm.hE ha) hm.1 n hm.2.1 ha.2.2.2.1 (hm.hL ha) (hm.hcc ha) (xs (i + 1))) (cwV 1 hts gL_law_X10_howMany rfl rfl rfl (by decide +kernel) ⟨Nat.le_of_ble_eq_true rfl, Nat.le_of_ble_eq_true rfl⟩) hK hW1 hS1 rfl hl.1 rfl (Nat.le_of_ble_eq_true rfl) dL_law_573 hf (fun r2 z1 H2 locs2 hp2 hW2 hS2 => ?_)
  obtain ⟨v6, a0, b0, c0, d0, M0, jg, rfl, hg, e2⟩ := hp2
  rw [hm.2.2.1, pMany, w_many (ru_eq hq ha.2.2.2.1)] at e2
  have hr : r1 = r2 := e1.trans e2.symm
  refine W.lcmp hx hb dL_law_576 ?_
  refine lv_if_eq (tgt := 726) hx hb dL_law_577 (by decide) (fun _ => ?_) (fun ne => absurd ((lg_cmp_eq _ _).mpr hr) ne)
  exact kk ad1 cap1 _ _ H2 locs2 had hW2 hS2 ⟨A, n, hLL.many (v6 := v6) (g := jg) g1.1 (g1.2.1 0 (by decide)) (fun k j h1 h2 h3 h4 => by rw [g1.2.2 (7 + k) (by omega) (by omega)]; exact hc.2.2.2 k j h1 h2 h3 h4) g2 g3 g4 (fun k hk => by rw [upn (by omega)]; exact hq k hk) rfl rfl rfl rfl rfl rfl (fun q j h1 h2 => by rw [hg q j h1 h2, hm.2.2.1]; exact w_many (ru_eq hq ha.2.2.2.1))⟩
set_option maxHeartbeats 1000000 in
set_option maxRecDepth 100000 in
/-- overlaps -/
theorem la_overlaps (hX : LX p s m c b L xs dC dI aC) (hl : lv_has ls 4 [(0, .ref b), (1, .ref (ad 0)), (2, .ref (am 0)), (3, .int (nI i))]) (hi : i + 5 ≤ L) (hW : WO dC dI aC am s.heap.size ad cap (v, R, F, G) (w, Q, K, J) H) (hS : va_S (lwA s) s.heap H locs) (hLL : LL A n (v, R, F, G) (w, Q, K, J)) (kk : LN p l e s m below meth c b dC dI aC am (ad 0) Qp ls) : W p l e room_1 s m #[Value.ref b] below meth c H locs (134 + (cs cap - 96)) (4820 + 4 * (cs cap - 96)) Qp (F0 m 582 ls []) := by
  obtain ⟨hx, hb, hml, hown, hts, hXX, hbl, hK, hL⟩ := id hX
  have ha : LA A n v R F := hLL.1
  have hc : LC A n v R F G := hLL.2.1
  have hm : LM A n v R F w Q K J := hLL.2.2
  have hq := hm.2.2.2.2.1
  have hV := ha.2.2.2.2.1
  have hf := la_room hW.2.2.2.2.2.1
  refine lv_aload_n hx hb dL_law_582 rfl (lv_at hl 1 rfl) ?_
  refine ly_xi (As := []) (rest := []) ⟨hx, hb, hml, hown, hts⟩ (x_overlaps l dC dI aC ad cap hW.1 v R F G A ha.1 ha.2.1 n ha.2.2.1 ha.2.2.2.1 ha.hT ha.hVl ha.h13 ) (cwV 0 hts gL_law_X9_overlaps rfl rfl rfl (by decide +kernel) ⟨Nat.le_of_ble_eq_true rfl, Nat.le_of_ble_eq_true rfl⟩) hK hW hS rfl hl.1 rfl (Nat.le_of_ble_eq_true rfl) dL_law_583 hf (fun r1 u1 H1 locs1 hp1 hW1 hS1 => ?_)
  obtain ⟨b6, b7, b8, b9, M1, rfl, e1⟩ := hp1
  refine lv_aload_n hx hb dL_law_586 rfl (lv_at hl 2 rfl) ?_
  refine ly_mi (As := []) (rest := [.int r1]) ⟨hx, hb, hml, hown, hts⟩ (k_overlaps l dC dI aC am hW.2.1 w Q K J A (hm.hE ha) n hm.2.1 ha.2.2.2.1 (hm.hT ha) (hm.hVl ha) (hm.h13 ha) ) (cwV 0 hts gL_law_X10_overlaps rfl rfl rfl (by decide +kernel) ⟨Nat.le_of_ble_eq_true rfl, Nat.le_of_ble_eq_true rfl⟩) hK hW1 hS1 rfl hl.1 rfl (Nat.le_of_ble_eq_true rfl) dL_law_587 hf (fun r2 z1 H2 locs2 hp2 hW2 hS2 => ?_)
  obtain ⟨M2, rfl, e2⟩ := hp2
  rw [hm.2.2.1, ovL_congr (eqR_l hq ha.2.2.2.1)] at e2
  have hr : r1 = r2 := e1.trans e2.symm
  refine lv_icmp_eq (tgt := 726) hx hb dL_law_590 (by decide) (fun _ => ?_) (fun ne => absurd hr ne)
  exact kk ad cap _ _ H2 locs2 rfl hW2 hS2 ⟨A, n, hLL.rows (rw4_tr (rw4_id hq hV) (fun k hk => upn (by omega)) (fun k hk => upn (by omega))) (fun k hk => by rw [upn (by omega), upn (by omega), upn (by omega), upn (by omega)]) rfl rfl rfl rfl rfl rfl rfl⟩
set_option maxHeartbeats 1000000 in
set_option maxRecDepth 100000 in
/-- overlap -/
theorem la_overlap (hX : LX p s m c b L xs dC dI aC) (hl : lv_has ls 4 [(0, .ref b), (1, .ref (ad 0)), (2, .ref (am 0)), (3, .int (nI i))]) (hi : i + 5 ≤ L) (hW : WO dC dI aC am s.heap.size ad cap (v, R, F, G) (w, Q, K, J) H) (hS : va_S (lwA s) s.heap H locs) (hLL : LL A n (v, R, F, G) (w, Q, K, J)) (kk : LN p l e s m below meth c b dC dI aC am (ad 0) Qp ls) : W p l e room_1 s m #[Value.ref b] below meth c H locs (134 + (cs cap - 96)) (4820 + 4 * (cs cap - 96)) Qp (F0 m 595 ls []) := by
  obtain ⟨hx, hb, hml, hown, hts, hXX, hbl, hK, hL⟩ := id hX
  have ha : LA A n v R F := hLL.1
  have hc : LC A n v R F G := hLL.2.1
  have hm : LM A n v R F w Q K J := hLL.2.2
  have hq := hm.2.2.2.2.1
  have hV := ha.2.2.2.2.1
  have hf := la_room hW.2.2.2.2.2.1
  refine lv_aload_n hx hb dL_law_595 rfl (lv_at hl 1 rfl) ?_
  refine la_arg (t := 1) hX hS hl hi (by decide) (by decide) dL_law_596 dL_law_597 dL_law_598 dL_law_599 dL_law_600 ?_
  refine la_arg (t := 2) hX hS hl hi (by decide) (by decide) dL_law_601 dL_law_602 dL_law_603 dL_law_604 dL_law_605 ?_
  refine ly_xi (As := [.int (xs (i + 1)), .int (xs (i + 2))]) (rest := []) ⟨hx, hb, hml, hown, hts⟩ (x_overlap l dC dI aC ad cap hW.1 v R F G A ha.1 ha.2.1 n ha.2.2.1 ha.2.2.2.1 ha.hT ha.hVl ha.h13 (xs (i + 1)) (xs (i + 2))) (cwV 2 hts gL_law_X9_overlap rfl rfl rfl (by decide +kernel) ⟨Nat.le_of_ble_eq_true rfl, Nat.le_of_ble_eq_true rfl⟩) hK hW hS rfl hl.1 rfl (Nat.le_of_ble_eq_true rfl) dL_law_606 hf (fun r1 u1 H1 locs1 hp1 hW1 hS1 => ?_)
  obtain ⟨b6, b7, b8, b9, R1, rfl, g1, e1⟩ := hp1
  refine lv_aload_n hx hb dL_law_609 rfl (lv_at hl 2 rfl) ?_
  refine la_arg (t := 1) hX hS1 hl hi (by decide) (by decide) dL_law_610 dL_law_611 dL_law_612 dL_law_613 dL_law_614 ?_
  refine la_arg (t := 2) hX hS1 hl hi (by decide) (by decide) dL_law_615 dL_law_616 dL_law_617 dL_law_618 dL_law_619 ?_
  refine ly_mi (As := [.int (xs (i + 1)), .int (xs (i + 2))]) (rest := [.int r1]) ⟨hx, hb, hml, hown, hts⟩ (k_overlap l dC dI aC am hW.2.1 w Q K J A (hm.hE ha) n hm.2.1 ha.2.2.2.1 (hm.hT ha) (hm.hVl ha) (hm.h13 ha) (xs (i + 1)) (xs (i + 2))) (cwV 2 hts gL_law_X10_overlap rfl rfl rfl (by decide +kernel) ⟨Nat.le_of_ble_eq_true rfl, Nat.le_of_ble_eq_true rfl⟩) hK hW1 hS1 rfl hl.1 rfl (Nat.le_of_ble_eq_true rfl) dL_law_620 hf (fun r2 z1 H2 locs2 hp2 hW2 hS2 => ?_)
  obtain ⟨a0, b0, c0, Q1, rfl, g2, e2⟩ := hp2
  rw [hm.2.2.1] at e2 g2
  have hw := w_overlap (E := F 0) (i := (xs (i + 1))) (to := (xs (i + 2))) hq hV ha.2.2.2.1 ha.hT
  have hr : r1 = r2 := e1.trans (hw.1.symm.trans e2.symm)
  refine lv_icmp_eq (tgt := 726) hx hb dL_law_623 (by decide) (fun _ => ?_) (fun ne => absurd hr ne)
  exact kk ad cap _ _ H2 locs2 rfl hW2 hS2 ⟨A, n, hLL.rows (rw4_tr hw.2 g1 g2) (fun k hk => by rw [upn (by omega), upn (by omega), upn (by omega), upn (by omega)]) rfl rfl rfl rfl rfl rfl rfl⟩
set_option maxHeartbeats 1000000 in
set_option maxRecDepth 100000 in
/-- closes -/
theorem la_closes (hX : LX p s m c b L xs dC dI aC) (hl : lv_has ls 4 [(0, .ref b), (1, .ref (ad 0)), (2, .ref (am 0)), (3, .int (nI i))]) (hi : i + 5 ≤ L) (hW : WO dC dI aC am s.heap.size ad cap (v, R, F, G) (w, Q, K, J) H) (hS : va_S (lwA s) s.heap H locs) (hLL : LL A n (v, R, F, G) (w, Q, K, J)) (kk : LN p l e s m below meth c b dC dI aC am (ad 0) Qp ls) : W p l e room_1 s m #[Value.ref b] below meth c H locs (134 + (cs cap - 96)) (4820 + 4 * (cs cap - 96)) Qp (F0 m 628 ls []) := by
  obtain ⟨hx, hb, hml, hown, hts, hXX, hbl, hK, hL⟩ := id hX
  have ha : LA A n v R F := hLL.1
  have hc : LC A n v R F G := hLL.2.1
  have hm : LM A n v R F w Q K J := hLL.2.2
  have hq := hm.2.2.2.2.1
  have hV := ha.2.2.2.2.1
  have hf := la_room hW.2.2.2.2.2.1
  refine lv_aload_n hx hb dL_law_628 rfl (lv_at hl 1 rfl) ?_
  refine ly_xi (As := []) (rest := []) ⟨hx, hb, hml, hown, hts⟩ (x_closes l dC dI aC ad cap hW.1 v R F G A ha.1 ha.2.1 n ha.2.2.1 ha.2.2.2.1 ha.2.2.2.2.2.1 ha.hl0 ha.hVr ha.hT ha.hVl ha.h13 hc.2.2.1 ) (cwV 0 hts gL_law_X9_closes rfl rfl rfl (by decide +kernel) ⟨Nat.le_of_ble_eq_true rfl, Nat.le_of_ble_eq_true rfl⟩) hK hW hS rfl hl.1 rfl (Nat.le_of_ble_eq_true rfl) dL_law_629 hf (fun r1 u1 H1 locs1 hp1 hW1 hS1 => ?_)
  obtain ⟨a4, a5, b6, b7, b8, b9, R1, f2, f3, rfl, g1, e4, e1⟩ := hp1
  refine lv_aload_n hx hb dL_law_632 rfl (lv_at hl 2 rfl) ?_
  refine ly_mi (As := []) (rest := [.int r1]) ⟨hx, hb, hml, hown, hts⟩ (k_closes l dC dI aC am hW.2.1 w Q K J A (hm.hE ha) n hm.2.1 ha.2.2.2.1 (hm.hT ha) (hm.hVl ha) (hm.h13 ha) (hm.hL ha) (hm.hQ0 ha) (hm.hVr ha) ) (cwV 0 hts gL_law_X10_closes rfl rfl rfl (by decide +kernel) ⟨Nat.le_of_ble_eq_true rfl, Nat.le_of_ble_eq_true rfl⟩) hK hW1 hS1 rfl hl.1 rfl (Nat.le_of_ble_eq_true rfl) dL_law_633 hf (fun r2 z1 H2 locs2 hp2 hW2 hS2 => ?_)
  obtain ⟨a11, a12, a13, a14, a15, a17, k7, k8, k9, Q1, rfl, g2, e2⟩ := hp2
  rw [hm.2.2.1, hm.2.2.2.1, w_closes (ru_eq hq ha.2.2.2.1) ha.hVl ha.hT] at e2
  have hr : r1 = r2 := e1.trans e2.symm
  refine lv_icmp_eq (tgt := 726) hx hb dL_law_636 (by decide) (fun _ => ?_) (fun ne => absurd hr ne)
  exact kk ad cap _ _ H2 locs2 rfl hW2 hS2 ⟨A, n, hLL.closes (fun k hk => by rw [upn (by omega), upn (by omega), upn (by omega), upn (by omega), upn (by omega), upn (by omega)]) rfl g1 g2 e4 rfl rfl rfl rfl rfl rfl⟩
set_option maxHeartbeats 1000000 in
set_option maxRecDepth 100000 in
/-- turned -/
theorem la_turned (hX : LX p s m c b L xs dC dI aC) (hl : lv_has ls 4 [(0, .ref b), (1, .ref (ad 0)), (2, .ref (am 0)), (3, .int (nI i))]) (hi : i + 5 ≤ L) (hW : WO dC dI aC am s.heap.size ad cap (v, R, F, G) (w, Q, K, J) H) (hS : va_S (lwA s) s.heap H locs) (hLL : LL A n (v, R, F, G) (w, Q, K, J)) (kk : LN p l e s m below meth c b dC dI aC am (ad 0) Qp ls) : W p l e room_1 s m #[Value.ref b] below meth c H locs (134 + (cs cap - 96)) (4820 + 4 * (cs cap - 96)) Qp (F0 m 641 ls []) := by
  obtain ⟨hx, hb, hml, hown, hts, hXX, hbl, hK, hL⟩ := id hX
  have ha : LA A n v R F := hLL.1
  have hc : LC A n v R F G := hLL.2.1
  have hm : LM A n v R F w Q K J := hLL.2.2
  have hq := hm.2.2.2.2.1
  have hV := ha.2.2.2.2.1
  have hf := la_room hW.2.2.2.2.2.1
  refine lv_aload_n hx hb dL_law_641 rfl (lv_at hl 1 rfl) ?_
  refine la_arg (t := 1) hX hS hl hi (by decide) (by decide) dL_law_642 dL_law_643 dL_law_644 dL_law_645 dL_law_646 ?_
  refine ly_xg (As := [.int (xs (i + 1))]) (rest := []) ⟨hx, hb, hml, hown, hts⟩ (x_turned l dC dI aC ad cap hW.1 (fun j hj => (hW.2.2.2.2.2.1 j hj).2) v R F G A ha.1 ha.2.1 n ha.2.2.1 ha.2.2.2.1 ha.hT ha.hVl (fun j hj => (ha.2.2.2.2.2.2 j hj).2) (fun j hj => (hW.2.2.2.2.2.1 j hj).1) (cmM (F 0) R n A) (fun T0 j h1 h6 => cen_many ha.1 ha.2.2.2.1 ha.hT ha.hl0 (fun j hj => (ha.2.2.2.2.2.2 j hj).2) T0 j h1 h6) hc.1 hc.2.2.2 (xs (i + 1))) (cwV 1 hts gL_law_X9_turned rfl rfl rfl (by decide +kernel) ⟨Nat.le_of_ble_eq_true rfl, Nat.le_of_ble_eq_true rfl⟩) hK hW hS rfl hl.1 rfl (Nat.le_of_ble_eq_true rfl) dL_law_647 (la_roomg hW.2.2.2.2.2.1) (fun r1 ad1 cap1 u1 H1 locs1 hp1 had hW1 hS1 => ?_)
  obtain ⟨v1, F1, G1, rfl, g1, gs, g2, g3, g4, e1⟩ := hp1
  have hf := la_room hW1.2.2.2.2.2.1
  refine lv_aload_n hx hb dL_law_650 rfl (lv_at hl 2 rfl) ?_
  refine la_arg (t := 1) hX hS1 hl hi (by decide) (by decide) dL_law_651 dL_law_652 dL_law_653 dL_law_654 dL_law_655 ?_
  refine ly_ml (As := [.int (xs (i + 1))]) (rest := [.long r1]) ⟨hx, hb, hml, hown, hts⟩ (k_turned l dC dI aC am hW.2.1 w Q K J A (hm.hE ha) hm.1 n hm.2.1 ha.2.2.2.1 (hm.hL ha) (hm.hcc ha) (xs (i + 1))) (cwV 1 hts gL_law_X10_turned rfl rfl rfl (by decide +kernel) ⟨Nat.le_of_ble_eq_true rfl, Nat.le_of_ble_eq_true rfl⟩) hK hW1 hS1 rfl hl.1 rfl (Nat.le_of_ble_eq_true rfl) dL_law_656 hf (fun r2 z1 H2 locs2 hp2 hW2 hS2 => ?_)
  obtain ⟨v6, a0, b0, c0, d0, M0, jg, pf0, tf0, rfl, hg, e2⟩ := hp2
  have hcm : cmM (K 1) Q n A = cmM (F 0) R n A := funext (fun j => by rw [hm.2.2.1]; exact w_many (ru_eq hq ha.2.2.2.1))
  rw [hcm, pTurned] at e2
  have hr : r1 = r2 := e1.trans e2.symm
  refine W.lcmp hx hb dL_law_659 ?_
  refine lv_if_eq (tgt := 726) hx hb dL_law_660 (by decide) (fun _ => ?_) (fun ne => absurd ((lg_cmp_eq _ _).mpr hr) ne)
  exact kk ad1 cap1 _ _ H2 locs2 had hW2 hS2 ⟨A, n, hLL.many (v6 := v6) (g := jg) g1.1 (g1.2.1 0 (by decide)) gs g2 g3 g4 (fun k hk => by rw [upn (by omega)]; exact hq k hk) rfl rfl rfl rfl rfl rfl (fun q j h1 h2 => by rw [hg q j h1 h2, hm.2.2.1]; exact w_many (ru_eq hq ha.2.2.2.1))⟩
set_option maxHeartbeats 1000000 in
set_option maxRecDepth 100000 in
/-- dual -/
theorem la_dual (hX : LX p s m c b L xs dC dI aC) (hl : lv_has ls 4 [(0, .ref b), (1, .ref (ad 0)), (2, .ref (am 0)), (3, .int (nI i))]) (hi : i + 5 ≤ L) (hW : WO dC dI aC am s.heap.size ad cap (v, R, F, G) (w, Q, K, J) H) (hS : va_S (lwA s) s.heap H locs) (hLL : LL A n (v, R, F, G) (w, Q, K, J)) (kk : LN p l e s m below meth c b dC dI aC am (ad 0) Qp ls) : W p l e room_1 s m #[Value.ref b] below meth c H locs (134 + (cs cap - 96)) (4820 + 4 * (cs cap - 96)) Qp (F0 m 665 ls []) := by
  obtain ⟨hx, hb, hml, hown, hts, hXX, hbl, hK, hL⟩ := id hX
  have ha : LA A n v R F := hLL.1
  have hc : LC A n v R F G := hLL.2.1
  have hm : LM A n v R F w Q K J := hLL.2.2
  have hq := hm.2.2.2.2.1
  have hV := ha.2.2.2.2.1
  have hf := la_room hW.2.2.2.2.2.1
  refine lv_aload_n hx hb dL_law_665 rfl (lv_at hl 1 rfl) ?_
  refine la_arg (t := 1) hX hS hl hi (by decide) (by decide) dL_law_666 dL_law_667 dL_law_668 dL_law_669 dL_law_670 ?_
  refine ly_xg (As := [.int (xs (i + 1))]) (rest := []) ⟨hx, hb, hml, hown, hts⟩ (x_dual l dC dI aC ad cap hW.1 (fun j hj => (hW.2.2.2.2.2.1 j hj).2) v R F G A ha.1 ha.2.1 n ha.2.2.1 ha.2.2.2.1 ha.hT ha.hVl (fun hdu j hj => ((dbF_all hdu).2 j hj).2) (fun j hj => (hW.2.2.2.2.2.1 j hj).1) (duM A R n) (fun hdu T0 j h1 h6 => cen_dual ha.1 ha.hT ha.hVl hdu T0 j h1 h6) hc.2.1 (xs (i + 1))) (cwV 1 hts gL_law_X9_dual rfl rfl rfl (by decide +kernel) ⟨Nat.le_of_ble_eq_true rfl, Nat.le_of_ble_eq_true rfl⟩) hK hW hS rfl hl.1 rfl (Nat.le_of_ble_eq_true rfl) dL_law_671 (la_roomg hW.2.2.2.2.2.1) (fun r1 ad1 cap1 u1 H1 locs1 hp1 had hW1 hS1 => ?_)
  obtain ⟨v1, F1, G1, rfl, g1, g2, g3, g4, e1⟩ := hp1
  have hf := la_room hW1.2.2.2.2.2.1
  refine lv_aload_n hx hb dL_law_674 rfl (lv_at hl 2 rfl) ?_
  refine la_arg (t := 1) hX hS1 hl hi (by decide) (by decide) dL_law_675 dL_law_676 dL_law_677 dL_law_678 dL_law_679 ?_
  refine ly_ml (As := [.int (xs (i + 1))]) (rest := [.long r1]) ⟨hx, hb, hml, hown, hts⟩ (k_dual l dC dI aC am hW.2.1 w Q K J A (hm.hE ha) hm.1 n hm.2.1 ha.2.2.2.1 (hm.hT ha) (hm.hVl ha) (xs (i + 1))) (cwV 1 hts gL_law_X10_dual rfl rfl rfl (by decide +kernel) ⟨Nat.le_of_ble_eq_true rfl, Nat.le_of_ble_eq_true rfl⟩) hK hW1 hS1 rfl hl.1 rfl (Nat.le_of_ble_eq_true rfl) dL_law_680 hf (fun r2 z1 H2 locs2 hp2 hW2 hS2 => ?_)
  obtain ⟨my, bf, rfl, e2⟩ := hp2
  rw [hm.2.2.1, hm.2.2.2.1, w_dual (ru_eq hq ha.2.2.2.1), pDual] at e2
  have hr : r1 = r2 := e1.trans e2.symm
  refine W.lcmp hx hb dL_law_683 ?_
  refine lv_if_eq (tgt := 726) hx hb dL_law_684 (by decide) (fun _ => ?_) (fun ne => absurd ((lg_cmp_eq _ _).mpr hr) ne)
  exact kk ad1 cap1 _ _ H2 locs2 had hW2 hS2 ⟨A, n, hLL.dual g1.1 (g1.2.1 0 (by decide)) (fun k j h1 h2 h3 h4 => by rw [g1.2.2 (7 + k) (by omega) (by omega)]; exact hc.2.2.2 k j h1 h2 h3 h4) g3 g4 g2 rfl rfl rfl rfl rfl rfl⟩
set_option maxHeartbeats 1000000 in
set_option maxRecDepth 100000 in
/-- count -/
theorem la_count (hX : LX p s m c b L xs dC dI aC) (hl : lv_has ls 4 [(0, .ref b), (1, .ref (ad 0)), (2, .ref (am 0)), (3, .int (nI i))]) (hi : i + 5 ≤ L) (hW : WO dC dI aC am s.heap.size ad cap (v, R, F, G) (w, Q, K, J) H) (hS : va_S (lwA s) s.heap H locs) (hLL : LL A n (v, R, F, G) (w, Q, K, J)) (kk : LN p l e s m below meth c b dC dI aC am (ad 0) Qp ls) : W p l e room_1 s m #[Value.ref b] below meth c H locs (134 + (cs cap - 96)) (4820 + 4 * (cs cap - 96)) Qp (F0 m 689 ls []) := by
  obtain ⟨hx, hb, hml, hown, hts, hXX, hbl, hK, hL⟩ := id hX
  have ha : LA A n v R F := hLL.1
  have hc : LC A n v R F G := hLL.2.1
  have hm : LM A n v R F w Q K J := hLL.2.2
  have hq := hm.2.2.2.2.1
  have hV := ha.2.2.2.2.1
  have hf := la_room hW.2.2.2.2.2.1
  refine lv_aload_n hx hb dL_law_689 rfl (lv_at hl 1 rfl) ?_
  refine la_arg (t := 1) hX hS hl hi (by decide) (by decide) dL_law_690 dL_law_691 dL_law_692 dL_law_693 dL_law_694 ?_
  refine ly_xpi (As := [.int (xs (i + 1))]) (rest := []) ⟨hx, hb, hml, hown, hts⟩ (x_count l dC dI aC ad cap v R F G A ha.1 ha.2.1 ha.hV n ha.2.2.1 ha.2.2.2.1 (xs (i + 1))) (cwV 1 hts gL_law_X9_count rfl rfl rfl (by decide +kernel) ⟨Nat.le_of_ble_eq_true rfl, Nat.le_of_ble_eq_true rfl⟩) hK hW rfl hl.1 rfl (Nat.le_of_ble_eq_true rfl) dL_law_695 hf (fun r1 e1 => ?_)
  refine lv_aload_n hx hb dL_law_698 rfl (lv_at hl 2 rfl) ?_
  refine la_arg (t := 1) hX hS hl hi (by decide) (by decide) dL_law_699 dL_law_700 dL_law_701 dL_law_702 dL_law_703 ?_
  refine ly_mpi (As := [.int (xs (i + 1))]) (rest := [.int r1]) ⟨hx, hb, hml, hown, hts⟩ (k_count l dC dI aC am w Q K J A (hm.hE ha) hm.1 (hm.hV10 ha) n hm.2.1 ha.2.2.2.1 (xs (i + 1))) (cwV 1 hts gL_law_X10_count rfl rfl rfl (by decide +kernel) ⟨Nat.le_of_ble_eq_true rfl, Nat.le_of_ble_eq_true rfl⟩) hK hW rfl hl.1 rfl (Nat.le_of_ble_eq_true rfl) dL_law_704 hf (fun r2 e2 => ?_)
  rw [hm.2.2.1, hm.2.2.2.1] at e2
  have hr : r1 = r2 := e1.trans ((w_count hq).symm.trans e2.symm)
  refine lv_icmp_eq (tgt := 726) hx hb dL_law_707 (by decide) (fun _ => ?_) (fun ne => absurd hr ne)
  exact kk ad cap _ _ H locs rfl hW hS ⟨A, n, hLL⟩
set_option maxHeartbeats 1000000 in
set_option maxRecDepth 100000 in
/-- digest -/
theorem la_digest (hX : LX p s m c b L xs dC dI aC) (hl : lv_has ls 4 [(0, .ref b), (1, .ref (ad 0)), (2, .ref (am 0)), (3, .int (nI i))]) (hi : i + 5 ≤ L) (hW : WO dC dI aC am s.heap.size ad cap (v, R, F, G) (w, Q, K, J) H) (hS : va_S (lwA s) s.heap H locs) (hLL : LL A n (v, R, F, G) (w, Q, K, J)) (kk : LN p l e s m below meth c b dC dI aC am (ad 0) Qp ls) : W p l e room_1 s m #[Value.ref b] below meth c H locs (134 + (cs cap - 96)) (4820 + 4 * (cs cap - 96)) Qp (F0 m 712 ls []) := by
  obtain ⟨hx, hb, hml, hown, hts, hXX, hbl, hK, hL⟩ := id hX
  have ha : LA A n v R F := hLL.1
  have hc : LC A n v R F G := hLL.2.1
  have hm : LM A n v R F w Q K J := hLL.2.2
  have hq := hm.2.2.2.2.1
  have hV := ha.2.2.2.2.1
  have hf := la_room hW.2.2.2.2.2.1
  refine lv_aload_n hx hb dL_law_712 rfl (lv_at hl 1 rfl) ?_
  refine ly_xpl (As := []) (rest := []) ⟨hx, hb, hml, hown, hts⟩ (x_digest l dC dI aC ad cap v R F G A ha.1 ha.2.1 ha.hV n ha.2.2.1 ha.2.2.2.1 ha.1.1 ) (cwV 0 hts gL_law_X9_digest rfl rfl rfl (by decide +kernel) ⟨Nat.le_of_ble_eq_true rfl, Nat.le_of_ble_eq_true rfl⟩) hK hW rfl hl.1 rfl (Nat.le_of_ble_eq_true rfl) dL_law_713 hf (fun r1 e1 => ?_)
  refine lv_aload_n hx hb dL_law_716 rfl (lv_at hl 2 rfl) ?_
  refine ly_mpl (As := []) (rest := [.long r1]) ⟨hx, hb, hml, hown, hts⟩ (k_digest l dC dI aC am w Q K J A (hm.hE ha) hm.1 (hm.hV10 ha) n hm.2.1 ha.2.2.2.1 ) (cwV 0 hts gL_law_X10_digest rfl rfl rfl (by decide +kernel) ⟨Nat.le_of_ble_eq_true rfl, Nat.le_of_ble_eq_true rfl⟩) hK hW rfl hl.1 rfl (Nat.le_of_ble_eq_true rfl) dL_law_717 hf (fun r2 e2 => ?_)
  rw [hm.2.2.1, hm.2.2.2.1] at e2
  have hr : r1 = r2 := e1.trans ((w_digest hq ha.2.2.2.1).symm.trans e2.symm)
  refine W.lcmp hx hb dL_law_720 ?_
  refine lv_if_eq (tgt := 726) hx hb dL_law_721 (by decide) (fun _ => ?_) (fun ne => absurd ((lg_cmp_eq _ _).mpr hr) ne)
  exact kk ad cap _ _ H locs rfl hW hS ⟨A, n, hLL⟩
end LQ2
