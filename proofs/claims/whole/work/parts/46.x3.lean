set_option maxHeartbeats 1000000 in
set_option maxRecDepth 100000 in
/-- World.addRule -/
theorem x_addRule0 (l : Launch) (dC : Nat → ClassId) (dI : Nat → Nat → Nat) (aC : Nat → ClassId) (ad cap : Nat → Nat) (hI : xI ad) (v : Nat → Int32) (R : Nat → List Int32) (F : Nat → Nat → Int32) (G : Nat → Nat → Int64) (n : Nat) (hn : v 1 = nI n) (hn8 : n ≤ 8) (q : Nat) (hq : q < 10) (r : Nat) (hr : r < 31) (hrn : r ≠ 10 + n) : Met l yX8_addRule wsX8_addRule ({ frames := 2, cells := 0, slots := 0, locals := 61 } : Room) (va_Pc [.ref (ad 1), .ref (ad (58 + 2 * q)), .ref (ad (58 + 2 * r)), .int (nI 0)] (XB dC dI aC ad cap (v, R, F, G))) (va_Qi (fun (x : Int32) (u : MS) => x = (if n < 8 then nI n else -4) ∧ (if n < 8 then (va_up (va_up v (17 + n) (nI 0)) 1 (nI (n + 1)), va_up (va_up R (10 + n) (R q)) (18 + n) (R r), F, G) else (v, R, F, G)) = u) (XB dC dI aC ad cap) (xA ad)) 0 0 (xA ad) := by
  refine Met.ofW (cc := cX8_addRule) (maxL := 5) (ret := (some .int)) (by decide) rfl ?_
  intro p e s m args below meth c s₁ B hml hv
  obtain ⟨rfl, hK, Z, S, hZ, hP⟩ := hv
  have hx := B.exec
  have hb := B.bytes
  have hret := B.returns
  have hts := atoms_spec (ws := wsX8_addRule) B.pre
  have hown : s.vm.findClass RX8 = some m.cls := findClass_of_methodNamed B.named
  have hlocks := B.notSynchronized
  dsimp only at hZ hP
  have lk0 := hts (.fieldLink RX8 26 "LeafTrees$World" "ruleCount" "I") (by decide +kernel)
  have lk1 := hts (.fieldLink RX8 17 "LeafTrees$World" "rules" "[LLeafTrees$Rule;") (by decide +kernel)
  have lk2 := hts (.fieldLink RX8 29 "LeafTrees$Rule" "left" "LLeafTrees$Row;") (by decide +kernel)
  have lk3 := hts (.fieldLink RX8 39 "LeafTrees$Rule" "right" "LLeafTrees$Row;") (by decide +kernel)
  have lk4 := hts (.fieldLink RX8 42 "LeafTrees$Rule" "toNothing" "Z") (by decide +kernel)
  have hin4 : ∀ w ∈ u_ws RX4 TX4 3, w ∈ wsX8_addRule := by decide +kernel
  have hin8 : ∀ w ∈ u_ws RX8 TX8 4, w ∈ wsX8_addRule := by decide +kernel
  have hS : va_S (xA ad) s.heap s.heap [] := va_S.rf
  have hl := lv_entry [.ref (ad 1), .ref (ad (58 + 2 * q)), .ref (ad (58 + 2 * r)), .int (nI 0)] (n := 5) (Nat.le_of_ble_eq_true rfl)
  rw [lg_entry_eq]
  generalize (lg_sl [.ref (ad 1), .ref (ad (58 + 2 * q)), .ref (ad (58 + 2 * r)), .int (nI 0)] ++ List.replicate (5 - (lg_sl [.ref (ad 1), .ref (ad (58 + 2 * q)), .ref (ad (58 + 2 * r)), .int (nI 0)]).length) Slot.unset).toArray = ls at hl ⊢
  have hl : lv_has ls 5 [(0, .ref (ad 1)), (1, .ref (ad (58 + 2 * q))), (2, .ref (ad (58 + 2 * r))), (3, .int (nI 0))] := hl
  refine nx_Q (R := ({ frames := 2, cells := 0, slots := 0, locals := 61 } : Room)) (fun Q hQ => ?_)
  refine lv_aload_n hx hb dX8_addRule_0 rfl (lv_at hl 0 rfl) ?_
  refine va_get (D := (dC, dI)) (ci := 8) (C := RX8) (T := TX8) (N := 4) hx hb hts hin8 hown hK hP 1 rfl rfl 3 (by decide) lk0 (fun _ h9 => h9) rfl dX8_addRule_1 ?_
  refine nx_ti (y := nI n) (hn) ?_
  refine lv_bipush (v := nI 8) hx hb dX8_addRule_4 (by decide) ?_
  refine nx_icmp_lt (a := n) (b := 8) (tgt := 12) hx hb dX8_addRule_6 (by decide) (by omega) (by omega) (fun c_6 => ?_) (fun c_6 => ?_)
  · skip
    refine lv_aload_n hx hb dX8_addRule_12 rfl (lv_at hl 0 rfl) ?_
    refine va_get (D := (dC, dI)) (ci := 8) (C := RX8) (T := TX8) (N := 4) hx hb hts hin8 hown hK hP 1 rfl rfl 2 (by decide) lk1 (fun _ h9 => h9) rfl dX8_addRule_13 ?_
    refine lv_aload_n hx hb dX8_addRule_16 rfl (lv_at hl 0 rfl) ?_
    refine va_get (D := (dC, dI)) (ci := 8) (C := RX8) (T := TX8) (N := 4) hx hb hts hin8 hown hK hP 1 rfl rfl 3 (by decide) lk0 (fun _ h9 => h9) rfl dX8_addRule_17 ?_
    refine nx_ti (y := nI n) (hn) ?_
    refine nx_aald (C := "LeafTrees$Rule") hx hb hK hP 11 4 rfl rfl (i := n) (by omega) (by decide) (show xRules ad n = some (ad (50 + n)) from if_pos (by omega)) dX8_addRule_20 ?_
    refine lv_astore (lv' := [(4, .ref (ad (50 + n))), (0, .ref (ad 1)), (1, .ref (ad (58 + 2 * q))), (2, .ref (ad (58 + 2 * r))), (3, .int (nI 0))]) hx hb dX8_addRule_21 hl (by decide) rfl (fun ls hl => ?_)
    refine lv_aload hx hb dX8_addRule_23 (lv_at hl 0 rfl) ?_
    refine va_get (D := (dC, dI)) (ci := 4) (C := RX4) (T := TX4) (N := 3) hx hb hts hin4 hown hK hP (50 + n) (xw_ru n (by omega)) rfl 0 (by decide) lk2 (fun _ h9 => h9) rfl dX8_addRule_25 ?_
    refine lv_aload_n hx hb dX8_addRule_28 rfl (lv_at hl 2 rfl) ?_
    refine xc_v (b := ad (58 + 2 * (10 + n))) (As := [.ref (ad (58 + 2 * q))]) (rest := []) ⟨hx, hb, hml, hown, hts⟩ (x_become l dC dI aC ad cap hI v R F G (10 + n) (by omega) q (by omega)) (cwV 1 hts gX8_addRule_X3_become rfl rfl rfl (by decide +kernel) ⟨Nat.le_of_ble_eq_true rfl, Nat.le_of_ble_eq_true rfl⟩) (xPre (q0 := (58 + 2 * (10 + n))) (ci := 3) rfl (xw_ro (10 + n) (by omega)) hK hZ hP) hS rfl hl.1 rfl (Nat.le_of_ble_eq_true rfl) dX8_addRule_29 ⟨Nat.le_of_ble_eq_true rfl, Nat.le_of_ble_eq_true rfl⟩ (fun v1 R1 F1 G1 Z S H locs h_29 hZ hP hS => ?_)
    cases h_29
    refine lv_aload hx hb dX8_addRule_32 (lv_at hl 0 rfl) ?_
    refine va_get (D := (dC, dI)) (ci := 4) (C := RX4) (T := TX4) (N := 3) hx hb hts hin4 hown hK hP (50 + n) (xw_ru n (by omega)) rfl 1 (by decide) lk3 (fun _ h9 => h9) rfl dX8_addRule_34 ?_
    refine lv_aload_n hx hb dX8_addRule_37 rfl (lv_at hl 3 rfl) ?_
    refine xc_v (b := ad (58 + 2 * (18 + n))) (As := [.ref (ad (58 + 2 * r))]) (rest := []) ⟨hx, hb, hml, hown, hts⟩ (x_become l dC dI aC ad cap hI v (va_up R (10 + n) (R q)) F G (18 + n) (by omega) r hr) (cwV 1 hts gX8_addRule_X3_become rfl rfl rfl (by decide +kernel) ⟨Nat.le_of_ble_eq_true rfl, Nat.le_of_ble_eq_true rfl⟩) (xPre (q0 := (58 + 2 * (18 + n))) (ci := 3) rfl (xw_ro (18 + n) (by omega)) hK hZ hP) hS rfl hl.1 rfl (Nat.le_of_ble_eq_true rfl) dX8_addRule_38 ⟨Nat.le_of_ble_eq_true rfl, Nat.le_of_ble_eq_true rfl⟩ (fun v2 R2 F2 G2 Z S H locs h_38 hZ hP hS => ?_)
    rw [upn hrn] at h_38
    cases h_38
    refine lv_aload hx hb dX8_addRule_41 (lv_at hl 0 rfl) ?_
    refine lv_iload_n hx hb dX8_addRule_43 rfl (lv_at hl 4 rfl) ?_
    refine va_put (D := (dC, dI)) (ci := 4) (v := .int (nI 0)) (ty := .boolean) (C := RX4) (T := TX4) (N := 3) hx hb hts hin4 tyX4 tyX4_ok nmX4 hown hK hP (wsX_D hI) hS (50 + n) (xw_ru n (by omega)) rfl 2 (by decide) lk4 (fun _ h9 => h9) rfl (by decide +kernel) rfl rfl (Nat.le_of_ble_eq_true rfl) dX8_addRule_44 (fun H locs hP _ hS => ?_)
    have hP : va_P (dC, dI) vwCl ((wsX aC ad cap v Z S F G).set (50 + n) (ad (50 + n), .inr (4, [.ref (ad (58 + 2 * (10 + n))), .ref (ad (58 + 2 * (18 + n))), .int (nI 0)]))) H := hP
    rw [xs_rule n (by omega)] at hP
    refine lv_aload_n hx hb dX8_addRule_47 rfl (lv_at hl 1 rfl) ?_
    refine lv_dup hx hb dX8_addRule_48 rfl ?_
    refine va_get (D := (dC, dI)) (ci := 8) (C := RX8) (T := TX8) (N := 4) hx hb hts hin8 hown hK hP 1 rfl rfl 3 (by decide) lk0 (fun _ h9 => h9) rfl dX8_addRule_49 ?_
    refine nx_ti (y := nI n) (by rw [upn (show 1 ≠ 17 + n by omega)]; exact hn) ?_
    refine lv_iconst (v := nI 1) hx hb dX8_addRule_52 (by decide) ?_
    refine lv_iadd hx hb dX8_addRule_53 ?_
    refine nx_ti (y := nI (n + 1)) (nI_add _ _) ?_
    refine va_put (D := (dC, dI)) (ci := 8) (v := .int (nI (n + 1))) (ty := .int) (C := RX8) (T := TX8) (N := 4) hx hb hts hin8 tyX8 tyX8_ok nmX8 hown hK hP (wsX_D hI) hS 1 rfl rfl 3 (by decide) lk0 (fun _ h9 => h9) rfl (by decide +kernel) rfl rfl (Nat.le_of_ble_eq_true rfl) dX8_addRule_54 (fun H locs hP _ hS => ?_)
    have hP : va_P (dC, dI) vwCl (wsX aC ad cap (va_up (va_up v (17 + n) (nI 0)) 1 (nI (n + 1))) Z S F G) H := hP
    refine lv_aload_n hx hb dX8_addRule_57 rfl (lv_at hl 1 rfl) ?_
    refine va_get (D := (dC, dI)) (ci := 8) (C := RX8) (T := TX8) (N := 4) hx hb hts hin8 hown hK hP 1 rfl rfl 3 (by decide) lk0 (fun _ h9 => h9) rfl dX8_addRule_58 ?_
    refine lv_iconst (v := nI 1) hx hb dX8_addRule_61 (by decide) ?_
    refine lv_isub hx hb dX8_addRule_62 ?_
    refine nx_ti (y := nI ((n + 1) - 1)) (pk_sub (by omega)) ?_
    subst hQ
    exact W.iret (v := nI ((n + 1) - 1)) hx hb hret (fun tq htq hWq => ⟨⟨_, ((va_up (va_up v (17 + n) (nI 0)) 1 (nI (n + 1))), va_up (va_up R (10 + n) (R q)) (18 + n) (R r), F, G), rfl, ⟨by rw [if_pos c_6]; rfl, by rw [if_pos c_6]⟩, va_K.moved hWq.alike hK, _, _, hZ, by rw [htq]; exact hP⟩, hS.F htq⟩) hS.2.2 dX8_addRule_63
  · skip
    refine lv_bipush (v := (-4)) hx hb dX8_addRule_9 (by decide) ?_
    subst hQ
    exact W.iret (v := (-4)) hx hb hret (fun tq htq hWq => ⟨⟨_, (v, R, F, G), rfl, ⟨by rw [if_neg (by omega)], by rw [if_neg (by omega)]⟩, va_K.moved hWq.alike hK, _, _, hZ, by rw [htq]; exact hP⟩, hS.F htq⟩) hS.2.2 dX8_addRule_11

set_option maxHeartbeats 1000000 in
set_option maxRecDepth 100000 in
/-- World.addRule -/
theorem x_addRule1 (l : Launch) (dC : Nat → ClassId) (dI : Nat → Nat → Nat) (aC : Nat → ClassId) (ad cap : Nat → Nat) (hI : xI ad) (v : Nat → Int32) (R : Nat → List Int32) (F : Nat → Nat → Int32) (G : Nat → Nat → Int64) (n : Nat) (hn : v 1 = nI n) (hn8 : n ≤ 8) (q : Nat) (hq : q < 10) (r : Nat) (hr : r < 31) (hrn : r ≠ 10 + n) : Met l yX8_addRule wsX8_addRule ({ frames := 2, cells := 0, slots := 0, locals := 61 } : Room) (va_Pc [.ref (ad 1), .ref (ad (58 + 2 * q)), .ref (ad (58 + 2 * r)), .int (nI 1)] (XB dC dI aC ad cap (v, R, F, G))) (va_Qi (fun (x : Int32) (u : MS) => x = (if n < 8 then nI n else -4) ∧ (if n < 8 then (va_up (va_up v (17 + n) (nI 1)) 1 (nI (n + 1)), va_up (va_up R (10 + n) (R q)) (18 + n) (R r), F, G) else (v, R, F, G)) = u) (XB dC dI aC ad cap) (xA ad)) 0 0 (xA ad) := by
  refine Met.ofW (cc := cX8_addRule) (maxL := 5) (ret := (some .int)) (by decide) rfl ?_
  intro p e s m args below meth c s₁ B hml hv
  obtain ⟨rfl, hK, Z, S, hZ, hP⟩ := hv
  have hx := B.exec
  have hb := B.bytes
  have hret := B.returns
  have hts := atoms_spec (ws := wsX8_addRule) B.pre
  have hown : s.vm.findClass RX8 = some m.cls := findClass_of_methodNamed B.named
  have hlocks := B.notSynchronized
  dsimp only at hZ hP
  have lk0 := hts (.fieldLink RX8 26 "LeafTrees$World" "ruleCount" "I") (by decide +kernel)
  have lk1 := hts (.fieldLink RX8 17 "LeafTrees$World" "rules" "[LLeafTrees$Rule;") (by decide +kernel)
  have lk2 := hts (.fieldLink RX8 29 "LeafTrees$Rule" "left" "LLeafTrees$Row;") (by decide +kernel)
  have lk3 := hts (.fieldLink RX8 39 "LeafTrees$Rule" "right" "LLeafTrees$Row;") (by decide +kernel)
  have lk4 := hts (.fieldLink RX8 42 "LeafTrees$Rule" "toNothing" "Z") (by decide +kernel)
  have hin4 : ∀ w ∈ u_ws RX4 TX4 3, w ∈ wsX8_addRule := by decide +kernel
  have hin8 : ∀ w ∈ u_ws RX8 TX8 4, w ∈ wsX8_addRule := by decide +kernel
  have hS : va_S (xA ad) s.heap s.heap [] := va_S.rf
  have hl := lv_entry [.ref (ad 1), .ref (ad (58 + 2 * q)), .ref (ad (58 + 2 * r)), .int (nI 1)] (n := 5) (Nat.le_of_ble_eq_true rfl)
  rw [lg_entry_eq]
  generalize (lg_sl [.ref (ad 1), .ref (ad (58 + 2 * q)), .ref (ad (58 + 2 * r)), .int (nI 1)] ++ List.replicate (5 - (lg_sl [.ref (ad 1), .ref (ad (58 + 2 * q)), .ref (ad (58 + 2 * r)), .int (nI 1)]).length) Slot.unset).toArray = ls at hl ⊢
  have hl : lv_has ls 5 [(0, .ref (ad 1)), (1, .ref (ad (58 + 2 * q))), (2, .ref (ad (58 + 2 * r))), (3, .int (nI 1))] := hl
  refine nx_Q (R := ({ frames := 2, cells := 0, slots := 0, locals := 61 } : Room)) (fun Q hQ => ?_)
  refine lv_aload_n hx hb dX8_addRule_0 rfl (lv_at hl 0 rfl) ?_
  refine va_get (D := (dC, dI)) (ci := 8) (C := RX8) (T := TX8) (N := 4) hx hb hts hin8 hown hK hP 1 rfl rfl 3 (by decide) lk0 (fun _ h9 => h9) rfl dX8_addRule_1 ?_
  refine nx_ti (y := nI n) (hn) ?_
  refine lv_bipush (v := nI 8) hx hb dX8_addRule_4 (by decide) ?_
  refine nx_icmp_lt (a := n) (b := 8) (tgt := 12) hx hb dX8_addRule_6 (by decide) (by omega) (by omega) (fun c_6 => ?_) (fun c_6 => ?_)
  · skip
    refine lv_aload_n hx hb dX8_addRule_12 rfl (lv_at hl 0 rfl) ?_
    refine va_get (D := (dC, dI)) (ci := 8) (C := RX8) (T := TX8) (N := 4) hx hb hts hin8 hown hK hP 1 rfl rfl 2 (by decide) lk1 (fun _ h9 => h9) rfl dX8_addRule_13 ?_
    refine lv_aload_n hx hb dX8_addRule_16 rfl (lv_at hl 0 rfl) ?_
    refine va_get (D := (dC, dI)) (ci := 8) (C := RX8) (T := TX8) (N := 4) hx hb hts hin8 hown hK hP 1 rfl rfl 3 (by decide) lk0 (fun _ h9 => h9) rfl dX8_addRule_17 ?_
    refine nx_ti (y := nI n) (hn) ?_
    refine nx_aald (C := "LeafTrees$Rule") hx hb hK hP 11 4 rfl rfl (i := n) (by omega) (by decide) (show xRules ad n = some (ad (50 + n)) from if_pos (by omega)) dX8_addRule_20 ?_
    refine lv_astore (lv' := [(4, .ref (ad (50 + n))), (0, .ref (ad 1)), (1, .ref (ad (58 + 2 * q))), (2, .ref (ad (58 + 2 * r))), (3, .int (nI 1))]) hx hb dX8_addRule_21 hl (by decide) rfl (fun ls hl => ?_)
    refine lv_aload hx hb dX8_addRule_23 (lv_at hl 0 rfl) ?_
    refine va_get (D := (dC, dI)) (ci := 4) (C := RX4) (T := TX4) (N := 3) hx hb hts hin4 hown hK hP (50 + n) (xw_ru n (by omega)) rfl 0 (by decide) lk2 (fun _ h9 => h9) rfl dX8_addRule_25 ?_
    refine lv_aload_n hx hb dX8_addRule_28 rfl (lv_at hl 2 rfl) ?_
    refine xc_v (b := ad (58 + 2 * (10 + n))) (As := [.ref (ad (58 + 2 * q))]) (rest := []) ⟨hx, hb, hml, hown, hts⟩ (x_become l dC dI aC ad cap hI v R F G (10 + n) (by omega) q (by omega)) (cwV 1 hts gX8_addRule_X3_become rfl rfl rfl (by decide +kernel) ⟨Nat.le_of_ble_eq_true rfl, Nat.le_of_ble_eq_true rfl⟩) (xPre (q0 := (58 + 2 * (10 + n))) (ci := 3) rfl (xw_ro (10 + n) (by omega)) hK hZ hP) hS rfl hl.1 rfl (Nat.le_of_ble_eq_true rfl) dX8_addRule_29 ⟨Nat.le_of_ble_eq_true rfl, Nat.le_of_ble_eq_true rfl⟩ (fun v1 R1 F1 G1 Z S H locs h_29 hZ hP hS => ?_)
    cases h_29
    refine lv_aload hx hb dX8_addRule_32 (lv_at hl 0 rfl) ?_
    refine va_get (D := (dC, dI)) (ci := 4) (C := RX4) (T := TX4) (N := 3) hx hb hts hin4 hown hK hP (50 + n) (xw_ru n (by omega)) rfl 1 (by decide) lk3 (fun _ h9 => h9) rfl dX8_addRule_34 ?_
    refine lv_aload_n hx hb dX8_addRule_37 rfl (lv_at hl 3 rfl) ?_
    refine xc_v (b := ad (58 + 2 * (18 + n))) (As := [.ref (ad (58 + 2 * r))]) (rest := []) ⟨hx, hb, hml, hown, hts⟩ (x_become l dC dI aC ad cap hI v (va_up R (10 + n) (R q)) F G (18 + n) (by omega) r hr) (cwV 1 hts gX8_addRule_X3_become rfl rfl rfl (by decide +kernel) ⟨Nat.le_of_ble_eq_true rfl, Nat.le_of_ble_eq_true rfl⟩) (xPre (q0 := (58 + 2 * (18 + n))) (ci := 3) rfl (xw_ro (18 + n) (by omega)) hK hZ hP) hS rfl hl.1 rfl (Nat.le_of_ble_eq_true rfl) dX8_addRule_38 ⟨Nat.le_of_ble_eq_true rfl, Nat.le_of_ble_eq_true rfl⟩ (fun v2 R2 F2 G2 Z S H locs h_38 hZ hP hS => ?_)
    rw [upn hrn] at h_38
    cases h_38
    refine lv_aload hx hb dX8_addRule_41 (lv_at hl 0 rfl) ?_
    refine lv_iload_n hx hb dX8_addRule_43 rfl (lv_at hl 4 rfl) ?_
    refine va_put (D := (dC, dI)) (ci := 4) (v := .int (nI 1)) (ty := .boolean) (C := RX4) (T := TX4) (N := 3) hx hb hts hin4 tyX4 tyX4_ok nmX4 hown hK hP (wsX_D hI) hS (50 + n) (xw_ru n (by omega)) rfl 2 (by decide) lk4 (fun _ h9 => h9) rfl (by decide +kernel) rfl rfl (Nat.le_of_ble_eq_true rfl) dX8_addRule_44 (fun H locs hP _ hS => ?_)
    have hP : va_P (dC, dI) vwCl ((wsX aC ad cap v Z S F G).set (50 + n) (ad (50 + n), .inr (4, [.ref (ad (58 + 2 * (10 + n))), .ref (ad (58 + 2 * (18 + n))), .int (nI 1)]))) H := hP
    rw [xs_rule n (by omega)] at hP
    refine lv_aload_n hx hb dX8_addRule_47 rfl (lv_at hl 1 rfl) ?_
    refine lv_dup hx hb dX8_addRule_48 rfl ?_
    refine va_get (D := (dC, dI)) (ci := 8) (C := RX8) (T := TX8) (N := 4) hx hb hts hin8 hown hK hP 1 rfl rfl 3 (by decide) lk0 (fun _ h9 => h9) rfl dX8_addRule_49 ?_
    refine nx_ti (y := nI n) (by rw [upn (show 1 ≠ 17 + n by omega)]; exact hn) ?_
    refine lv_iconst (v := nI 1) hx hb dX8_addRule_52 (by decide) ?_
    refine lv_iadd hx hb dX8_addRule_53 ?_
    refine nx_ti (y := nI (n + 1)) (nI_add _ _) ?_
    refine va_put (D := (dC, dI)) (ci := 8) (v := .int (nI (n + 1))) (ty := .int) (C := RX8) (T := TX8) (N := 4) hx hb hts hin8 tyX8 tyX8_ok nmX8 hown hK hP (wsX_D hI) hS 1 rfl rfl 3 (by decide) lk0 (fun _ h9 => h9) rfl (by decide +kernel) rfl rfl (Nat.le_of_ble_eq_true rfl) dX8_addRule_54 (fun H locs hP _ hS => ?_)
    have hP : va_P (dC, dI) vwCl (wsX aC ad cap (va_up (va_up v (17 + n) (nI 1)) 1 (nI (n + 1))) Z S F G) H := hP
    refine lv_aload_n hx hb dX8_addRule_57 rfl (lv_at hl 1 rfl) ?_
    refine va_get (D := (dC, dI)) (ci := 8) (C := RX8) (T := TX8) (N := 4) hx hb hts hin8 hown hK hP 1 rfl rfl 3 (by decide) lk0 (fun _ h9 => h9) rfl dX8_addRule_58 ?_
    refine lv_iconst (v := nI 1) hx hb dX8_addRule_61 (by decide) ?_
    refine lv_isub hx hb dX8_addRule_62 ?_
    refine nx_ti (y := nI ((n + 1) - 1)) (pk_sub (by omega)) ?_
    subst hQ
    exact W.iret (v := nI ((n + 1) - 1)) hx hb hret (fun tq htq hWq => ⟨⟨_, ((va_up (va_up v (17 + n) (nI 1)) 1 (nI (n + 1))), va_up (va_up R (10 + n) (R q)) (18 + n) (R r), F, G), rfl, ⟨by rw [if_pos c_6]; rfl, by rw [if_pos c_6]⟩, va_K.moved hWq.alike hK, _, _, hZ, by rw [htq]; exact hP⟩, hS.F htq⟩) hS.2.2 dX8_addRule_63
  · skip
    refine lv_bipush (v := (-4)) hx hb dX8_addRule_9 (by decide) ?_
    subst hQ
    exact W.iret (v := (-4)) hx hb hret (fun tq htq hWq => ⟨⟨_, (v, R, F, G), rfl, ⟨by rw [if_neg (by omega)], by rw [if_neg (by omega)]⟩, va_K.moved hWq.alike hK, _, _, hZ, by rw [htq]; exact hP⟩, hS.F htq⟩) hS.2.2 dX8_addRule_11

set_option maxHeartbeats 1000000 in
set_option maxRecDepth 100000 in
/-- World.hasLeft -/
theorem x_hasLeft (l : Launch) (dC : Nat → ClassId) (dI : Nat → Nat → Nat) (aC : Nat → ClassId) (ad cap : Nat → Nat) (v : Nat → Int32) (R : Nat → List Int32) (F : Nat → Nat → Int32) (G : Nat → Nat → Int64) (n : Nat) (hn : v 1 = nI n) (hn8 : n ≤ 8) (h5 : ∀ j, j < n → (R (10 + j)).length = 5) (a en b : Nat) (hen : en < 2) : Met l yX8_hasLeft wsX8_hasLeft ({ frames := 0, cells := 0, slots := 0, locals := 0 } : Room) (va_Pc [.ref (ad 1), .int (nI a), .int (nI en), .int (nI b)] (XB dC dI aC ad cap (v, R, F, G))) (vp_Si (fun x => x = bI (hlF R a en b n = true))) 0 0 (fun _ => False) := by
  refine Met.ofW (cc := cX8_hasLeft) (maxL := 6) (ret := (some .boolean)) (by decide) rfl ?_
  intro p e s m args below meth c s₁ B hml hv
  obtain ⟨rfl, hK, Z, S, hZ, hP⟩ := hv
  have hx := B.exec
  have hb := B.bytes
  have hret := B.returns
  have hts := atoms_spec (ws := wsX8_hasLeft) B.pre
  have hown : s.vm.findClass RX8 = some m.cls := findClass_of_methodNamed B.named
  have hlocks := B.notSynchronized
  dsimp only at hZ hP
  have lk0 := hts (.fieldLink RX8 26 "LeafTrees$World" "ruleCount" "I") (by decide +kernel)
  have lk1 := hts (.fieldLink RX8 17 "LeafTrees$World" "rules" "[LLeafTrees$Rule;") (by decide +kernel)
  have lk2 := hts (.fieldLink RX8 29 "LeafTrees$Rule" "left" "LLeafTrees$Row;") (by decide +kernel)
  have lk3 := hts (.fieldLink RX8 55 "LeafTrees$Row" "symbols" "[I") (by decide +kernel)
  have hin3 : ∀ w ∈ u_ws RX3 TX3 2, w ∈ wsX8_hasLeft := by decide +kernel
  have hin4 : ∀ w ∈ u_ws RX4 TX4 3, w ∈ wsX8_hasLeft := by decide +kernel
  have hin8 : ∀ w ∈ u_ws RX8 TX8 4, w ∈ wsX8_hasLeft := by decide +kernel
  have hl := lv_entry [.ref (ad 1), .int (nI a), .int (nI en), .int (nI b)] (n := 6) (Nat.le_of_ble_eq_true rfl)
  rw [lg_entry_eq]
  generalize (lg_sl [.ref (ad 1), .int (nI a), .int (nI en), .int (nI b)] ++ List.replicate (6 - (lg_sl [.ref (ad 1), .int (nI a), .int (nI en), .int (nI b)]).length) Slot.unset).toArray = ls at hl ⊢
  have hl : lv_has ls 6 [(0, .ref (ad 1)), (1, .int (nI a)), (2, .int (nI en)), (3, .int (nI b))] := hl
  refine nx_Q (R := ({ frames := 0, cells := 0, slots := 0, locals := 0 } : Room)) (fun Q hQ => ?_)
  refine lv_iconst (v := nI 0) hx hb dX8_hasLeft_0 (by decide) ?_
  refine lv_istore (lv' := [(4, .int (nI 0)), (0, .ref (ad 1)), (1, .int (nI a)), (2, .int (nI en)), (3, .int (nI b))]) hx hb dX8_hasLeft_1 hl (by decide) rfl (fun ls hl => ?_)
  have L3 : ∀ (fuel3 : Nat) (i : Nat) (ls : Array Slot), (i ≤ n) → (hlF R a en b i = false) → 8 - i < fuel3 → lv_has ls 6 [(0, .ref (ad 1)), (1, .int (nI a)), (2, .int (nI en)), (3, .int (nI b)), (4, .int (nI i))] → W p l e ({ frames := 0, cells := 0, slots := 0, locals := 0 } : Room) s m ([.ref (ad 1), .int (nI a), .int (nI en), .int (nI b)] : List Value).toArray below meth c s.heap [] 0 0 Q (F0 m 3 ls []) := by
    intro fuel3
    induction fuel3 with
    | zero => intro i ls hi hno hf3 hl; exact absurd hf3 (Nat.not_lt_zero _)
    | succ fuel3 ih3 =>
      intro i ls hi hno hf3 hl
      refine lv_iload hx hb dX8_hasLeft_3 (lv_at hl 4 rfl) ?_
      refine lv_aload_n hx hb dX8_hasLeft_5 rfl (lv_at hl 0 rfl) ?_
      refine va_get (D := (dC, dI)) (ci := 8) (C := RX8) (T := TX8) (N := 4) hx hb hts hin8 hown hK hP 1 rfl rfl 3 (by decide) lk0 (fun _ h9 => h9) rfl dX8_hasLeft_6 ?_
      refine nx_ti (y := nI n) (hn) ?_
      refine nx_icmp_ge (a := i) (b := n) (tgt := 53) hx hb dX8_hasLeft_9 (by decide) (by omega) (by omega) (fun c_9 => ?_) (fun c_9 => ?_)
      · skip
        refine lv_iconst (v := nI 0) hx hb dX8_hasLeft_53 (by decide) ?_
        subst hQ
        exact W.zret (v := nI 0) hx hb hret (rfl) (fun tq htq hWq => ⟨_, rfl, (bI_f (by rw [← show i = n by omega, hno]; decide)).symm, htq⟩) (fun q h => by cases h) dX8_hasLeft_54
      · skip
        have h5i := h5 i c_9
        refine lv_aload_n hx hb dX8_hasLeft_12 rfl (lv_at hl 0 rfl) ?_
        refine va_get (D := (dC, dI)) (ci := 8) (C := RX8) (T := TX8) (N := 4) hx hb hts hin8 hown hK hP 1 rfl rfl 2 (by decide) lk1 (fun _ h9 => h9) rfl dX8_hasLeft_13 ?_
        refine lv_iload hx hb dX8_hasLeft_16 (lv_at hl 4 rfl) ?_
        refine nx_aald (C := "LeafTrees$Rule") hx hb hK hP 11 4 rfl rfl (i := i) (by omega) (by decide) (show xRules ad i = some (ad (50 + i)) from if_pos (by omega)) dX8_hasLeft_18 ?_
        refine va_get (D := (dC, dI)) (ci := 4) (C := RX4) (T := TX4) (N := 3) hx hb hts hin4 hown hK hP (50 + i) (xw_ru i (by omega)) rfl 0 (by decide) lk2 (fun _ h9 => h9) rfl dX8_hasLeft_19 ?_
        refine va_get (D := (dC, dI)) (ci := 3) (C := RX3) (T := TX3) (N := 2) hx hb hts hin3 hown hK hP (58 + 2 * (10 + i)) (xw_ro (10 + i) (by omega)) rfl 0 (by decide) lk3 (fun _ h9 => h9) rfl dX8_hasLeft_22 ?_
        refine lv_astore (lv' := [(5, .ref (ad (59 + 2 * (10 + i)))), (0, .ref (ad 1)), (1, .int (nI a)), (2, .int (nI en)), (3, .int (nI b)), (4, .int (nI i))]) hx hb dX8_hasLeft_25 hl (by decide) rfl (fun ls hl => ?_)
        refine lv_aload hx hb dX8_hasLeft_27 (lv_at hl 0 rfl) ?_
        refine lv_iconst (v := nI 0) hx hb dX8_hasLeft_29 (by decide) ?_
        refine nx_iald hx hb hK hP (59 + 2 * (10 + i)) 0 (xw_ra (10 + i) (by omega)) rfl (i := 0) (by have := (hZ (10 + i) (by omega)).1; omega) (by decide) dX8_hasLeft_30 ?_
        refine nx_ti (y := gD (R (10 + i)) 0) ((hZ (10 + i) (by omega)).2.2 0 (by omega)) ?_
        refine lv_iload_n hx hb dX8_hasLeft_31 rfl (lv_at hl 2 rfl) ?_
        refine lv_icmp_ne (tgt := 47) hx hb dX8_hasLeft_32 (by decide) (fun c_32 => ?_) (fun c_32 => ?_)
        · skip
          refine lv_iinc (v := nI (i + 1)) (lv' := [(4, .int (nI (i + 1))), (5, .ref (ad (59 + 2 * (10 + i)))), (0, .ref (ad 1)), (1, .int (nI a)), (2, .int (nI en)), (3, .int (nI b))]) hx hb dX8_hasLeft_47 hl (k := 5) rfl (nI_add _ _) (by decide) rfl (fun ls hl => ?_)
          refine lv_goto (tgt := 3) hx hb dX8_hasLeft_50 (by decide) ?_
          exact ih3 (i + 1) _ (by omega) (hlF_n hno (fun h => c_32 h.1)) (by omega) (lv_sub hl [2, 3, 4, 5, 0] rfl)
        · skip
          refine lv_aload hx hb dX8_hasLeft_35 (lv_at hl 0 rfl) ?_
          refine lv_iconst (v := nI 1) hx hb dX8_hasLeft_37 (by decide) ?_
          refine lv_iload_n hx hb dX8_hasLeft_38 rfl (lv_at hl 3 rfl) ?_
          refine lv_iadd hx hb dX8_hasLeft_39 ?_
          refine nx_ti (y := nI (1 + en)) (nI_add _ _) ?_
          refine nx_iald hx hb hK hP (59 + 2 * (10 + i)) 0 (xw_ra (10 + i) (by omega)) rfl (i := 1 + en) (by have := (hZ (10 + i) (by omega)).1; omega) (by decide) dX8_hasLeft_40 ?_
          refine nx_ti (y := gD (R (10 + i)) (1 + en)) ((hZ (10 + i) (by omega)).2.2 (1 + en) (by omega)) ?_
          refine lv_iload_n hx hb dX8_hasLeft_41 rfl (lv_at hl 4 rfl) ?_
          refine lv_icmp_ne (tgt := 47) hx hb dX8_hasLeft_42 (by decide) (fun c_42 => ?_) (fun c_42 => ?_)
          · skip
            refine lv_iinc (v := nI (i + 1)) (lv' := [(4, .int (nI (i + 1))), (5, .ref (ad (59 + 2 * (10 + i)))), (0, .ref (ad 1)), (1, .int (nI a)), (2, .int (nI en)), (3, .int (nI b))]) hx hb dX8_hasLeft_47 hl (k := 5) rfl (nI_add _ _) (by decide) rfl (fun ls hl => ?_)
            refine lv_goto (tgt := 3) hx hb dX8_hasLeft_50 (by decide) ?_
            exact ih3 (i + 1) _ (by omega) (hlF_n hno (fun h => c_42 h.2)) (by omega) (lv_sub hl [2, 3, 4, 5, 0] rfl)
          · skip
            refine lv_iconst (v := nI 1) hx hb dX8_hasLeft_45 (by decide) ?_
            subst hQ
            exact W.zret (v := nI 1) hx hb hret (rfl) (fun tq htq hWq => ⟨_, rfl, (bI_t (hlF_y ⟨c_32, c_42⟩ c_9)).symm, htq⟩) (fun q h => by cases h) dX8_hasLeft_46
  exact L3 (8 - 0 + 1) 0 _ (by omega) rfl (Nat.lt_succ_self _) (lv_sub hl [1, 2, 3, 4, 0] rfl)

set_option maxHeartbeats 1000000 in
set_option maxRecDepth 100000 in
/-- Shape.measure -/
theorem x_measure0 (l : Launch) (dC : Nat → ClassId) (dI : Nat → Nat → Nat) (aC : Nat → ClassId) (ad cap : Nat → Nat) (hI : xI ad) (v : Nat → Int32) (R : Nat → List Int32) (F : Nat → Nat → Int32) (G : Nat → Nat → Int64) (A : Nat) (hE : vE A (F 0)) (hA : v 0 = nI A) (k : Nat) (hk : k < 31) (hV : vR A (R k)) (hT : isT (F 0) (R k)) : Met l yX6_measure wsX6_measure ({ frames := 1, cells := 0, slots := 0, locals := 21 } : Room) (va_Pc [.ref (ad 3), .ref (ad 1), .ref (ad (58 + 2 * k))] (XB dC dI aC ad cap (v, R, F, G))) (va_Qv (fun (u : MS) => ∃ f, (v, R, va_up F 1 f, G) = u ∧ eFr (F 0) (R k) f 0) (XB dC dI aC ad cap) (xA ad)) 0 0 (xA ad) := by
  refine Met.ofW (cc := cX6_measure) (maxL := 7) (ret := none) (by decide) rfl ?_
  intro p e s m args below meth c s₁ B hml hv
  obtain ⟨rfl, hK, Z, S, hZ, hP⟩ := hv
  have hx := B.exec
  have hb := B.bytes
  have hret := B.returns
  have hts := atoms_spec (ws := wsX6_measure) B.pre
  have hown : s.vm.findClass RX6 = some m.cls := findClass_of_methodNamed B.named
  have hlocks := B.notSynchronized
  dsimp only at hZ hP
  have lk0 := hts (.fieldLink RX6 15 "LeafTrees$Row" "length" "I") (by decide +kernel)
  have lk1 := hts (.fieldLink RX6 21 "LeafTrees$Row" "symbols" "[I") (by decide +kernel)
  have lk2 := hts (.fieldLink RX6 9 "LeafTrees$Shape" "ends" "[I") (by decide +kernel)
  have hin3 : ∀ w ∈ u_ws RX3 TX3 2, w ∈ wsX6_measure := by decide +kernel
  have hin6 : ∀ w ∈ u_ws RX6 TX6 1, w ∈ wsX6_measure := by decide +kernel
  have hS : va_S (xA ad) s.heap s.heap [] := va_S.rf
  have hl := lv_entry [.ref (ad 3), .ref (ad 1), .ref (ad (58 + 2 * k))] (n := 7) (Nat.le_of_ble_eq_true rfl)
  rw [lg_entry_eq]
  generalize (lg_sl [.ref (ad 3), .ref (ad 1), .ref (ad (58 + 2 * k))] ++ List.replicate (7 - (lg_sl [.ref (ad 3), .ref (ad 1), .ref (ad (58 + 2 * k))]).length) Slot.unset).toArray = ls at hl ⊢
  have hl : lv_has ls 7 [(0, .ref (ad 3)), (1, .ref (ad 1)), (2, .ref (ad (58 + 2 * k)))] := hl
  refine nx_Q (R := ({ frames := 1, cells := 0, slots := 0, locals := 21 } : Room)) (fun Q hQ => ?_)
  have hlen := (hZ k hk).1
  have h4 := hE.1
  refine lv_aload_n hx hb dX6_measure_0 rfl (lv_at hl 2 rfl) ?_
  refine va_get (D := (dC, dI)) (ci := 3) (C := RX3) (T := TX3) (N := 2) hx hb hts hin3 hown hK hP (58 + 2 * k) (xw_ro k (by omega)) rfl 1 (by decide) lk0 (fun _ h9 => h9) rfl dX6_measure_1 ?_
  refine nx_ti (y := nI (R k).length) ((hZ k (by omega)).2.1) ?_
  refine lv_iconst (v := nI 1) hx hb dX6_measure_4 (by decide) ?_
  refine lv_isub hx hb dX6_measure_5 ?_
  refine nx_ti (y := sy (R k).length) (rfl) ?_
  refine lv_istore_n (lv' := [(3, .int (sy (R k).length)), (0, .ref (ad 3)), (1, .ref (ad 1)), (2, .ref (ad (58 + 2 * k)))]) hx hb dX6_measure_6 rfl hl (by decide) rfl (fun ls hl => ?_)
  have L7 : ∀ (fuel7 : Nat) (j : Nat) (f : Nat → Int32) (Z : Nat → Int32) (S : Nat → Nat → Int32) (H : Heap) (locs : List Loc) (ls : Array Slot), (j ≤ (R k).length) → (eFr (F 0) (R k) f j) → xOK Z S R → va_P (dC, dI) vwCl (wsX aC ad cap v Z S (va_up F 1 f) G) H → va_S (xA ad) s.heap H locs → j < fuel7 → lv_has ls 7 [(0, .ref (ad 3)), (1, .ref (ad 1)), (2, .ref (ad (58 + 2 * k))), (3, .int (sy j))] → W p l e ({ frames := 1, cells := 0, slots := 0, locals := 21 } : Room) s m ([.ref (ad 3), .ref (ad 1), .ref (ad (58 + 2 * k))] : List Value).toArray below meth c H locs 0 0 Q (F0 m 7 ls []) := by
    intro fuel7
    induction fuel7 with
    | zero => intro j f Z S H locs ls hj hf hZ hP hS hf7 hl; exact absurd hf7 (Nat.not_lt_zero _)
    | succ fuel7 ih7 =>
      intro j f Z S H locs ls hj hf hZ hP hS hf7 hl
      have hlen := (hZ k hk).1
      refine lv_iload_n hx hb dX6_measure_7 rfl (lv_at hl 3 rfl) ?_
      refine lv_if_lt (tgt := 83) hx hb dX6_measure_8 (by decide) (fun c_8 => ?_) (fun c_8 => ?_)
      · skip
        subst hQ
        exact W.vret hx hb hret (fun tq htq hWq => ⟨⟨(v, R, (va_up F 1 f), G), rfl, ⟨f, rfl, by have h9 := (sy_neg (by omega)).mp c_8; subst h9; exact hf⟩, va_K.moved hWq.alike hK, _, _, hZ, by rw [htq]; exact hP⟩, hS.F htq⟩) hS.2.2 dX6_measure_83
      · skip
        obtain ⟨i, rfl⟩ : ∃ i, j = i + 1 := ⟨j - 1, by have h9 : ¬ j = 0 := fun h => c_8 ((sy_neg (by omega)).mpr h); omega⟩
        rw [sy_s] at hl
        obtain ⟨qe, hqe, hqe1, hqe2⟩ := isT_end hT (show i < (R k).length by omega)
        have hw3 := wt_le hE (hV i (by omega))
        refine lv_iload_n hx hb dX6_measure_11 rfl (lv_at hl 3 rfl) ?_
        refine lv_iconst (v := nI 1) hx hb dX6_measure_12 (by decide) ?_
        refine lv_iadd hx hb dX6_measure_13 ?_
        refine nx_ti (y := nI (i + 1)) (nI_add _ _) ?_
        refine lv_istore (lv' := [(4, .int (nI (i + 1))), (0, .ref (ad 3)), (1, .ref (ad 1)), (2, .ref (ad (58 + 2 * k))), (3, .int (nI i))]) hx hb dX6_measure_14 hl (by decide) rfl (fun ls hl => ?_)
        refine lv_aload_n hx hb dX6_measure_16 rfl (lv_at hl 2 rfl) ?_
        refine lv_aload_n hx hb dX6_measure_17 rfl (lv_at hl 3 rfl) ?_
        refine va_get (D := (dC, dI)) (ci := 3) (C := RX3) (T := TX3) (N := 2) hx hb hts hin3 hown hK hP (58 + 2 * k) (xw_ro k (by omega)) rfl 0 (by decide) lk1 (fun _ h9 => h9) rfl dX6_measure_18 ?_
        refine lv_iload_n hx hb dX6_measure_21 rfl (lv_at hl 4 rfl) ?_
        refine nx_iald hx hb hK hP (59 + 2 * k) 0 (xw_ra k (by omega)) rfl (i := i) (by have := (hZ k (by omega)).1; omega) (by decide) dX6_measure_22 ?_
        refine nx_ti (y := gD (R k) i) ((hZ k (by omega)).2.2 i (by omega)) ?_
        refine xp_i (b := ad 1) (As := [.int (gD (R k) i)]) (rest := []) ⟨hx, hb, hml, hown, hts⟩ (x_entriesOf l dC dI aC ad cap v R (va_up F 1 f) G A hE hA (gD (R k) i) (hV i (by omega))) (cwV 1 hts gX6_measure_X8_entriesOf rfl rfl rfl (by decide +kernel) ⟨Nat.le_of_ble_eq_true rfl, Nat.le_of_ble_eq_true rfl⟩) (xPre (q0 := 1) (ci := 8) rfl rfl hK hZ hP) rfl hl.1 rfl (Nat.le_of_ble_eq_true rfl) dX6_measure_23 ⟨Nat.le_of_ble_eq_true rfl, Nat.le_of_ble_eq_true rfl⟩ (fun x_23 h_23 => ?_)
        refine nx_ti (y := nI (wt (F 0) (gD (R k) i))) h_23 ?_
        refine lv_istore (lv' := [(5, .int (nI (wt (F 0) (gD (R k) i)))), (4, .int (nI (i + 1))), (0, .ref (ad 3)), (1, .ref (ad 1)), (2, .ref (ad (58 + 2 * k))), (3, .int (nI i))]) hx hb dX6_measure_26 hl (by decide) rfl (fun ls hl => ?_)
        refine lv_iconst (v := nI 0) hx hb dX6_measure_28 (by decide) ?_
        refine lv_istore (lv' := [(6, .int (nI 0)), (5, .int (nI (wt (F 0) (gD (R k) i)))), (4, .int (nI (i + 1))), (0, .ref (ad 3)), (1, .ref (ad 1)), (2, .ref (ad (58 + 2 * k))), (3, .int (nI i))]) hx hb dX6_measure_29 hl (by decide) rfl (fun ls hl => ?_)
        have L31 : ∀ (fuel31 : Nat) (q0 : Nat) (en : Nat) (ls : Array Slot), (q0 ≤ wt (F 0) (gD (R k) i)) → (en ≤ (R k).length ∧ i + 1 ≤ en) → (tE (wt (F 0)) (gD (R k)) ((R k).length - en) (wt (F 0) (gD (R k) i) - q0) en = some qe) → 3 - q0 < fuel31 → lv_has ls 7 [(0, .ref (ad 3)), (1, .ref (ad 1)), (2, .ref (ad (58 + 2 * k))), (3, .int (nI i)), (4, .int (nI en)), (5, .int (nI (wt (F 0) (gD (R k) i)))), (6, .int (nI q0))] → W p l e ({ frames := 1, cells := 0, slots := 0, locals := 21 } : Room) s m ([.ref (ad 3), .ref (ad 1), .ref (ad (58 + 2 * k))] : List Value).toArray below meth c H locs 0 0 Q (F0 m 31 ls []) := by
          intro fuel31
          induction fuel31 with
          | zero => intro q0 en ls hq0 hen hq hf31 hl; exact absurd hf31 (Nat.not_lt_zero _)
          | succ fuel31 ih31 =>
            intro q0 en ls hq0 hen hq hf31 hl
            refine lv_iload hx hb dX6_measure_31 (lv_at hl 6 rfl) ?_
            refine lv_iload hx hb dX6_measure_33 (lv_at hl 5 rfl) ?_
            refine nx_icmp_ge (a := q0) (b := (wt (F 0) (gD (R k) i))) (tgt := 69) hx hb dX6_measure_35 (by decide) (by omega) (by omega) (fun c_35 => ?_) (fun c_35 => ?_)
            · skip
              have heq : en = qe := by rw [show wt (F 0) (gD (R k) i) - q0 = 0 by omega, tE_0] at hq; exact Option.some.inj hq
              refine lv_aload_n hx hb dX6_measure_69 rfl (lv_at hl 0 rfl) ?_
              refine va_get (D := (dC, dI)) (ci := 6) (C := RX6) (T := TX6) (N := 1) hx hb hts hin6 hown hK hP 3 rfl rfl 0 (by decide) lk2 (fun _ h9 => h9) rfl dX6_measure_70 ?_
              refine lv_iload_n hx hb dX6_measure_73 rfl (lv_at hl 3 rfl) ?_
              refine lv_iload hx hb dX6_measure_74 (lv_at hl 4 rfl) ?_
              refine nx_iast hx hb hK hP (wsX_D hI) hS 12 0 rfl rfl (i := i) (by omega) (by decide) dX6_measure_76 (fun H locs hP hS => ?_)
              have hP : va_P (dC, dI) vwCl (wsX aC ad cap v Z S (va_up F 1 (upd f i (nI en))) G) H := hP
              refine lv_iinc (v := sy i) (lv' := [(3, .int (sy i)), (0, .ref (ad 3)), (1, .ref (ad 1)), (2, .ref (ad (58 + 2 * k))), (4, .int (nI en)), (5, .int (nI (wt (F 0) (gD (R k) i)))), (6, .int (nI q0))]) hx hb dX6_measure_77 hl (k := 3) rfl (sy_dec i) (by decide) rfl (fun ls hl => ?_)
              refine lv_goto (tgt := 7) hx hb dX6_measure_80 (by decide) ?_
              exact ih7 i (upd f i (nI en)) _ _ _ _ _ (by omega) (by rw [heq]; exact eFr_s hf hqe) hZ hP hS (by omega) (lv_sub hl [1, 2, 3, 0] rfl)
            · skip
              obtain ⟨y, hy1, hy2, hy3, hy4⟩ := tE_one (show 0 < wt (F 0) (gD (R k) i) - q0 by omega) hen.1 hq
              refine lv_iload hx hb dX6_measure_38 (lv_at hl 4 rfl) ?_
              refine lv_aload_n hx hb dX6_measure_40 rfl (lv_at hl 2 rfl) ?_
              refine va_get (D := (dC, dI)) (ci := 3) (C := RX3) (T := TX3) (N := 2) hx hb hts hin3 hown hK hP (58 + 2 * k) (xw_ro k (by omega)) rfl 1 (by decide) lk0 (fun _ h9 => h9) rfl dX6_measure_41 ?_
              refine nx_ti (y := nI (R k).length) ((hZ k (by omega)).2.1) ?_
              refine nx_icmp_ge (a := en) (b := (R k).length) (tgt := 57) hx hb dX6_measure_44 (by decide) (by omega) (by omega) (fun c_44 => ?_) (fun c_44 => ?_)
              · skip
                exact absurd (tE_lt (show 0 < wt (F 0) (gD (R k) i) - q0 by omega) hq) (by omega)
              · skip
                refine lv_aload_n hx hb dX6_measure_47 rfl (lv_at hl 0 rfl) ?_
                refine va_get (D := (dC, dI)) (ci := 6) (C := RX6) (T := TX6) (N := 1) hx hb hts hin6 hown hK hP 3 rfl rfl 0 (by decide) lk2 (fun _ h9 => h9) rfl dX6_measure_48 ?_
                refine lv_iload hx hb dX6_measure_51 (lv_at hl 4 rfl) ?_
                refine nx_iald hx hb hK hP 12 0 rfl rfl (i := en) (by omega) (by decide) dX6_measure_53 ?_
                refine nx_ti (y := nI y) (hf en (by omega) c_44 y hy3) ?_
                refine lv_goto (tgt := 61) hx hb dX6_measure_54 (by decide) ?_
                refine lv_istore (lv' := [(4, .int (nI y)), (0, .ref (ad 3)), (1, .ref (ad 1)), (2, .ref (ad (58 + 2 * k))), (3, .int (nI i)), (5, .int (nI (wt (F 0) (gD (R k) i)))), (6, .int (nI q0))]) hx hb dX6_measure_61 hl (by decide) rfl (fun ls hl => ?_)
                refine lv_iinc (v := nI (q0 + 1)) (lv' := [(6, .int (nI (q0 + 1))), (4, .int (nI y)), (0, .ref (ad 3)), (1, .ref (ad 1)), (2, .ref (ad (58 + 2 * k))), (3, .int (nI i)), (5, .int (nI (wt (F 0) (gD (R k) i))))]) hx hb dX6_measure_63 hl (k := 6) rfl (nI_add _ _) (by decide) rfl (fun ls hl => ?_)
                refine lv_goto (tgt := 31) hx hb dX6_measure_66 (by decide) ?_
                exact ih31 (q0 + 1) y _ (by omega) (by omega) (by rw [Nat.sub_sub] at hy4; exact hy4) (by omega) (lv_sub hl [2, 3, 4, 5, 1, 6, 0] rfl)
        exact L31 (3 - 0 + 1) 0 (i + 1) _ (by omega) (by omega) (by have h := hqe; rw [endL, tE_step _ _ Nat.one_pos (by omega), Nat.add_sub_cancel_left] at h; exact h) (Nat.lt_succ_self _) (lv_sub hl [3, 4, 5, 6, 2, 1, 0] rfl)
  exact L7 ((R k).length + 1) (R k).length (F 1) _ _ _ _ _ (by omega) (fun i h1 h2 => absurd h2 (by omega)) hZ (by rw [up_eta]; exact hP) hS (Nat.lt_succ_self _) (lv_sub hl [1, 2, 3, 0] rfl)

set_option maxHeartbeats 1000000 in
set_option maxRecDepth 100000 in
/-- Shape.measure -/
theorem x_measure1 (l : Launch) (dC : Nat → ClassId) (dI : Nat → Nat → Nat) (aC : Nat → ClassId) (ad cap : Nat → Nat) (hI : xI ad) (v : Nat → Int32) (R : Nat → List Int32) (F : Nat → Nat → Int32) (G : Nat → Nat → Int64) (A : Nat) (hE : vE A (F 0)) (hA : v 0 = nI A) (k : Nat) (hk : k < 31) (hV : vR A (R k)) (hT : isT (F 0) (R k)) : Met l yX6_measure wsX6_measure ({ frames := 1, cells := 0, slots := 0, locals := 21 } : Room) (va_Pc [.ref (ad 13), .ref (ad 1), .ref (ad (58 + 2 * k))] (XB dC dI aC ad cap (v, R, F, G))) (va_Qv (fun (u : MS) => ∃ f, (v, R, va_up F 2 f, G) = u ∧ eFr (F 0) (R k) f 0) (XB dC dI aC ad cap) (xA ad)) 0 0 (xA ad) := by
  refine Met.ofW (cc := cX6_measure) (maxL := 7) (ret := none) (by decide) rfl ?_
  intro p e s m args below meth c s₁ B hml hv
  obtain ⟨rfl, hK, Z, S, hZ, hP⟩ := hv
  have hx := B.exec
  have hb := B.bytes
  have hret := B.returns
  have hts := atoms_spec (ws := wsX6_measure) B.pre
  have hown : s.vm.findClass RX6 = some m.cls := findClass_of_methodNamed B.named
  have hlocks := B.notSynchronized
  dsimp only at hZ hP
  have lk0 := hts (.fieldLink RX6 15 "LeafTrees$Row" "length" "I") (by decide +kernel)
  have lk1 := hts (.fieldLink RX6 21 "LeafTrees$Row" "symbols" "[I") (by decide +kernel)
  have lk2 := hts (.fieldLink RX6 9 "LeafTrees$Shape" "ends" "[I") (by decide +kernel)
  have hin3 : ∀ w ∈ u_ws RX3 TX3 2, w ∈ wsX6_measure := by decide +kernel
  have hin6 : ∀ w ∈ u_ws RX6 TX6 1, w ∈ wsX6_measure := by decide +kernel
  have hS : va_S (xA ad) s.heap s.heap [] := va_S.rf
  have hl := lv_entry [.ref (ad 13), .ref (ad 1), .ref (ad (58 + 2 * k))] (n := 7) (Nat.le_of_ble_eq_true rfl)
  rw [lg_entry_eq]
  generalize (lg_sl [.ref (ad 13), .ref (ad 1), .ref (ad (58 + 2 * k))] ++ List.replicate (7 - (lg_sl [.ref (ad 13), .ref (ad 1), .ref (ad (58 + 2 * k))]).length) Slot.unset).toArray = ls at hl ⊢
  have hl : lv_has ls 7 [(0, .ref (ad 13)), (1, .ref (ad 1)), (2, .ref (ad (58 + 2 * k)))] := hl
  refine nx_Q (R := ({ frames := 1, cells := 0, slots := 0, locals := 21 } : Room)) (fun Q hQ => ?_)
  have hlen := (hZ k hk).1
  have h4 := hE.1
  refine lv_aload_n hx hb dX6_measure_0 rfl (lv_at hl 2 rfl) ?_
  refine va_get (D := (dC, dI)) (ci := 3) (C := RX3) (T := TX3) (N := 2) hx hb hts hin3 hown hK hP (58 + 2 * k) (xw_ro k (by omega)) rfl 1 (by decide) lk0 (fun _ h9 => h9) rfl dX6_measure_1 ?_
  refine nx_ti (y := nI (R k).length) ((hZ k (by omega)).2.1) ?_
  refine lv_iconst (v := nI 1) hx hb dX6_measure_4 (by decide) ?_
  refine lv_isub hx hb dX6_measure_5 ?_
  refine nx_ti (y := sy (R k).length) (rfl) ?_
  refine lv_istore_n (lv' := [(3, .int (sy (R k).length)), (0, .ref (ad 13)), (1, .ref (ad 1)), (2, .ref (ad (58 + 2 * k)))]) hx hb dX6_measure_6 rfl hl (by decide) rfl (fun ls hl => ?_)
  have L7 : ∀ (fuel7 : Nat) (j : Nat) (f : Nat → Int32) (Z : Nat → Int32) (S : Nat → Nat → Int32) (H : Heap) (locs : List Loc) (ls : Array Slot), (j ≤ (R k).length) → (eFr (F 0) (R k) f j) → xOK Z S R → va_P (dC, dI) vwCl (wsX aC ad cap v Z S (va_up F 2 f) G) H → va_S (xA ad) s.heap H locs → j < fuel7 → lv_has ls 7 [(0, .ref (ad 13)), (1, .ref (ad 1)), (2, .ref (ad (58 + 2 * k))), (3, .int (sy j))] → W p l e ({ frames := 1, cells := 0, slots := 0, locals := 21 } : Room) s m ([.ref (ad 13), .ref (ad 1), .ref (ad (58 + 2 * k))] : List Value).toArray below meth c H locs 0 0 Q (F0 m 7 ls []) := by
    intro fuel7
    induction fuel7 with
    | zero => intro j f Z S H locs ls hj hf hZ hP hS hf7 hl; exact absurd hf7 (Nat.not_lt_zero _)
    | succ fuel7 ih7 =>
      intro j f Z S H locs ls hj hf hZ hP hS hf7 hl
      have hlen := (hZ k hk).1
      refine lv_iload_n hx hb dX6_measure_7 rfl (lv_at hl 3 rfl) ?_
      refine lv_if_lt (tgt := 83) hx hb dX6_measure_8 (by decide) (fun c_8 => ?_) (fun c_8 => ?_)
      · skip
        subst hQ
        exact W.vret hx hb hret (fun tq htq hWq => ⟨⟨(v, R, (va_up F 2 f), G), rfl, ⟨f, rfl, by have h9 := (sy_neg (by omega)).mp c_8; subst h9; exact hf⟩, va_K.moved hWq.alike hK, _, _, hZ, by rw [htq]; exact hP⟩, hS.F htq⟩) hS.2.2 dX6_measure_83
      · skip
        obtain ⟨i, rfl⟩ : ∃ i, j = i + 1 := ⟨j - 1, by have h9 : ¬ j = 0 := fun h => c_8 ((sy_neg (by omega)).mpr h); omega⟩
        rw [sy_s] at hl
        obtain ⟨qe, hqe, hqe1, hqe2⟩ := isT_end hT (show i < (R k).length by omega)
        have hw3 := wt_le hE (hV i (by omega))
        refine lv_iload_n hx hb dX6_measure_11 rfl (lv_at hl 3 rfl) ?_
        refine lv_iconst (v := nI 1) hx hb dX6_measure_12 (by decide) ?_
        refine lv_iadd hx hb dX6_measure_13 ?_
        refine nx_ti (y := nI (i + 1)) (nI_add _ _) ?_
        refine lv_istore (lv' := [(4, .int (nI (i + 1))), (0, .ref (ad 13)), (1, .ref (ad 1)), (2, .ref (ad (58 + 2 * k))), (3, .int (nI i))]) hx hb dX6_measure_14 hl (by decide) rfl (fun ls hl => ?_)
        refine lv_aload_n hx hb dX6_measure_16 rfl (lv_at hl 2 rfl) ?_
        refine lv_aload_n hx hb dX6_measure_17 rfl (lv_at hl 3 rfl) ?_
        refine va_get (D := (dC, dI)) (ci := 3) (C := RX3) (T := TX3) (N := 2) hx hb hts hin3 hown hK hP (58 + 2 * k) (xw_ro k (by omega)) rfl 0 (by decide) lk1 (fun _ h9 => h9) rfl dX6_measure_18 ?_
        refine lv_iload_n hx hb dX6_measure_21 rfl (lv_at hl 4 rfl) ?_
        refine nx_iald hx hb hK hP (59 + 2 * k) 0 (xw_ra k (by omega)) rfl (i := i) (by have := (hZ k (by omega)).1; omega) (by decide) dX6_measure_22 ?_
        refine nx_ti (y := gD (R k) i) ((hZ k (by omega)).2.2 i (by omega)) ?_
        refine xp_i (b := ad 1) (As := [.int (gD (R k) i)]) (rest := []) ⟨hx, hb, hml, hown, hts⟩ (x_entriesOf l dC dI aC ad cap v R (va_up F 2 f) G A hE hA (gD (R k) i) (hV i (by omega))) (cwV 1 hts gX6_measure_X8_entriesOf rfl rfl rfl (by decide +kernel) ⟨Nat.le_of_ble_eq_true rfl, Nat.le_of_ble_eq_true rfl⟩) (xPre (q0 := 1) (ci := 8) rfl rfl hK hZ hP) rfl hl.1 rfl (Nat.le_of_ble_eq_true rfl) dX6_measure_23 ⟨Nat.le_of_ble_eq_true rfl, Nat.le_of_ble_eq_true rfl⟩ (fun x_23 h_23 => ?_)
        refine nx_ti (y := nI (wt (F 0) (gD (R k) i))) h_23 ?_
        refine lv_istore (lv' := [(5, .int (nI (wt (F 0) (gD (R k) i)))), (4, .int (nI (i + 1))), (0, .ref (ad 13)), (1, .ref (ad 1)), (2, .ref (ad (58 + 2 * k))), (3, .int (nI i))]) hx hb dX6_measure_26 hl (by decide) rfl (fun ls hl => ?_)
        refine lv_iconst (v := nI 0) hx hb dX6_measure_28 (by decide) ?_
        refine lv_istore (lv' := [(6, .int (nI 0)), (5, .int (nI (wt (F 0) (gD (R k) i)))), (4, .int (nI (i + 1))), (0, .ref (ad 13)), (1, .ref (ad 1)), (2, .ref (ad (58 + 2 * k))), (3, .int (nI i))]) hx hb dX6_measure_29 hl (by decide) rfl (fun ls hl => ?_)
        have L31 : ∀ (fuel31 : Nat) (q0 : Nat) (en : Nat) (ls : Array Slot), (q0 ≤ wt (F 0) (gD (R k) i)) → (en ≤ (R k).length ∧ i + 1 ≤ en) → (tE (wt (F 0)) (gD (R k)) ((R k).length - en) (wt (F 0) (gD (R k) i) - q0) en = some qe) → 3 - q0 < fuel31 → lv_has ls 7 [(0, .ref (ad 13)), (1, .ref (ad 1)), (2, .ref (ad (58 + 2 * k))), (3, .int (nI i)), (4, .int (nI en)), (5, .int (nI (wt (F 0) (gD (R k) i)))), (6, .int (nI q0))] → W p l e ({ frames := 1, cells := 0, slots := 0, locals := 21 } : Room) s m ([.ref (ad 13), .ref (ad 1), .ref (ad (58 + 2 * k))] : List Value).toArray below meth c H locs 0 0 Q (F0 m 31 ls []) := by
          intro fuel31
          induction fuel31 with
          | zero => intro q0 en ls hq0 hen hq hf31 hl; exact absurd hf31 (Nat.not_lt_zero _)
          | succ fuel31 ih31 =>
            intro q0 en ls hq0 hen hq hf31 hl
            refine lv_iload hx hb dX6_measure_31 (lv_at hl 6 rfl) ?_
            refine lv_iload hx hb dX6_measure_33 (lv_at hl 5 rfl) ?_
            refine nx_icmp_ge (a := q0) (b := (wt (F 0) (gD (R k) i))) (tgt := 69) hx hb dX6_measure_35 (by decide) (by omega) (by omega) (fun c_35 => ?_) (fun c_35 => ?_)
            · skip
              have heq : en = qe := by rw [show wt (F 0) (gD (R k) i) - q0 = 0 by omega, tE_0] at hq; exact Option.some.inj hq
              refine lv_aload_n hx hb dX6_measure_69 rfl (lv_at hl 0 rfl) ?_
              refine va_get (D := (dC, dI)) (ci := 6) (C := RX6) (T := TX6) (N := 1) hx hb hts hin6 hown hK hP 13 rfl rfl 0 (by decide) lk2 (fun _ h9 => h9) rfl dX6_measure_70 ?_
              refine lv_iload_n hx hb dX6_measure_73 rfl (lv_at hl 3 rfl) ?_
              refine lv_iload hx hb dX6_measure_74 (lv_at hl 4 rfl) ?_
              refine nx_iast hx hb hK hP (wsX_D hI) hS 24 0 rfl rfl (i := i) (by omega) (by decide) dX6_measure_76 (fun H locs hP hS => ?_)
              have hP : va_P (dC, dI) vwCl (wsX aC ad cap v Z S (va_up F 2 (upd f i (nI en))) G) H := hP
              refine lv_iinc (v := sy i) (lv' := [(3, .int (sy i)), (0, .ref (ad 13)), (1, .ref (ad 1)), (2, .ref (ad (58 + 2 * k))), (4, .int (nI en)), (5, .int (nI (wt (F 0) (gD (R k) i)))), (6, .int (nI q0))]) hx hb dX6_measure_77 hl (k := 3) rfl (sy_dec i) (by decide) rfl (fun ls hl => ?_)
              refine lv_goto (tgt := 7) hx hb dX6_measure_80 (by decide) ?_
              exact ih7 i (upd f i (nI en)) _ _ _ _ _ (by omega) (by rw [heq]; exact eFr_s hf hqe) hZ hP hS (by omega) (lv_sub hl [1, 2, 3, 0] rfl)
            · skip
              obtain ⟨y, hy1, hy2, hy3, hy4⟩ := tE_one (show 0 < wt (F 0) (gD (R k) i) - q0 by omega) hen.1 hq
              refine lv_iload hx hb dX6_measure_38 (lv_at hl 4 rfl) ?_
              refine lv_aload_n hx hb dX6_measure_40 rfl (lv_at hl 2 rfl) ?_
              refine va_get (D := (dC, dI)) (ci := 3) (C := RX3) (T := TX3) (N := 2) hx hb hts hin3 hown hK hP (58 + 2 * k) (xw_ro k (by omega)) rfl 1 (by decide) lk0 (fun _ h9 => h9) rfl dX6_measure_41 ?_
              refine nx_ti (y := nI (R k).length) ((hZ k (by omega)).2.1) ?_
              refine nx_icmp_ge (a := en) (b := (R k).length) (tgt := 57) hx hb dX6_measure_44 (by decide) (by omega) (by omega) (fun c_44 => ?_) (fun c_44 => ?_)
              · skip
                exact absurd (tE_lt (show 0 < wt (F 0) (gD (R k) i) - q0 by omega) hq) (by omega)
              · skip
                refine lv_aload_n hx hb dX6_measure_47 rfl (lv_at hl 0 rfl) ?_
                refine va_get (D := (dC, dI)) (ci := 6) (C := RX6) (T := TX6) (N := 1) hx hb hts hin6 hown hK hP 13 rfl rfl 0 (by decide) lk2 (fun _ h9 => h9) rfl dX6_measure_48 ?_
                refine lv_iload hx hb dX6_measure_51 (lv_at hl 4 rfl) ?_
                refine nx_iald hx hb hK hP 24 0 rfl rfl (i := en) (by omega) (by decide) dX6_measure_53 ?_
                refine nx_ti (y := nI y) (hf en (by omega) c_44 y hy3) ?_
                refine lv_goto (tgt := 61) hx hb dX6_measure_54 (by decide) ?_
                refine lv_istore (lv' := [(4, .int (nI y)), (0, .ref (ad 13)), (1, .ref (ad 1)), (2, .ref (ad (58 + 2 * k))), (3, .int (nI i)), (5, .int (nI (wt (F 0) (gD (R k) i)))), (6, .int (nI q0))]) hx hb dX6_measure_61 hl (by decide) rfl (fun ls hl => ?_)
                refine lv_iinc (v := nI (q0 + 1)) (lv' := [(6, .int (nI (q0 + 1))), (4, .int (nI y)), (0, .ref (ad 13)), (1, .ref (ad 1)), (2, .ref (ad (58 + 2 * k))), (3, .int (nI i)), (5, .int (nI (wt (F 0) (gD (R k) i))))]) hx hb dX6_measure_63 hl (k := 6) rfl (nI_add _ _) (by decide) rfl (fun ls hl => ?_)
                refine lv_goto (tgt := 31) hx hb dX6_measure_66 (by decide) ?_
                exact ih31 (q0 + 1) y _ (by omega) (by omega) (by rw [Nat.sub_sub] at hy4; exact hy4) (by omega) (lv_sub hl [2, 3, 4, 5, 1, 6, 0] rfl)
        exact L31 (3 - 0 + 1) 0 (i + 1) _ (by omega) (by omega) (by have h := hqe; rw [endL, tE_step _ _ Nat.one_pos (by omega), Nat.add_sub_cancel_left] at h; exact h) (Nat.lt_succ_self _) (lv_sub hl [3, 4, 5, 6, 2, 1, 0] rfl)
  exact L7 ((R k).length + 1) (R k).length (F 2) _ _ _ _ _ (by omega) (fun i h1 h2 => absurd h2 (by omega)) hZ (by rw [up_eta]; exact hP) hS (Nat.lt_succ_self _) (lv_sub hl [1, 2, 3, 0] rfl)

set_option maxHeartbeats 1000000 in
set_option maxRecDepth 100000 in
/-- Shape.actsOver -/
theorem x_actsOver (l : Launch) (dC : Nat → ClassId) (dI : Nat → Nat → Nat) (aC : Nat → ClassId) (ad cap : Nat → Nat) (v : Nat → Int32) (R : Nat → List Int32) (F : Nat → Nat → Int32) (G : Nat → Nat → Int64) (k : Nat) (hk : k < 31) (pl : Nat) (hpl : pl < (R k).length) (hT : isT (F 0) (R k)) (hf : eFr (F 0) (R k) (F 1) 0) : Met l yX6_actsOver wsX6_actsOver ({ frames := 0, cells := 0, slots := 0, locals := 0 } : Room) (va_Pc [.ref (ad 3), .ref (ad (58 + 2 * k)), .int (nI pl)] (XB dC dI aC ad cap (v, R, F, G))) (vp_Si (fun x => x = nI (opF (F 0) (R k) pl (pl + 1)))) 0 0 (fun _ => False) := by
  refine Met.ofW (cc := cX6_actsOver) (maxL := 5) (ret := (some .int)) (by decide) rfl ?_
  intro p e s m args below meth c s₁ B hml hv
  obtain ⟨rfl, hK, Z, S, hZ, hP⟩ := hv
  have hx := B.exec
  have hb := B.bytes
  have hret := B.returns
  have hts := atoms_spec (ws := wsX6_actsOver) B.pre
  have hown : s.vm.findClass RX6 = some m.cls := findClass_of_methodNamed B.named
  have hlocks := B.notSynchronized
  dsimp only at hZ hP
  have lk0 := hts (.fieldLink RX6 21 "LeafTrees$Row" "symbols" "[I") (by decide +kernel)
  have lk1 := hts (.fieldLink RX6 9 "LeafTrees$Shape" "ends" "[I") (by decide +kernel)
  have hin3 : ∀ w ∈ u_ws RX3 TX3 2, w ∈ wsX6_actsOver := by decide +kernel
  have hin6 : ∀ w ∈ u_ws RX6 TX6 1, w ∈ wsX6_actsOver := by decide +kernel
  have hl := lv_entry [.ref (ad 3), .ref (ad (58 + 2 * k)), .int (nI pl)] (n := 5) (Nat.le_of_ble_eq_true rfl)
  rw [lg_entry_eq]
  generalize (lg_sl [.ref (ad 3), .ref (ad (58 + 2 * k)), .int (nI pl)] ++ List.replicate (5 - (lg_sl [.ref (ad 3), .ref (ad (58 + 2 * k)), .int (nI pl)]).length) Slot.unset).toArray = ls at hl ⊢
  have hl : lv_has ls 5 [(0, .ref (ad 3)), (1, .ref (ad (58 + 2 * k))), (2, .int (nI pl))] := hl
  refine nx_Q (R := ({ frames := 0, cells := 0, slots := 0, locals := 0 } : Room)) (fun Q hQ => ?_)
  have hlen := (hZ k hk).1
  refine lv_iconst (v := nI 0) hx hb dX6_actsOver_0 (by decide) ?_
  refine lv_istore_n (lv' := [(3, .int (nI 0)), (0, .ref (ad 3)), (1, .ref (ad (58 + 2 * k))), (2, .int (nI pl))]) hx hb dX6_actsOver_1 rfl hl (by decide) rfl (fun ls hl => ?_)
  refine lv_iconst (v := nI 0) hx hb dX6_actsOver_2 (by decide) ?_
  refine lv_istore (lv' := [(4, .int (nI 0)), (3, .int (nI 0)), (0, .ref (ad 3)), (1, .ref (ad (58 + 2 * k))), (2, .int (nI pl))]) hx hb dX6_actsOver_3 hl (by decide) rfl (fun ls hl => ?_)
  have L5 : ∀ (fuel5 : Nat) (i : Nat) (ls : Array Slot), (i ≤ pl + 1) → 61 - i < fuel5 → lv_has ls 5 [(0, .ref (ad 3)), (1, .ref (ad (58 + 2 * k))), (2, .int (nI pl)), (3, .int (nI (opF (F 0) (R k) pl i))), (4, .int (nI i))] → W p l e ({ frames := 0, cells := 0, slots := 0, locals := 0 } : Room) s m ([.ref (ad 3), .ref (ad (58 + 2 * k)), .int (nI pl)] : List Value).toArray below meth c s.heap [] 0 0 Q (F0 m 5 ls []) := by
    intro fuel5
    induction fuel5 with
    | zero => intro i ls hi hf5 hl; exact absurd hf5 (Nat.not_lt_zero _)
    | succ fuel5 ih5 =>
      intro i ls hi hf5 hl
      refine lv_iload hx hb dX6_actsOver_5 (lv_at hl 4 rfl) ?_
      refine lv_iload_n hx hb dX6_actsOver_7 rfl (lv_at hl 2 rfl) ?_
      refine nx_icmp_gt (a := i) (b := pl) (tgt := 42) hx hb dX6_actsOver_8 (by decide) (by omega) (by omega) (fun c_8 => ?_) (fun c_8 => ?_)
      · skip
        refine lv_iload_n hx hb dX6_actsOver_42 rfl (lv_at hl 3 rfl) ?_
        subst hQ
        exact W.iret (v := nI (opF (F 0) (R k) pl i)) hx hb hret (fun tq htq hWq => ⟨_, rfl, by rw [show i = pl + 1 by omega], htq⟩) (fun q h => by cases h) dX6_actsOver_43
      · skip
        obtain ⟨qe, hqe, hqe1, hqe2⟩ := isT_end hT (show i < (R k).length by omega)
        have hen : eN (F 0) (R k) i = qe := by rw [eN, hqe]; rfl
        refine lv_aload_n hx hb dX6_actsOver_11 rfl (lv_at hl 1 rfl) ?_
        refine va_get (D := (dC, dI)) (ci := 3) (C := RX3) (T := TX3) (N := 2) hx hb hts hin3 hown hK hP (58 + 2 * k) (xw_ro k (by omega)) rfl 0 (by decide) lk0 (fun _ h9 => h9) rfl dX6_actsOver_12 ?_
        refine lv_iload hx hb dX6_actsOver_15 (lv_at hl 4 rfl) ?_
        refine nx_iald hx hb hK hP (59 + 2 * k) 0 (xw_ra k (by omega)) rfl (i := i) (by have := (hZ k (by omega)).1; omega) (by decide) dX6_actsOver_17 ?_
        refine nx_ti (y := gD (R k) i) ((hZ k (by omega)).2.2 i (by omega)) ?_
        refine lv_iconst (v := (-1)) hx hb dX6_actsOver_18 (by decide) ?_
        refine lv_icmp_eq (tgt := 36) hx hb dX6_actsOver_19 (by decide) (fun c_19 => ?_) (fun c_19 => ?_)
        · skip
          refine lv_iinc (v := nI (i + 1)) (lv' := [(4, .int (nI (i + 1))), (0, .ref (ad 3)), (1, .ref (ad (58 + 2 * k))), (2, .int (nI pl)), (3, .int (nI (opF (F 0) (R k) pl i)))]) hx hb dX6_actsOver_36 hl (k := 4) rfl (nI_add _ _) (by decide) rfl (fun ls hl => ?_)
          refine lv_goto (tgt := 5) hx hb dX6_actsOver_39 (by decide) ?_
          exact ih5 (i + 1) _ (by omega) (by omega) (by rw [opF_f (fun h => h.1 c_19)]; exact lv_sub hl [1, 2, 3, 4, 0] rfl)
        · skip
          refine lv_aload_n hx hb dX6_actsOver_22 rfl (lv_at hl 0 rfl) ?_
          refine va_get (D := (dC, dI)) (ci := 6) (C := RX6) (T := TX6) (N := 1) hx hb hts hin6 hown hK hP 3 rfl rfl 0 (by decide) lk1 (fun _ h9 => h9) rfl dX6_actsOver_23 ?_
          refine lv_iload hx hb dX6_actsOver_26 (lv_at hl 4 rfl) ?_
          refine nx_iald hx hb hK hP 12 0 rfl rfl (i := i) (by omega) (by decide) dX6_actsOver_28 ?_
          refine nx_ti (y := nI qe) (hf i (Nat.zero_le _) (by omega) qe hqe) ?_
          refine lv_iload_n hx hb dX6_actsOver_29 rfl (lv_at hl 2 rfl) ?_
          refine nx_icmp_le (a := qe) (b := pl) (tgt := 36) hx hb dX6_actsOver_30 (by decide) (by omega) (by omega) (fun c_30 => ?_) (fun c_30 => ?_)
          · skip
            refine lv_iinc (v := nI (i + 1)) (lv' := [(4, .int (nI (i + 1))), (0, .ref (ad 3)), (1, .ref (ad (58 + 2 * k))), (2, .int (nI pl)), (3, .int (nI (opF (F 0) (R k) pl i)))]) hx hb dX6_actsOver_36 hl (k := 4) rfl (nI_add _ _) (by decide) rfl (fun ls hl => ?_)
            refine lv_goto (tgt := 5) hx hb dX6_actsOver_39 (by decide) ?_
            exact ih5 (i + 1) _ (by omega) (by omega) (by rw [opF_f (fun h => absurd h.2 (by omega))]; exact lv_sub hl [1, 2, 3, 4, 0] rfl)
          · skip
            refine lv_iinc (v := nI (opF (F 0) (R k) pl i + 1)) (lv' := [(3, .int (nI (opF (F 0) (R k) pl i + 1))), (0, .ref (ad 3)), (1, .ref (ad (58 + 2 * k))), (2, .int (nI pl)), (4, .int (nI i))]) hx hb dX6_actsOver_33 hl (k := 3) rfl (nI_add _ _) (by decide) rfl (fun ls hl => ?_)
            refine lv_iinc (v := nI (i + 1)) (lv' := [(4, .int (nI (i + 1))), (3, .int (nI (opF (F 0) (R k) pl i + 1))), (0, .ref (ad 3)), (1, .ref (ad (58 + 2 * k))), (2, .int (nI pl))]) hx hb dX6_actsOver_36 hl (k := 4) rfl (nI_add _ _) (by decide) rfl (fun ls hl => ?_)
            refine lv_goto (tgt := 5) hx hb dX6_actsOver_39 (by decide) ?_
            exact ih5 (i + 1) _ (by omega) (by omega) (by rw [opF_t c_19 (by omega)]; exact lv_sub hl [2, 3, 4, 1, 0] rfl)
  exact L5 (61 - 0 + 1) 0 _ (by omega) (Nat.lt_succ_self _) (lv_sub hl [2, 3, 4, 1, 0] rfl)

set_option maxHeartbeats 1000000 in
set_option maxRecDepth 100000 in
/-- Shape.heightOf -/
theorem x_heightOf (l : Launch) (dC : Nat → ClassId) (dI : Nat → Nat → Nat) (aC : Nat → ClassId) (ad cap : Nat → Nat) (hI : xI ad) (v : Nat → Int32) (R : Nat → List Int32) (F : Nat → Nat → Int32) (G : Nat → Nat → Int64) (A : Nat) (hE : vE A (F 0)) (hA : v 0 = nI A) (k : Nat) (hk : k < 31) (hV : vR A (R k)) (hT : isT (F 0) (R k)) : Met l yX6_heightOf wsX6_heightOf ({ frames := 2, cells := 0, slots := 0, locals := 47 } : Room) (va_Pc [.ref (ad 3), .ref (ad 1), .ref (ad (58 + 2 * k))] (XB dC dI aC ad cap (v, R, F, G))) (va_Qi (fun (x : Int32) (u : MS) => ∃ f, (v, R, va_up F 1 f, G) = u ∧ x = nI (hgt (F 0) (R k))) (XB dC dI aC ad cap) (xA ad)) 0 0 (xA ad) := by
  refine Met.ofW (cc := cX6_heightOf) (maxL := 5) (ret := (some .int)) (by decide) rfl ?_
  intro p e s m args below meth c s₁ B hml hv
  obtain ⟨rfl, hK, Z, S, hZ, hP⟩ := hv
  have hx := B.exec
  have hb := B.bytes
  have hret := B.returns
  have hts := atoms_spec (ws := wsX6_heightOf) B.pre
  have hown : s.vm.findClass RX6 = some m.cls := findClass_of_methodNamed B.named
  have hlocks := B.notSynchronized
  dsimp only at hZ hP
  have lk0 := hts (.fieldLink RX6 15 "LeafTrees$Row" "length" "I") (by decide +kernel)
  have lk1 := hts (.methodLink RX6 38 Lib.Math.max.name) (by decide +kernel)
  have lk2 := hts (.static Lib.Math.max.name) (by decide +kernel)
  have lk3 := hts (.initialized "java/lang/Math") (by decide +kernel)
  have lk4 := hts (.code Lib.Math.max.name Lib.Math.max.code 2 (some .int)) (by decide +kernel)
  have hin3 : ∀ w ∈ u_ws RX3 TX3 2, w ∈ wsX6_heightOf := by decide +kernel
  have hS : va_S (xA ad) s.heap s.heap [] := va_S.rf
  have hl := lv_entry [.ref (ad 3), .ref (ad 1), .ref (ad (58 + 2 * k))] (n := 5) (Nat.le_of_ble_eq_true rfl)
  rw [lg_entry_eq]
  generalize (lg_sl [.ref (ad 3), .ref (ad 1), .ref (ad (58 + 2 * k))] ++ List.replicate (5 - (lg_sl [.ref (ad 3), .ref (ad 1), .ref (ad (58 + 2 * k))]).length) Slot.unset).toArray = ls at hl ⊢
  have hl : lv_has ls 5 [(0, .ref (ad 3)), (1, .ref (ad 1)), (2, .ref (ad (58 + 2 * k)))] := hl
  refine nx_Q (R := ({ frames := 2, cells := 0, slots := 0, locals := 47 } : Room)) (fun Q hQ => ?_)
  have hlen := (hZ k hk).1
  refine lv_aload_n hx hb dX6_heightOf_0 rfl (lv_at hl 0 rfl) ?_
  refine lv_aload_n hx hb dX6_heightOf_1 rfl (lv_at hl 1 rfl) ?_
  refine lv_aload_n hx hb dX6_heightOf_2 rfl (lv_at hl 2 rfl) ?_
  refine xc_v (b := ad 3) (As := [.ref (ad 1), .ref (ad (58 + 2 * k))]) (rest := []) ⟨hx, hb, hml, hown, hts⟩ (x_measure0 l dC dI aC ad cap hI v R F G A hE hA k hk hV hT) (cwV 2 hts gX6_heightOf_X6_measure rfl rfl rfl (by decide +kernel) ⟨Nat.le_of_ble_eq_true rfl, Nat.le_of_ble_eq_true rfl⟩) (xPre (q0 := 3) (ci := 6) rfl rfl hK hZ hP) hS rfl hl.1 rfl (Nat.le_of_ble_eq_true rfl) dX6_heightOf_3 ⟨Nat.le_of_ble_eq_true rfl, Nat.le_of_ble_eq_true rfl⟩ (fun v1 R1 F1 G1 Z S H locs h_3 hZ hP hS => ?_)
  obtain ⟨f, hu_3, hf⟩ := h_3
  cases hu_3
  refine lv_iconst (v := nI 0) hx hb dX6_heightOf_6 (by decide) ?_
  refine lv_istore_n (lv' := [(3, .int (nI 0)), (0, .ref (ad 3)), (1, .ref (ad 1)), (2, .ref (ad (58 + 2 * k)))]) hx hb dX6_heightOf_7 rfl hl (by decide) rfl (fun ls hl => ?_)
  refine lv_iconst (v := nI 0) hx hb dX6_heightOf_8 (by decide) ?_
  refine lv_istore (lv' := [(4, .int (nI 0)), (3, .int (nI 0)), (0, .ref (ad 3)), (1, .ref (ad 1)), (2, .ref (ad (58 + 2 * k)))]) hx hb dX6_heightOf_9 hl (by decide) rfl (fun ls hl => ?_)
  have L11 : ∀ (fuel11 : Nat) (i : Nat) (ls : Array Slot), (i ≤ (R k).length) → 60 - i < fuel11 → lv_has ls 5 [(0, .ref (ad 3)), (2, .ref (ad (58 + 2 * k))), (3, .int (nI (hgS (wt (F 0)) (gD (R k)) i).2)), (4, .int (nI i))] → W p l e ({ frames := 2, cells := 0, slots := 0, locals := 47 } : Room) s m ([.ref (ad 3), .ref (ad 1), .ref (ad (58 + 2 * k))] : List Value).toArray below meth c H locs 0 0 Q (F0 m 11 ls []) := by
    intro fuel11
    induction fuel11 with
    | zero => intro i ls hi hf11 hl; exact absurd hf11 (Nat.not_lt_zero _)
    | succ fuel11 ih11 =>
      intro i ls hi hf11 hl
      refine lv_iload hx hb dX6_heightOf_11 (lv_at hl 3 rfl) ?_
      refine lv_aload_n hx hb dX6_heightOf_13 rfl (lv_at hl 1 rfl) ?_
      refine va_get (D := (dC, dI)) (ci := 3) (C := RX3) (T := TX3) (N := 2) hx hb hts hin3 hown hK hP (58 + 2 * k) (xw_ro k (by omega)) rfl 1 (by decide) lk0 (fun _ h9 => h9) rfl dX6_heightOf_14 ?_
      refine nx_ti (y := nI (R k).length) ((hZ k (by omega)).2.1) ?_
      refine nx_icmp_ge (a := i) (b := (R k).length) (tgt := 38) hx hb dX6_heightOf_17 (by decide) (by omega) (by omega) (fun c_17 => ?_) (fun c_17 => ?_)
      · skip
        refine lv_iload_n hx hb dX6_heightOf_38 rfl (lv_at hl 2 rfl) ?_
        subst hQ
        exact W.iret (v := nI (hgS (wt (F 0)) (gD (R k)) i).2) hx hb hret (fun tq htq hWq => ⟨⟨_, (v, R, (va_up F 1 f), G), rfl, ⟨f, rfl, by rw [hgt, show i = (R k).length by omega]⟩, va_K.moved hWq.alike hK, _, _, hZ, by rw [htq]; exact hP⟩, hS.F htq⟩) hS.2.2 dX6_heightOf_39
      · skip
        refine lv_iload_n hx hb dX6_heightOf_20 rfl (lv_at hl 2 rfl) ?_
        refine lv_aload_n hx hb dX6_heightOf_21 rfl (lv_at hl 0 rfl) ?_
        refine lv_aload_n hx hb dX6_heightOf_22 rfl (lv_at hl 1 rfl) ?_
        refine lv_iload hx hb dX6_heightOf_23 (lv_at hl 3 rfl) ?_
        refine xp_i (b := ad 3) (As := [.ref (ad (58 + 2 * k)), .int (nI i)]) (rest := [.int (nI (hgS (wt (F 0)) (gD (R k)) i).2)]) ⟨hx, hb, hml, hown, hts⟩ (x_actsOver l dC dI aC ad cap v R (va_up F 1 f) G k hk i c_17 hT hf) (cwV 2 hts gX6_heightOf_X6_actsOver rfl rfl rfl (by decide +kernel) ⟨Nat.le_of_ble_eq_true rfl, Nat.le_of_ble_eq_true rfl⟩) (xPre (q0 := 3) (ci := 6) rfl rfl hK hZ hP) rfl hl.1 rfl (Nat.le_of_ble_eq_true rfl) dX6_heightOf_25 ⟨Nat.le_of_ble_eq_true rfl, Nat.le_of_ble_eq_true rfl⟩ (fun x_25 h_25 => ?_)
        refine nx_ti (y := nI (opF (F 0) (R k) i (i + 1))) h_25 ?_
        refine va_mmax (rest := []) hx hb (hml.trans hl.1.symm) hown lk1 lk2 lk3 lk4 (Nat.le_of_ble_eq_true rfl) (Nat.le_of_ble_eq_true rfl) (Nat.le_of_ble_eq_true rfl) (Nat.le_of_ble_eq_true rfl) dX6_heightOf_28 ?_
        refine nx_ti (y := nI (max (hgS (wt (F 0)) (gD (R k)) i).2 (opF (F 0) (R k) i (i + 1)))) (nI_max (by have := hgS_mx (wt (F 0)) (gD (R k)) i; omega) (by have := opF_le (F 0) (R k) i (i + 1); omega)) ?_
        refine lv_istore_n (lv' := [(3, .int (nI (max (hgS (wt (F 0)) (gD (R k)) i).2 (opF (F 0) (R k) i (i + 1))))), (0, .ref (ad 3)), (2, .ref (ad (58 + 2 * k))), (4, .int (nI i))]) hx hb dX6_heightOf_31 rfl hl (by decide) rfl (fun ls hl => ?_)
        refine lv_iinc (v := nI (i + 1)) (lv' := [(4, .int (nI (i + 1))), (3, .int (nI (max (hgS (wt (F 0)) (gD (R k)) i).2 (opF (F 0) (R k) i (i + 1))))), (0, .ref (ad 3)), (2, .ref (ad (58 + 2 * k)))]) hx hb dX6_heightOf_32 hl (k := 3) rfl (nI_add _ _) (by decide) rfl (fun ls hl => ?_)
        refine lv_goto (tgt := 11) hx hb dX6_heightOf_35 (by decide) ?_
        exact ih11 (i + 1) _ (by omega) (by omega) (by rw [hgS_max hE hV hT c_17]; exact lv_sub hl [2, 3, 1, 0] rfl)
  exact L11 (60 - 0 + 1) 0 _ (by omega) (Nat.lt_succ_self _) (lv_sub hl [2, 4, 1, 0] rfl)
