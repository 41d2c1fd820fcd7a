set_option maxHeartbeats 1000000 in
set_option maxRecDepth 100000 in
/-- act -/
theorem x_act (l : Launch) (dC : Nat → ClassId) (dI : Nat → Nat → Nat) (aC : Nat → ClassId) (ad cap : Nat → Nat) (hI : xI ad) (v : Nat → Int32) (R : Nat → List Int32) (F : Nat → Nat → Int32) (G : Nat → Nat → Int64) (A : Nat) (hA : v 0 = nI A) (hA4 : A ≤ 4) (a : Int32) : Met l yX9_act wsX9_act ({ frames := 1, cells := 0, slots := 0, locals := 21 } : Room) (va_Pc [.ref (ad 0), .int a] (XB dC dI aC ad cap (v, R, F, G))) (va_Qi (fun (x : Int32) (u : MS) => x = (if (¬ a < nI 2 ∧ ¬ nI 3 < a) then (if A = 4 then -4 else nI A) else -2) ∧ xAct v R F G A a = u) (XB dC dI aC ad cap) (xA ad)) 0 0 (xA ad) := by
  refine Met.ofW (cc := cX9_act) (maxL := 2) (ret := (some .int)) (by decide) rfl ?_
  intro p e s m args below meth c s₁ B hml hv
  obtain ⟨rfl, hK, Z, S, hZ, hP⟩ := hv
  have hx := B.exec
  have hb := B.bytes
  have hret := B.returns
  have hts := atoms_spec (ws := wsX9_act) B.pre
  have hown : s.vm.findClass RX9 = some m.cls := findClass_of_methodNamed B.named
  have hlocks := B.notSynchronized
  dsimp only at hZ hP
  have lk0 := hts (.fieldLink RX9 10 "LeafTrees" "world" "LLeafTrees$World;") (by decide +kernel)
  have lk1 := hts (.fieldLink RX9 73 "LeafTrees$World" "acts" "I") (by decide +kernel)
  have hin8 : ∀ w ∈ u_ws RX8 TX8 4, w ∈ wsX9_act := by decide +kernel
  have hin9 : ∀ w ∈ u_ws RX9 TX9 14, w ∈ wsX9_act := by decide +kernel
  have hS : va_S (xA ad) s.heap s.heap [] := va_S.rf
  have hl := lv_entry [.ref (ad 0), .int a] (n := 2) (Nat.le_of_ble_eq_true rfl)
  rw [lg_entry_eq]
  generalize (lg_sl [.ref (ad 0), .int a] ++ List.replicate (2 - (lg_sl [.ref (ad 0), .int a]).length) Slot.unset).toArray = ls at hl ⊢
  have hl : lv_has ls 2 [(0, .ref (ad 0)), (1, .int a)] := hl
  refine nx_Q (R := ({ frames := 1, cells := 0, slots := 0, locals := 21 } : Room)) (fun Q hQ => ?_)
  refine lv_iload_n hx hb dX9_act_0 rfl (lv_at hl 1 rfl) ?_
  refine lv_iconst (v := nI 2) hx hb dX9_act_1 (by decide) ?_
  refine lv_icmp_eq (tgt := 13) hx hb dX9_act_2 (by decide) (fun c_2 => ?_) (fun c_2 => ?_)
  · skip
    refine lv_aload_n hx hb dX9_act_13 rfl (lv_at hl 0 rfl) ?_
    refine va_get (D := (dC, dI)) (ci := 9) (C := RX9) (T := TX9) (N := 14) hx hb hts hin9 hown hK hP 0 rfl rfl 0 (by decide) lk0 (fun _ h9 => h9) rfl dX9_act_14 ?_
    refine va_get (D := (dC, dI)) (ci := 8) (C := RX8) (T := TX8) (N := 4) hx hb hts hin8 hown hK hP 1 rfl rfl 1 (by decide) lk1 (fun _ h9 => h9) rfl dX9_act_17 ?_
    refine nx_ti (y := nI A) (hA) ?_
    refine lv_iconst (v := nI 4) hx hb dX9_act_20 (by decide) ?_
    refine nx_icmp_lt (a := A) (b := 4) (tgt := 27) hx hb dX9_act_21 (by decide) (by omega) (by omega) (fun c_21 => ?_) (fun c_21 => ?_)
    · skip
      refine lv_aload_n hx hb dX9_act_27 rfl (lv_at hl 0 rfl) ?_
      refine xc_v (b := ad 0) (As := []) (rest := []) ⟨hx, hb, hml, hown, hts⟩ (x_forget l dC dI aC ad cap hI v R F G ) (cwV 0 hts gX9_act_X9_forget rfl rfl rfl (by decide +kernel) ⟨Nat.le_of_ble_eq_true rfl, Nat.le_of_ble_eq_true rfl⟩) (xPre (q0 := 0) (ci := 9) rfl rfl hK hZ hP) hS rfl hl.1 rfl (Nat.le_of_ble_eq_true rfl) dX9_act_28 ⟨Nat.le_of_ble_eq_true rfl, Nat.le_of_ble_eq_true rfl⟩ (fun v1 R1 F1 G1 Z S H locs h_28 hZ hP hS => ?_)
      cases h_28
      refine lv_aload_n hx hb dX9_act_31 rfl (lv_at hl 0 rfl) ?_
      refine va_get (D := (dC, dI)) (ci := 9) (C := RX9) (T := TX9) (N := 14) hx hb hts hin9 hown hK hP 0 rfl rfl 0 (by decide) lk0 (fun _ h9 => h9) rfl dX9_act_32 ?_
      refine lv_iload_n hx hb dX9_act_35 rfl (lv_at hl 1 rfl) ?_
      refine xc_i (b := ad 1) (As := [.int a]) (rest := []) ⟨hx, hb, hml, hown, hts⟩ (x_addAct l dC dI aC ad cap hI (va_up (va_up (va_up v 2 (nI 0)) 3 (nI 0)) 5 (nI 0)) R F G A hA hA4 a) (cwV 1 hts gX9_act_X8_addAct rfl rfl rfl (by decide +kernel) ⟨Nat.le_of_ble_eq_true rfl, Nat.le_of_ble_eq_true rfl⟩) (xPre (q0 := 1) (ci := 8) rfl rfl hK hZ hP) hS rfl hl.1 rfl (Nat.le_of_ble_eq_true rfl) dX9_act_36 ⟨Nat.le_of_ble_eq_true rfl, Nat.le_of_ble_eq_true rfl⟩ (fun x_36 v2 R2 F2 G2 Z S H locs h_36 hZ hP hS => ?_)
      obtain ⟨hx_36, hu_36⟩ := h_36
      rw [if_pos c_21] at hx_36 hu_36
      subst hx_36
      subst hQ
      exact W.iret (v := nI A) hx hb hret (fun tq htq hWq => ⟨⟨_, (v2, R2, F2, G2), rfl, ⟨by rw [if_pos (act_in.mp (Or.inl c_2)), if_neg (by omega)], by rw [xAct, if_pos ⟨(act_in.mp (Or.inl c_2)), by omega⟩]; exact hu_36⟩, va_K.moved hWq.alike hK, _, _, hZ, by rw [htq]; exact hP⟩, hS.F htq⟩) hS.2.2 dX9_act_39
    · skip
      refine lv_bipush (v := (-4)) hx hb dX9_act_24 (by decide) ?_
      subst hQ
      exact W.iret (v := (-4)) hx hb hret (fun tq htq hWq => ⟨⟨_, (v, R, F, G), rfl, ⟨by rw [if_pos (act_in.mp (Or.inl c_2)), if_pos (by omega)], by rw [xAct, if_neg (fun h => h.2 (by omega))]⟩, va_K.moved hWq.alike hK, _, _, hZ, by rw [htq]; exact hP⟩, hS.F htq⟩) hS.2.2 dX9_act_26
  · skip
    refine lv_iload_n hx hb dX9_act_5 rfl (lv_at hl 1 rfl) ?_
    refine lv_iconst (v := nI 3) hx hb dX9_act_6 (by decide) ?_
    refine lv_icmp_eq (tgt := 13) hx hb dX9_act_7 (by decide) (fun c_7 => ?_) (fun c_7 => ?_)
    · skip
      refine lv_aload_n hx hb dX9_act_13 rfl (lv_at hl 0 rfl) ?_
      refine va_get (D := (dC, dI)) (ci := 9) (C := RX9) (T := TX9) (N := 14) hx hb hts hin9 hown hK hP 0 rfl rfl 0 (by decide) lk0 (fun _ h9 => h9) rfl dX9_act_14 ?_
      refine va_get (D := (dC, dI)) (ci := 8) (C := RX8) (T := TX8) (N := 4) hx hb hts hin8 hown hK hP 1 rfl rfl 1 (by decide) lk1 (fun _ h9 => h9) rfl dX9_act_17 ?_
      refine nx_ti (y := nI A) (hA) ?_
      refine lv_iconst (v := nI 4) hx hb dX9_act_20 (by decide) ?_
      refine nx_icmp_lt (a := A) (b := 4) (tgt := 27) hx hb dX9_act_21 (by decide) (by omega) (by omega) (fun c_21 => ?_) (fun c_21 => ?_)
      · skip
        refine lv_aload_n hx hb dX9_act_27 rfl (lv_at hl 0 rfl) ?_
        refine xc_v (b := ad 0) (As := []) (rest := []) ⟨hx, hb, hml, hown, hts⟩ (x_forget l dC dI aC ad cap hI v R F G ) (cwV 0 hts gX9_act_X9_forget rfl rfl rfl (by decide +kernel) ⟨Nat.le_of_ble_eq_true rfl, Nat.le_of_ble_eq_true rfl⟩) (xPre (q0 := 0) (ci := 9) rfl rfl hK hZ hP) hS rfl hl.1 rfl (Nat.le_of_ble_eq_true rfl) dX9_act_28 ⟨Nat.le_of_ble_eq_true rfl, Nat.le_of_ble_eq_true rfl⟩ (fun v3 R3 F3 G3 Z S H locs h_28 hZ hP hS => ?_)
        cases h_28
        refine lv_aload_n hx hb dX9_act_31 rfl (lv_at hl 0 rfl) ?_
        refine va_get (D := (dC, dI)) (ci := 9) (C := RX9) (T := TX9) (N := 14) hx hb hts hin9 hown hK hP 0 rfl rfl 0 (by decide) lk0 (fun _ h9 => h9) rfl dX9_act_32 ?_
        refine lv_iload_n hx hb dX9_act_35 rfl (lv_at hl 1 rfl) ?_
        refine xc_i (b := ad 1) (As := [.int a]) (rest := []) ⟨hx, hb, hml, hown, hts⟩ (x_addAct l dC dI aC ad cap hI (va_up (va_up (va_up v 2 (nI 0)) 3 (nI 0)) 5 (nI 0)) R F G A hA hA4 a) (cwV 1 hts gX9_act_X8_addAct rfl rfl rfl (by decide +kernel) ⟨Nat.le_of_ble_eq_true rfl, Nat.le_of_ble_eq_true rfl⟩) (xPre (q0 := 1) (ci := 8) rfl rfl hK hZ hP) hS rfl hl.1 rfl (Nat.le_of_ble_eq_true rfl) dX9_act_36 ⟨Nat.le_of_ble_eq_true rfl, Nat.le_of_ble_eq_true rfl⟩ (fun x_36 v4 R4 F4 G4 Z S H locs h_36 hZ hP hS => ?_)
        obtain ⟨hx_36, hu_36⟩ := h_36
        rw [if_pos c_21] at hx_36 hu_36
        subst hx_36
        subst hQ
        exact W.iret (v := nI A) hx hb hret (fun tq htq hWq => ⟨⟨_, (v4, R4, F4, G4), rfl, ⟨by rw [if_pos (act_in.mp (Or.inr c_7)), if_neg (by omega)], by rw [xAct, if_pos ⟨(act_in.mp (Or.inr c_7)), by omega⟩]; exact hu_36⟩, va_K.moved hWq.alike hK, _, _, hZ, by rw [htq]; exact hP⟩, hS.F htq⟩) hS.2.2 dX9_act_39
      · skip
        refine lv_bipush (v := (-4)) hx hb dX9_act_24 (by decide) ?_
        subst hQ
        exact W.iret (v := (-4)) hx hb hret (fun tq htq hWq => ⟨⟨_, (v, R, F, G), rfl, ⟨by rw [if_pos (act_in.mp (Or.inr c_7)), if_pos (by omega)], by rw [xAct, if_neg (fun h => h.2 (by omega))]⟩, va_K.moved hWq.alike hK, _, _, hZ, by rw [htq]; exact hP⟩, hS.F htq⟩) hS.2.2 dX9_act_26
    · skip
      refine lv_bipush (v := (-2)) hx hb dX9_act_10 (by decide) ?_
      subst hQ
      exact W.iret (v := (-2)) hx hb hret (fun tq htq hWq => ⟨⟨_, (v, R, F, G), rfl, ⟨by rw [if_neg (fun h => (act_in.mpr h).elim c_2 c_7)], by rw [xAct, if_neg (fun h => (act_in.mpr h.1).elim c_2 c_7)]⟩, va_K.moved hWq.alike hK, _, _, hZ, by rw [htq]; exact hP⟩, hS.F htq⟩) hS.2.2 dX9_act_12

set_option maxHeartbeats 1000000 in
set_option maxRecDepth 100000 in
/-- put -/
theorem x_put (l : Launch) (dC : Nat → ClassId) (dI : Nat → Nat → Nat) (aC : Nat → ClassId) (ad cap : Nat → Nat) (hI : xI ad) (v : Nat → Int32) (R : Nat → List Int32) (F : Nat → Nat → Int32) (G : Nat → Nat → Int64) (A : Nat) (hA : v 0 = nI A) (hA4 : A ≤ 4) (a z : Int32) : Met l yX9_put wsX9_put ({ frames := 1, cells := 0, slots := 0, locals := 21 } : Room) (va_Pc [.ref (ad 0), .int a, .int z] (XB dC dI aC ad cap (v, R, F, G))) (va_Qi (fun (x : Int32) (u : MS) => x = (pPut A R a z).1 ∧ (v, (pPut A R a z).2, F, G) = u) (XB dC dI aC ad cap) (xA ad)) 0 0 (xA ad) := by
  refine Met.ofW (cc := cX9_put) (maxL := 3) (ret := (some .int)) (by decide) rfl ?_
  intro p e s m args below meth c s₁ B hml hv
  obtain ⟨rfl, hK, Z, S, hZ, hP⟩ := hv
  have hx := B.exec
  have hb := B.bytes
  have hret := B.returns
  have hts := atoms_spec (ws := wsX9_put) B.pre
  have hown : s.vm.findClass RX9 = some m.cls := findClass_of_methodNamed B.named
  have hlocks := B.notSynchronized
  dsimp only at hZ hP
  have lk0 := hts (.fieldLink RX9 10 "LeafTrees" "world" "LLeafTrees$World;") (by decide +kernel)
  have lk1 := hts (.fieldLink RX9 18 "LeafTrees" "rows" "[LLeafTrees$Row;") (by decide +kernel)
  have lk2 := hts (.fieldLink RX9 93 "LeafTrees$Row" "length" "I") (by decide +kernel)
  have hin3 : ∀ w ∈ u_ws RX3 TX3 2, w ∈ wsX9_put := by decide +kernel
  have hin9 : ∀ w ∈ u_ws RX9 TX9 14, w ∈ wsX9_put := by decide +kernel
  have hS : va_S (xA ad) s.heap s.heap [] := va_S.rf
  have hl := lv_entry [.ref (ad 0), .int a, .int z] (n := 3) (Nat.le_of_ble_eq_true rfl)
  rw [lg_entry_eq]
  generalize (lg_sl [.ref (ad 0), .int a, .int z] ++ List.replicate (3 - (lg_sl [.ref (ad 0), .int a, .int z]).length) Slot.unset).toArray = ls at hl ⊢
  have hl : lv_has ls 3 [(0, .ref (ad 0)), (1, .int a), (2, .int z)] := hl
  refine nx_Q (R := ({ frames := 1, cells := 0, slots := 0, locals := 21 } : Room)) (fun Q hQ => ?_)
  refine lv_iload_n hx hb dX9_put_0 rfl (lv_at hl 1 rfl) ?_
  refine ms_i (As := [.int a]) (rest := []) ⟨hx, hb, hml, hown, hts⟩ (x_isRow l a) (va_cwS 1 hts gX9_put_X9_isRow rfl rfl rfl (by decide +kernel) ⟨Nat.le_of_ble_eq_true rfl, Nat.le_of_ble_eq_true rfl⟩) rfl hl.1 rfl (Nat.le_of_ble_eq_true rfl) dX9_put_1 ⟨Nat.le_of_ble_eq_true rfl, Nat.le_of_ble_eq_true rfl⟩ (fun x_1 h_1 => ?_)
  subst h_1
  refine nx_bz (tgt := 18) hx hb dX9_put_4 (by decide) (fun c_4 => ?_) (fun c_4 => ?_)
  · skip
    refine lv_bipush (v := (-2)) hx hb dX9_put_18 (by decide) ?_
    subst hQ
    exact W.iret (v := (-2)) hx hb hret (fun tq htq hWq => ⟨⟨_, (v, R, F, G), rfl, by rw [pPut, if_neg (fun h => c_4 h.1)]; exact ⟨rfl, rfl⟩, va_K.moved hWq.alike hK, _, _, hZ, by rw [htq]; exact hP⟩, hS.F htq⟩) hS.2.2 dX9_put_20
  · skip
    obtain ⟨r, hr, rfl⟩ := rIn_of c_4 (by decide)
    have hcr := nI_clamp (n := r) (by omega)
    have hlen := (hZ r (by omega)).1
    refine lv_aload_n hx hb dX9_put_7 rfl (lv_at hl 0 rfl) ?_
    refine va_get (D := (dC, dI)) (ci := 9) (C := RX9) (T := TX9) (N := 14) hx hb hts hin9 hown hK hP 0 rfl rfl 0 (by decide) lk0 (fun _ h9 => h9) rfl dX9_put_8 ?_
    refine lv_iload_n hx hb dX9_put_11 rfl (lv_at hl 2 rfl) ?_
    refine xp_i (b := ad 1) (As := [.int z]) (rest := []) ⟨hx, hb, hml, hown, hts⟩ (x_isSymbol l dC dI aC ad cap v R F G A hA hA4 z) (cwV 1 hts gX9_put_X8_isSymbol rfl rfl rfl (by decide +kernel) ⟨Nat.le_of_ble_eq_true rfl, Nat.le_of_ble_eq_true rfl⟩) (xPre (q0 := 1) (ci := 8) rfl rfl hK hZ hP) rfl hl.1 rfl (Nat.le_of_ble_eq_true rfl) dX9_put_12 ⟨Nat.le_of_ble_eq_true rfl, Nat.le_of_ble_eq_true rfl⟩ (fun x_12 h_12 => ?_)
    refine nx_ti (y := bI (vSd A z)) h_12 ?_
    refine nx_bn (tgt := 21) hx hb dX9_put_15 (by decide) (fun c_15 => ?_) (fun c_15 => ?_)
    · skip
      refine lv_aload_n hx hb dX9_put_21 rfl (lv_at hl 0 rfl) ?_
      refine va_get (D := (dC, dI)) (ci := 9) (C := RX9) (T := TX9) (N := 14) hx hb hts hin9 hown hK hP 0 rfl rfl 1 (by decide) lk1 (fun _ h9 => h9) rfl dX9_put_22 ?_
      refine lv_iload_n hx hb dX9_put_25 rfl (lv_at hl 1 rfl) ?_
      refine nx_aald (C := "LeafTrees$Row") hx hb hK hP 2 3 rfl rfl (i := r) (by omega) (by decide) (show xRows ad r = some (ad (58 + 2 * r)) from if_pos (by omega)) dX9_put_26 ?_
      refine lv_iload_n hx hb dX9_put_27 rfl (lv_at hl 2 rfl) ?_
      refine xc_i (b := ad (58 + 2 * r)) (As := [.int z]) (rest := []) ⟨hx, hb, hml, hown, hts⟩ (x_add l dC dI aC ad cap hI v R F G r (by omega) z) (cwV 1 hts gX9_put_X3_add rfl rfl rfl (by decide +kernel) ⟨Nat.le_of_ble_eq_true rfl, Nat.le_of_ble_eq_true rfl⟩) (xPre (q0 := (58 + 2 * r)) (ci := 3) rfl (xw_ro r (by omega)) hK hZ hP) hS rfl hl.1 rfl (Nat.le_of_ble_eq_true rfl) dX9_put_28 ⟨Nat.le_of_ble_eq_true rfl, Nat.le_of_ble_eq_true rfl⟩ (fun x_28 v1 R1 F1 G1 Z S H locs h_28 hZ hP hS => ?_)
      obtain ⟨hx_28, hu_28⟩ := h_28
      subst hx_28
      have hl60 := hlen
      refine nx_bz (tgt := 46) hx hb dX9_put_31 (by decide) (fun c_31 => ?_) (fun c_31 => ?_)
      · skip
        rw [if_neg c_31] at hu_28
        cases hu_28
        refine lv_bipush (v := (-4)) hx hb dX9_put_46 (by decide) ?_
        subst hQ
        exact W.iret (v := (-4)) hx hb hret (fun tq htq hWq => ⟨⟨_, (v, R, F, G), rfl, by rw [pPut, if_pos ⟨c_4, c_15⟩, hcr, if_pos (by omega)]; exact ⟨rfl, rfl⟩, va_K.moved hWq.alike hK, _, _, hZ, by rw [htq]; exact hP⟩, hS.F htq⟩) hS.2.2 dX9_put_48
      · skip
        rw [if_pos c_31] at hu_28
        cases hu_28
        refine lv_aload_n hx hb dX9_put_34 rfl (lv_at hl 0 rfl) ?_
        refine va_get (D := (dC, dI)) (ci := 9) (C := RX9) (T := TX9) (N := 14) hx hb hts hin9 hown hK hP 0 rfl rfl 1 (by decide) lk1 (fun _ h9 => h9) rfl dX9_put_35 ?_
        refine lv_iload_n hx hb dX9_put_38 rfl (lv_at hl 1 rfl) ?_
        refine nx_aald (C := "LeafTrees$Row") hx hb hK hP 2 3 rfl rfl (i := r) (by omega) (by decide) (show xRows ad r = some (ad (58 + 2 * r)) from if_pos (by omega)) dX9_put_39 ?_
        refine va_get (D := (dC, dI)) (ci := 3) (C := RX3) (T := TX3) (N := 2) hx hb hts hin3 hown hK hP (58 + 2 * r) (xw_ro r (by omega)) rfl 1 (by decide) lk2 (fun _ h9 => h9) rfl dX9_put_40 ?_
        refine nx_ti (y := nI ((va_up R r (R r ++ [z])) r).length) ((hZ r (by omega)).2.1) ?_
        refine nx_ti (y := nI ((R r).length + 1)) (by rw [va_up_self, List.length_append]; rfl) ?_
        refine lv_goto (tgt := 48) hx hb dX9_put_43 (by decide) ?_
        subst hQ
        exact W.iret (v := nI ((R r).length + 1)) hx hb hret (fun tq htq hWq => ⟨⟨_, (v, va_up R r (R r ++ [z]), F, G), rfl, by rw [pPut, if_pos ⟨c_4, c_15⟩, hcr, if_neg (by omega)]; exact ⟨rfl, rfl⟩, va_K.moved hWq.alike hK, _, _, hZ, by rw [htq]; exact hP⟩, hS.F htq⟩) hS.2.2 dX9_put_48
    · skip
      refine lv_bipush (v := (-2)) hx hb dX9_put_18 (by decide) ?_
      subst hQ
      exact W.iret (v := (-2)) hx hb hret (fun tq htq hWq => ⟨⟨_, (v, R, F, G), rfl, by rw [pPut, if_neg (fun h => c_15 h.2)]; exact ⟨rfl, rfl⟩, va_K.moved hWq.alike hK, _, _, hZ, by rw [htq]; exact hP⟩, hS.F htq⟩) hS.2.2 dX9_put_20

set_option maxHeartbeats 1000000 in
set_option maxRecDepth 100000 in
/-- empty -/
theorem x_empty (l : Launch) (dC : Nat → ClassId) (dI : Nat → Nat → Nat) (aC : Nat → ClassId) (ad cap : Nat → Nat) (hI : xI ad) (v : Nat → Int32) (R : Nat → List Int32) (F : Nat → Nat → Int32) (G : Nat → Nat → Int64) (a : Int32) : Met l yX9_empty wsX9_empty ({ frames := 1, cells := 0, slots := 0, locals := 20 } : Room) (va_Pc [.ref (ad 0), .int a] (XB dC dI aC ad cap (v, R, F, G))) (va_Qi (fun (x : Int32) (u : MS) => x = (pEmpty R a).1 ∧ (v, (pEmpty R a).2, F, G) = u) (XB dC dI aC ad cap) (xA ad)) 0 0 (xA ad) := by
  refine Met.ofW (cc := cX9_empty) (maxL := 3) (ret := (some .int)) (by decide) rfl ?_
  intro p e s m args below meth c s₁ B hml hv
  obtain ⟨rfl, hK, Z, S, hZ, hP⟩ := hv
  have hx := B.exec
  have hb := B.bytes
  have hret := B.returns
  have hts := atoms_spec (ws := wsX9_empty) B.pre
  have hown : s.vm.findClass RX9 = some m.cls := findClass_of_methodNamed B.named
  have hlocks := B.notSynchronized
  dsimp only at hZ hP
  have lk0 := hts (.fieldLink RX9 18 "LeafTrees" "rows" "[LLeafTrees$Row;") (by decide +kernel)
  have lk1 := hts (.fieldLink RX9 93 "LeafTrees$Row" "length" "I") (by decide +kernel)
  have hin3 : ∀ w ∈ u_ws RX3 TX3 2, w ∈ wsX9_empty := by decide +kernel
  have hin9 : ∀ w ∈ u_ws RX9 TX9 14, w ∈ wsX9_empty := by decide +kernel
  have hS : va_S (xA ad) s.heap s.heap [] := va_S.rf
  have hl := lv_entry [.ref (ad 0), .int a] (n := 3) (Nat.le_of_ble_eq_true rfl)
  rw [lg_entry_eq]
  generalize (lg_sl [.ref (ad 0), .int a] ++ List.replicate (3 - (lg_sl [.ref (ad 0), .int a]).length) Slot.unset).toArray = ls at hl ⊢
  have hl : lv_has ls 3 [(0, .ref (ad 0)), (1, .int a)] := hl
  refine nx_Q (R := ({ frames := 1, cells := 0, slots := 0, locals := 20 } : Room)) (fun Q hQ => ?_)
  refine lv_iload_n hx hb dX9_empty_0 rfl (lv_at hl 1 rfl) ?_
  refine ms_i (As := [.int a]) (rest := []) ⟨hx, hb, hml, hown, hts⟩ (x_isRow l a) (va_cwS 1 hts gX9_empty_X9_isRow rfl rfl rfl (by decide +kernel) ⟨Nat.le_of_ble_eq_true rfl, Nat.le_of_ble_eq_true rfl⟩) rfl hl.1 rfl (Nat.le_of_ble_eq_true rfl) dX9_empty_1 ⟨Nat.le_of_ble_eq_true rfl, Nat.le_of_ble_eq_true rfl⟩ (fun x_1 h_1 => ?_)
  subst h_1
  refine nx_bn (tgt := 10) hx hb dX9_empty_4 (by decide) (fun c_4 => ?_) (fun c_4 => ?_)
  · skip
    obtain ⟨r, hr, rfl⟩ := rIn_of c_4 (by decide)
    have hcr := nI_clamp (n := r) (by omega)
    refine lv_aload_n hx hb dX9_empty_10 rfl (lv_at hl 0 rfl) ?_
    refine va_get (D := (dC, dI)) (ci := 9) (C := RX9) (T := TX9) (N := 14) hx hb hts hin9 hown hK hP 0 rfl rfl 1 (by decide) lk0 (fun _ h9 => h9) rfl dX9_empty_11 ?_
    refine lv_iload_n hx hb dX9_empty_14 rfl (lv_at hl 1 rfl) ?_
    refine nx_aald (C := "LeafTrees$Row") hx hb hK hP 2 3 rfl rfl (i := r) (by omega) (by decide) (show xRows ad r = some (ad (58 + 2 * r)) from if_pos (by omega)) dX9_empty_15 ?_
    refine va_get (D := (dC, dI)) (ci := 3) (C := RX3) (T := TX3) (N := 2) hx hb hts hin3 hown hK hP (58 + 2 * r) (xw_ro r (by omega)) rfl 1 (by decide) lk1 (fun _ h9 => h9) rfl dX9_empty_16 ?_
    refine nx_ti (y := nI (R r).length) ((hZ r (by omega)).2.1) ?_
    refine lv_istore_n (lv' := [(2, .int (nI (R r).length)), (0, .ref (ad 0)), (1, .int (nI r))]) hx hb dX9_empty_19 rfl hl (by decide) rfl (fun ls hl => ?_)
    refine lv_aload_n hx hb dX9_empty_20 rfl (lv_at hl 1 rfl) ?_
    refine va_get (D := (dC, dI)) (ci := 9) (C := RX9) (T := TX9) (N := 14) hx hb hts hin9 hown hK hP 0 rfl rfl 1 (by decide) lk0 (fun _ h9 => h9) rfl dX9_empty_21 ?_
    refine lv_iload_n hx hb dX9_empty_24 rfl (lv_at hl 2 rfl) ?_
    refine nx_aald (C := "LeafTrees$Row") hx hb hK hP 2 3 rfl rfl (i := r) (by omega) (by decide) (show xRows ad r = some (ad (58 + 2 * r)) from if_pos (by omega)) dX9_empty_25 ?_
    refine xc_v (b := ad (58 + 2 * r)) (As := []) (rest := []) ⟨hx, hb, hml, hown, hts⟩ (x_clear l dC dI aC ad cap hI v R F G r (by omega)) (cwV 0 hts gX9_empty_X3_clear rfl rfl rfl (by decide +kernel) ⟨Nat.le_of_ble_eq_true rfl, Nat.le_of_ble_eq_true rfl⟩) (xPre (q0 := (58 + 2 * r)) (ci := 3) rfl (xw_ro r (by omega)) hK hZ hP) hS rfl hl.1 rfl (Nat.le_of_ble_eq_true rfl) dX9_empty_26 ⟨Nat.le_of_ble_eq_true rfl, Nat.le_of_ble_eq_true rfl⟩ (fun v1 R1 F1 G1 Z S H locs h_26 hZ hP hS => ?_)
    cases h_26
    refine lv_iload_n hx hb dX9_empty_29 rfl (lv_at hl 0 rfl) ?_
    subst hQ
    exact W.iret (v := nI (R r).length) hx hb hret (fun tq htq hWq => ⟨⟨_, (v, va_up R r [], F, G), rfl, by rw [pEmpty, if_pos c_4, hcr]; exact ⟨rfl, rfl⟩, va_K.moved hWq.alike hK, _, _, hZ, by rw [htq]; exact hP⟩, hS.F htq⟩) hS.2.2 dX9_empty_30
  · skip
    refine lv_bipush (v := (-2)) hx hb dX9_empty_7 (by decide) ?_
    subst hQ
    exact W.iret (v := (-2)) hx hb hret (fun tq htq hWq => ⟨⟨_, (v, R, F, G), rfl, by rw [pEmpty, if_neg c_4]; exact ⟨rfl, rfl⟩, va_K.moved hWq.alike hK, _, _, hZ, by rw [htq]; exact hP⟩, hS.F htq⟩) hS.2.2 dX9_empty_9

set_option maxHeartbeats 1000000 in
set_option maxRecDepth 100000 in
/-- at -/
theorem x_at (l : Launch) (dC : Nat → ClassId) (dI : Nat → Nat → Nat) (aC : Nat → ClassId) (ad cap : Nat → Nat) (v : Nat → Int32) (R : Nat → List Int32) (F : Nat → Nat → Int32) (G : Nat → Nat → Int64) (a i : Int32) : Met l yX9_at wsX9_at ({ frames := 1, cells := 0, slots := 0, locals := 20 } : Room) (va_Pc [.ref (ad 0), .int a, .int i] (XB dC dI aC ad cap (v, R, F, G))) (vp_Si (fun x => x = pAt R a i)) 0 0 (fun _ => False) := by
  refine Met.ofW (cc := cX9_at) (maxL := 4) (ret := (some .int)) (by decide) rfl ?_
  intro p e s m args below meth c s₁ B hml hv
  obtain ⟨rfl, hK, Z, S, hZ, hP⟩ := hv
  have hx := B.exec
  have hb := B.bytes
  have hret := B.returns
  have hts := atoms_spec (ws := wsX9_at) B.pre
  have hown : s.vm.findClass RX9 = some m.cls := findClass_of_methodNamed B.named
  have hlocks := B.notSynchronized
  dsimp only at hZ hP
  have lk0 := hts (.fieldLink RX9 18 "LeafTrees" "rows" "[LLeafTrees$Row;") (by decide +kernel)
  have lk1 := hts (.fieldLink RX9 93 "LeafTrees$Row" "length" "I") (by decide +kernel)
  have lk2 := hts (.fieldLink RX9 99 "LeafTrees$Row" "symbols" "[I") (by decide +kernel)
  have hin3 : ∀ w ∈ u_ws RX3 TX3 2, w ∈ wsX9_at := by decide +kernel
  have hin9 : ∀ w ∈ u_ws RX9 TX9 14, w ∈ wsX9_at := by decide +kernel
  have hl := lv_entry [.ref (ad 0), .int a, .int i] (n := 4) (Nat.le_of_ble_eq_true rfl)
  rw [lg_entry_eq]
  generalize (lg_sl [.ref (ad 0), .int a, .int i] ++ List.replicate (4 - (lg_sl [.ref (ad 0), .int a, .int i]).length) Slot.unset).toArray = ls at hl ⊢
  have hl : lv_has ls 4 [(0, .ref (ad 0)), (1, .int a), (2, .int i)] := hl
  refine nx_Q (R := ({ frames := 1, cells := 0, slots := 0, locals := 20 } : Room)) (fun Q hQ => ?_)
  refine lv_iload_n hx hb dX9_at_0 rfl (lv_at hl 1 rfl) ?_
  refine ms_i (As := [.int a]) (rest := []) ⟨hx, hb, hml, hown, hts⟩ (x_isRow l a) (va_cwS 1 hts gX9_at_X9_isRow rfl rfl rfl (by decide +kernel) ⟨Nat.le_of_ble_eq_true rfl, Nat.le_of_ble_eq_true rfl⟩) rfl hl.1 rfl (Nat.le_of_ble_eq_true rfl) dX9_at_1 ⟨Nat.le_of_ble_eq_true rfl, Nat.le_of_ble_eq_true rfl⟩ (fun x_1 h_1 => ?_)
  subst h_1
  refine nx_bn (tgt := 10) hx hb dX9_at_4 (by decide) (fun c_4 => ?_) (fun c_4 => ?_)
  · skip
    obtain ⟨r, hr, rfl⟩ := rIn_of c_4 (by decide)
    have hcr := nI_clamp (n := r) (by omega)
    have hlen := (hZ r (by omega)).1
    refine lv_aload_n hx hb dX9_at_10 rfl (lv_at hl 0 rfl) ?_
    refine va_get (D := (dC, dI)) (ci := 9) (C := RX9) (T := TX9) (N := 14) hx hb hts hin9 hown hK hP 0 rfl rfl 1 (by decide) lk0 (fun _ h9 => h9) rfl dX9_at_11 ?_
    refine lv_iload_n hx hb dX9_at_14 rfl (lv_at hl 1 rfl) ?_
    refine nx_aald (C := "LeafTrees$Row") hx hb hK hP 2 3 rfl rfl (i := r) (by omega) (by decide) (show xRows ad r = some (ad (58 + 2 * r)) from if_pos (by omega)) dX9_at_15 ?_
    refine lv_astore_n (lv' := [(3, .ref (ad (58 + 2 * r))), (0, .ref (ad 0)), (1, .int (nI r)), (2, .int i)]) hx hb dX9_at_16 rfl hl (by decide) rfl (fun ls hl => ?_)
    refine lv_iload_n hx hb dX9_at_17 rfl (lv_at hl 3 rfl) ?_
    refine lv_if_lt (tgt := 38) hx hb dX9_at_18 (by decide) (fun c_18 => ?_) (fun c_18 => ?_)
    · skip
      refine lv_bipush (v := (-100)) hx hb dX9_at_38 (by decide) ?_
      subst hQ
      exact W.iret (v := (-100)) hx hb hret (fun tq htq hWq => ⟨_, rfl, by rw [pAt, if_pos c_4, hcr, if_neg (fun h => ((rIn_c (by omega)).mpr h).1 c_18)], htq⟩) (fun q h => by cases h) dX9_at_40
    · skip
      refine lv_iload_n hx hb dX9_at_21 rfl (lv_at hl 3 rfl) ?_
      refine lv_aload_n hx hb dX9_at_22 rfl (lv_at hl 0 rfl) ?_
      refine va_get (D := (dC, dI)) (ci := 3) (C := RX3) (T := TX3) (N := 2) hx hb hts hin3 hown hK hP (58 + 2 * r) (xw_ro r (by omega)) rfl 1 (by decide) lk1 (fun _ h9 => h9) rfl dX9_at_23 ?_
      refine nx_ti (y := nI (R r).length) ((hZ r (by omega)).2.1) ?_
      refine lv_icmp_ge (tgt := 38) hx hb dX9_at_26 (by decide) (fun c_26 => ?_) (fun c_26 => ?_)
      · skip
        refine lv_bipush (v := (-100)) hx hb dX9_at_38 (by decide) ?_
        subst hQ
        exact W.iret (v := (-100)) hx hb hret (fun tq htq hWq => ⟨_, rfl, by rw [pAt, if_pos c_4, hcr, if_neg (fun h => ((rIn_c (by omega)).mpr h).2 c_26)], htq⟩) (fun q h => by cases h) dX9_at_40
      · skip
        have hij := (rIn_c (show (R r).length < 2 ^ 31 by omega)).mp ⟨c_18, c_26⟩
        obtain ⟨j, hj, rfl⟩ := rIn_of hij (by omega)
        have hcj := nI_clamp (n := j) (by omega)
        refine lv_aload_n hx hb dX9_at_29 rfl (lv_at hl 0 rfl) ?_
        refine va_get (D := (dC, dI)) (ci := 3) (C := RX3) (T := TX3) (N := 2) hx hb hts hin3 hown hK hP (58 + 2 * r) (xw_ro r (by omega)) rfl 0 (by decide) lk2 (fun _ h9 => h9) rfl dX9_at_30 ?_
        refine lv_iload_n hx hb dX9_at_33 rfl (lv_at hl 3 rfl) ?_
        refine nx_iald hx hb hK hP (59 + 2 * r) 0 (xw_ra r (by omega)) rfl (i := j) (by have := (hZ r (by omega)).1; omega) (by decide) dX9_at_34 ?_
        refine nx_ti (y := gD (R r) j) ((hZ r (by omega)).2.2 j (by omega)) ?_
        refine lv_goto (tgt := 40) hx hb dX9_at_35 (by decide) ?_
        subst hQ
        exact W.iret (v := gD (R r) j) hx hb hret (fun tq htq hWq => ⟨_, rfl, by rw [pAt, if_pos c_4, hcr, if_pos hij, hcj], htq⟩) (fun q h => by cases h) dX9_at_40
  · skip
    refine lv_bipush (v := (-2)) hx hb dX9_at_7 (by decide) ?_
    subst hQ
    exact W.iret (v := (-2)) hx hb hret (fun tq htq hWq => ⟨_, rfl, by rw [pAt, if_neg c_4], htq⟩) (fun q h => by cases h) dX9_at_9

set_option maxHeartbeats 1000000 in
set_option maxRecDepth 100000 in
/-- about -/
theorem x_about (l : Launch) (dC : Nat → ClassId) (dI : Nat → Nat → Nat) (aC : Nat → ClassId) (ad cap : Nat → Nat) (hI : xI ad) (v : Nat → Int32) (R : Nat → List Int32) (F : Nat → Nat → Int32) (G : Nat → Nat → Int64) (A : Nat) (hE : vE A (F 0)) (hA : v 0 = nI A) (hV : ∀ r, r < 10 → vR A (R r)) (a w : Int32) : Met l yX9_about wsX9_about ({ frames := 3, cells := 0, slots := 0, locals := 75 } : Room) (va_Pc [.ref (ad 0), .int a, .int w] (XB dC dI aC ad cap (v, R, F, G))) (va_Qi (fun (x : Int32) (u : MS) => ∃ f, (v, R, va_up F 1 f, G) = u ∧ x = pAbout (F 0) R a w) (XB dC dI aC ad cap) (xA ad)) 0 0 (xA ad) := by
  refine Met.ofW (cc := cX9_about) (maxL := 5) (ret := (some .int)) (by decide) rfl ?_
  intro p e s m args below meth c s₁ B hml hv
  obtain ⟨rfl, hK, Z, S, hZ, hP⟩ := hv
  have hx := B.exec
  have hb := B.bytes
  have hret := B.returns
  have hts := atoms_spec (ws := wsX9_about) B.pre
  have hown : s.vm.findClass RX9 = some m.cls := findClass_of_methodNamed B.named
  have hlocks := B.notSynchronized
  dsimp only at hZ hP
  have lk0 := hts (.fieldLink RX9 18 "LeafTrees" "rows" "[LLeafTrees$Row;") (by decide +kernel)
  have lk1 := hts (.fieldLink RX9 10 "LeafTrees" "world" "LLeafTrees$World;") (by decide +kernel)
  have lk2 := hts (.fieldLink RX9 30 "LeafTrees" "shape" "LLeafTrees$Shape;") (by decide +kernel)
  have lk3 := hts (.fieldLink RX9 93 "LeafTrees$Row" "length" "I") (by decide +kernel)
  have hin3 : ∀ w ∈ u_ws RX3 TX3 2, w ∈ wsX9_about := by decide +kernel
  have hin9 : ∀ w ∈ u_ws RX9 TX9 14, w ∈ wsX9_about := by decide +kernel
  have hS : va_S (xA ad) s.heap s.heap [] := va_S.rf
  have hl := lv_entry [.ref (ad 0), .int a, .int w] (n := 5) (Nat.le_of_ble_eq_true rfl)
  rw [lg_entry_eq]
  generalize (lg_sl [.ref (ad 0), .int a, .int w] ++ List.replicate (5 - (lg_sl [.ref (ad 0), .int a, .int w]).length) Slot.unset).toArray = ls at hl ⊢
  have hl : lv_has ls 5 [(0, .ref (ad 0)), (1, .int a), (2, .int w)] := hl
  refine nx_Q (R := ({ frames := 3, cells := 0, slots := 0, locals := 75 } : Room)) (fun Q hQ => ?_)
  refine lv_iload_n hx hb dX9_about_0 rfl (lv_at hl 1 rfl) ?_
  refine ms_i (As := [.int a]) (rest := []) ⟨hx, hb, hml, hown, hts⟩ (x_isRow l a) (va_cwS 1 hts gX9_about_X9_isRow rfl rfl rfl (by decide +kernel) ⟨Nat.le_of_ble_eq_true rfl, Nat.le_of_ble_eq_true rfl⟩) rfl hl.1 rfl (Nat.le_of_ble_eq_true rfl) dX9_about_1 ⟨Nat.le_of_ble_eq_true rfl, Nat.le_of_ble_eq_true rfl⟩ (fun x_1 h_1 => ?_)
  subst h_1
  refine nx_bz (tgt := 16) hx hb dX9_about_4 (by decide) (fun c_4 => ?_) (fun c_4 => ?_)
  · skip
    refine lv_bipush (v := (-2)) hx hb dX9_about_16 (by decide) ?_
    subst hQ
    exact W.iret (v := (-2)) hx hb hret (fun tq htq hWq => ⟨⟨_, (v, R, F, G), rfl, ⟨F 1, by rw [up_eta], by rw [pAbout, if_neg (fun h => c_4 h.1)]⟩, va_K.moved hWq.alike hK, _, _, hZ, by rw [htq]; exact hP⟩, hS.F htq⟩) hS.2.2 dX9_about_18
  · skip
    refine lv_iload_n hx hb dX9_about_7 rfl (lv_at hl 2 rfl) ?_
    refine lv_if_lt (tgt := 16) hx hb dX9_about_8 (by decide) (fun c_8 => ?_) (fun c_8 => ?_)
    · skip
      refine lv_bipush (v := (-2)) hx hb dX9_about_16 (by decide) ?_
      subst hQ
      exact W.iret (v := (-2)) hx hb hret (fun tq htq hWq => ⟨⟨_, (v, R, F, G), rfl, ⟨F 1, by rw [up_eta], by rw [pAbout, if_neg (fun h => ((rIn_w (n := 4) (by decide)).mpr h.2).1 c_8)]⟩, va_K.moved hWq.alike hK, _, _, hZ, by rw [htq]; exact hP⟩, hS.F htq⟩) hS.2.2 dX9_about_18
    · skip
      refine lv_iload_n hx hb dX9_about_11 rfl (lv_at hl 2 rfl) ?_
      refine lv_iconst (v := nI 4) hx hb dX9_about_12 (by decide) ?_
      refine lv_icmp_le (tgt := 19) hx hb dX9_about_13 (by decide) (fun c_13 => ?_) (fun c_13 => ?_)
      · skip
        have hw5 := (rIn_w (n := 4) (by decide)).mp ⟨c_8, c_13⟩
        obtain ⟨r, hr, rfl⟩ := rIn_of c_4 (by decide)
        obtain ⟨i, hi, rfl⟩ := rIn_of hw5 (by decide)
        have hcr := nI_clamp (n := r) (by omega)
        have hci := nI_clamp (n := i) (by omega)
        have hlen := (hZ r (by omega)).1
        have hok : pAbout (F 0) R (nI r) (nI i) = pAbout2 (F 0) (R r) i := by rw [pAbout, if_pos ⟨c_4, hw5⟩, hcr, hci]
        refine lv_aload_n hx hb dX9_about_19 rfl (lv_at hl 0 rfl) ?_
        refine va_get (D := (dC, dI)) (ci := 9) (C := RX9) (T := TX9) (N := 14) hx hb hts hin9 hown hK hP 0 rfl rfl 1 (by decide) lk0 (fun _ h9 => h9) rfl dX9_about_20 ?_
        refine lv_iload_n hx hb dX9_about_23 rfl (lv_at hl 1 rfl) ?_
        refine nx_aald (C := "LeafTrees$Row") hx hb hK hP 2 3 rfl rfl (i := r) (by omega) (by decide) (show xRows ad r = some (ad (58 + 2 * r)) from if_pos (by omega)) dX9_about_24 ?_
        refine lv_astore_n (lv' := [(3, .ref (ad (58 + 2 * r))), (0, .ref (ad 0)), (1, .int (nI r)), (2, .int (nI i))]) hx hb dX9_about_25 rfl hl (by decide) rfl (fun ls hl => ?_)
        refine lv_aload_n hx hb dX9_about_26 rfl (lv_at hl 1 rfl) ?_
        refine va_get (D := (dC, dI)) (ci := 9) (C := RX9) (T := TX9) (N := 14) hx hb hts hin9 hown hK hP 0 rfl rfl 0 (by decide) lk1 (fun _ h9 => h9) rfl dX9_about_27 ?_
        refine lv_aload_n hx hb dX9_about_30 rfl (lv_at hl 0 rfl) ?_
        refine xp_i (b := ad 1) (As := [.ref (ad (58 + 2 * r))]) (rest := []) ⟨hx, hb, hml, hown, hts⟩ (x_isTree l dC dI aC ad cap v R F G A hE hA r (by omega) (hV r hr)) (cwV 1 hts gX9_about_X8_isTree rfl rfl rfl (by decide +kernel) ⟨Nat.le_of_ble_eq_true rfl, Nat.le_of_ble_eq_true rfl⟩) (xPre (q0 := 1) (ci := 8) rfl rfl hK hZ hP) rfl hl.1 rfl (Nat.le_of_ble_eq_true rfl) dX9_about_31 ⟨Nat.le_of_ble_eq_true rfl, Nat.le_of_ble_eq_true rfl⟩ (fun x_31 h_31 => ?_)
        refine nx_ti (y := bI (isT (F 0) (R r))) h_31 ?_
        refine lv_istore (lv' := [(4, .int (bI (isT (F 0) (R r)))), (3, .ref (ad (58 + 2 * r))), (0, .ref (ad 0)), (1, .int (nI r)), (2, .int (nI i))]) hx hb dX9_about_34 hl (by decide) rfl (fun ls hl => ?_)
        refine lv_iload_n hx hb dX9_about_36 rfl (lv_at hl 4 rfl) ?_
        refine nx_if_ne (tgt := 45) hx hb dX9_about_37 (by decide) (by omega) (fun c_37 => ?_) (fun c_37 => ?_)
        · skip
          refine lv_iload_n hx hb dX9_about_45 rfl (lv_at hl 4 rfl) ?_
          refine lv_iconst (v := nI 1) hx hb dX9_about_46 (by decide) ?_
          refine nx_icmp_ne (a := i) (b := 1) (tgt := 61) hx hb dX9_about_47 (by decide) (by omega) (by omega) (fun c_47 => ?_) (fun c_47 => ?_)
          · skip
            refine lv_iload hx hb dX9_about_61 (lv_at hl 0 rfl) ?_
            refine nx_bn (tgt := 69) hx hb dX9_about_63 (by decide) (fun c_63 => ?_) (fun c_63 => ?_)
            · skip
              refine lv_iload_n hx hb dX9_about_69 rfl (lv_at hl 4 rfl) ?_
              refine lv_iconst (v := nI 2) hx hb dX9_about_70 (by decide) ?_
              refine nx_icmp_ne (a := i) (b := 2) (tgt := 79) hx hb dX9_about_71 (by decide) (by omega) (by omega) (fun c_71 => ?_) (fun c_71 => ?_)
              · skip
                refine lv_iload_n hx hb dX9_about_79 rfl (lv_at hl 4 rfl) ?_
                refine lv_iconst (v := nI 3) hx hb dX9_about_80 (by decide) ?_
                refine nx_icmp_ne (a := i) (b := 3) (tgt := 91) hx hb dX9_about_81 (by decide) (by omega) (by omega) (fun c_81 => ?_) (fun c_81 => ?_)
                · skip
                  refine lv_aload_n hx hb dX9_about_91 rfl (lv_at hl 2 rfl) ?_
                  refine va_get (D := (dC, dI)) (ci := 9) (C := RX9) (T := TX9) (N := 14) hx hb hts hin9 hown hK hP 0 rfl rfl 3 (by decide) lk2 (fun _ h9 => h9) rfl dX9_about_92 ?_
                  refine lv_aload_n hx hb dX9_about_95 rfl (lv_at hl 2 rfl) ?_
                  refine va_get (D := (dC, dI)) (ci := 9) (C := RX9) (T := TX9) (N := 14) hx hb hts hin9 hown hK hP 0 rfl rfl 0 (by decide) lk1 (fun _ h9 => h9) rfl dX9_about_96 ?_
                  refine lv_aload_n hx hb dX9_about_99 rfl (lv_at hl 1 rfl) ?_
                  refine xc_i (b := ad 3) (As := [.ref (ad 1), .ref (ad (58 + 2 * r))]) (rest := []) ⟨hx, hb, hml, hown, hts⟩ (x_heightOf l dC dI aC ad cap hI v R F G A hE hA r (by omega) (hV r hr) c_63) (cwV 2 hts gX9_about_X6_heightOf rfl rfl rfl (by decide +kernel) ⟨Nat.le_of_ble_eq_true rfl, Nat.le_of_ble_eq_true rfl⟩) (xPre (q0 := 3) (ci := 6) rfl rfl hK hZ hP) hS rfl hl.1 rfl (Nat.le_of_ble_eq_true rfl) dX9_about_100 ⟨Nat.le_of_ble_eq_true rfl, Nat.le_of_ble_eq_true rfl⟩ (fun x_100 v1 R1 F1 G1 Z S H locs h_100 hZ hP hS => ?_)
                  obtain ⟨f9, hu9, hx9⟩ := h_100
                  subst hx9
                  cases hu9
                  subst hQ
                  exact W.iret (v := nI (hgt (F 0) (R r))) hx hb hret (fun tq htq hWq => ⟨⟨_, (v, R, (va_up F 1 f9), G), rfl, ⟨f9, rfl, by rw [hok, pAbout2, if_neg c_37, if_neg c_47, if_pos c_63, if_neg c_71, if_neg c_81]⟩, va_K.moved hWq.alike hK, _, _, hZ, by rw [htq]; exact hP⟩, hS.F htq⟩) hS.2.2 dX9_about_103
                · skip
                  refine lv_aload_n hx hb dX9_about_84 rfl (lv_at hl 1 rfl) ?_
                  refine xp_i (b := ad (58 + 2 * r)) (As := []) (rest := []) ⟨hx, hb, hml, hown, hts⟩ (x_size l dC dI aC ad cap v R F G r (by omega)) (cwV 0 hts gX9_about_X3_size rfl rfl rfl (by decide +kernel) ⟨Nat.le_of_ble_eq_true rfl, Nat.le_of_ble_eq_true rfl⟩) (xPre (q0 := (58 + 2 * r)) (ci := 3) rfl (xw_ro r (by omega)) hK hZ hP) rfl hl.1 rfl (Nat.le_of_ble_eq_true rfl) dX9_about_85 ⟨Nat.le_of_ble_eq_true rfl, Nat.le_of_ble_eq_true rfl⟩ (fun x_85 h_85 => ?_)
                  refine nx_ti (y := nI ((R r).length - lvs (R r))) h_85 ?_
                  refine lv_goto (tgt := 103) hx hb dX9_about_88 (by decide) ?_
                  subst hQ
                  exact W.iret (v := nI ((R r).length - lvs (R r))) hx hb hret (fun tq htq hWq => ⟨⟨_, (v, R, F, G), rfl, ⟨F 1, by rw [up_eta], by rw [hok, pAbout2, if_neg c_37, if_neg c_47, if_pos c_63, if_neg c_71, if_pos c_81]⟩, va_K.moved hWq.alike hK, _, _, hZ, by rw [htq]; exact hP⟩, hS.F htq⟩) hS.2.2 dX9_about_103
              · skip
                refine lv_aload_n hx hb dX9_about_74 rfl (lv_at hl 1 rfl) ?_
                refine xp_i (b := ad (58 + 2 * r)) (As := []) (rest := []) ⟨hx, hb, hml, hown, hts⟩ (x_leaves l dC dI aC ad cap v R F G r (by omega)) (cwV 0 hts gX9_about_X3_leaves rfl rfl rfl (by decide +kernel) ⟨Nat.le_of_ble_eq_true rfl, Nat.le_of_ble_eq_true rfl⟩) (xPre (q0 := (58 + 2 * r)) (ci := 3) rfl (xw_ro r (by omega)) hK hZ hP) rfl hl.1 rfl (Nat.le_of_ble_eq_true rfl) dX9_about_75 ⟨Nat.le_of_ble_eq_true rfl, Nat.le_of_ble_eq_true rfl⟩ (fun x_75 h_75 => ?_)
                refine nx_ti (y := nI (lvs (R r))) h_75 ?_
                subst hQ
                exact W.iret (v := nI (lvs (R r))) hx hb hret (fun tq htq hWq => ⟨⟨_, (v, R, F, G), rfl, ⟨F 1, by rw [up_eta], by rw [hok, pAbout2, if_neg c_37, if_neg c_47, if_pos c_63, if_pos c_71]⟩, va_K.moved hWq.alike hK, _, _, hZ, by rw [htq]; exact hP⟩, hS.F htq⟩) hS.2.2 dX9_about_78
            · skip
              refine lv_bipush (v := (-3)) hx hb dX9_about_66 (by decide) ?_
              subst hQ
              exact W.iret (v := (-3)) hx hb hret (fun tq htq hWq => ⟨⟨_, (v, R, F, G), rfl, ⟨F 1, by rw [up_eta], by rw [hok, pAbout2, if_neg c_37, if_neg c_47, if_neg c_63]⟩, va_K.moved hWq.alike hK, _, _, hZ, by rw [htq]; exact hP⟩, hS.F htq⟩) hS.2.2 dX9_about_68
          · skip
            refine lv_iload hx hb dX9_about_50 (lv_at hl 0 rfl) ?_
            refine nx_bz (tgt := 59) hx hb dX9_about_52 (by decide) (fun c_52 => ?_) (fun c_52 => ?_)
            · skip
              refine lv_iconst (v := nI 0) hx hb dX9_about_59 (by decide) ?_
              subst hQ
              exact W.iret (v := nI 0) hx hb hret (fun tq htq hWq => ⟨⟨_, (v, R, F, G), rfl, ⟨F 1, by rw [up_eta], by rw [hok, pAbout2, if_neg c_37, if_pos c_47, bI_f c_52]; rfl⟩, va_K.moved hWq.alike hK, _, _, hZ, by rw [htq]; exact hP⟩, hS.F htq⟩) hS.2.2 dX9_about_60
            · skip
              refine lv_iconst (v := nI 1) hx hb dX9_about_55 (by decide) ?_
              refine lv_goto (tgt := 60) hx hb dX9_about_56 (by decide) ?_
              subst hQ
              exact W.iret (v := nI 1) hx hb hret (fun tq htq hWq => ⟨⟨_, (v, R, F, G), rfl, ⟨F 1, by rw [up_eta], by rw [hok, pAbout2, if_neg c_37, if_pos c_47, bI_t c_52]; rfl⟩, va_K.moved hWq.alike hK, _, _, hZ, by rw [htq]; exact hP⟩, hS.F htq⟩) hS.2.2 dX9_about_60
        · skip
          refine lv_aload_n hx hb dX9_about_40 rfl (lv_at hl 1 rfl) ?_
          refine va_get (D := (dC, dI)) (ci := 3) (C := RX3) (T := TX3) (N := 2) hx hb hts hin3 hown hK hP (58 + 2 * r) (xw_ro r (by omega)) rfl 1 (by decide) lk3 (fun _ h9 => h9) rfl dX9_about_41 ?_
          refine nx_ti (y := nI (R r).length) ((hZ r (by omega)).2.1) ?_
          subst hQ
          exact W.iret (v := nI (R r).length) hx hb hret (fun tq htq hWq => ⟨⟨_, (v, R, F, G), rfl, ⟨F 1, by rw [up_eta], by rw [hok, pAbout2, if_pos c_37]⟩, va_K.moved hWq.alike hK, _, _, hZ, by rw [htq]; exact hP⟩, hS.F htq⟩) hS.2.2 dX9_about_44
      · skip
        refine lv_bipush (v := (-2)) hx hb dX9_about_16 (by decide) ?_
        subst hQ
        exact W.iret (v := (-2)) hx hb hret (fun tq htq hWq => ⟨⟨_, (v, R, F, G), rfl, ⟨F 1, by rw [up_eta], by rw [pAbout, if_neg (fun h => c_13 ((rIn_w (n := 4) (by decide)).mpr h.2).2)]⟩, va_K.moved hWq.alike hK, _, _, hZ, by rw [htq]; exact hP⟩, hS.F htq⟩) hS.2.2 dX9_about_18

set_option maxHeartbeats 1000000 in
set_option maxRecDepth 100000 in
/-- same -/
theorem x_same (l : Launch) (dC : Nat → ClassId) (dI : Nat → Nat → Nat) (aC : Nat → ClassId) (ad cap : Nat → Nat) (v : Nat → Int32) (R : Nat → List Int32) (F : Nat → Nat → Int32) (G : Nat → Nat → Int64) (A : Nat) (hE : vE A (F 0)) (hA : v 0 = nI A) (hV : ∀ r, r < 10 → vR A (R r)) (a b : Int32) : Met l yX9_same wsX9_same ({ frames := 4, cells := 0, slots := 0, locals := 96 } : Room) (va_Pc [.ref (ad 0), .int a, .int b] (XB dC dI aC ad cap (v, R, F, G))) (vp_Si (fun x => x = pSame (F 0) R a b)) 0 0 (fun _ => False) := by
  refine Met.ofW (cc := cX9_same) (maxL := 3) (ret := (some .int)) (by decide) rfl ?_
  intro p e s m args below meth c s₁ B hml hv
  obtain ⟨rfl, hK, Z, S, hZ, hP⟩ := hv
  have hx := B.exec
  have hb := B.bytes
  have hret := B.returns
  have hts := atoms_spec (ws := wsX9_same) B.pre
  have hown : s.vm.findClass RX9 = some m.cls := findClass_of_methodNamed B.named
  have hlocks := B.notSynchronized
  dsimp only at hZ hP
  have lk0 := hts (.fieldLink RX9 18 "LeafTrees" "rows" "[LLeafTrees$Row;") (by decide +kernel)
  have hin9 : ∀ w ∈ u_ws RX9 TX9 14, w ∈ wsX9_same := by decide +kernel
  have hl := lv_entry [.ref (ad 0), .int a, .int b] (n := 3) (Nat.le_of_ble_eq_true rfl)
  rw [lg_entry_eq]
  generalize (lg_sl [.ref (ad 0), .int a, .int b] ++ List.replicate (3 - (lg_sl [.ref (ad 0), .int a, .int b]).length) Slot.unset).toArray = ls at hl ⊢
  have hl : lv_has ls 3 [(0, .ref (ad 0)), (1, .int a), (2, .int b)] := hl
  refine nx_Q (R := ({ frames := 4, cells := 0, slots := 0, locals := 96 } : Room)) (fun Q hQ => ?_)
  refine lv_aload_n hx hb dX9_same_0 rfl (lv_at hl 0 rfl) ?_
  refine lv_iload_n hx hb dX9_same_1 rfl (lv_at hl 1 rfl) ?_
  refine xp_i (b := ad 0) (As := [.int a]) (rest := []) ⟨hx, hb, hml, hown, hts⟩ (x_isTreeRow l dC dI aC ad cap v R F G A hE hA a hV) (cwV 1 hts gX9_same_X9_isTreeRow rfl rfl rfl (by decide +kernel) ⟨Nat.le_of_ble_eq_true rfl, Nat.le_of_ble_eq_true rfl⟩) (xPre (q0 := 0) (ci := 9) rfl rfl hK hZ hP) rfl hl.1 rfl (Nat.le_of_ble_eq_true rfl) dX9_same_2 ⟨Nat.le_of_ble_eq_true rfl, Nat.le_of_ble_eq_true rfl⟩ (fun x_2 h_2 => ?_)
  refine nx_ti (y := bI (tr (F 0) R a)) h_2 ?_
  refine nx_bz (tgt := 16) hx hb dX9_same_5 (by decide) (fun c_5 => ?_) (fun c_5 => ?_)
  · skip
    refine lv_bipush (v := (-2)) hx hb dX9_same_16 (by decide) ?_
    subst hQ
    exact W.iret (v := (-2)) hx hb hret (fun tq htq hWq => ⟨_, rfl, by rw [pSame, if_neg (fun h => c_5 h.1)], htq⟩) (fun q h => by cases h) dX9_same_18
  · skip
    refine lv_aload_n hx hb dX9_same_8 rfl (lv_at hl 0 rfl) ?_
    refine lv_iload_n hx hb dX9_same_9 rfl (lv_at hl 2 rfl) ?_
    refine xp_i (b := ad 0) (As := [.int b]) (rest := []) ⟨hx, hb, hml, hown, hts⟩ (x_isTreeRow l dC dI aC ad cap v R F G A hE hA b hV) (cwV 1 hts gX9_same_X9_isTreeRow rfl rfl rfl (by decide +kernel) ⟨Nat.le_of_ble_eq_true rfl, Nat.le_of_ble_eq_true rfl⟩) (xPre (q0 := 0) (ci := 9) rfl rfl hK hZ hP) rfl hl.1 rfl (Nat.le_of_ble_eq_true rfl) dX9_same_10 ⟨Nat.le_of_ble_eq_true rfl, Nat.le_of_ble_eq_true rfl⟩ (fun x_10 h_10 => ?_)
    refine nx_ti (y := bI (tr (F 0) R b)) h_10 ?_
    refine nx_bn (tgt := 19) hx hb dX9_same_13 (by decide) (fun c_13 => ?_) (fun c_13 => ?_)
    · skip
      obtain ⟨q, hq, rfl⟩ := rIn_of c_5.1 (by decide)
      obtain ⟨r, hr, rfl⟩ := rIn_of c_13.1 (by decide)
      have hcq := nI_clamp (n := q) (by omega)
      have hcr := nI_clamp (n := r) (by omega)
      refine lv_aload_n hx hb dX9_same_19 rfl (lv_at hl 0 rfl) ?_
      refine va_get (D := (dC, dI)) (ci := 9) (C := RX9) (T := TX9) (N := 14) hx hb hts hin9 hown hK hP 0 rfl rfl 1 (by decide) lk0 (fun _ h9 => h9) rfl dX9_same_20 ?_
      refine lv_iload_n hx hb dX9_same_23 rfl (lv_at hl 1 rfl) ?_
      refine nx_aald (C := "LeafTrees$Row") hx hb hK hP 2 3 rfl rfl (i := q) (by omega) (by decide) (show xRows ad q = some (ad (58 + 2 * q)) from if_pos (by omega)) dX9_same_24 ?_
      refine lv_aload_n hx hb dX9_same_25 rfl (lv_at hl 0 rfl) ?_
      refine va_get (D := (dC, dI)) (ci := 9) (C := RX9) (T := TX9) (N := 14) hx hb hts hin9 hown hK hP 0 rfl rfl 1 (by decide) lk0 (fun _ h9 => h9) rfl dX9_same_26 ?_
      refine lv_iload_n hx hb dX9_same_29 rfl (lv_at hl 2 rfl) ?_
      refine nx_aald (C := "LeafTrees$Row") hx hb hK hP 2 3 rfl rfl (i := r) (by omega) (by decide) (show xRows ad r = some (ad (58 + 2 * r)) from if_pos (by omega)) dX9_same_30 ?_
      refine xp_i (b := ad (58 + 2 * q)) (As := [.ref (ad (58 + 2 * r))]) (rest := []) ⟨hx, hb, hml, hown, hts⟩ (x_isLike l dC dI aC ad cap v R F G q (by omega) r (by omega)) (cwV 1 hts gX9_same_X3_isLike rfl rfl rfl (by decide +kernel) ⟨Nat.le_of_ble_eq_true rfl, Nat.le_of_ble_eq_true rfl⟩) (xPre (q0 := (58 + 2 * q)) (ci := 3) rfl (xw_ro q (by omega)) hK hZ hP) rfl hl.1 rfl (Nat.le_of_ble_eq_true rfl) dX9_same_31 ⟨Nat.le_of_ble_eq_true rfl, Nat.le_of_ble_eq_true rfl⟩ (fun x_31 h_31 => ?_)
      refine nx_ti (y := bI (R q = R r)) h_31 ?_
      refine nx_bz (tgt := 41) hx hb dX9_same_34 (by decide) (fun c_34 => ?_) (fun c_34 => ?_)
      · skip
        refine lv_iconst (v := nI 0) hx hb dX9_same_41 (by decide) ?_
        subst hQ
        exact W.iret (v := nI 0) hx hb hret (fun tq htq hWq => ⟨_, rfl, by rw [pSame, if_pos ⟨c_5, c_13⟩, hcq, hcr, bI_f c_34]; rfl, htq⟩) (fun q h => by cases h) dX9_same_42
      · skip
        refine lv_iconst (v := nI 1) hx hb dX9_same_37 (by decide) ?_
        refine lv_goto (tgt := 42) hx hb dX9_same_38 (by decide) ?_
        subst hQ
        exact W.iret (v := nI 1) hx hb hret (fun tq htq hWq => ⟨_, rfl, by rw [pSame, if_pos ⟨c_5, c_13⟩, hcq, hcr, bI_t c_34]; rfl, htq⟩) (fun q h => by cases h) dX9_same_42
    · skip
      refine lv_bipush (v := (-2)) hx hb dX9_same_16 (by decide) ?_
      subst hQ
      exact W.iret (v := (-2)) hx hb hret (fun tq htq hWq => ⟨_, rfl, by rw [pSame, if_neg (fun h => c_13 h.2)], htq⟩) (fun q h => by cases h) dX9_same_18

set_option maxHeartbeats 1000000 in
set_option maxRecDepth 100000 in
/-- rule -/
theorem x_rule (l : Launch) (dC : Nat → ClassId) (dI : Nat → Nat → Nat) (aC : Nat → ClassId) (ad cap : Nat → Nat) (hI : xI ad) (v : Nat → Int32) (R : Nat → List Int32) (F : Nat → Nat → Int32) (G : Nat → Nat → Int64) (A : Nat) (hE : vE A (F 0)) (hA : v 0 = nI A) (hV : ∀ r, r < 10 → vR A (R r)) (n : Nat) (hn : v 1 = nI n) (hn8 : n ≤ 8) (a b : Int32) : Met l yX9_rule wsX9_rule ({ frames := 5, cells := 0, slots := 0, locals := 117 } : Room) (va_Pc [.ref (ad 0), .int a, .int b] (XB dC dI aC ad cap (v, R, F, G))) (va_Qi (fun (x : Int32) (u : MS) => x = pRule (F 0) R n a b ∧ xRule v R F G n a b = u) (XB dC dI aC ad cap) (xA ad)) 0 0 (xA ad) := by
  refine Met.ofW (cc := cX9_rule) (maxL := 3) (ret := (some .int)) (by decide) rfl ?_
  intro p e s m args below meth c s₁ B hml hv
  obtain ⟨rfl, hK, Z, S, hZ, hP⟩ := hv
  have hx := B.exec
  have hb := B.bytes
  have hret := B.returns
  have hts := atoms_spec (ws := wsX9_rule) B.pre
  have hown : s.vm.findClass RX9 = some m.cls := findClass_of_methodNamed B.named
  have hlocks := B.notSynchronized
  dsimp only at hZ hP
  have lk0 := hts (.fieldLink RX9 18 "LeafTrees" "rows" "[LLeafTrees$Row;") (by decide +kernel)
  have lk1 := hts (.fieldLink RX9 10 "LeafTrees" "world" "LLeafTrees$World;") (by decide +kernel)
  have lk2 := hts (.fieldLink RX9 138 "LeafTrees$World" "ruleCount" "I") (by decide +kernel)
  have hin8 : ∀ w ∈ u_ws RX8 TX8 4, w ∈ wsX9_rule := by decide +kernel
  have hin9 : ∀ w ∈ u_ws RX9 TX9 14, w ∈ wsX9_rule := by decide +kernel
  have hS : va_S (xA ad) s.heap s.heap [] := va_S.rf
  have hl := lv_entry [.ref (ad 0), .int a, .int b] (n := 3) (Nat.le_of_ble_eq_true rfl)
  rw [lg_entry_eq]
  generalize (lg_sl [.ref (ad 0), .int a, .int b] ++ List.replicate (3 - (lg_sl [.ref (ad 0), .int a, .int b]).length) Slot.unset).toArray = ls at hl ⊢
  have hl : lv_has ls 3 [(0, .ref (ad 0)), (1, .int a), (2, .int b)] := hl
  refine nx_Q (R := ({ frames := 5, cells := 0, slots := 0, locals := 117 } : Room)) (fun Q hQ => ?_)
  refine lv_aload_n hx hb dX9_rule_0 rfl (lv_at hl 0 rfl) ?_
  refine lv_iload_n hx hb dX9_rule_1 rfl (lv_at hl 1 rfl) ?_
  refine xp_i (b := ad 0) (As := [.int a]) (rest := []) ⟨hx, hb, hml, hown, hts⟩ (x_isLeft l dC dI aC ad cap v R F G A hE hA a hV) (cwV 1 hts gX9_rule_X9_isLeft rfl rfl rfl (by decide +kernel) ⟨Nat.le_of_ble_eq_true rfl, Nat.le_of_ble_eq_true rfl⟩) (xPre (q0 := 0) (ci := 9) rfl rfl hK hZ hP) rfl hl.1 rfl (Nat.le_of_ble_eq_true rfl) dX9_rule_2 ⟨Nat.le_of_ble_eq_true rfl, Nat.le_of_ble_eq_true rfl⟩ (fun x_2 h_2 => ?_)
  refine nx_ti (y := bI (lf (F 0) R a)) h_2 ?_
  refine nx_bz (tgt := 16) hx hb dX9_rule_5 (by decide) (fun c_5 => ?_) (fun c_5 => ?_)
  · skip
    refine lv_bipush (v := (-2)) hx hb dX9_rule_16 (by decide) ?_
    subst hQ
    exact W.iret (v := (-2)) hx hb hret (fun tq htq hWq => ⟨⟨_, (v, R, F, G), rfl, ⟨by rw [pRule, if_neg (fun h => c_5 h.1)], by rw [xRule, if_neg (fun h => c_5 h.1)]⟩, va_K.moved hWq.alike hK, _, _, hZ, by rw [htq]; exact hP⟩, hS.F htq⟩) hS.2.2 dX9_rule_18
  · skip
    refine lv_aload_n hx hb dX9_rule_8 rfl (lv_at hl 0 rfl) ?_
    refine lv_iload_n hx hb dX9_rule_9 rfl (lv_at hl 2 rfl) ?_
    refine xp_i (b := ad 0) (As := [.int b]) (rest := []) ⟨hx, hb, hml, hown, hts⟩ (x_isTreeRow l dC dI aC ad cap v R F G A hE hA b hV) (cwV 1 hts gX9_rule_X9_isTreeRow rfl rfl rfl (by decide +kernel) ⟨Nat.le_of_ble_eq_true rfl, Nat.le_of_ble_eq_true rfl⟩) (xPre (q0 := 0) (ci := 9) rfl rfl hK hZ hP) rfl hl.1 rfl (Nat.le_of_ble_eq_true rfl) dX9_rule_10 ⟨Nat.le_of_ble_eq_true rfl, Nat.le_of_ble_eq_true rfl⟩ (fun x_10 h_10 => ?_)
    refine nx_ti (y := bI (tr (F 0) R b)) h_10 ?_
    refine nx_bn (tgt := 19) hx hb dX9_rule_13 (by decide) (fun c_13 => ?_) (fun c_13 => ?_)
    · skip
      obtain ⟨q, hq, rfl⟩ := rIn_of c_5.1.1 (by decide)
      obtain ⟨r, hr, rfl⟩ := rIn_of c_13.1 (by decide)
      have hcq := nI_clamp (n := q) (by omega)
      have hcr := nI_clamp (n := r) (by omega)
      have hlq := Nat.le_trans (lvs_le (R q)) (hZ q (by omega)).1
      have hlr := Nat.le_trans (lvs_le (R r)) (hZ r (by omega)).1
      refine lv_aload_n hx hb dX9_rule_19 rfl (lv_at hl 0 rfl) ?_
      refine va_get (D := (dC, dI)) (ci := 9) (C := RX9) (T := TX9) (N := 14) hx hb hts hin9 hown hK hP 0 rfl rfl 1 (by decide) lk0 (fun _ h9 => h9) rfl dX9_rule_20 ?_
      refine lv_iload_n hx hb dX9_rule_23 rfl (lv_at hl 1 rfl) ?_
      refine nx_aald (C := "LeafTrees$Row") hx hb hK hP 2 3 rfl rfl (i := q) (by omega) (by decide) (show xRows ad q = some (ad (58 + 2 * q)) from if_pos (by omega)) dX9_rule_24 ?_
      refine xp_i (b := ad (58 + 2 * q)) (As := []) (rest := []) ⟨hx, hb, hml, hown, hts⟩ (x_leaves l dC dI aC ad cap v R F G q (by omega)) (cwV 0 hts gX9_rule_X3_leaves rfl rfl rfl (by decide +kernel) ⟨Nat.le_of_ble_eq_true rfl, Nat.le_of_ble_eq_true rfl⟩) (xPre (q0 := (58 + 2 * q)) (ci := 3) rfl (xw_ro q (by omega)) hK hZ hP) rfl hl.1 rfl (Nat.le_of_ble_eq_true rfl) dX9_rule_25 ⟨Nat.le_of_ble_eq_true rfl, Nat.le_of_ble_eq_true rfl⟩ (fun x_25 h_25 => ?_)
      refine nx_ti (y := nI (lvs (R q))) h_25 ?_
      refine lv_aload_n hx hb dX9_rule_28 rfl (lv_at hl 0 rfl) ?_
      refine va_get (D := (dC, dI)) (ci := 9) (C := RX9) (T := TX9) (N := 14) hx hb hts hin9 hown hK hP 0 rfl rfl 1 (by decide) lk0 (fun _ h9 => h9) rfl dX9_rule_29 ?_
      refine lv_iload_n hx hb dX9_rule_32 rfl (lv_at hl 2 rfl) ?_
      refine nx_aald (C := "LeafTrees$Row") hx hb hK hP 2 3 rfl rfl (i := r) (by omega) (by decide) (show xRows ad r = some (ad (58 + 2 * r)) from if_pos (by omega)) dX9_rule_33 ?_
      refine xp_i (b := ad (58 + 2 * r)) (As := []) (rest := [.int (nI (lvs (R q)))]) ⟨hx, hb, hml, hown, hts⟩ (x_leaves l dC dI aC ad cap v R F G r (by omega)) (cwV 0 hts gX9_rule_X3_leaves rfl rfl rfl (by decide +kernel) ⟨Nat.le_of_ble_eq_true rfl, Nat.le_of_ble_eq_true rfl⟩) (xPre (q0 := (58 + 2 * r)) (ci := 3) rfl (xw_ro r (by omega)) hK hZ hP) rfl hl.1 rfl (Nat.le_of_ble_eq_true rfl) dX9_rule_34 ⟨Nat.le_of_ble_eq_true rfl, Nat.le_of_ble_eq_true rfl⟩ (fun x_34 h_34 => ?_)
      refine nx_ti (y := nI (lvs (R r))) h_34 ?_
      refine nx_icmp_eq (a := (lvs (R q))) (b := (lvs (R r))) (tgt := 43) hx hb dX9_rule_37 (by decide) (by omega) (by omega) (fun c_37 => ?_) (fun c_37 => ?_)
      · skip
        refine lv_aload_n hx hb dX9_rule_43 rfl (lv_at hl 0 rfl) ?_
        refine va_get (D := (dC, dI)) (ci := 9) (C := RX9) (T := TX9) (N := 14) hx hb hts hin9 hown hK hP 0 rfl rfl 0 (by decide) lk1 (fun _ h9 => h9) rfl dX9_rule_44 ?_
        refine va_get (D := (dC, dI)) (ci := 8) (C := RX8) (T := TX8) (N := 4) hx hb hts hin8 hown hK hP 1 rfl rfl 3 (by decide) lk2 (fun _ h9 => h9) rfl dX9_rule_47 ?_
        refine nx_ti (y := nI n) (hn) ?_
        refine lv_bipush (v := nI 8) hx hb dX9_rule_50 (by decide) ?_
        refine nx_icmp_lt (a := n) (b := 8) (tgt := 58) hx hb dX9_rule_52 (by decide) (by omega) (by omega) (fun c_52 => ?_) (fun c_52 => ?_)
        · skip
          refine lv_aload_n hx hb dX9_rule_58 rfl (lv_at hl 0 rfl) ?_
          refine xc_v (b := ad 0) (As := []) (rest := []) ⟨hx, hb, hml, hown, hts⟩ (x_forget l dC dI aC ad cap hI v R F G ) (cwV 0 hts gX9_rule_X9_forget rfl rfl rfl (by decide +kernel) ⟨Nat.le_of_ble_eq_true rfl, Nat.le_of_ble_eq_true rfl⟩) (xPre (q0 := 0) (ci := 9) rfl rfl hK hZ hP) hS rfl hl.1 rfl (Nat.le_of_ble_eq_true rfl) dX9_rule_59 ⟨Nat.le_of_ble_eq_true rfl, Nat.le_of_ble_eq_true rfl⟩ (fun v1 R1 F1 G1 Z S H locs h_59 hZ hP hS => ?_)
          cases h_59
          refine lv_aload_n hx hb dX9_rule_62 rfl (lv_at hl 0 rfl) ?_
          refine va_get (D := (dC, dI)) (ci := 9) (C := RX9) (T := TX9) (N := 14) hx hb hts hin9 hown hK hP 0 rfl rfl 0 (by decide) lk1 (fun _ h9 => h9) rfl dX9_rule_63 ?_
          refine lv_aload_n hx hb dX9_rule_66 rfl (lv_at hl 0 rfl) ?_
          refine va_get (D := (dC, dI)) (ci := 9) (C := RX9) (T := TX9) (N := 14) hx hb hts hin9 hown hK hP 0 rfl rfl 1 (by decide) lk0 (fun _ h9 => h9) rfl dX9_rule_67 ?_
          refine lv_iload_n hx hb dX9_rule_70 rfl (lv_at hl 1 rfl) ?_
          refine nx_aald (C := "LeafTrees$Row") hx hb hK hP 2 3 rfl rfl (i := q) (by omega) (by decide) (show xRows ad q = some (ad (58 + 2 * q)) from if_pos (by omega)) dX9_rule_71 ?_
          refine lv_aload_n hx hb dX9_rule_72 rfl (lv_at hl 0 rfl) ?_
          refine va_get (D := (dC, dI)) (ci := 9) (C := RX9) (T := TX9) (N := 14) hx hb hts hin9 hown hK hP 0 rfl rfl 1 (by decide) lk0 (fun _ h9 => h9) rfl dX9_rule_73 ?_
          refine lv_iload_n hx hb dX9_rule_76 rfl (lv_at hl 2 rfl) ?_
          refine nx_aald (C := "LeafTrees$Row") hx hb hK hP 2 3 rfl rfl (i := r) (by omega) (by decide) (show xRows ad r = some (ad (58 + 2 * r)) from if_pos (by omega)) dX9_rule_77 ?_
          refine lv_iconst (v := nI 0) hx hb dX9_rule_78 (by decide) ?_
          refine xc_i (b := ad 1) (As := [.ref (ad (58 + 2 * q)), .ref (ad (58 + 2 * r)), .int (nI 0)]) (rest := []) ⟨hx, hb, hml, hown, hts⟩ (x_addRule0 l dC dI aC ad cap hI (va_up (va_up (va_up v 2 (nI 0)) 3 (nI 0)) 5 (nI 0)) R F G n hn hn8 q hq r (by omega) (by omega)) (cwV 3 hts gX9_rule_X8_addRule rfl rfl rfl (by decide +kernel) ⟨Nat.le_of_ble_eq_true rfl, Nat.le_of_ble_eq_true rfl⟩) (xPre (q0 := 1) (ci := 8) rfl rfl hK hZ hP) hS rfl hl.1 rfl (Nat.le_of_ble_eq_true rfl) dX9_rule_79 ⟨Nat.le_of_ble_eq_true rfl, Nat.le_of_ble_eq_true rfl⟩ (fun x_79 v2 R2 F2 G2 Z S H locs h_79 hZ hP hS => ?_)
          obtain ⟨hx_79, hu_79⟩ := h_79
          rw [if_pos c_52] at hx_79 hu_79
          subst hx_79
          subst hQ
          exact W.iret (v := nI n) hx hb hret (fun tq htq hWq => ⟨⟨_, (v2, R2, F2, G2), rfl, ⟨by rw [pRule, if_pos ⟨c_5, c_13⟩, hcq, hcr, pRule2, if_neg (fun h => h c_37), if_neg (by omega)], by rw [xRule, if_pos ⟨c_5, c_13⟩, hcq, hcr, xRule2, if_pos ⟨c_37, by omega⟩]; exact hu_79⟩, va_K.moved hWq.alike hK, _, _, hZ, by rw [htq]; exact hP⟩, hS.F htq⟩) hS.2.2 dX9_rule_82
        · skip
          refine lv_bipush (v := (-4)) hx hb dX9_rule_55 (by decide) ?_
          subst hQ
          exact W.iret (v := (-4)) hx hb hret (fun tq htq hWq => ⟨⟨_, (v, R, F, G), rfl, ⟨by rw [pRule, if_pos ⟨c_5, c_13⟩, hcq, hcr, pRule2, if_neg (fun h => h c_37), if_pos (by omega)], by rw [xRule, if_pos ⟨c_5, c_13⟩, hcq, hcr, xRule2, if_neg (fun h => h.2 (by omega))]⟩, va_K.moved hWq.alike hK, _, _, hZ, by rw [htq]; exact hP⟩, hS.F htq⟩) hS.2.2 dX9_rule_57
      · skip
        refine lv_bipush (v := (-3)) hx hb dX9_rule_40 (by decide) ?_
        subst hQ
        exact W.iret (v := (-3)) hx hb hret (fun tq htq hWq => ⟨⟨_, (v, R, F, G), rfl, ⟨by rw [pRule, if_pos ⟨c_5, c_13⟩, hcq, hcr, pRule2, if_pos c_37], by rw [xRule, if_pos ⟨c_5, c_13⟩, hcq, hcr, xRule2, if_neg (fun h => c_37 h.1)]⟩, va_K.moved hWq.alike hK, _, _, hZ, by rw [htq]; exact hP⟩, hS.F htq⟩) hS.2.2 dX9_rule_42
    · skip
      refine lv_bipush (v := (-2)) hx hb dX9_rule_16 (by decide) ?_
      subst hQ
      exact W.iret (v := (-2)) hx hb hret (fun tq htq hWq => ⟨⟨_, (v, R, F, G), rfl, ⟨by rw [pRule, if_neg (fun h => c_13 h.2)], by rw [xRule, if_neg (fun h => c_13 h.2)]⟩, va_K.moved hWq.alike hK, _, _, hZ, by rw [htq]; exact hP⟩, hS.F htq⟩) hS.2.2 dX9_rule_18

set_option maxHeartbeats 1000000 in
set_option maxRecDepth 100000 in
/-- nought -/
theorem x_nought (l : Launch) (dC : Nat → ClassId) (dI : Nat → Nat → Nat) (aC : Nat → ClassId) (ad cap : Nat → Nat) (hI : xI ad) (v : Nat → Int32) (R : Nat → List Int32) (F : Nat → Nat → Int32) (G : Nat → Nat → Int64) (A : Nat) (hE : vE A (F 0)) (hA : v 0 = nI A) (hV : ∀ r, r < 10 → vR A (R r)) (n : Nat) (hn : v 1 = nI n) (hn8 : n ≤ 8) (a : Int32) : Met l yX9_nought wsX9_nought ({ frames := 5, cells := 0, slots := 0, locals := 117 } : Room) (va_Pc [.ref (ad 0), .int a] (XB dC dI aC ad cap (v, R, F, G))) (va_Qi (fun (x : Int32) (u : MS) => x = pNought (F 0) R n a ∧ xNought v R F G n a = u) (XB dC dI aC ad cap) (xA ad)) 0 0 (xA ad) := by
  refine Met.ofW (cc := cX9_nought) (maxL := 2) (ret := (some .int)) (by decide) rfl ?_
  intro p e s m args below meth c s₁ B hml hv
  obtain ⟨rfl, hK, Z, S, hZ, hP⟩ := hv
  have hx := B.exec
  have hb := B.bytes
  have hret := B.returns
  have hts := atoms_spec (ws := wsX9_nought) B.pre
  have hown : s.vm.findClass RX9 = some m.cls := findClass_of_methodNamed B.named
  have hlocks := B.notSynchronized
  dsimp only at hZ hP
  have lk0 := hts (.fieldLink RX9 10 "LeafTrees" "world" "LLeafTrees$World;") (by decide +kernel)
  have lk1 := hts (.fieldLink RX9 138 "LeafTrees$World" "ruleCount" "I") (by decide +kernel)
  have lk2 := hts (.fieldLink RX9 23 "LeafTrees" "work" "LLeafTrees$Row;") (by decide +kernel)
  have lk3 := hts (.fieldLink RX9 18 "LeafTrees" "rows" "[LLeafTrees$Row;") (by decide +kernel)
  have hin8 : ∀ w ∈ u_ws RX8 TX8 4, w ∈ wsX9_nought := by decide +kernel
  have hin9 : ∀ w ∈ u_ws RX9 TX9 14, w ∈ wsX9_nought := by decide +kernel
  have hS : va_S (xA ad) s.heap s.heap [] := va_S.rf
  have hl := lv_entry [.ref (ad 0), .int a] (n := 2) (Nat.le_of_ble_eq_true rfl)
  rw [lg_entry_eq]
  generalize (lg_sl [.ref (ad 0), .int a] ++ List.replicate (2 - (lg_sl [.ref (ad 0), .int a]).length) Slot.unset).toArray = ls at hl ⊢
  have hl : lv_has ls 2 [(0, .ref (ad 0)), (1, .int a)] := hl
  refine nx_Q (R := ({ frames := 5, cells := 0, slots := 0, locals := 117 } : Room)) (fun Q hQ => ?_)
  refine lv_aload_n hx hb dX9_nought_0 rfl (lv_at hl 0 rfl) ?_
  refine lv_iload_n hx hb dX9_nought_1 rfl (lv_at hl 1 rfl) ?_
  refine xp_i (b := ad 0) (As := [.int a]) (rest := []) ⟨hx, hb, hml, hown, hts⟩ (x_isLeft l dC dI aC ad cap v R F G A hE hA a hV) (cwV 1 hts gX9_nought_X9_isLeft rfl rfl rfl (by decide +kernel) ⟨Nat.le_of_ble_eq_true rfl, Nat.le_of_ble_eq_true rfl⟩) (xPre (q0 := 0) (ci := 9) rfl rfl hK hZ hP) rfl hl.1 rfl (Nat.le_of_ble_eq_true rfl) dX9_nought_2 ⟨Nat.le_of_ble_eq_true rfl, Nat.le_of_ble_eq_true rfl⟩ (fun x_2 h_2 => ?_)
  refine nx_ti (y := bI (lf (F 0) R a)) h_2 ?_
  refine nx_bn (tgt := 11) hx hb dX9_nought_5 (by decide) (fun c_5 => ?_) (fun c_5 => ?_)
  · skip
    obtain ⟨q, hq, rfl⟩ := rIn_of c_5.1.1 (by decide)
    have hcq := nI_clamp (n := q) (by omega)
    refine lv_aload_n hx hb dX9_nought_11 rfl (lv_at hl 0 rfl) ?_
    refine va_get (D := (dC, dI)) (ci := 9) (C := RX9) (T := TX9) (N := 14) hx hb hts hin9 hown hK hP 0 rfl rfl 0 (by decide) lk0 (fun _ h9 => h9) rfl dX9_nought_12 ?_
    refine va_get (D := (dC, dI)) (ci := 8) (C := RX8) (T := TX8) (N := 4) hx hb hts hin8 hown hK hP 1 rfl rfl 3 (by decide) lk1 (fun _ h9 => h9) rfl dX9_nought_15 ?_
    refine nx_ti (y := nI n) (hn) ?_
    refine lv_bipush (v := nI 8) hx hb dX9_nought_18 (by decide) ?_
    refine nx_icmp_lt (a := n) (b := 8) (tgt := 26) hx hb dX9_nought_20 (by decide) (by omega) (by omega) (fun c_20 => ?_) (fun c_20 => ?_)
    · skip
      refine lv_aload_n hx hb dX9_nought_26 rfl (lv_at hl 0 rfl) ?_
      refine xc_v (b := ad 0) (As := []) (rest := []) ⟨hx, hb, hml, hown, hts⟩ (x_forget l dC dI aC ad cap hI v R F G ) (cwV 0 hts gX9_nought_X9_forget rfl rfl rfl (by decide +kernel) ⟨Nat.le_of_ble_eq_true rfl, Nat.le_of_ble_eq_true rfl⟩) (xPre (q0 := 0) (ci := 9) rfl rfl hK hZ hP) hS rfl hl.1 rfl (Nat.le_of_ble_eq_true rfl) dX9_nought_27 ⟨Nat.le_of_ble_eq_true rfl, Nat.le_of_ble_eq_true rfl⟩ (fun v1 R1 F1 G1 Z S H locs h_27 hZ hP hS => ?_)
      cases h_27
      refine lv_aload_n hx hb dX9_nought_30 rfl (lv_at hl 0 rfl) ?_
      refine va_get (D := (dC, dI)) (ci := 9) (C := RX9) (T := TX9) (N := 14) hx hb hts hin9 hown hK hP 0 rfl rfl 2 (by decide) lk2 (fun _ h9 => h9) rfl dX9_nought_31 ?_
      refine xc_v (b := ad 118) (As := []) (rest := []) ⟨hx, hb, hml, hown, hts⟩ (x_clear l dC dI aC ad cap hI (va_up (va_up (va_up v 2 (nI 0)) 3 (nI 0)) 5 (nI 0)) R F G 30 (by decide)) (cwV 0 hts gX9_nought_X3_clear rfl rfl rfl (by decide +kernel) ⟨Nat.le_of_ble_eq_true rfl, Nat.le_of_ble_eq_true rfl⟩) (xPre (q0 := 118) (ci := 3) rfl rfl hK hZ hP) hS rfl hl.1 rfl (Nat.le_of_ble_eq_true rfl) dX9_nought_34 ⟨Nat.le_of_ble_eq_true rfl, Nat.le_of_ble_eq_true rfl⟩ (fun v2 R2 F2 G2 Z S H locs h_34 hZ hP hS => ?_)
      cases h_34
      refine lv_aload_n hx hb dX9_nought_37 rfl (lv_at hl 0 rfl) ?_
      refine va_get (D := (dC, dI)) (ci := 9) (C := RX9) (T := TX9) (N := 14) hx hb hts hin9 hown hK hP 0 rfl rfl 0 (by decide) lk0 (fun _ h9 => h9) rfl dX9_nought_38 ?_
      refine lv_aload_n hx hb dX9_nought_41 rfl (lv_at hl 0 rfl) ?_
      refine va_get (D := (dC, dI)) (ci := 9) (C := RX9) (T := TX9) (N := 14) hx hb hts hin9 hown hK hP 0 rfl rfl 1 (by decide) lk3 (fun _ h9 => h9) rfl dX9_nought_42 ?_
      refine lv_iload_n hx hb dX9_nought_45 rfl (lv_at hl 1 rfl) ?_
      refine nx_aald (C := "LeafTrees$Row") hx hb hK hP 2 3 rfl rfl (i := q) (by omega) (by decide) (show xRows ad q = some (ad (58 + 2 * q)) from if_pos (by omega)) dX9_nought_46 ?_
      refine lv_aload_n hx hb dX9_nought_47 rfl (lv_at hl 0 rfl) ?_
      refine va_get (D := (dC, dI)) (ci := 9) (C := RX9) (T := TX9) (N := 14) hx hb hts hin9 hown hK hP 0 rfl rfl 2 (by decide) lk2 (fun _ h9 => h9) rfl dX9_nought_48 ?_
      refine lv_iconst (v := nI 1) hx hb dX9_nought_51 (by decide) ?_
      refine xc_i (b := ad 1) (As := [.ref (ad (58 + 2 * q)), .ref (ad 118), .int (nI 1)]) (rest := []) ⟨hx, hb, hml, hown, hts⟩ (x_addRule1 l dC dI aC ad cap hI (va_up (va_up (va_up v 2 (nI 0)) 3 (nI 0)) 5 (nI 0)) (va_up R 30 []) F G n hn hn8 q hq 30 (by decide) (by omega)) (cwV 3 hts gX9_nought_X8_addRule rfl rfl rfl (by decide +kernel) ⟨Nat.le_of_ble_eq_true rfl, Nat.le_of_ble_eq_true rfl⟩) (xPre (q0 := 1) (ci := 8) rfl rfl hK hZ hP) hS rfl hl.1 rfl (Nat.le_of_ble_eq_true rfl) dX9_nought_52 ⟨Nat.le_of_ble_eq_true rfl, Nat.le_of_ble_eq_true rfl⟩ (fun x_52 v3 R3 F3 G3 Z S H locs h_52 hZ hP hS => ?_)
      obtain ⟨hx_52, hu_52⟩ := h_52
      rw [if_pos c_20] at hx_52 hu_52
      rw [va_up_self, upn (show q ≠ 30 by omega)] at hu_52
      subst hx_52
      subst hQ
      exact W.iret (v := nI n) hx hb hret (fun tq htq hWq => ⟨⟨_, (v3, R3, F3, G3), rfl, ⟨by rw [pNought, if_pos c_5, if_neg (by omega)], by rw [xNought, if_pos c_5, hcq, xNought2, if_pos (by omega)]; exact hu_52⟩, va_K.moved hWq.alike hK, _, _, hZ, by rw [htq]; exact hP⟩, hS.F htq⟩) hS.2.2 dX9_nought_55
    · skip
      refine lv_bipush (v := (-4)) hx hb dX9_nought_23 (by decide) ?_
      subst hQ
      exact W.iret (v := (-4)) hx hb hret (fun tq htq hWq => ⟨⟨_, (v, R, F, G), rfl, ⟨by rw [pNought, if_pos c_5, if_pos (by omega)], by rw [xNought, if_pos c_5, hcq, xNought2, if_neg (fun h => h (by omega))]⟩, va_K.moved hWq.alike hK, _, _, hZ, by rw [htq]; exact hP⟩, hS.F htq⟩) hS.2.2 dX9_nought_25
  · skip
    refine lv_bipush (v := (-2)) hx hb dX9_nought_8 (by decide) ?_
    subst hQ
    exact W.iret (v := (-2)) hx hb hret (fun tq htq hWq => ⟨⟨_, (v, R, F, G), rfl, ⟨by rw [pNought, if_neg c_5], by rw [xNought, if_neg c_5]⟩, va_K.moved hWq.alike hK, _, _, hZ, by rw [htq]; exact hP⟩, hS.F htq⟩) hS.2.2 dX9_nought_10

set_option maxHeartbeats 1000000 in
set_option maxRecDepth 100000 in
/-- unrule -/
theorem x_unrule (l : Launch) (dC : Nat → ClassId) (dI : Nat → Nat → Nat) (aC : Nat → ClassId) (ad cap : Nat → Nat) (hI : xI ad) (v : Nat → Int32) (R : Nat → List Int32) (F : Nat → Nat → Int32) (G : Nat → Nat → Int64) (n : Nat) (hn : v 1 = nI n) (hn8 : n ≤ 8)  : Met l yX9_unrule wsX9_unrule ({ frames := 1, cells := 0, slots := 0, locals := 20 } : Room) (va_Pc [.ref (ad 0)] (XB dC dI aC ad cap (v, R, F, G))) (va_Qi (fun (x : Int32) (u : MS) => x = nI n ∧ (fgv (va_up v 1 (nI 0)), R, F, G) = u) (XB dC dI aC ad cap) (xA ad)) 0 0 (xA ad) := by
  refine Met.ofW (cc := cX9_unrule) (maxL := 2) (ret := (some .int)) (by decide) rfl ?_
  intro p e s m args below meth c s₁ B hml hv
  obtain ⟨rfl, hK, Z, S, hZ, hP⟩ := hv
  have hx := B.exec
  have hb := B.bytes
  have hret := B.returns
  have hts := atoms_spec (ws := wsX9_unrule) B.pre
  have hown : s.vm.findClass RX9 = some m.cls := findClass_of_methodNamed B.named
  have hlocks := B.notSynchronized
  dsimp only at hZ hP
  have lk0 := hts (.fieldLink RX9 10 "LeafTrees" "world" "LLeafTrees$World;") (by decide +kernel)
  have lk1 := hts (.fieldLink RX9 138 "LeafTrees$World" "ruleCount" "I") (by decide +kernel)
  have hin8 : ∀ w ∈ u_ws RX8 TX8 4, w ∈ wsX9_unrule := by decide +kernel
  have hin9 : ∀ w ∈ u_ws RX9 TX9 14, w ∈ wsX9_unrule := by decide +kernel
  have hS : va_S (xA ad) s.heap s.heap [] := va_S.rf
  have hl := lv_entry [.ref (ad 0)] (n := 2) (Nat.le_of_ble_eq_true rfl)
  rw [lg_entry_eq]
  generalize (lg_sl [.ref (ad 0)] ++ List.replicate (2 - (lg_sl [.ref (ad 0)]).length) Slot.unset).toArray = ls at hl ⊢
  have hl : lv_has ls 2 [(0, .ref (ad 0))] := hl
  refine nx_Q (R := ({ frames := 1, cells := 0, slots := 0, locals := 20 } : Room)) (fun Q hQ => ?_)
  refine lv_aload_n hx hb dX9_unrule_0 rfl (lv_at hl 0 rfl) ?_
  refine va_get (D := (dC, dI)) (ci := 9) (C := RX9) (T := TX9) (N := 14) hx hb hts hin9 hown hK hP 0 rfl rfl 0 (by decide) lk0 (fun _ h9 => h9) rfl dX9_unrule_1 ?_
  refine va_get (D := (dC, dI)) (ci := 8) (C := RX8) (T := TX8) (N := 4) hx hb hts hin8 hown hK hP 1 rfl rfl 3 (by decide) lk1 (fun _ h9 => h9) rfl dX9_unrule_4 ?_
  refine nx_ti (y := nI n) (hn) ?_
  refine lv_istore_n (lv' := [(1, .int (nI n)), (0, .ref (ad 0))]) hx hb dX9_unrule_7 rfl hl (by decide) rfl (fun ls hl => ?_)
  refine lv_aload_n hx hb dX9_unrule_8 rfl (lv_at hl 1 rfl) ?_
  refine va_get (D := (dC, dI)) (ci := 9) (C := RX9) (T := TX9) (N := 14) hx hb hts hin9 hown hK hP 0 rfl rfl 0 (by decide) lk0 (fun _ h9 => h9) rfl dX9_unrule_9 ?_
  refine lv_iconst (v := nI 0) hx hb dX9_unrule_12 (by decide) ?_
  refine va_put (D := (dC, dI)) (ci := 8) (v := .int (nI 0)) (ty := .int) (C := RX8) (T := TX8) (N := 4) hx hb hts hin8 tyX8 tyX8_ok nmX8 hown hK hP (wsX_D hI) hS 1 rfl rfl 3 (by decide) lk1 (fun _ h9 => h9) rfl (by decide +kernel) rfl rfl (Nat.le_of_ble_eq_true rfl) dX9_unrule_13 (fun H locs hP _ hS => ?_)
  have hP : va_P (dC, dI) vwCl (wsX aC ad cap (va_up v 1 (nI 0)) Z S F G) H := hP
  refine lv_aload_n hx hb dX9_unrule_16 rfl (lv_at hl 1 rfl) ?_
  refine xc_v (b := ad 0) (As := []) (rest := []) ⟨hx, hb, hml, hown, hts⟩ (x_forget l dC dI aC ad cap hI (va_up v 1 (nI 0)) R F G ) (cwV 0 hts gX9_unrule_X9_forget rfl rfl rfl (by decide +kernel) ⟨Nat.le_of_ble_eq_true rfl, Nat.le_of_ble_eq_true rfl⟩) (xPre (q0 := 0) (ci := 9) rfl rfl hK hZ hP) hS rfl hl.1 rfl (Nat.le_of_ble_eq_true rfl) dX9_unrule_17 ⟨Nat.le_of_ble_eq_true rfl, Nat.le_of_ble_eq_true rfl⟩ (fun v1 R1 F1 G1 Z S H locs h_17 hZ hP hS => ?_)
  cases h_17
  refine lv_iload_n hx hb dX9_unrule_20 rfl (lv_at hl 0 rfl) ?_
  subst hQ
  exact W.iret (v := nI n) hx hb hret (fun tq htq hWq => ⟨⟨_, ((va_up (va_up (va_up (va_up v 1 (nI 0)) 2 (nI 0)) 3 (nI 0)) 5 (nI 0)), R, F, G), rfl, ⟨rfl, rfl⟩, va_K.moved hWq.alike hK, _, _, hZ, by rw [htq]; exact hP⟩, hS.F htq⟩) hS.2.2 dX9_unrule_21

set_option maxHeartbeats 1000000 in
set_option maxRecDepth 100000 in
/-- side -/
theorem x_side (l : Launch) (dC : Nat → ClassId) (dI : Nat → Nat → Nat) (aC : Nat → ClassId) (ad cap : Nat → Nat) (hI : xI ad) (v : Nat → Int32) (R : Nat → List Int32) (F : Nat → Nat → Int32) (G : Nat → Nat → Int64) (n : Nat) (hn : v 1 = nI n) (hn8 : n ≤ 8) (k w to : Int32) : Met l yX9_side wsX9_side ({ frames := 3, cells := 0, slots := 0, locals := 83 } : Room) (va_Pc [.ref (ad 0), .int k, .int w, .int to] (XB dC dI aC ad cap (v, R, F, G))) (va_Qi (fun (x : Int32) (u : MS) => x = (pSide n R k w to).1 ∧ (v, (pSide n R k w to).2, F, G) = u) (XB dC dI aC ad cap) (xA ad)) 0 0 (xA ad) := by
  refine Met.ofW (cc := cX9_side) (maxL := 5) (ret := (some .int)) (by decide) rfl ?_
  intro p e s m args below meth c s₁ B hml hv
  obtain ⟨rfl, hK, Z, S, hZ, hP⟩ := hv
  have hx := B.exec
  have hb := B.bytes
  have hret := B.returns
  have hts := atoms_spec (ws := wsX9_side) B.pre
  have hown : s.vm.findClass RX9 = some m.cls := findClass_of_methodNamed B.named
  have hlocks := B.notSynchronized
  dsimp only at hZ hP
  have lk0 := hts (.fieldLink RX9 10 "LeafTrees" "world" "LLeafTrees$World;") (by decide +kernel)
  have lk1 := hts (.fieldLink RX9 148 "LeafTrees$World" "rules" "[LLeafTrees$Rule;") (by decide +kernel)
  have lk2 := hts (.fieldLink RX9 157 "LeafTrees$Rule" "right" "LLeafTrees$Row;") (by decide +kernel)
  have lk3 := hts (.fieldLink RX9 152 "LeafTrees$Rule" "left" "LLeafTrees$Row;") (by decide +kernel)
  have hin4 : ∀ w ∈ u_ws RX4 TX4 3, w ∈ wsX9_side := by decide +kernel
  have hin8 : ∀ w ∈ u_ws RX8 TX8 4, w ∈ wsX9_side := by decide +kernel
  have hin9 : ∀ w ∈ u_ws RX9 TX9 14, w ∈ wsX9_side := by decide +kernel
  have hS : va_S (xA ad) s.heap s.heap [] := va_S.rf
  have hl := lv_entry [.ref (ad 0), .int k, .int w, .int to] (n := 5) (Nat.le_of_ble_eq_true rfl)
  rw [lg_entry_eq]
  generalize (lg_sl [.ref (ad 0), .int k, .int w, .int to] ++ List.replicate (5 - (lg_sl [.ref (ad 0), .int k, .int w, .int to]).length) Slot.unset).toArray = ls at hl ⊢
  have hl : lv_has ls 5 [(0, .ref (ad 0)), (1, .int k), (2, .int w), (3, .int to)] := hl
  refine nx_Q (R := ({ frames := 3, cells := 0, slots := 0, locals := 83 } : Room)) (fun Q hQ => ?_)
  refine lv_aload_n hx hb dX9_side_0 rfl (lv_at hl 0 rfl) ?_
  refine va_get (D := (dC, dI)) (ci := 9) (C := RX9) (T := TX9) (N := 14) hx hb hts hin9 hown hK hP 0 rfl rfl 0 (by decide) lk0 (fun _ h9 => h9) rfl dX9_side_1 ?_
  refine lv_iload_n hx hb dX9_side_4 rfl (lv_at hl 1 rfl) ?_
  refine xp_i (b := ad 1) (As := [.int k]) (rest := []) ⟨hx, hb, hml, hown, hts⟩ (x_isRule l dC dI aC ad cap v R F G n hn hn8 k) (cwV 1 hts gX9_side_X8_isRule rfl rfl rfl (by decide +kernel) ⟨Nat.le_of_ble_eq_true rfl, Nat.le_of_ble_eq_true rfl⟩) (xPre (q0 := 1) (ci := 8) rfl rfl hK hZ hP) rfl hl.1 rfl (Nat.le_of_ble_eq_true rfl) dX9_side_5 ⟨Nat.le_of_ble_eq_true rfl, Nat.le_of_ble_eq_true rfl⟩ (fun x_5 h_5 => ?_)
  refine nx_ti (y := bI (rIn k n)) h_5 ?_
  refine nx_bz (tgt := 27) hx hb dX9_side_8 (by decide) (fun c_8 => ?_) (fun c_8 => ?_)
  · skip
    refine lv_bipush (v := (-2)) hx hb dX9_side_27 (by decide) ?_
    subst hQ
    exact W.iret (v := (-2)) hx hb hret (fun tq htq hWq => ⟨⟨_, (v, R, F, G), rfl, by rw [pSide, if_neg (fun h => c_8 h.1)]; exact ⟨rfl, rfl⟩, va_K.moved hWq.alike hK, _, _, hZ, by rw [htq]; exact hP⟩, hS.F htq⟩) hS.2.2 dX9_side_29
  · skip
    refine lv_iload_n hx hb dX9_side_11 rfl (lv_at hl 2 rfl) ?_
    refine lv_if_lt (tgt := 27) hx hb dX9_side_12 (by decide) (fun c_12 => ?_) (fun c_12 => ?_)
    · skip
      refine lv_bipush (v := (-2)) hx hb dX9_side_27 (by decide) ?_
      subst hQ
      exact W.iret (v := (-2)) hx hb hret (fun tq htq hWq => ⟨⟨_, (v, R, F, G), rfl, by rw [pSide, if_neg (fun h => ((rIn_w (n := 1) (by decide)).mpr h.2.1).1 c_12)]; exact ⟨rfl, rfl⟩, va_K.moved hWq.alike hK, _, _, hZ, by rw [htq]; exact hP⟩, hS.F htq⟩) hS.2.2 dX9_side_29
    · skip
      refine lv_iload_n hx hb dX9_side_15 rfl (lv_at hl 2 rfl) ?_
      refine lv_iconst (v := nI 1) hx hb dX9_side_16 (by decide) ?_
      refine lv_icmp_gt (tgt := 27) hx hb dX9_side_17 (by decide) (fun c_17 => ?_) (fun c_17 => ?_)
      · skip
        refine lv_bipush (v := (-2)) hx hb dX9_side_27 (by decide) ?_
        subst hQ
        exact W.iret (v := (-2)) hx hb hret (fun tq htq hWq => ⟨⟨_, (v, R, F, G), rfl, by rw [pSide, if_neg (fun h => Int32.not_lt.mpr ((rIn_w (n := 1) (by decide)).mpr h.2.1).2 c_17)]; exact ⟨rfl, rfl⟩, va_K.moved hWq.alike hK, _, _, hZ, by rw [htq]; exact hP⟩, hS.F htq⟩) hS.2.2 dX9_side_29
      · skip
        refine lv_iload_n hx hb dX9_side_20 rfl (lv_at hl 3 rfl) ?_
        refine ms_i (As := [.int to]) (rest := []) ⟨hx, hb, hml, hown, hts⟩ (x_isRow l to) (va_cwS 1 hts gX9_side_X9_isRow rfl rfl rfl (by decide +kernel) ⟨Nat.le_of_ble_eq_true rfl, Nat.le_of_ble_eq_true rfl⟩) rfl hl.1 rfl (Nat.le_of_ble_eq_true rfl) dX9_side_21 ⟨Nat.le_of_ble_eq_true rfl, Nat.le_of_ble_eq_true rfl⟩ (fun x_21 h_21 => ?_)
        subst h_21
        refine nx_bn (tgt := 30) hx hb dX9_side_24 (by decide) (fun c_24 => ?_) (fun c_24 => ?_)
        · skip
          have hw2 := (rIn_w (n := 1) (by decide)).mp ⟨c_12, Int32.not_lt.mp c_17⟩
          obtain ⟨j, hj, rfl⟩ := rIn_of c_8 (by omega)
          obtain ⟨i, hi, rfl⟩ := rIn_of hw2 (by decide)
          obtain ⟨r, hr, rfl⟩ := rIn_of c_24 (by decide)
          have hcj := nI_clamp (n := j) (by omega)
          have hcr := nI_clamp (n := r) (by omega)
          refine lv_aload_n hx hb dX9_side_30 rfl (lv_at hl 0 rfl) ?_
          refine va_get (D := (dC, dI)) (ci := 9) (C := RX9) (T := TX9) (N := 14) hx hb hts hin9 hown hK hP 0 rfl rfl 0 (by decide) lk0 (fun _ h9 => h9) rfl dX9_side_31 ?_
          refine va_get (D := (dC, dI)) (ci := 8) (C := RX8) (T := TX8) (N := 4) hx hb hts hin8 hown hK hP 1 rfl rfl 2 (by decide) lk1 (fun _ h9 => h9) rfl dX9_side_34 ?_
          refine lv_iload_n hx hb dX9_side_37 rfl (lv_at hl 1 rfl) ?_
          refine nx_aald (C := "LeafTrees$Rule") hx hb hK hP 11 4 rfl rfl (i := j) (by omega) (by decide) (show xRules ad j = some (ad (50 + j)) from if_pos (by omega)) dX9_side_38 ?_
          refine lv_astore (lv' := [(4, .ref (ad (50 + j))), (0, .ref (ad 0)), (1, .int (nI j)), (2, .int (nI i)), (3, .int (nI r))]) hx hb dX9_side_39 hl (by decide) rfl (fun ls hl => ?_)
          refine lv_aload_n hx hb dX9_side_41 rfl (lv_at hl 1 rfl) ?_
          refine lv_iload_n hx hb dX9_side_42 rfl (lv_at hl 3 rfl) ?_
          refine nx_if_ne (tgt := 54) hx hb dX9_side_43 (by decide) (by omega) (fun c_43 => ?_) (fun c_43 => ?_)
          · skip
            refine lv_aload hx hb dX9_side_54 (lv_at hl 0 rfl) ?_
            refine va_get (D := (dC, dI)) (ci := 4) (C := RX4) (T := TX4) (N := 3) hx hb hts hin4 hown hK hP (50 + j) (xw_ru j (by omega)) rfl 1 (by decide) lk2 (fun _ h9 => h9) rfl dX9_side_56 ?_
            refine lv_iload_n hx hb dX9_side_59 rfl (lv_at hl 4 rfl) ?_
            refine xc_i (b := ad 0) (As := [.ref (ad (58 + 2 * (18 + j))), .int (nI r)]) (rest := []) ⟨hx, hb, hml, hown, hts⟩ (x_bring l dC dI aC ad cap hI v R F G (18 + j) (by omega) r hr (by omega)) (cwV 2 hts gX9_side_X9_bring rfl rfl rfl (by decide +kernel) ⟨Nat.le_of_ble_eq_true rfl, Nat.le_of_ble_eq_true rfl⟩) (xPre (q0 := 0) (ci := 9) rfl rfl hK hZ hP) hS rfl hl.1 rfl (Nat.le_of_ble_eq_true rfl) dX9_side_60 ⟨Nat.le_of_ble_eq_true rfl, Nat.le_of_ble_eq_true rfl⟩ (fun x_60 v1 R1 F1 G1 Z S H locs h_60 hZ hP hS => ?_)
            obtain ⟨hx_60, hu_60⟩ := h_60
            subst hx_60
            cases hu_60
            subst hQ
            exact W.iret (v := nI (R (18 + j)).length) hx hb hret (fun tq htq hWq => ⟨⟨_, (v, va_up R r (R (18 + j)), F, G), rfl, by rw [pSide, if_pos ⟨c_8, hw2, c_24⟩, hcj, hcr, if_neg (fun h => c_43 ((nz_eq (by omega)).mp h))]; exact ⟨rfl, rfl⟩, va_K.moved hWq.alike hK, _, _, hZ, by rw [htq]; exact hP⟩, hS.F htq⟩) hS.2.2 dX9_side_63
          · skip
            refine lv_aload hx hb dX9_side_46 (lv_at hl 0 rfl) ?_
            refine va_get (D := (dC, dI)) (ci := 4) (C := RX4) (T := TX4) (N := 3) hx hb hts hin4 hown hK hP (50 + j) (xw_ru j (by omega)) rfl 0 (by decide) lk3 (fun _ h9 => h9) rfl dX9_side_48 ?_
            refine lv_goto (tgt := 59) hx hb dX9_side_51 (by decide) ?_
            refine lv_iload_n hx hb dX9_side_59 rfl (lv_at hl 4 rfl) ?_
            refine xc_i (b := ad 0) (As := [.ref (ad (58 + 2 * (10 + j))), .int (nI r)]) (rest := []) ⟨hx, hb, hml, hown, hts⟩ (x_bring l dC dI aC ad cap hI v R F G (10 + j) (by omega) r hr (by omega)) (cwV 2 hts gX9_side_X9_bring rfl rfl rfl (by decide +kernel) ⟨Nat.le_of_ble_eq_true rfl, Nat.le_of_ble_eq_true rfl⟩) (xPre (q0 := 0) (ci := 9) rfl rfl hK hZ hP) hS rfl hl.1 rfl (Nat.le_of_ble_eq_true rfl) dX9_side_60 ⟨Nat.le_of_ble_eq_true rfl, Nat.le_of_ble_eq_true rfl⟩ (fun x_60 v2 R2 F2 G2 Z S H locs h_60 hZ hP hS => ?_)
            obtain ⟨hx_60, hu_60⟩ := h_60
            subst hx_60
            cases hu_60
            subst hQ
            exact W.iret (v := nI (R (10 + j)).length) hx hb hret (fun tq htq hWq => ⟨⟨_, (v, va_up R r (R (10 + j)), F, G), rfl, by rw [pSide, if_pos ⟨c_8, hw2, c_24⟩, hcj, hcr, if_pos ((nz_eq (by omega)).mpr c_43)]; exact ⟨rfl, rfl⟩, va_K.moved hWq.alike hK, _, _, hZ, by rw [htq]; exact hP⟩, hS.F htq⟩) hS.2.2 dX9_side_63
        · skip
          refine lv_bipush (v := (-2)) hx hb dX9_side_27 (by decide) ?_
          subst hQ
          exact W.iret (v := (-2)) hx hb hret (fun tq htq hWq => ⟨⟨_, (v, R, F, G), rfl, by rw [pSide, if_neg (fun h => c_24 h.2.2)]; exact ⟨rfl, rfl⟩, va_K.moved hWq.alike hK, _, _, hZ, by rw [htq]; exact hP⟩, hS.F htq⟩) hS.2.2 dX9_side_29

set_option maxHeartbeats 1000000 in
set_option maxRecDepth 100000 in
/-- matches -/
theorem x_matches (l : Launch) (dC : Nat → ClassId) (dI : Nat → Nat → Nat) (aC : Nat → ClassId) (ad cap : Nat → Nat) (hI : xI ad) (v : Nat → Int32) (R : Nat → List Int32) (F : Nat → Nat → Int32) (G : Nat → Nat → Int64) (A : Nat) (hE : vE A (F 0)) (hA : v 0 = nI A) (hV : ∀ r, r < 10 → vR A (R r)) (n : Nat) (hn : v 1 = nI n) (hn8 : n ≤ 8) (k a : Int32) : Met l yX9_matches wsX9_matches ({ frames := 4, cells := 0, slots := 0, locals := 96 } : Room) (va_Pc [.ref (ad 0), .int k, .int a] (XB dC dI aC ad cap (v, R, F, G))) (va_Qi (fun (x : Int32) (u : MS) => ∃ f c1, (v, R, va_up (va_up F 2 f) 3 c1, G) = u ∧ x = pMatches (F 0) R n k a) (XB dC dI aC ad cap) (xA ad)) 0 0 (xA ad) := by
  refine Met.ofW (cc := cX9_matches) (maxL := 3) (ret := (some .int)) (by decide) rfl ?_
  intro p e s m args below meth c s₁ B hml hv
  obtain ⟨rfl, hK, Z, S, hZ, hP⟩ := hv
  have hx := B.exec
  have hb := B.bytes
  have hret := B.returns
  have hts := atoms_spec (ws := wsX9_matches) B.pre
  have hown : s.vm.findClass RX9 = some m.cls := findClass_of_methodNamed B.named
  have hlocks := B.notSynchronized
  dsimp only at hZ hP
  have lk0 := hts (.fieldLink RX9 10 "LeafTrees" "world" "LLeafTrees$World;") (by decide +kernel)
  have lk1 := hts (.fieldLink RX9 37 "LeafTrees" "rewriter" "LLeafTrees$Rewriter;") (by decide +kernel)
  have lk2 := hts (.fieldLink RX9 148 "LeafTrees$World" "rules" "[LLeafTrees$Rule;") (by decide +kernel)
  have lk3 := hts (.fieldLink RX9 18 "LeafTrees" "rows" "[LLeafTrees$Row;") (by decide +kernel)
  have hin8 : ∀ w ∈ u_ws RX8 TX8 4, w ∈ wsX9_matches := by decide +kernel
  have hin9 : ∀ w ∈ u_ws RX9 TX9 14, w ∈ wsX9_matches := by decide +kernel
  have hS : va_S (xA ad) s.heap s.heap [] := va_S.rf
  have hl := lv_entry [.ref (ad 0), .int k, .int a] (n := 3) (Nat.le_of_ble_eq_true rfl)
  rw [lg_entry_eq]
  generalize (lg_sl [.ref (ad 0), .int k, .int a] ++ List.replicate (3 - (lg_sl [.ref (ad 0), .int k, .int a]).length) Slot.unset).toArray = ls at hl ⊢
  have hl : lv_has ls 3 [(0, .ref (ad 0)), (1, .int k), (2, .int a)] := hl
  refine nx_Q (R := ({ frames := 4, cells := 0, slots := 0, locals := 96 } : Room)) (fun Q hQ => ?_)
  refine lv_aload_n hx hb dX9_matches_0 rfl (lv_at hl 0 rfl) ?_
  refine va_get (D := (dC, dI)) (ci := 9) (C := RX9) (T := TX9) (N := 14) hx hb hts hin9 hown hK hP 0 rfl rfl 0 (by decide) lk0 (fun _ h9 => h9) rfl dX9_matches_1 ?_
  refine lv_iload_n hx hb dX9_matches_4 rfl (lv_at hl 1 rfl) ?_
  refine xp_i (b := ad 1) (As := [.int k]) (rest := []) ⟨hx, hb, hml, hown, hts⟩ (x_isRule l dC dI aC ad cap v R F G n hn hn8 k) (cwV 1 hts gX9_matches_X8_isRule rfl rfl rfl (by decide +kernel) ⟨Nat.le_of_ble_eq_true rfl, Nat.le_of_ble_eq_true rfl⟩) (xPre (q0 := 1) (ci := 8) rfl rfl hK hZ hP) rfl hl.1 rfl (Nat.le_of_ble_eq_true rfl) dX9_matches_5 ⟨Nat.le_of_ble_eq_true rfl, Nat.le_of_ble_eq_true rfl⟩ (fun x_5 h_5 => ?_)
  refine nx_ti (y := bI (rIn k n)) h_5 ?_
  refine nx_bz (tgt := 19) hx hb dX9_matches_8 (by decide) (fun c_8 => ?_) (fun c_8 => ?_)
  · skip
    refine lv_bipush (v := (-2)) hx hb dX9_matches_19 (by decide) ?_
    subst hQ
    exact W.iret (v := (-2)) hx hb hret (fun tq htq hWq => ⟨⟨_, (v, R, F, G), rfl, ⟨F 2, F 3, by rw [up_eta2], by rw [pMatches, if_neg (fun h => c_8 h.1)]⟩, va_K.moved hWq.alike hK, _, _, hZ, by rw [htq]; exact hP⟩, hS.F htq⟩) hS.2.2 dX9_matches_21
  · skip
    refine lv_aload_n hx hb dX9_matches_11 rfl (lv_at hl 0 rfl) ?_
    refine lv_iload_n hx hb dX9_matches_12 rfl (lv_at hl 2 rfl) ?_
    refine xp_i (b := ad 0) (As := [.int a]) (rest := []) ⟨hx, hb, hml, hown, hts⟩ (x_isTreeRow l dC dI aC ad cap v R F G A hE hA a hV) (cwV 1 hts gX9_matches_X9_isTreeRow rfl rfl rfl (by decide +kernel) ⟨Nat.le_of_ble_eq_true rfl, Nat.le_of_ble_eq_true rfl⟩) (xPre (q0 := 0) (ci := 9) rfl rfl hK hZ hP) rfl hl.1 rfl (Nat.le_of_ble_eq_true rfl) dX9_matches_13 ⟨Nat.le_of_ble_eq_true rfl, Nat.le_of_ble_eq_true rfl⟩ (fun x_13 h_13 => ?_)
    refine nx_ti (y := bI (tr (F 0) R a)) h_13 ?_
    refine nx_bn (tgt := 22) hx hb dX9_matches_16 (by decide) (fun c_16 => ?_) (fun c_16 => ?_)
    · skip
      obtain ⟨j, hj, rfl⟩ := rIn_of c_8 (by omega)
      obtain ⟨r, hr, rfl⟩ := rIn_of c_16.1 (by decide)
      have hcj := nI_clamp (n := j) (by omega)
      have hcr := nI_clamp (n := r) (by omega)
      have hTr : isT (F 0) (R r) := by have h9 := c_16.2; rw [hcr] at h9; exact h9
      refine lv_aload_n hx hb dX9_matches_22 rfl (lv_at hl 0 rfl) ?_
      refine va_get (D := (dC, dI)) (ci := 9) (C := RX9) (T := TX9) (N := 14) hx hb hts hin9 hown hK hP 0 rfl rfl 4 (by decide) lk1 (fun _ h9 => h9) rfl dX9_matches_23 ?_
      refine lv_aload_n hx hb dX9_matches_26 rfl (lv_at hl 0 rfl) ?_
      refine va_get (D := (dC, dI)) (ci := 9) (C := RX9) (T := TX9) (N := 14) hx hb hts hin9 hown hK hP 0 rfl rfl 0 (by decide) lk0 (fun _ h9 => h9) rfl dX9_matches_27 ?_
      refine lv_aload_n hx hb dX9_matches_30 rfl (lv_at hl 0 rfl) ?_
      refine va_get (D := (dC, dI)) (ci := 9) (C := RX9) (T := TX9) (N := 14) hx hb hts hin9 hown hK hP 0 rfl rfl 0 (by decide) lk0 (fun _ h9 => h9) rfl dX9_matches_31 ?_
      refine va_get (D := (dC, dI)) (ci := 8) (C := RX8) (T := TX8) (N := 4) hx hb hts hin8 hown hK hP 1 rfl rfl 2 (by decide) lk2 (fun _ h9 => h9) rfl dX9_matches_34 ?_
      refine lv_iload_n hx hb dX9_matches_37 rfl (lv_at hl 1 rfl) ?_
      refine nx_aald (C := "LeafTrees$Rule") hx hb hK hP 11 4 rfl rfl (i := j) (by omega) (by decide) (show xRules ad j = some (ad (50 + j)) from if_pos (by omega)) dX9_matches_38 ?_
      refine lv_aload_n hx hb dX9_matches_39 rfl (lv_at hl 0 rfl) ?_
      refine va_get (D := (dC, dI)) (ci := 9) (C := RX9) (T := TX9) (N := 14) hx hb hts hin9 hown hK hP 0 rfl rfl 1 (by decide) lk3 (fun _ h9 => h9) rfl dX9_matches_40 ?_
      refine lv_iload_n hx hb dX9_matches_43 rfl (lv_at hl 2 rfl) ?_
      refine nx_aald (C := "LeafTrees$Row") hx hb hK hP 2 3 rfl rfl (i := r) (by omega) (by decide) (show xRows ad r = some (ad (58 + 2 * r)) from if_pos (by omega)) dX9_matches_44 ?_
      refine xc_i (b := ad 4) (As := [.ref (ad 1), .ref (ad (50 + j)), .ref (ad (58 + 2 * r))]) (rest := []) ⟨hx, hb, hml, hown, hts⟩ (x_firstPlace l dC dI aC ad cap hI v R F G A hE hA j (by omega) r (by omega) (hV r hr) hTr) (cwV 3 hts gX9_matches_X2_firstPlace rfl rfl rfl (by decide +kernel) ⟨Nat.le_of_ble_eq_true rfl, Nat.le_of_ble_eq_true rfl⟩) (xPre (q0 := 4) (ci := 2) rfl rfl hK hZ hP) hS rfl hl.1 rfl (Nat.le_of_ble_eq_true rfl) dX9_matches_45 ⟨Nat.le_of_ble_eq_true rfl, Nat.le_of_ble_eq_true rfl⟩ (fun x_45 v1 R1 F1 G1 Z S H locs h_45 hZ hP hS => ?_)
      obtain ⟨la, lb, hu, hxx⟩ := h_45
      subst hxx
      subst hQ
      exact W.iret (v := fpR (F 0) (R (10 + j)) (R r)) hx hb hret (fun tq htq hWq => ⟨⟨_, (v1, R1, F1, G1), rfl, ⟨la, lb, hu, by rw [pMatches, if_pos ⟨c_8, c_16⟩, hcj, hcr]⟩, va_K.moved hWq.alike hK, _, _, hZ, by rw [htq]; exact hP⟩, hS.F htq⟩) hS.2.2 dX9_matches_48
    · skip
      refine lv_bipush (v := (-2)) hx hb dX9_matches_19 (by decide) ?_
      subst hQ
      exact W.iret (v := (-2)) hx hb hret (fun tq htq hWq => ⟨⟨_, (v, R, F, G), rfl, ⟨F 2, F 3, by rw [up_eta2], by rw [pMatches, if_neg (fun h => c_16 h.2)]⟩, va_K.moved hWq.alike hK, _, _, hZ, by rw [htq]; exact hP⟩, hS.F htq⟩) hS.2.2 dX9_matches_21

set_option maxHeartbeats 1000000 in
set_option maxRecDepth 100000 in
/-- step -/
theorem x_step (l : Launch) (dC : Nat → ClassId) (dI : Nat → Nat → Nat) (aC : Nat → ClassId) (ad cap : Nat → Nat) (hI : xI ad) (v : Nat → Int32) (R : Nat → List Int32) (F : Nat → Nat → Int32) (G : Nat → Nat → Int64) (A : Nat) (hE : vE A (F 0)) (hA : v 0 = nI A) (n : Nat) (hn : v 1 = nI n) (hn8 : n ≤ 8) (hrl : rlT (F 0) R n (tnX v)) (hl0 : ∀ j, j < n → ¬ gD (R (10 + j)) 0 = -1) (hV : ∀ r, r < 10 → vR A (R r)) (a : Int32) : Met l yX9_step wsX9_step ({ frames := 4, cells := 0, slots := 0, locals := 114 } : Room) (va_Pc [.ref (ad 0), .int a] (XB dC dI aC ad cap (v, R, F, G))) (va_Qi (fun (x : Int32) (u : MS) => ∃ f c1 R1, (v, R1, va_up (va_up F 2 f) 3 c1, G) = u ∧ (∀ k, k < 26 → R1 k = uStep (F 0) R n (tnX v) a k) ∧ x = pStep (F 0) R n (tnX v) a) (XB dC dI aC ad cap) (xA ad)) 0 0 (xA ad) := by
  refine Met.ofW (cc := cX9_step) (maxL := 2) (ret := (some .int)) (by decide) rfl ?_
  intro p e s m args below meth c s₁ B hml hv
  obtain ⟨rfl, hK, Z, S, hZ, hP⟩ := hv
  have hx := B.exec
  have hb := B.bytes
  have hret := B.returns
  have hts := atoms_spec (ws := wsX9_step) B.pre
  have hown : s.vm.findClass RX9 = some m.cls := findClass_of_methodNamed B.named
  have hlocks := B.notSynchronized
  dsimp only at hZ hP
  have lk0 := hts (.fieldLink RX9 37 "LeafTrees" "rewriter" "LLeafTrees$Rewriter;") (by decide +kernel)
  have lk1 := hts (.fieldLink RX9 10 "LeafTrees" "world" "LLeafTrees$World;") (by decide +kernel)
  have lk2 := hts (.fieldLink RX9 18 "LeafTrees" "rows" "[LLeafTrees$Row;") (by decide +kernel)
  have hin9 : ∀ w ∈ u_ws RX9 TX9 14, w ∈ wsX9_step := by decide +kernel
  have hS : va_S (xA ad) s.heap s.heap [] := va_S.rf
  have hl := lv_entry [.ref (ad 0), .int a] (n := 2) (Nat.le_of_ble_eq_true rfl)
  rw [lg_entry_eq]
  generalize (lg_sl [.ref (ad 0), .int a] ++ List.replicate (2 - (lg_sl [.ref (ad 0), .int a]).length) Slot.unset).toArray = ls at hl ⊢
  have hl : lv_has ls 2 [(0, .ref (ad 0)), (1, .int a)] := hl
  refine nx_Q (R := ({ frames := 4, cells := 0, slots := 0, locals := 114 } : Room)) (fun Q hQ => ?_)
  refine lv_aload_n hx hb dX9_step_0 rfl (lv_at hl 0 rfl) ?_
  refine lv_iload_n hx hb dX9_step_1 rfl (lv_at hl 1 rfl) ?_
  refine xp_i (b := ad 0) (As := [.int a]) (rest := []) ⟨hx, hb, hml, hown, hts⟩ (x_isTreeRow l dC dI aC ad cap v R F G A hE hA a hV) (cwV 1 hts gX9_step_X9_isTreeRow rfl rfl rfl (by decide +kernel) ⟨Nat.le_of_ble_eq_true rfl, Nat.le_of_ble_eq_true rfl⟩) (xPre (q0 := 0) (ci := 9) rfl rfl hK hZ hP) rfl hl.1 rfl (Nat.le_of_ble_eq_true rfl) dX9_step_2 ⟨Nat.le_of_ble_eq_true rfl, Nat.le_of_ble_eq_true rfl⟩ (fun x_2 h_2 => ?_)
  refine nx_ti (y := bI (tr (F 0) R a)) h_2 ?_
  refine nx_bn (tgt := 11) hx hb dX9_step_5 (by decide) (fun c_5 => ?_) (fun c_5 => ?_)
  · skip
    obtain ⟨r, hr, rfl⟩ := rIn_of c_5.1 (by decide)
    have hcr := nI_clamp (n := r) (by omega)
    have hTr : isT (F 0) (R r) := by have h9 := c_5.2; rw [hcr] at h9; exact h9
    refine lv_aload_n hx hb dX9_step_11 rfl (lv_at hl 0 rfl) ?_
    refine va_get (D := (dC, dI)) (ci := 9) (C := RX9) (T := TX9) (N := 14) hx hb hts hin9 hown hK hP 0 rfl rfl 4 (by decide) lk0 (fun _ h9 => h9) rfl dX9_step_12 ?_
    refine lv_aload_n hx hb dX9_step_15 rfl (lv_at hl 0 rfl) ?_
    refine va_get (D := (dC, dI)) (ci := 9) (C := RX9) (T := TX9) (N := 14) hx hb hts hin9 hown hK hP 0 rfl rfl 0 (by decide) lk1 (fun _ h9 => h9) rfl dX9_step_16 ?_
    refine lv_aload_n hx hb dX9_step_19 rfl (lv_at hl 0 rfl) ?_
    refine va_get (D := (dC, dI)) (ci := 9) (C := RX9) (T := TX9) (N := 14) hx hb hts hin9 hown hK hP 0 rfl rfl 1 (by decide) lk2 (fun _ h9 => h9) rfl dX9_step_20 ?_
    refine lv_iload_n hx hb dX9_step_23 rfl (lv_at hl 1 rfl) ?_
    refine nx_aald (C := "LeafTrees$Row") hx hb hK hP 2 3 rfl rfl (i := r) (by omega) (by decide) (show xRows ad r = some (ad (58 + 2 * r)) from if_pos (by omega)) dX9_step_24 ?_
    refine xc_i (b := ad 4) (As := [.ref (ad 1), .ref (ad (58 + 2 * r))]) (rest := []) ⟨hx, hb, hml, hown, hts⟩ (x_advance l dC dI aC ad cap hI v R F G A hE hA n hn hn8 hrl hl0 r (by omega) (by omega) (hV r hr) hTr) (cwV 2 hts gX9_step_X2_advance rfl rfl rfl (by decide +kernel) ⟨Nat.le_of_ble_eq_true rfl, Nat.le_of_ble_eq_true rfl⟩) (xPre (q0 := 4) (ci := 2) rfl rfl hK hZ hP) hS rfl hl.1 rfl (Nat.le_of_ble_eq_true rfl) dX9_step_25 ⟨Nat.le_of_ble_eq_true rfl, Nat.le_of_ble_eq_true rfl⟩ (fun x_25 v1 R1 F1 G1 Z S H locs h_25 hZ hP hS => ?_)
    obtain ⟨la, lb, M0, hu_25, hx_25⟩ := h_25
    subst hx_25
    subst hQ
    exact W.iret (v := (stepL (F 0) R n (tnX v) (R r)).1) hx hb hret (fun tq htq hWq => ⟨⟨_, (v1, R1, F1, G1), rfl, ⟨la, lb, _, hu_25, fun k hk => by rw [uStep, if_pos c_5, hcr, up_swap (show 28 ≠ r by omega), upn (show k ≠ 28 by omega)], by rw [pStep, if_pos c_5, hcr]⟩, va_K.moved hWq.alike hK, _, _, hZ, by rw [htq]; exact hP⟩, hS.F htq⟩) hS.2.2 dX9_step_28
  · skip
    refine lv_bipush (v := (-2)) hx hb dX9_step_8 (by decide) ?_
    subst hQ
    exact W.iret (v := (-2)) hx hb hret (fun tq htq hWq => ⟨⟨_, (v, R, F, G), rfl, ⟨F 2, F 3, R, by rw [up_eta2], fun k _ => by rw [uStep, if_neg c_5], by rw [pStep, if_neg c_5]⟩, va_K.moved hWq.alike hK, _, _, hZ, by rw [htq]; exact hP⟩, hS.F htq⟩) hS.2.2 dX9_step_10

set_option maxHeartbeats 1000000 in
set_option maxRecDepth 100000 in
/-- normal -/
theorem x_normal (l : Launch) (dC : Nat → ClassId) (dI : Nat → Nat → Nat) (aC : Nat → ClassId) (ad cap : Nat → Nat) (hI : xI ad) (v : Nat → Int32) (R : Nat → List Int32) (F : Nat → Nat → Int32) (G : Nat → Nat → Int64) (A : Nat) (hE : vE A (F 0)) (hA : v 0 = nI A) (n : Nat) (hn : v 1 = nI n) (hn8 : n ≤ 8) (hrl : rlT (F 0) R n (tnX v)) (hl0 : ∀ j, j < n → ¬ gD (R (10 + j)) 0 = -1) (hV : ∀ r, r < 10 → vR A (R r)) (hV2 : ∀ j, j < n → vR A (R (18 + j))) (a : Int32) : Met l yX9_normal wsX9_normal ({ frames := 5, cells := 0, slots := 0, locals := 138 } : Room) (va_Pc [.ref (ad 0), .int a] (XB dC dI aC ad cap (v, R, F, G))) (va_Qi (fun (x : Int32) (u : MS) => ∃ f c1 R1, (v, R1, va_up (va_up F 2 f) 3 c1, G) = u ∧ (∀ k, k < 26 → R1 k = uNormal (F 0) R n (tnX v) a k) ∧ x = pNormal (F 0) R n (tnX v) a) (XB dC dI aC ad cap) (xA ad)) 0 0 (xA ad) := by
  refine Met.ofW (cc := cX9_normal) (maxL := 3) (ret := (some .int)) (by decide) rfl ?_
  intro p e s m args below meth c s₁ B hml hv
  obtain ⟨rfl, hK, Z, S, hZ, hP⟩ := hv
  have hx := B.exec
  have hb := B.bytes
  have hret := B.returns
  have hts := atoms_spec (ws := wsX9_normal) B.pre
  have hown : s.vm.findClass RX9 = some m.cls := findClass_of_methodNamed B.named
  have hlocks := B.notSynchronized
  dsimp only at hZ hP
  have lk0 := hts (.fieldLink RX9 23 "LeafTrees" "work" "LLeafTrees$Row;") (by decide +kernel)
  have lk1 := hts (.fieldLink RX9 18 "LeafTrees" "rows" "[LLeafTrees$Row;") (by decide +kernel)
  have lk2 := hts (.fieldLink RX9 37 "LeafTrees" "rewriter" "LLeafTrees$Rewriter;") (by decide +kernel)
  have lk3 := hts (.fieldLink RX9 10 "LeafTrees" "world" "LLeafTrees$World;") (by decide +kernel)
  have hin9 : ∀ w ∈ u_ws RX9 TX9 14, w ∈ wsX9_normal := by decide +kernel
  have hS : va_S (xA ad) s.heap s.heap [] := va_S.rf
  have hl := lv_entry [.ref (ad 0), .int a] (n := 3) (Nat.le_of_ble_eq_true rfl)
  rw [lg_entry_eq]
  generalize (lg_sl [.ref (ad 0), .int a] ++ List.replicate (3 - (lg_sl [.ref (ad 0), .int a]).length) Slot.unset).toArray = ls at hl ⊢
  have hl : lv_has ls 3 [(0, .ref (ad 0)), (1, .int a)] := hl
  refine nx_Q (R := ({ frames := 5, cells := 0, slots := 0, locals := 138 } : Room)) (fun Q hQ => ?_)
  refine lv_aload_n hx hb dX9_normal_0 rfl (lv_at hl 0 rfl) ?_
  refine lv_iload_n hx hb dX9_normal_1 rfl (lv_at hl 1 rfl) ?_
  refine xp_i (b := ad 0) (As := [.int a]) (rest := []) ⟨hx, hb, hml, hown, hts⟩ (x_isTreeRow l dC dI aC ad cap v R F G A hE hA a hV) (cwV 1 hts gX9_normal_X9_isTreeRow rfl rfl rfl (by decide +kernel) ⟨Nat.le_of_ble_eq_true rfl, Nat.le_of_ble_eq_true rfl⟩) (xPre (q0 := 0) (ci := 9) rfl rfl hK hZ hP) rfl hl.1 rfl (Nat.le_of_ble_eq_true rfl) dX9_normal_2 ⟨Nat.le_of_ble_eq_true rfl, Nat.le_of_ble_eq_true rfl⟩ (fun x_2 h_2 => ?_)
  refine nx_ti (y := bI (tr (F 0) R a)) h_2 ?_
  refine nx_bn (tgt := 11) hx hb dX9_normal_5 (by decide) (fun c_5 => ?_) (fun c_5 => ?_)
  · skip
    obtain ⟨r, hr, rfl⟩ := rIn_of c_5.1 (by decide)
    have hcr := nI_clamp (n := r) (by omega)
    have hTr : isT (F 0) (R r) := by have h9 := c_5.2; rw [hcr] at h9; exact h9
    refine lv_aload_n hx hb dX9_normal_11 rfl (lv_at hl 0 rfl) ?_
    refine va_get (D := (dC, dI)) (ci := 9) (C := RX9) (T := TX9) (N := 14) hx hb hts hin9 hown hK hP 0 rfl rfl 2 (by decide) lk0 (fun _ h9 => h9) rfl dX9_normal_12 ?_
    refine lv_aload_n hx hb dX9_normal_15 rfl (lv_at hl 0 rfl) ?_
    refine va_get (D := (dC, dI)) (ci := 9) (C := RX9) (T := TX9) (N := 14) hx hb hts hin9 hown hK hP 0 rfl rfl 1 (by decide) lk1 (fun _ h9 => h9) rfl dX9_normal_16 ?_
    refine lv_iload_n hx hb dX9_normal_19 rfl (lv_at hl 1 rfl) ?_
    refine nx_aald (C := "LeafTrees$Row") hx hb hK hP 2 3 rfl rfl (i := r) (by omega) (by decide) (show xRows ad r = some (ad (58 + 2 * r)) from if_pos (by omega)) dX9_normal_20 ?_
    refine xc_v (b := ad 118) (As := [.ref (ad (58 + 2 * r))]) (rest := []) ⟨hx, hb, hml, hown, hts⟩ (x_become l dC dI aC ad cap hI v R F G 30 (by decide) r (by omega)) (cwV 1 hts gX9_normal_X3_become rfl rfl rfl (by decide +kernel) ⟨Nat.le_of_ble_eq_true rfl, Nat.le_of_ble_eq_true rfl⟩) (xPre (q0 := 118) (ci := 3) rfl rfl hK hZ hP) hS rfl hl.1 rfl (Nat.le_of_ble_eq_true rfl) dX9_normal_21 ⟨Nat.le_of_ble_eq_true rfl, Nat.le_of_ble_eq_true rfl⟩ (fun v1 R1 F1 G1 Z S H locs h_21 hZ hP hS => ?_)
    cases h_21
    refine lv_aload_n hx hb dX9_normal_24 rfl (lv_at hl 0 rfl) ?_
    refine va_get (D := (dC, dI)) (ci := 9) (C := RX9) (T := TX9) (N := 14) hx hb hts hin9 hown hK hP 0 rfl rfl 4 (by decide) lk2 (fun _ h9 => h9) rfl dX9_normal_25 ?_
    refine lv_aload_n hx hb dX9_normal_28 rfl (lv_at hl 0 rfl) ?_
    refine va_get (D := (dC, dI)) (ci := 9) (C := RX9) (T := TX9) (N := 14) hx hb hts hin9 hown hK hP 0 rfl rfl 0 (by decide) lk3 (fun _ h9 => h9) rfl dX9_normal_29 ?_
    refine lv_aload_n hx hb dX9_normal_32 rfl (lv_at hl 0 rfl) ?_
    refine va_get (D := (dC, dI)) (ci := 9) (C := RX9) (T := TX9) (N := 14) hx hb hts hin9 hown hK hP 0 rfl rfl 2 (by decide) lk0 (fun _ h9 => h9) rfl dX9_normal_33 ?_
    refine xc_i (b := ad 4) (As := [.ref (ad 1), .ref (ad 118)]) (rest := []) ⟨hx, hb, hml, hown, hts⟩ (x_normalForm l dC dI aC ad cap hI v (va_up R 30 (R r)) F G A hE hA n hn hn8 (rlT_congr hrl (fun k hk => upn (by omega)) (fun k hk => upn (by omega))) (fun k hk => by rw [upn (by omega)]; exact hl0 k hk) 30 (by decide) (by decide) (by decide) (by rw [va_up_self]; exact hV r hr) (fun k hk => by rw [upn (by omega)]; exact hV2 k hk) (by rw [va_up_self]; exact hTr)) (cwV 2 hts gX9_normal_X2_normalForm rfl rfl rfl (by decide +kernel) ⟨Nat.le_of_ble_eq_true rfl, Nat.le_of_ble_eq_true rfl⟩) (xPre (q0 := 4) (ci := 2) rfl rfl hK hZ hP) hS rfl hl.1 rfl (Nat.le_of_ble_eq_true rfl) dX9_normal_36 ⟨Nat.le_of_ble_eq_true rfl, Nat.le_of_ble_eq_true rfl⟩ (fun x_36 v2 R2 F2 G2 Z S H locs h_36 hZ hP hS => ?_)
    obtain ⟨fa, ca, Mq, hu_36, hx_36⟩ := h_36
    rw [va_up_self] at hu_36 hx_36
    have hsc : nfL (F 0) (va_up R 30 (R r)) n (tnX v) (R r) = nfL (F 0) R n (tnX v) (R r) := nfL_congr (fun k hk => upn (by omega)) (fun k hk => upn (by omega))
    rw [hsc] at hu_36 hx_36
    subst hx_36
    have hP : va_P (dC, dI) vwCl (wsX aC ad cap v Z S (va_up (va_up F 2 fa) 3 ca) G) H := by cases hu_36; exact hP
    have hZ : xOK Z S (va_up (va_up (va_up R 30 (R r)) 28 Mq) 30 (nfL (F 0) R n (tnX v) (R r)).2) := by cases hu_36; exact hZ
    refine lv_istore_n (lv' := [(2, .int (nfL (F 0) R n (tnX v) (R r)).1), (0, .ref (ad 0)), (1, .int (nI r))]) hx hb dX9_normal_39 rfl hl (by decide) rfl (fun ls hl => ?_)
    refine lv_iload_n hx hb dX9_normal_40 rfl (lv_at hl 0 rfl) ?_
    refine lv_bipush (v := (-5)) hx hb dX9_normal_41 (by decide) ?_
    refine lv_icmp_eq (tgt := 59) hx hb dX9_normal_43 (by decide) (fun c_43 => ?_) (fun c_43 => ?_)
    · skip
      refine lv_iload_n hx hb dX9_normal_59 rfl (lv_at hl 0 rfl) ?_
      subst hQ
      exact W.iret (v := (nfL (F 0) R n (tnX v) (R r)).1) hx hb hret (fun tq htq hWq => ⟨⟨_, (v, va_up (va_up (va_up R 30 (R r)) 28 Mq) 30 (nfL (F 0) R n (tnX v) (R r)).2, (va_up (va_up F 2 fa) 3 ca), G), rfl, ⟨_, _, _, rfl, fun k hk => by rw [uNormal, if_pos c_5, hcr, uNormal2, if_pos c_43, upn (show k ≠ 30 by omega), upn (show k ≠ 28 by omega), upn (show k ≠ 30 by omega)], by rw [pNormal, if_pos c_5, hcr]⟩, va_K.moved hWq.alike hK, _, _, hZ, by rw [htq]; exact hP⟩, hS.F htq⟩) hS.2.2 dX9_normal_60
    · skip
      refine lv_aload_n hx hb dX9_normal_46 rfl (lv_at hl 1 rfl) ?_
      refine va_get (D := (dC, dI)) (ci := 9) (C := RX9) (T := TX9) (N := 14) hx hb hts hin9 hown hK hP 0 rfl rfl 1 (by decide) lk1 (fun _ h9 => h9) rfl dX9_normal_47 ?_
      refine lv_iload_n hx hb dX9_normal_50 rfl (lv_at hl 2 rfl) ?_
      refine nx_aald (C := "LeafTrees$Row") hx hb hK hP 2 3 rfl rfl (i := r) (by omega) (by decide) (show xRows ad r = some (ad (58 + 2 * r)) from if_pos (by omega)) dX9_normal_51 ?_
      refine lv_aload_n hx hb dX9_normal_52 rfl (lv_at hl 1 rfl) ?_
      refine va_get (D := (dC, dI)) (ci := 9) (C := RX9) (T := TX9) (N := 14) hx hb hts hin9 hown hK hP 0 rfl rfl 2 (by decide) lk0 (fun _ h9 => h9) rfl dX9_normal_53 ?_
      refine xc_v (b := ad (58 + 2 * r)) (As := [.ref (ad 118)]) (rest := []) ⟨hx, hb, hml, hown, hts⟩ (x_become l dC dI aC ad cap hI v (va_up (va_up (va_up R 30 (R r)) 28 Mq) 30 (nfL (F 0) R n (tnX v) (R r)).2) (va_up (va_up F 2 fa) 3 ca) G r (by omega) 30 (by decide)) (cwV 1 hts gX9_normal_X3_become rfl rfl rfl (by decide +kernel) ⟨Nat.le_of_ble_eq_true rfl, Nat.le_of_ble_eq_true rfl⟩) (xPre (q0 := (58 + 2 * r)) (ci := 3) rfl (xw_ro r (by omega)) hK hZ hP) hS rfl hl.1 rfl (Nat.le_of_ble_eq_true rfl) dX9_normal_56 ⟨Nat.le_of_ble_eq_true rfl, Nat.le_of_ble_eq_true rfl⟩ (fun v3 R3 F3 G3 Z S H locs h_56 hZ hP hS => ?_)
      cases h_56
      refine lv_iload_n hx hb dX9_normal_59 rfl (lv_at hl 0 rfl) ?_
      subst hQ
      exact W.iret (v := (nfL (F 0) R n (tnX v) (R r)).1) hx hb hret (fun tq htq hWq => ⟨⟨_, (v, va_up (va_up (va_up (va_up R 30 (R r)) 28 Mq) 30 (nfL (F 0) R n (tnX v) (R r)).2) r ((va_up (va_up (va_up R 30 (R r)) 28 Mq) 30 (nfL (F 0) R n (tnX v) (R r)).2) 30), (va_up (va_up F 2 fa) 3 ca), G), rfl, ⟨_, _, _, rfl, fun k hk => by rw [uNormal, if_pos c_5, hcr, uNormal2, if_neg c_43, va_up_self]; exact xRow_n hk hr, by rw [pNormal, if_pos c_5, hcr]⟩, va_K.moved hWq.alike hK, _, _, hZ, by rw [htq]; exact hP⟩, hS.F htq⟩) hS.2.2 dX9_normal_60
  · skip
    refine lv_bipush (v := (-2)) hx hb dX9_normal_8 (by decide) ?_
    subst hQ
    exact W.iret (v := (-2)) hx hb hret (fun tq htq hWq => ⟨⟨_, (v, R, F, G), rfl, ⟨F 2, F 3, R, by rw [up_eta2], fun k _ => by rw [uNormal, if_neg c_5], by rw [pNormal, if_neg c_5]⟩, va_K.moved hWq.alike hK, _, _, hZ, by rw [htq]; exact hP⟩, hS.F htq⟩) hS.2.2 dX9_normal_10
