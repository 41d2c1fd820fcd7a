set_option maxHeartbeats 1000000 in
set_option maxRecDepth 100000 in
/-- Peaks.restart -/
theorem x_restart (l : Launch) (dC : Nat → ClassId) (dI : Nat → Nat → Nat) (aC : Nat → ClassId) (ad cap : Nat → Nat) (hI : xI ad) (v : Nat → Int32) (R : Nat → List Int32) (F : Nat → Nat → Int32) (G : Nat → Nat → Int64)  : Met l yX1_restart wsX1_restart ({ frames := 0, cells := 0, slots := 0, locals := 0 } : Room) (va_Pc [.ref (ad 5)] (XB dC dI aC ad cap (v, R, F, G))) (va_Qv (fun (u : MS) => (va_up v 9 (sy 0), R, F, G) = u) (XB dC dI aC ad cap) (xA ad)) 0 0 (xA ad) := by
  refine Met.ofW (cc := cX1_restart) (maxL := 1) (ret := none) (by decide) rfl ?_
  intro p e s m args below meth c s₁ B hml hv
  obtain ⟨rfl, hK, Z, S, hZ, hP⟩ := hv
  have hx := B.exec
  have hb := B.bytes
  have hret := B.returns
  have hts := atoms_spec (ws := wsX1_restart) B.pre
  have hown : s.vm.findClass RX1 = some m.cls := findClass_of_methodNamed B.named
  have hlocks := B.notSynchronized
  dsimp only at hZ hP
  have lk0 := hts (.fieldLink RX1 18 "LeafTrees$Peaks" "spot" "I") (by decide +kernel)
  have hin1 : ∀ w ∈ u_ws RX1 TX1 5, w ∈ wsX1_restart := by decide +kernel
  have hS : va_S (xA ad) s.heap s.heap [] := va_S.rf
  have hl := lv_entry [.ref (ad 5)] (n := 1) (Nat.le_of_ble_eq_true rfl)
  rw [lg_entry_eq]
  generalize (lg_sl [.ref (ad 5)] ++ List.replicate (1 - (lg_sl [.ref (ad 5)]).length) Slot.unset).toArray = ls at hl ⊢
  have hl : lv_has ls 1 [(0, .ref (ad 5))] := hl
  refine nx_Q (R := ({ frames := 0, cells := 0, slots := 0, locals := 0 } : Room)) (fun Q hQ => ?_)
  refine lv_aload_n hx hb dX1_restart_0 rfl (lv_at hl 0 rfl) ?_
  refine lv_iconst (v := (-1)) hx hb dX1_restart_1 (by decide) ?_
  refine nx_ti (y := sy 0) (sy_0.symm) ?_
  refine va_put (D := (dC, dI)) (ci := 1) (v := .int (sy 0)) (ty := .int) (C := RX1) (T := TX1) (N := 5) hx hb hts hin1 tyX1 tyX1_ok nmX1 hown hK hP (wsX_D hI) hS 5 rfl rfl 4 (by decide) lk0 (fun _ h9 => h9) rfl (by decide +kernel) rfl rfl (Nat.le_of_ble_eq_true rfl) dX1_restart_2 (fun H locs hP _ hS => ?_)
  have hP : va_P (dC, dI) vwCl (wsX aC ad cap (va_up v 9 (sy 0)) Z S F G) H := hP
  subst hQ
  exact W.vret hx hb hret (fun tq htq hWq => ⟨⟨((va_up v 9 (sy 0)), R, F, G), rfl, rfl, va_K.moved hWq.alike hK, _, _, hZ, by rw [htq]; exact hP⟩, hS.F htq⟩) hS.2.2 dX1_restart_5

set_option maxHeartbeats 1000000 in
set_option maxRecDepth 100000 in
/-- Peaks.mayOverlap -/
theorem x_mayOverlap (l : Launch) (dC : Nat → ClassId) (dI : Nat → Nat → Nat) (aC : Nat → ClassId) (ad cap : Nat → Nat) (v : Nat → Int32) (R : Nat → List Int32) (F : Nat → Nat → Int32) (G : Nat → Nat → Int64) (n : Nat) (hn : v 1 = nI n) (hn8 : n ≤ 8) (sp : Nat) (hsp : sp < 832) (h6 : v 6 = nI (sp / 104)) (h7 : v 7 = nI (sp / 13 % 8)) (h8 : v 8 = nI (sp % 13))  : Met l yX1_mayOverlap wsX1_mayOverlap ({ frames := 1, cells := 0, slots := 0, locals := 21 } : Room) (va_Pc [.ref (ad 5), .ref (ad 1)] (XB dC dI aC ad cap (v, R, F, G))) (vp_Si (fun x => x = bI (ovC R n sp))) 0 0 (fun _ => False) := by
  refine Met.ofW (cc := cX1_mayOverlap) (maxL := 3) (ret := (some .boolean)) (by decide) rfl ?_
  intro p e s m args below meth c s₁ B hml hv
  obtain ⟨rfl, hK, Z, S, hZ, hP⟩ := hv
  have hx := B.exec
  have hb := B.bytes
  have hret := B.returns
  have hts := atoms_spec (ws := wsX1_mayOverlap) B.pre
  have hown : s.vm.findClass RX1 = some m.cls := findClass_of_methodNamed B.named
  have hlocks := B.notSynchronized
  dsimp only at hZ hP
  have lk0 := hts (.fieldLink RX1 22 "LeafTrees$Peaks" "outer" "I") (by decide +kernel)
  have lk1 := hts (.fieldLink RX1 25 "LeafTrees$Peaks" "inner" "I") (by decide +kernel)
  have lk2 := hts (.fieldLink RX1 28 "LeafTrees$Peaks" "place" "I") (by decide +kernel)
  have lk3 := hts (.fieldLink RX1 35 "LeafTrees$World" "rules" "[LLeafTrees$Rule;") (by decide +kernel)
  have lk4 := hts (.fieldLink RX1 41 "LeafTrees$Rule" "left" "LLeafTrees$Row;") (by decide +kernel)
  have lk5 := hts (.fieldLink RX1 54 "LeafTrees$Row" "length" "I") (by decide +kernel)
  have lk6 := hts (.fieldLink RX1 57 "LeafTrees$Row" "symbols" "[I") (by decide +kernel)
  have hin1 : ∀ w ∈ u_ws RX1 TX1 5, w ∈ wsX1_mayOverlap := by decide +kernel
  have hin3 : ∀ w ∈ u_ws RX3 TX3 2, w ∈ wsX1_mayOverlap := by decide +kernel
  have hin4 : ∀ w ∈ u_ws RX4 TX4 3, w ∈ wsX1_mayOverlap := by decide +kernel
  have hin8 : ∀ w ∈ u_ws RX8 TX8 4, w ∈ wsX1_mayOverlap := by decide +kernel
  have hl := lv_entry [.ref (ad 5), .ref (ad 1)] (n := 3) (Nat.le_of_ble_eq_true rfl)
  rw [lg_entry_eq]
  generalize (lg_sl [.ref (ad 5), .ref (ad 1)] ++ List.replicate (3 - (lg_sl [.ref (ad 5), .ref (ad 1)]).length) Slot.unset).toArray = ls at hl ⊢
  have hl : lv_has ls 3 [(0, .ref (ad 5)), (1, .ref (ad 1))] := hl
  refine nx_Q (R := ({ frames := 1, cells := 0, slots := 0, locals := 21 } : Room)) (fun Q hQ => ?_)
  have hd1 : sp / 104 < 8 := by omega
  have hd2 : sp / 13 % 8 < 8 := by omega
  have hd3 : sp % 13 < 13 := by omega
  refine lv_aload_n hx hb dX1_mayOverlap_0 rfl (lv_at hl 1 rfl) ?_
  refine lv_aload_n hx hb dX1_mayOverlap_1 rfl (lv_at hl 0 rfl) ?_
  refine va_get (D := (dC, dI)) (ci := 1) (C := RX1) (T := TX1) (N := 5) hx hb hts hin1 hown hK hP 5 rfl rfl 1 (by decide) lk0 (fun _ h9 => h9) rfl dX1_mayOverlap_2 ?_
  refine nx_ti (y := nI (sp / 104)) (h6) ?_
  refine xp_i (b := ad 1) (As := [.int (nI (sp / 104))]) (rest := []) ⟨hx, hb, hml, hown, hts⟩ (x_isRule l dC dI aC ad cap v R F G n hn hn8 (nI (sp / 104))) (cwV 1 hts gX1_mayOverlap_X8_isRule rfl rfl rfl (by decide +kernel) ⟨Nat.le_of_ble_eq_true rfl, Nat.le_of_ble_eq_true rfl⟩) (xPre (q0 := 1) (ci := 8) rfl rfl hK hZ hP) rfl hl.1 rfl (Nat.le_of_ble_eq_true rfl) dX1_mayOverlap_5 ⟨Nat.le_of_ble_eq_true rfl, Nat.le_of_ble_eq_true rfl⟩ (fun x_5 h_5 => ?_)
  refine nx_ti (y := bI (rIn (nI (sp / 104)) n)) h_5 ?_
  refine nx_bz (tgt := 40) hx hb dX1_mayOverlap_8 (by decide) (fun c_8 => ?_) (fun c_8 => ?_)
  · skip
    refine lv_iconst (v := nI 0) hx hb dX1_mayOverlap_40 (by decide) ?_
    subst hQ
    exact W.zret (v := nI 0) hx hb hret (rfl) (fun tq htq hWq => ⟨_, rfl, (bI_f (fun h => c_8 (rIn_nI h.1 (by omega)))).symm, htq⟩) (fun q h => by cases h) dX1_mayOverlap_41
  · skip
    have hp1 : sp / 104 < n := by have h9 := c_8.2; rw [nI_toInt (by omega)] at h9; omega
    refine lv_aload_n hx hb dX1_mayOverlap_11 rfl (lv_at hl 1 rfl) ?_
    refine lv_aload_n hx hb dX1_mayOverlap_12 rfl (lv_at hl 0 rfl) ?_
    refine va_get (D := (dC, dI)) (ci := 1) (C := RX1) (T := TX1) (N := 5) hx hb hts hin1 hown hK hP 5 rfl rfl 2 (by decide) lk1 (fun _ h9 => h9) rfl dX1_mayOverlap_13 ?_
    refine nx_ti (y := nI (sp / 13 % 8)) (h7) ?_
    refine xp_i (b := ad 1) (As := [.int (nI (sp / 13 % 8))]) (rest := []) ⟨hx, hb, hml, hown, hts⟩ (x_isRule l dC dI aC ad cap v R F G n hn hn8 (nI (sp / 13 % 8))) (cwV 1 hts gX1_mayOverlap_X8_isRule rfl rfl rfl (by decide +kernel) ⟨Nat.le_of_ble_eq_true rfl, Nat.le_of_ble_eq_true rfl⟩) (xPre (q0 := 1) (ci := 8) rfl rfl hK hZ hP) rfl hl.1 rfl (Nat.le_of_ble_eq_true rfl) dX1_mayOverlap_16 ⟨Nat.le_of_ble_eq_true rfl, Nat.le_of_ble_eq_true rfl⟩ (fun x_16 h_16 => ?_)
    refine nx_ti (y := bI (rIn (nI (sp / 13 % 8)) n)) h_16 ?_
    refine nx_bz (tgt := 40) hx hb dX1_mayOverlap_19 (by decide) (fun c_19 => ?_) (fun c_19 => ?_)
    · skip
      refine lv_iconst (v := nI 0) hx hb dX1_mayOverlap_40 (by decide) ?_
      subst hQ
      exact W.zret (v := nI 0) hx hb hret (rfl) (fun tq htq hWq => ⟨_, rfl, (bI_f (fun h => c_19 (rIn_nI h.2.1 (by omega)))).symm, htq⟩) (fun q h => by cases h) dX1_mayOverlap_41
    · skip
      have hp2 : sp / 13 % 8 < n := by have h9 := c_19.2; rw [nI_toInt (by omega)] at h9; omega
      have hl60 := (hZ (10 + sp / 104) (by omega)).1
      refine lv_aload_n hx hb dX1_mayOverlap_22 rfl (lv_at hl 0 rfl) ?_
      refine va_get (D := (dC, dI)) (ci := 1) (C := RX1) (T := TX1) (N := 5) hx hb hts hin1 hown hK hP 5 rfl rfl 3 (by decide) lk2 (fun _ h9 => h9) rfl dX1_mayOverlap_23 ?_
      refine nx_ti (y := nI (sp % 13)) (h8) ?_
      refine nx_if_ne (tgt := 42) hx hb dX1_mayOverlap_26 (by decide) (by omega) (fun c_26 => ?_) (fun c_26 => ?_)
      · skip
        refine lv_aload_n hx hb dX1_mayOverlap_42 rfl (lv_at hl 1 rfl) ?_
        refine va_get (D := (dC, dI)) (ci := 8) (C := RX8) (T := TX8) (N := 4) hx hb hts hin8 hown hK hP 1 rfl rfl 2 (by decide) lk3 (fun _ h9 => h9) rfl dX1_mayOverlap_43 ?_
        refine lv_aload_n hx hb dX1_mayOverlap_46 rfl (lv_at hl 0 rfl) ?_
        refine va_get (D := (dC, dI)) (ci := 1) (C := RX1) (T := TX1) (N := 5) hx hb hts hin1 hown hK hP 5 rfl rfl 1 (by decide) lk0 (fun _ h9 => h9) rfl dX1_mayOverlap_47 ?_
        refine nx_ti (y := nI (sp / 104)) (h6) ?_
        refine nx_aald (C := "LeafTrees$Rule") hx hb hK hP 11 4 rfl rfl (i := sp / 104) (by omega) (by decide) (show xRules ad (sp / 104) = some (ad (50 + (sp / 104))) from if_pos (by omega)) dX1_mayOverlap_50 ?_
        refine va_get (D := (dC, dI)) (ci := 4) (C := RX4) (T := TX4) (N := 3) hx hb hts hin4 hown hK hP (50 + (sp / 104)) (xw_ru (sp / 104) (by omega)) rfl 0 (by decide) lk4 (fun _ h9 => h9) rfl dX1_mayOverlap_51 ?_
        refine lv_astore_n (lv' := [(2, .ref (ad (58 + 2 * (10 + (sp / 104))))), (0, .ref (ad 5)), (1, .ref (ad 1))]) hx hb dX1_mayOverlap_54 rfl hl (by decide) rfl (fun ls hl => ?_)
        refine lv_aload_n hx hb dX1_mayOverlap_55 rfl (lv_at hl 1 rfl) ?_
        refine va_get (D := (dC, dI)) (ci := 1) (C := RX1) (T := TX1) (N := 5) hx hb hts hin1 hown hK hP 5 rfl rfl 3 (by decide) lk2 (fun _ h9 => h9) rfl dX1_mayOverlap_56 ?_
        refine nx_ti (y := nI (sp % 13)) (h8) ?_
        refine lv_aload_n hx hb dX1_mayOverlap_59 rfl (lv_at hl 0 rfl) ?_
        refine va_get (D := (dC, dI)) (ci := 3) (C := RX3) (T := TX3) (N := 2) hx hb hts hin3 hown hK hP (58 + 2 * (10 + (sp / 104))) (xw_ro (10 + (sp / 104)) (by omega)) rfl 1 (by decide) lk5 (fun _ h9 => h9) rfl dX1_mayOverlap_60 ?_
        refine nx_ti (y := nI (R (10 + (sp / 104))).length) ((hZ (10 + (sp / 104)) (by omega)).2.1) ?_
        refine nx_icmp_ge (a := (sp % 13)) (b := (R (10 + (sp / 104))).length) (tgt := 83) hx hb dX1_mayOverlap_63 (by decide) (by omega) (by omega) (fun c_63 => ?_) (fun c_63 => ?_)
        · skip
          refine lv_iconst (v := nI 0) hx hb dX1_mayOverlap_83 (by decide) ?_
          subst hQ
          exact W.zret (v := nI 0) hx hb hret (rfl) (fun tq htq hWq => ⟨_, rfl, (bI_f (fun h => absurd h.2.2.1 (by omega))).symm, htq⟩) (fun q h => by cases h) dX1_mayOverlap_84
        · skip
          refine lv_aload_n hx hb dX1_mayOverlap_66 rfl (lv_at hl 0 rfl) ?_
          refine va_get (D := (dC, dI)) (ci := 3) (C := RX3) (T := TX3) (N := 2) hx hb hts hin3 hown hK hP (58 + 2 * (10 + (sp / 104))) (xw_ro (10 + (sp / 104)) (by omega)) rfl 0 (by decide) lk6 (fun _ h9 => h9) rfl dX1_mayOverlap_67 ?_
          refine lv_aload_n hx hb dX1_mayOverlap_70 rfl (lv_at hl 1 rfl) ?_
          refine va_get (D := (dC, dI)) (ci := 1) (C := RX1) (T := TX1) (N := 5) hx hb hts hin1 hown hK hP 5 rfl rfl 3 (by decide) lk2 (fun _ h9 => h9) rfl dX1_mayOverlap_71 ?_
          refine nx_ti (y := nI (sp % 13)) (h8) ?_
          refine nx_iald hx hb hK hP (59 + 2 * (10 + (sp / 104))) 0 (xw_ra (10 + (sp / 104)) (by omega)) rfl (i := sp % 13) (by have := (hZ (10 + (sp / 104)) (by omega)).1; omega) (by decide) dX1_mayOverlap_74 ?_
          refine nx_ti (y := gD (R (10 + (sp / 104))) (sp % 13)) ((hZ (10 + (sp / 104)) (by omega)).2.2 (sp % 13) (by omega)) ?_
          refine lv_iconst (v := (-1)) hx hb dX1_mayOverlap_75 (by decide) ?_
          refine lv_icmp_eq (tgt := 83) hx hb dX1_mayOverlap_76 (by decide) (fun c_76 => ?_) (fun c_76 => ?_)
          · skip
            refine lv_iconst (v := nI 0) hx hb dX1_mayOverlap_83 (by decide) ?_
            subst hQ
            exact W.zret (v := nI 0) hx hb hret (rfl) (fun tq htq hWq => ⟨_, rfl, (bI_f (fun h => h.2.2.2.1 c_76)).symm, htq⟩) (fun q h => by cases h) dX1_mayOverlap_84
          · skip
            refine lv_iconst (v := nI 1) hx hb dX1_mayOverlap_79 (by decide) ?_
            refine lv_goto (tgt := 84) hx hb dX1_mayOverlap_80 (by decide) ?_
            subst hQ
            exact W.zret (v := nI 1) hx hb hret (rfl) (fun tq htq hWq => ⟨_, rfl, (bI_t ⟨hp1, hp2, c_63, c_76, Or.inl (by omega)⟩).symm, htq⟩) (fun q h => by cases h) dX1_mayOverlap_84
      · skip
        refine lv_aload_n hx hb dX1_mayOverlap_29 rfl (lv_at hl 0 rfl) ?_
        refine va_get (D := (dC, dI)) (ci := 1) (C := RX1) (T := TX1) (N := 5) hx hb hts hin1 hown hK hP 5 rfl rfl 1 (by decide) lk0 (fun _ h9 => h9) rfl dX1_mayOverlap_30 ?_
        refine nx_ti (y := nI (sp / 104)) (h6) ?_
        refine lv_aload_n hx hb dX1_mayOverlap_33 rfl (lv_at hl 0 rfl) ?_
        refine va_get (D := (dC, dI)) (ci := 1) (C := RX1) (T := TX1) (N := 5) hx hb hts hin1 hown hK hP 5 rfl rfl 2 (by decide) lk1 (fun _ h9 => h9) rfl dX1_mayOverlap_34 ?_
        refine nx_ti (y := nI (sp / 13 % 8)) (h7) ?_
        refine nx_icmp_lt (a := (sp / 104)) (b := (sp / 13 % 8)) (tgt := 42) hx hb dX1_mayOverlap_37 (by decide) (by omega) (by omega) (fun c_37 => ?_) (fun c_37 => ?_)
        · skip
          refine lv_aload_n hx hb dX1_mayOverlap_42 rfl (lv_at hl 1 rfl) ?_
          refine va_get (D := (dC, dI)) (ci := 8) (C := RX8) (T := TX8) (N := 4) hx hb hts hin8 hown hK hP 1 rfl rfl 2 (by decide) lk3 (fun _ h9 => h9) rfl dX1_mayOverlap_43 ?_
          refine lv_aload_n hx hb dX1_mayOverlap_46 rfl (lv_at hl 0 rfl) ?_
          refine va_get (D := (dC, dI)) (ci := 1) (C := RX1) (T := TX1) (N := 5) hx hb hts hin1 hown hK hP 5 rfl rfl 1 (by decide) lk0 (fun _ h9 => h9) rfl dX1_mayOverlap_47 ?_
          refine nx_ti (y := nI (sp / 104)) (h6) ?_
          refine nx_aald (C := "LeafTrees$Rule") hx hb hK hP 11 4 rfl rfl (i := sp / 104) (by omega) (by decide) (show xRules ad (sp / 104) = some (ad (50 + (sp / 104))) from if_pos (by omega)) dX1_mayOverlap_50 ?_
          refine va_get (D := (dC, dI)) (ci := 4) (C := RX4) (T := TX4) (N := 3) hx hb hts hin4 hown hK hP (50 + (sp / 104)) (xw_ru (sp / 104) (by omega)) rfl 0 (by decide) lk4 (fun _ h9 => h9) rfl dX1_mayOverlap_51 ?_
          refine lv_astore_n (lv' := [(2, .ref (ad (58 + 2 * (10 + (sp / 104))))), (0, .ref (ad 5)), (1, .ref (ad 1))]) hx hb dX1_mayOverlap_54 rfl hl (by decide) rfl (fun ls hl => ?_)
          refine lv_aload_n hx hb dX1_mayOverlap_55 rfl (lv_at hl 1 rfl) ?_
          refine va_get (D := (dC, dI)) (ci := 1) (C := RX1) (T := TX1) (N := 5) hx hb hts hin1 hown hK hP 5 rfl rfl 3 (by decide) lk2 (fun _ h9 => h9) rfl dX1_mayOverlap_56 ?_
          refine nx_ti (y := nI (sp % 13)) (h8) ?_
          refine lv_aload_n hx hb dX1_mayOverlap_59 rfl (lv_at hl 0 rfl) ?_
          refine va_get (D := (dC, dI)) (ci := 3) (C := RX3) (T := TX3) (N := 2) hx hb hts hin3 hown hK hP (58 + 2 * (10 + (sp / 104))) (xw_ro (10 + (sp / 104)) (by omega)) rfl 1 (by decide) lk5 (fun _ h9 => h9) rfl dX1_mayOverlap_60 ?_
          refine nx_ti (y := nI (R (10 + (sp / 104))).length) ((hZ (10 + (sp / 104)) (by omega)).2.1) ?_
          refine nx_icmp_ge (a := (sp % 13)) (b := (R (10 + (sp / 104))).length) (tgt := 83) hx hb dX1_mayOverlap_63 (by decide) (by omega) (by omega) (fun c_63 => ?_) (fun c_63 => ?_)
          · skip
            refine lv_iconst (v := nI 0) hx hb dX1_mayOverlap_83 (by decide) ?_
            subst hQ
            exact W.zret (v := nI 0) hx hb hret (rfl) (fun tq htq hWq => ⟨_, rfl, (bI_f (fun h => absurd h.2.2.1 (by omega))).symm, htq⟩) (fun q h => by cases h) dX1_mayOverlap_84
          · skip
            refine lv_aload_n hx hb dX1_mayOverlap_66 rfl (lv_at hl 0 rfl) ?_
            refine va_get (D := (dC, dI)) (ci := 3) (C := RX3) (T := TX3) (N := 2) hx hb hts hin3 hown hK hP (58 + 2 * (10 + (sp / 104))) (xw_ro (10 + (sp / 104)) (by omega)) rfl 0 (by decide) lk6 (fun _ h9 => h9) rfl dX1_mayOverlap_67 ?_
            refine lv_aload_n hx hb dX1_mayOverlap_70 rfl (lv_at hl 1 rfl) ?_
            refine va_get (D := (dC, dI)) (ci := 1) (C := RX1) (T := TX1) (N := 5) hx hb hts hin1 hown hK hP 5 rfl rfl 3 (by decide) lk2 (fun _ h9 => h9) rfl dX1_mayOverlap_71 ?_
            refine nx_ti (y := nI (sp % 13)) (h8) ?_
            refine nx_iald hx hb hK hP (59 + 2 * (10 + (sp / 104))) 0 (xw_ra (10 + (sp / 104)) (by omega)) rfl (i := sp % 13) (by have := (hZ (10 + (sp / 104)) (by omega)).1; omega) (by decide) dX1_mayOverlap_74 ?_
            refine nx_ti (y := gD (R (10 + (sp / 104))) (sp % 13)) ((hZ (10 + (sp / 104)) (by omega)).2.2 (sp % 13) (by omega)) ?_
            refine lv_iconst (v := (-1)) hx hb dX1_mayOverlap_75 (by decide) ?_
            refine lv_icmp_eq (tgt := 83) hx hb dX1_mayOverlap_76 (by decide) (fun c_76 => ?_) (fun c_76 => ?_)
            · skip
              refine lv_iconst (v := nI 0) hx hb dX1_mayOverlap_83 (by decide) ?_
              subst hQ
              exact W.zret (v := nI 0) hx hb hret (rfl) (fun tq htq hWq => ⟨_, rfl, (bI_f (fun h => h.2.2.2.1 c_76)).symm, htq⟩) (fun q h => by cases h) dX1_mayOverlap_84
            · skip
              refine lv_iconst (v := nI 1) hx hb dX1_mayOverlap_79 (by decide) ?_
              refine lv_goto (tgt := 84) hx hb dX1_mayOverlap_80 (by decide) ?_
              subst hQ
              exact W.zret (v := nI 1) hx hb hret (rfl) (fun tq htq hWq => ⟨_, rfl, (bI_t ⟨hp1, hp2, c_63, c_76, Or.inr c_37⟩).symm, htq⟩) (fun q h => by cases h) dX1_mayOverlap_84
        · skip
          refine lv_iconst (v := nI 0) hx hb dX1_mayOverlap_40 (by decide) ?_
          subst hQ
          exact W.zret (v := nI 0) hx hb hret (rfl) (fun tq htq hWq => ⟨_, rfl, (bI_f (fun h => by have := h.2.2.2.2; omega)).symm, htq⟩) (fun q h => by cases h) dX1_mayOverlap_41

set_option maxHeartbeats 1000000 in
set_option maxRecDepth 100000 in
/-- Peaks.merge -/
theorem x_merge (l : Launch) (dC : Nat → ClassId) (dI : Nat → Nat → Nat) (aC : Nat → ClassId) (ad cap : Nat → Nat) (hI : xI ad) (v : Nat → Int32) (R : Nat → List Int32) (F : Nat → Nat → Int32) (G : Nat → Nat → Int64) (A : Nat) (hE : vE A (F 0)) (hA : v 0 = nI A) (u0 : Nat) (h8 : v 8 = nI u0) (ka : Nat) (hka : ka < 26) (kb : Nat) (hkb : kb < 26) (hu0 : u0 < (R ka).length) (hVa : vR A (R ka)) (hVb : vR A (R kb)) (hTa : isT (F 0) (R ka)) (hTb : isT (F 0) (R kb)) (hla : (R ka).length ≤ 13) (hlb : (R kb).length ≤ 13) : Met l yX1_merge wsX1_merge ({ frames := 2, cells := 0, slots := 0, locals := 63 } : Room) (va_Pc [.ref (ad 5), .ref (ad 1), .ref (ad (58 + 2 * ka)), .ref (ad (58 + 2 * kb))] (XB dC dI aC ad cap (v, R, F, G))) (va_Qi (fun (x : Int32) (u : MS) => ∃ M, (v, va_up R 27 M, F, G) = u ∧ x = bI ((mrg (F 0) (R ka) (R kb) u0).isSome = true) ∧ (∀ N, mrg (F 0) (R ka) (R kb) u0 = some N → M = N)) (XB dC dI aC ad cap) (xA ad)) 0 0 (xA ad) := by
  refine Met.ofW (cc := cX1_merge) (maxL := 8) (ret := (some .boolean)) (by decide) rfl ?_
  intro p e s m args below meth c s₁ B hml hv
  obtain ⟨rfl, hK, Z, S, hZ, hP⟩ := hv
  have hx := B.exec
  have hb := B.bytes
  have hret := B.returns
  have hts := atoms_spec (ws := wsX1_merge) B.pre
  have hown : s.vm.findClass RX1 = some m.cls := findClass_of_methodNamed B.named
  have hlocks := B.notSynchronized
  dsimp only at hZ hP
  have lk0 := hts (.fieldLink RX1 12 "LeafTrees$Peaks" "top" "LLeafTrees$Row;") (by decide +kernel)
  have lk1 := hts (.fieldLink RX1 28 "LeafTrees$Peaks" "place" "I") (by decide +kernel)
  have lk2 := hts (.fieldLink RX1 54 "LeafTrees$Row" "length" "I") (by decide +kernel)
  have lk3 := hts (.fieldLink RX1 57 "LeafTrees$Row" "symbols" "[I") (by decide +kernel)
  have hin1 : ∀ w ∈ u_ws RX1 TX1 5, w ∈ wsX1_merge := by decide +kernel
  have hin3 : ∀ w ∈ u_ws RX3 TX3 2, w ∈ wsX1_merge := by decide +kernel
  have hS : va_S (xA ad) s.heap s.heap [] := va_S.rf
  have hl := lv_entry [.ref (ad 5), .ref (ad 1), .ref (ad (58 + 2 * ka)), .ref (ad (58 + 2 * kb))] (n := 8) (Nat.le_of_ble_eq_true rfl)
  rw [lg_entry_eq]
  generalize (lg_sl [.ref (ad 5), .ref (ad 1), .ref (ad (58 + 2 * ka)), .ref (ad (58 + 2 * kb))] ++ List.replicate (8 - (lg_sl [.ref (ad 5), .ref (ad 1), .ref (ad (58 + 2 * ka)), .ref (ad (58 + 2 * kb))]).length) Slot.unset).toArray = ls at hl ⊢
  have hl : lv_has ls 8 [(0, .ref (ad 5)), (1, .ref (ad 1)), (2, .ref (ad (58 + 2 * ka))), (3, .ref (ad (58 + 2 * kb)))] := hl
  refine nx_Q (R := ({ frames := 2, cells := 0, slots := 0, locals := 63 } : Room)) (fun Q hQ => ?_)
  refine lv_aload_n hx hb dX1_merge_0 rfl (lv_at hl 0 rfl) ?_
  refine va_get (D := (dC, dI)) (ci := 1) (C := RX1) (T := TX1) (N := 5) hx hb hts hin1 hown hK hP 5 rfl rfl 0 (by decide) lk0 (fun _ h9 => h9) rfl dX1_merge_1 ?_
  refine xc_v (b := ad 112) (As := []) (rest := []) ⟨hx, hb, hml, hown, hts⟩ (x_clear l dC dI aC ad cap hI v R F G 27 (by decide)) (cwV 0 hts gX1_merge_X3_clear rfl rfl rfl (by decide +kernel) ⟨Nat.le_of_ble_eq_true rfl, Nat.le_of_ble_eq_true rfl⟩) (xPre (q0 := 112) (ci := 3) rfl rfl hK hZ hP) hS rfl hl.1 rfl (Nat.le_of_ble_eq_true rfl) dX1_merge_4 ⟨Nat.le_of_ble_eq_true rfl, Nat.le_of_ble_eq_true rfl⟩ (fun v1 R1 F1 G1 Z S H locs h_4 hZ hP hS => ?_)
  cases h_4
  refine lv_aload_n hx hb dX1_merge_7 rfl (lv_at hl 0 rfl) ?_
  refine va_get (D := (dC, dI)) (ci := 1) (C := RX1) (T := TX1) (N := 5) hx hb hts hin1 hown hK hP 5 rfl rfl 0 (by decide) lk0 (fun _ h9 => h9) rfl dX1_merge_8 ?_
  refine lv_aload_n hx hb dX1_merge_11 rfl (lv_at hl 2 rfl) ?_
  refine lv_iconst (v := nI 0) hx hb dX1_merge_12 (by decide) ?_
  refine lv_aload_n hx hb dX1_merge_13 rfl (lv_at hl 0 rfl) ?_
  refine va_get (D := (dC, dI)) (ci := 1) (C := RX1) (T := TX1) (N := 5) hx hb hts hin1 hown hK hP 5 rfl rfl 3 (by decide) lk1 (fun _ h9 => h9) rfl dX1_merge_14 ?_
  refine nx_ti (y := nI u0) (h8) ?_
  refine xc_i (b := ad 112) (As := [.ref (ad (58 + 2 * ka)), .int (nI 0), .int (nI u0)]) (rest := []) ⟨hx, hb, hml, hown, hts⟩ (x_addPart l dC dI aC ad cap hI v (va_up R 27 []) F G 27 (by decide) ka (by omega) 0 u0 (by omega) (by rw [upn (show ka ≠ 27 by omega)]; omega)) (cwV 3 hts gX1_merge_X3_addPart rfl rfl rfl (by decide +kernel) ⟨Nat.le_of_ble_eq_true rfl, Nat.le_of_ble_eq_true rfl⟩) (xPre (q0 := 112) (ci := 3) rfl rfl hK hZ hP) hS rfl hl.1 rfl (Nat.le_of_ble_eq_true rfl) dX1_merge_17 ⟨Nat.le_of_ble_eq_true rfl, Nat.le_of_ble_eq_true rfl⟩ (fun x_17 v2 R2 F2 G2 Z S H locs h_17 hZ hP hS => ?_)
  obtain ⟨M_3, hu_17, hx_17, hM_17⟩ := adds_u (R0 := R) (M := []) (to := 27) (fr := ka) (show ka ≠ 27 by omega) h_17
  subst hx_17
  cases hu_17
  refine lv_pop hx hb dX1_merge_20 rfl ?_
  refine lv_aload_n hx hb dX1_merge_21 rfl (lv_at hl 0 rfl) ?_
  refine va_get (D := (dC, dI)) (ci := 1) (C := RX1) (T := TX1) (N := 5) hx hb hts hin1 hown hK hP 5 rfl rfl 3 (by decide) lk1 (fun _ h9 => h9) rfl dX1_merge_22 ?_
  refine nx_ti (y := nI u0) (h8) ?_
  refine lv_istore (lv' := [(4, .int (nI u0)), (0, .ref (ad 5)), (1, .ref (ad 1)), (2, .ref (ad (58 + 2 * ka))), (3, .ref (ad (58 + 2 * kb)))]) hx hb dX1_merge_25 hl (by decide) rfl (fun ls hl => ?_)
  refine lv_iconst (v := nI 0) hx hb dX1_merge_27 (by decide) ?_
  refine lv_istore (lv' := [(5, .int (nI 0)), (4, .int (nI u0)), (0, .ref (ad 5)), (1, .ref (ad 1)), (2, .ref (ad (58 + 2 * ka))), (3, .ref (ad (58 + 2 * kb)))]) hx hb dX1_merge_28 hl (by decide) rfl (fun ls hl => ?_)
  refine lv_iconst (v := nI 0) hx hb dX1_merge_30 (by decide) ?_
  refine lv_istore (lv' := [(6, .int (nI 0)), (5, .int (nI 0)), (4, .int (nI u0)), (0, .ref (ad 5)), (1, .ref (ad 1)), (2, .ref (ad (58 + 2 * ka))), (3, .ref (ad (58 + 2 * kb)))]) hx hb dX1_merge_31 hl (by decide) rfl (fun ls hl => ?_)
  have L33 : ∀ (fuel33 : Nat) (tu : Nat) (i : Nat) (j : Nat) (k : Nat) (fu : Nat) (M : List Int32) (Z : Nat → Int32) (S : Nat → Nat → Int32) (H : Heap) (locs : List Loc) (ls : Array Slot), (tu ≤ j) → (mgI (F 0) (R ka) (R kb) i j k) → (M.length ≤ i + j) → ((R kb).length < fu + j) → (mgF (F 0) (R ka) (R kb) fu i j M = mgF (F 0) (R ka) (R kb) ((R kb).length + 1) u0 0 (slc (R ka) 0 u0)) → xOK Z S (va_up R 27 M) → va_P (dC, dI) vwCl (wsX aC ad cap v Z S F G) H → va_S (xA ad) s.heap H locs → 13 - tu < fuel33 → lv_has ls 8 [(0, .ref (ad 5)), (1, .ref (ad 1)), (2, .ref (ad (58 + 2 * ka))), (3, .ref (ad (58 + 2 * kb))), (4, .int (nI i)), (5, .int (nI j)), (6, .int (nI tu))] → W p l e ({ frames := 2, cells := 0, slots := 0, locals := 63 } : Room) s m ([.ref (ad 5), .ref (ad 1), .ref (ad (58 + 2 * ka)), .ref (ad (58 + 2 * kb))] : List Value).toArray below meth c H locs 0 0 Q (F0 m 33 ls []) := by
    intro fuel33
    induction fuel33 with
    | zero => intro tu i j k fu M Z S H locs ls htu hJ hM hfu hres hZ hP hS hf33 hl; exact absurd hf33 (Nat.not_lt_zero _)
    | succ fuel33 ih33 =>
      intro tu i j k fu M Z S H locs ls htu hJ hM hfu hres hZ hP hS hf33 hl
      have hia := hJ.2.2.1
      have hjb0 := hJ.2.2.2
      refine lv_iload hx hb dX1_merge_33 (lv_at hl 6 rfl) ?_
      refine lv_bipush (v := nI 13) hx hb dX1_merge_35 (by decide) ?_
      refine nx_icmp_ge (a := tu) (b := 13) (tgt := 193) hx hb dX1_merge_37 (by decide) (by omega) (by omega) (fun c_37 => ?_) (fun c_37 => ?_)
      · skip
        have hjb : (R kb).length ≤ j := by omega
        obtain ⟨f2, rfl⟩ : ∃ f2, fu = f2 + 1 := ⟨fu - 1, by omega⟩
        refine lv_aload_n hx hb dX1_merge_193 rfl (lv_at hl 0 rfl) ?_
        refine va_get (D := (dC, dI)) (ci := 1) (C := RX1) (T := TX1) (N := 5) hx hb hts hin1 hown hK hP 5 rfl rfl 0 (by decide) lk0 (fun _ h9 => h9) rfl dX1_merge_194 ?_
        refine lv_aload_n hx hb dX1_merge_197 rfl (lv_at hl 2 rfl) ?_
        refine lv_iload hx hb dX1_merge_198 (lv_at hl 4 rfl) ?_
        refine lv_aload_n hx hb dX1_merge_200 rfl (lv_at hl 2 rfl) ?_
        refine va_get (D := (dC, dI)) (ci := 3) (C := RX3) (T := TX3) (N := 2) hx hb hts hin3 hown hK hP (58 + 2 * ka) (xw_ro ka (by omega)) rfl 1 (by decide) lk2 (fun _ h9 => h9) rfl dX1_merge_201 ?_
        refine nx_ti (y := nI ((va_up R 27 M) ka).length) ((hZ ka (by omega)).2.1) ?_
        refine nx_ti (y := nI (R ka).length) (by rw [upn (show ka ≠ 27 by omega)]) ?_
        refine xc_i (b := ad 112) (As := [.ref (ad (58 + 2 * ka)), .int (nI i), .int (nI (R ka).length)]) (rest := []) ⟨hx, hb, hml, hown, hts⟩ (x_addPart l dC dI aC ad cap hI v (va_up R 27 M) F G 27 (by decide) ka (by omega) i (R ka).length (by omega) (by rw [upn (show ka ≠ 27 by omega)]; omega)) (cwV 3 hts gX1_merge_X3_addPart rfl rfl rfl (by decide +kernel) ⟨Nat.le_of_ble_eq_true rfl, Nat.le_of_ble_eq_true rfl⟩) (xPre (q0 := 112) (ci := 3) rfl rfl hK hZ hP) hS rfl hl.1 rfl (Nat.le_of_ble_eq_true rfl) dX1_merge_204 ⟨Nat.le_of_ble_eq_true rfl, Nat.le_of_ble_eq_true rfl⟩ (fun x_204 v4 R4 F4 G4 Z S H locs h_204 hZ hP hS => ?_)
        obtain ⟨M_5, hu_204, hx_204, hM_204⟩ := adds_u (R0 := R) (M := M) (to := 27) (fr := ka) (show ka ≠ 27 by omega) h_204
        subst hx_204
        cases hu_204
        subst hQ
        exact W.zret (v := bI (M.length + ((R ka).length - i) ≤ 60)) hx hb hret (bI_nar) (fun tq htq hWq => ⟨⟨_, (v, va_up R 27 M_5, F, G), rfl, ⟨_, rfl, ((bI_iff (by rw [mrg, ← hres, mgF_end (show (R kb).length ≤ j by omega)]; exact ⟨fun _ => rfl, fun _ => by omega⟩))), fun N h => by rw [mrg, ← hres, mgF_end (show (R kb).length ≤ j by omega)] at h; cases h; exact hM_204 (by omega)⟩, va_K.moved hWq.alike hK, _, _, hZ, by rw [htq]; exact hP⟩, hS.F htq⟩) hS.2.2 dX1_merge_207
      · skip
        refine lv_iload hx hb dX1_merge_40 (lv_at hl 4 rfl) ?_
        refine lv_aload_n hx hb dX1_merge_42 rfl (lv_at hl 2 rfl) ?_
        refine va_get (D := (dC, dI)) (ci := 3) (C := RX3) (T := TX3) (N := 2) hx hb hts hin3 hown hK hP (58 + 2 * ka) (xw_ro ka (by omega)) rfl 1 (by decide) lk2 (fun _ h9 => h9) rfl dX1_merge_43 ?_
        refine nx_ti (y := nI ((va_up R 27 M) ka).length) ((hZ ka (by omega)).2.1) ?_
        refine nx_ti (y := nI (R ka).length) (by rw [upn (show ka ≠ 27 by omega)]) ?_
        refine nx_icmp_ge (a := i) (b := (R ka).length) (tgt := 193) hx hb dX1_merge_46 (by decide) (by omega) (by omega) (fun c_46 => ?_) (fun c_46 => ?_)
        · skip
          have hjb : (R kb).length ≤ j := by rcases Nat.lt_or_ge j (R kb).length with z | z <;> first | exact z | exact absurd (mgI_lt hJ z) (by omega)
          obtain ⟨f2, rfl⟩ : ∃ f2, fu = f2 + 1 := ⟨fu - 1, by omega⟩
          refine lv_aload_n hx hb dX1_merge_193 rfl (lv_at hl 0 rfl) ?_
          refine va_get (D := (dC, dI)) (ci := 1) (C := RX1) (T := TX1) (N := 5) hx hb hts hin1 hown hK hP 5 rfl rfl 0 (by decide) lk0 (fun _ h9 => h9) rfl dX1_merge_194 ?_
          refine lv_aload_n hx hb dX1_merge_197 rfl (lv_at hl 2 rfl) ?_
          refine lv_iload hx hb dX1_merge_198 (lv_at hl 4 rfl) ?_
          refine lv_aload_n hx hb dX1_merge_200 rfl (lv_at hl 2 rfl) ?_
          refine va_get (D := (dC, dI)) (ci := 3) (C := RX3) (T := TX3) (N := 2) hx hb hts hin3 hown hK hP (58 + 2 * ka) (xw_ro ka (by omega)) rfl 1 (by decide) lk2 (fun _ h9 => h9) rfl dX1_merge_201 ?_
          refine nx_ti (y := nI ((va_up R 27 M) ka).length) ((hZ ka (by omega)).2.1) ?_
          refine nx_ti (y := nI (R ka).length) (by rw [upn (show ka ≠ 27 by omega)]) ?_
          refine xc_i (b := ad 112) (As := [.ref (ad (58 + 2 * ka)), .int (nI i), .int (nI (R ka).length)]) (rest := []) ⟨hx, hb, hml, hown, hts⟩ (x_addPart l dC dI aC ad cap hI v (va_up R 27 M) F G 27 (by decide) ka (by omega) i (R ka).length (by omega) (by rw [upn (show ka ≠ 27 by omega)]; omega)) (cwV 3 hts gX1_merge_X3_addPart rfl rfl rfl (by decide +kernel) ⟨Nat.le_of_ble_eq_true rfl, Nat.le_of_ble_eq_true rfl⟩) (xPre (q0 := 112) (ci := 3) rfl rfl hK hZ hP) hS rfl hl.1 rfl (Nat.le_of_ble_eq_true rfl) dX1_merge_204 ⟨Nat.le_of_ble_eq_true rfl, Nat.le_of_ble_eq_true rfl⟩ (fun x_204 v6 R6 F6 G6 Z S H locs h_204 hZ hP hS => ?_)
          obtain ⟨M_7, hu_204, hx_204, hM_204⟩ := adds_u (R0 := R) (M := M) (to := 27) (fr := ka) (show ka ≠ 27 by omega) h_204
          subst hx_204
          cases hu_204
          subst hQ
          exact W.zret (v := bI (M.length + ((R ka).length - i) ≤ 60)) hx hb hret (bI_nar) (fun tq htq hWq => ⟨⟨_, (v, va_up R 27 M_7, F, G), rfl, ⟨_, rfl, ((bI_iff (by rw [mrg, ← hres, mgF_end (show (R kb).length ≤ j by omega)]; exact ⟨fun _ => rfl, fun _ => by omega⟩))), fun N h => by rw [mrg, ← hres, mgF_end (show (R kb).length ≤ j by omega)] at h; cases h; exact hM_204 (by omega)⟩, va_K.moved hWq.alike hK, _, _, hZ, by rw [htq]; exact hP⟩, hS.F htq⟩) hS.2.2 dX1_merge_207
        · skip
          refine lv_iload hx hb dX1_merge_49 (lv_at hl 5 rfl) ?_
          refine lv_aload_n hx hb dX1_merge_51 rfl (lv_at hl 3 rfl) ?_
          refine va_get (D := (dC, dI)) (ci := 3) (C := RX3) (T := TX3) (N := 2) hx hb hts hin3 hown hK hP (58 + 2 * kb) (xw_ro kb (by omega)) rfl 1 (by decide) lk2 (fun _ h9 => h9) rfl dX1_merge_52 ?_
          refine nx_ti (y := nI ((va_up R 27 M) kb).length) ((hZ kb (by omega)).2.1) ?_
          refine nx_ti (y := nI (R kb).length) (by rw [upn (show kb ≠ 27 by omega)]) ?_
          refine nx_icmp_ge (a := j) (b := (R kb).length) (tgt := 193) hx hb dX1_merge_55 (by decide) (by omega) (by omega) (fun c_55 => ?_) (fun c_55 => ?_)
          · skip
            have hjb : (R kb).length ≤ j := by omega
            obtain ⟨f2, rfl⟩ : ∃ f2, fu = f2 + 1 := ⟨fu - 1, by omega⟩
            refine lv_aload_n hx hb dX1_merge_193 rfl (lv_at hl 0 rfl) ?_
            refine va_get (D := (dC, dI)) (ci := 1) (C := RX1) (T := TX1) (N := 5) hx hb hts hin1 hown hK hP 5 rfl rfl 0 (by decide) lk0 (fun _ h9 => h9) rfl dX1_merge_194 ?_
            refine lv_aload_n hx hb dX1_merge_197 rfl (lv_at hl 2 rfl) ?_
            refine lv_iload hx hb dX1_merge_198 (lv_at hl 4 rfl) ?_
            refine lv_aload_n hx hb dX1_merge_200 rfl (lv_at hl 2 rfl) ?_
            refine va_get (D := (dC, dI)) (ci := 3) (C := RX3) (T := TX3) (N := 2) hx hb hts hin3 hown hK hP (58 + 2 * ka) (xw_ro ka (by omega)) rfl 1 (by decide) lk2 (fun _ h9 => h9) rfl dX1_merge_201 ?_
            refine nx_ti (y := nI ((va_up R 27 M) ka).length) ((hZ ka (by omega)).2.1) ?_
            refine nx_ti (y := nI (R ka).length) (by rw [upn (show ka ≠ 27 by omega)]) ?_
            refine xc_i (b := ad 112) (As := [.ref (ad (58 + 2 * ka)), .int (nI i), .int (nI (R ka).length)]) (rest := []) ⟨hx, hb, hml, hown, hts⟩ (x_addPart l dC dI aC ad cap hI v (va_up R 27 M) F G 27 (by decide) ka (by omega) i (R ka).length (by omega) (by rw [upn (show ka ≠ 27 by omega)]; omega)) (cwV 3 hts gX1_merge_X3_addPart rfl rfl rfl (by decide +kernel) ⟨Nat.le_of_ble_eq_true rfl, Nat.le_of_ble_eq_true rfl⟩) (xPre (q0 := 112) (ci := 3) rfl rfl hK hZ hP) hS rfl hl.1 rfl (Nat.le_of_ble_eq_true rfl) dX1_merge_204 ⟨Nat.le_of_ble_eq_true rfl, Nat.le_of_ble_eq_true rfl⟩ (fun x_204 v8 R8 F8 G8 Z S H locs h_204 hZ hP hS => ?_)
            obtain ⟨M_9, hu_204, hx_204, hM_204⟩ := adds_u (R0 := R) (M := M) (to := 27) (fr := ka) (show ka ≠ 27 by omega) h_204
            subst hx_204
            cases hu_204
            subst hQ
            exact W.zret (v := bI (M.length + ((R ka).length - i) ≤ 60)) hx hb hret (bI_nar) (fun tq htq hWq => ⟨⟨_, (v, va_up R 27 M_9, F, G), rfl, ⟨_, rfl, ((bI_iff (by rw [mrg, ← hres, mgF_end (show (R kb).length ≤ j by omega)]; exact ⟨fun _ => rfl, fun _ => by omega⟩))), fun N h => by rw [mrg, ← hres, mgF_end (show (R kb).length ≤ j by omega)] at h; cases h; exact hM_204 (by omega)⟩, va_K.moved hWq.alike hK, _, _, hZ, by rw [htq]; exact hP⟩, hS.F htq⟩) hS.2.2 dX1_merge_207
          · skip
            have hkp := mgI_pos hJ c_55
            obtain ⟨f2, rfl⟩ : ∃ f2, fu = f2 + 1 := ⟨fu - 1, by omega⟩
            refine lv_aload_n hx hb dX1_merge_58 rfl (lv_at hl 2 rfl) ?_
            refine va_get (D := (dC, dI)) (ci := 3) (C := RX3) (T := TX3) (N := 2) hx hb hts hin3 hown hK hP (58 + 2 * ka) (xw_ro ka (by omega)) rfl 0 (by decide) lk3 (fun _ h9 => h9) rfl dX1_merge_59 ?_
            refine lv_iload hx hb dX1_merge_62 (lv_at hl 4 rfl) ?_
            refine nx_iald hx hb hK hP (59 + 2 * ka) 0 (xw_ra ka (by omega)) rfl (i := i) (by have := (hZ ka (by omega)).1; omega) (by decide) dX1_merge_64 ?_
            refine nx_ti (y := gD ((va_up R 27 M) ka) i) ((hZ ka (by omega)).2.2 i (by rw [upn (show ka ≠ 27 by omega)]; omega)) ?_
            refine nx_ti (y := gD (R ka) i) (by rw [upn (show ka ≠ 27 by omega)]) ?_
            refine lv_aload_n hx hb dX1_merge_65 rfl (lv_at hl 3 rfl) ?_
            refine va_get (D := (dC, dI)) (ci := 3) (C := RX3) (T := TX3) (N := 2) hx hb hts hin3 hown hK hP (58 + 2 * kb) (xw_ro kb (by omega)) rfl 0 (by decide) lk3 (fun _ h9 => h9) rfl dX1_merge_66 ?_
            refine lv_iload hx hb dX1_merge_69 (lv_at hl 5 rfl) ?_
            refine nx_iald hx hb hK hP (59 + 2 * kb) 0 (xw_ra kb (by omega)) rfl (i := j) (by have := (hZ kb (by omega)).1; omega) (by decide) dX1_merge_71 ?_
            refine nx_ti (y := gD ((va_up R 27 M) kb) j) ((hZ kb (by omega)).2.2 j (by rw [upn (show kb ≠ 27 by omega)]; omega)) ?_
            refine nx_ti (y := gD (R kb) j) (by rw [upn (show kb ≠ 27 by omega)]) ?_
            refine lv_icmp_ne (tgt := 99) hx hb dX1_merge_72 (by decide) (fun c_72 => ?_) (fun c_72 => ?_)
            · skip
              refine lv_aload_n hx hb dX1_merge_99 rfl (lv_at hl 2 rfl) ?_
              refine va_get (D := (dC, dI)) (ci := 3) (C := RX3) (T := TX3) (N := 2) hx hb hts hin3 hown hK hP (58 + 2 * ka) (xw_ro ka (by omega)) rfl 0 (by decide) lk3 (fun _ h9 => h9) rfl dX1_merge_100 ?_
              refine lv_iload hx hb dX1_merge_103 (lv_at hl 4 rfl) ?_
              refine nx_iald hx hb hK hP (59 + 2 * ka) 0 (xw_ra ka (by omega)) rfl (i := i) (by have := (hZ ka (by omega)).1; omega) (by decide) dX1_merge_105 ?_
              refine nx_ti (y := gD ((va_up R 27 M) ka) i) ((hZ ka (by omega)).2.2 i (by rw [upn (show ka ≠ 27 by omega)]; omega)) ?_
              refine nx_ti (y := gD (R ka) i) (by rw [upn (show ka ≠ 27 by omega)]) ?_
              refine lv_iconst (v := (-1)) hx hb dX1_merge_106 (by decide) ?_
              refine lv_icmp_ne (tgt := 142) hx hb dX1_merge_107 (by decide) (fun c_107 => ?_) (fun c_107 => ?_)
              · skip
                refine lv_aload_n hx hb dX1_merge_142 rfl (lv_at hl 3 rfl) ?_
                refine va_get (D := (dC, dI)) (ci := 3) (C := RX3) (T := TX3) (N := 2) hx hb hts hin3 hown hK hP (58 + 2 * kb) (xw_ro kb (by omega)) rfl 0 (by decide) lk3 (fun _ h9 => h9) rfl dX1_merge_143 ?_
                refine lv_iload hx hb dX1_merge_146 (lv_at hl 5 rfl) ?_
                refine nx_iald hx hb hK hP (59 + 2 * kb) 0 (xw_ra kb (by omega)) rfl (i := j) (by have := (hZ kb (by omega)).1; omega) (by decide) dX1_merge_148 ?_
                refine nx_ti (y := gD ((va_up R 27 M) kb) j) ((hZ kb (by omega)).2.2 j (by rw [upn (show kb ≠ 27 by omega)]; omega)) ?_
                refine nx_ti (y := gD (R kb) j) (by rw [upn (show kb ≠ 27 by omega)]) ?_
                refine lv_iconst (v := (-1)) hx hb dX1_merge_149 (by decide) ?_
                refine lv_icmp_ne (tgt := 185) hx hb dX1_merge_150 (by decide) (fun c_150 => ?_) (fun c_150 => ?_)
                · skip
                  refine lv_iconst (v := nI 0) hx hb dX1_merge_185 (by decide) ?_
                  subst hQ
                  exact W.zret (v := nI 0) hx hb hret (rfl) (fun tq htq hWq => ⟨⟨_, (v, va_up R 27 M, F, G), rfl, ⟨_, rfl, (bI_f (by rw [mrg, ← hres, mgF_d c_55 c_107 c_150 c_72]; exact fun h => by cases h)).symm, fun N h => by rw [mrg, ← hres, mgF_d c_55 c_107 c_150 c_72] at h; cases h⟩, va_K.moved hWq.alike hK, _, _, hZ, by rw [htq]; exact hP⟩, hS.F htq⟩) hS.2.2 dX1_merge_186
                · skip
                  obtain ⟨q, hq, hq1, hq2, hJ2⟩ := mgI_b hJ c_55 c_150
                  refine lv_aload_n hx hb dX1_merge_153 rfl (lv_at hl 1 rfl) ?_
                  refine lv_aload_n hx hb dX1_merge_154 rfl (lv_at hl 2 rfl) ?_
                  refine lv_iload hx hb dX1_merge_155 (lv_at hl 4 rfl) ?_
                  refine xp_i (b := ad 1) (As := [.ref (ad (58 + 2 * ka)), .int (nI i)]) (rest := []) ⟨hx, hb, hml, hown, hts⟩ (x_endOf l dC dI aC ad cap v (va_up R 27 M) F G A hE hA ka (by omega) (by rw [upn (show ka ≠ 27 by omega)]; exact hVa) i (by omega)) (cwV 2 hts gX1_merge_X8_endOf rfl rfl rfl (by decide +kernel) ⟨Nat.le_of_ble_eq_true rfl, Nat.le_of_ble_eq_true rfl⟩) (xPre (q0 := 1) (ci := 8) rfl rfl hK hZ hP) rfl hl.1 rfl (Nat.le_of_ble_eq_true rfl) dX1_merge_157 ⟨Nat.le_of_ble_eq_true rfl, Nat.le_of_ble_eq_true rfl⟩ (fun x_157 h_157 => ?_)
                  refine nx_ti (y := eX (va_up R 27 M ka).length (endL (F 0) (va_up R 27 M ka) i)) h_157 ?_
                  refine nx_ti (y := nI q) (by rw [upn (show ka ≠ 27 by omega), hq]; rfl) ?_
                  refine lv_istore (lv' := [(7, .int (nI q)), (0, .ref (ad 5)), (1, .ref (ad 1)), (2, .ref (ad (58 + 2 * ka))), (3, .ref (ad (58 + 2 * kb))), (4, .int (nI i)), (5, .int (nI j)), (6, .int (nI tu))]) hx hb dX1_merge_160 hl (by decide) rfl (fun ls hl => ?_)
                  refine lv_aload_n hx hb dX1_merge_162 rfl (lv_at hl 1 rfl) ?_
                  refine va_get (D := (dC, dI)) (ci := 1) (C := RX1) (T := TX1) (N := 5) hx hb hts hin1 hown hK hP 5 rfl rfl 0 (by decide) lk0 (fun _ h9 => h9) rfl dX1_merge_163 ?_
                  refine lv_aload_n hx hb dX1_merge_166 rfl (lv_at hl 3 rfl) ?_
                  refine lv_iload hx hb dX1_merge_167 (lv_at hl 5 rfl) ?_
                  refine lv_iload hx hb dX1_merge_169 (lv_at hl 0 rfl) ?_
                  refine xc_i (b := ad 112) (As := [.ref (ad (58 + 2 * ka)), .int (nI i), .int (nI q)]) (rest := []) ⟨hx, hb, hml, hown, hts⟩ (x_addPart l dC dI aC ad cap hI v (va_up R 27 M) F G 27 (by decide) ka (by omega) i q (by omega) (by rw [upn (show ka ≠ 27 by omega)]; omega)) (cwV 3 hts gX1_merge_X3_addPart rfl rfl rfl (by decide +kernel) ⟨Nat.le_of_ble_eq_true rfl, Nat.le_of_ble_eq_true rfl⟩) (xPre (q0 := 112) (ci := 3) rfl rfl hK hZ hP) hS rfl hl.1 rfl (Nat.le_of_ble_eq_true rfl) dX1_merge_171 ⟨Nat.le_of_ble_eq_true rfl, Nat.le_of_ble_eq_true rfl⟩ (fun x_171 v10 R10 F10 G10 Z S H locs h_171 hZ hP hS => ?_)
                  obtain ⟨M_11, hu_171, hx_171, hM_171⟩ := adds_u (R0 := R) (M := M) (to := 27) (fr := ka) (show ka ≠ 27 by omega) h_171
                  subst hx_171
                  cases hu_171
                  refine lv_pop hx hb dX1_merge_174 rfl ?_
                  refine lv_iload hx hb dX1_merge_175 (lv_at hl 0 rfl) ?_
                  refine lv_istore (lv' := [(4, .int (nI q)), (7, .int (nI q)), (0, .ref (ad 5)), (1, .ref (ad 1)), (2, .ref (ad (58 + 2 * ka))), (3, .ref (ad (58 + 2 * kb))), (5, .int (nI j)), (6, .int (nI tu))]) hx hb dX1_merge_177 hl (by decide) rfl (fun ls hl => ?_)
                  refine lv_iinc (v := nI (j + 1)) (lv' := [(5, .int (nI (j + 1))), (4, .int (nI q)), (7, .int (nI q)), (0, .ref (ad 5)), (1, .ref (ad 1)), (2, .ref (ad (58 + 2 * ka))), (3, .ref (ad (58 + 2 * kb))), (6, .int (nI tu))]) hx hb dX1_merge_179 hl (k := 6) rfl (nI_add _ _) (by decide) rfl (fun ls hl => ?_)
                  refine lv_goto (tgt := 187) hx hb dX1_merge_182 (by decide) ?_
                  refine lv_iinc (v := nI (tu + 1)) (lv' := [(6, .int (nI (tu + 1))), (5, .int (nI (j + 1))), (4, .int (nI q)), (7, .int (nI q)), (0, .ref (ad 5)), (1, .ref (ad 1)), (2, .ref (ad (58 + 2 * ka))), (3, .ref (ad (58 + 2 * kb)))]) hx hb dX1_merge_187 hl (k := 7) rfl (nI_add _ _) (by decide) rfl (fun ls hl => ?_)
                  refine lv_goto (tgt := 33) hx hb dX1_merge_190 (by decide) ?_
                  exact ih33 (tu + 1) q (j + 1) (k - 1) f2 M_11 _ _ _ _ _ (by omega) hJ2 (by rw [hM_171 (by omega), List.length_append, slc_len hq2]; omega) (by omega) (by rw [hM_171 (by omega), ← mgF_b c_55 c_107 c_150 hq]; exact hres) hZ hP hS (by omega) (lv_sub hl [4, 5, 6, 7, 2, 1, 0] rfl)
              · skip
                obtain ⟨q, hq, hq1, hq2, hJ2⟩ := mgI_a hJ c_55 c_107
                refine lv_aload_n hx hb dX1_merge_110 rfl (lv_at hl 1 rfl) ?_
                refine lv_aload_n hx hb dX1_merge_111 rfl (lv_at hl 3 rfl) ?_
                refine lv_iload hx hb dX1_merge_112 (lv_at hl 5 rfl) ?_
                refine xp_i (b := ad 1) (As := [.ref (ad (58 + 2 * kb)), .int (nI j)]) (rest := []) ⟨hx, hb, hml, hown, hts⟩ (x_endOf l dC dI aC ad cap v (va_up R 27 M) F G A hE hA kb (by omega) (by rw [upn (show kb ≠ 27 by omega)]; exact hVb) j (by omega)) (cwV 2 hts gX1_merge_X8_endOf rfl rfl rfl (by decide +kernel) ⟨Nat.le_of_ble_eq_true rfl, Nat.le_of_ble_eq_true rfl⟩) (xPre (q0 := 1) (ci := 8) rfl rfl hK hZ hP) rfl hl.1 rfl (Nat.le_of_ble_eq_true rfl) dX1_merge_114 ⟨Nat.le_of_ble_eq_true rfl, Nat.le_of_ble_eq_true rfl⟩ (fun x_114 h_114 => ?_)
                refine nx_ti (y := eX (va_up R 27 M kb).length (endL (F 0) (va_up R 27 M kb) j)) h_114 ?_
                refine nx_ti (y := nI q) (by rw [upn (show kb ≠ 27 by omega), hq]; rfl) ?_
                refine lv_istore (lv' := [(7, .int (nI q)), (0, .ref (ad 5)), (1, .ref (ad 1)), (2, .ref (ad (58 + 2 * ka))), (3, .ref (ad (58 + 2 * kb))), (4, .int (nI i)), (5, .int (nI j)), (6, .int (nI tu))]) hx hb dX1_merge_117 hl (by decide) rfl (fun ls hl => ?_)
                refine lv_aload_n hx hb dX1_merge_119 rfl (lv_at hl 1 rfl) ?_
                refine va_get (D := (dC, dI)) (ci := 1) (C := RX1) (T := TX1) (N := 5) hx hb hts hin1 hown hK hP 5 rfl rfl 0 (by decide) lk0 (fun _ h9 => h9) rfl dX1_merge_120 ?_
                refine lv_aload_n hx hb dX1_merge_123 rfl (lv_at hl 4 rfl) ?_
                refine lv_iload hx hb dX1_merge_124 (lv_at hl 6 rfl) ?_
                refine lv_iload hx hb dX1_merge_126 (lv_at hl 0 rfl) ?_
                refine xc_i (b := ad 112) (As := [.ref (ad (58 + 2 * kb)), .int (nI j), .int (nI q)]) (rest := []) ⟨hx, hb, hml, hown, hts⟩ (x_addPart l dC dI aC ad cap hI v (va_up R 27 M) F G 27 (by decide) kb (by omega) j q (by omega) (by rw [upn (show kb ≠ 27 by omega)]; omega)) (cwV 3 hts gX1_merge_X3_addPart rfl rfl rfl (by decide +kernel) ⟨Nat.le_of_ble_eq_true rfl, Nat.le_of_ble_eq_true rfl⟩) (xPre (q0 := 112) (ci := 3) rfl rfl hK hZ hP) hS rfl hl.1 rfl (Nat.le_of_ble_eq_true rfl) dX1_merge_128 ⟨Nat.le_of_ble_eq_true rfl, Nat.le_of_ble_eq_true rfl⟩ (fun x_128 v12 R12 F12 G12 Z S H locs h_128 hZ hP hS => ?_)
                obtain ⟨M_13, hu_128, hx_128, hM_128⟩ := adds_u (R0 := R) (M := M) (to := 27) (fr := kb) (show kb ≠ 27 by omega) h_128
                subst hx_128
                cases hu_128
                refine lv_pop hx hb dX1_merge_131 rfl ?_
                refine lv_iinc (v := nI (i + 1)) (lv' := [(4, .int (nI (i + 1))), (7, .int (nI q)), (0, .ref (ad 5)), (1, .ref (ad 1)), (2, .ref (ad (58 + 2 * ka))), (3, .ref (ad (58 + 2 * kb))), (5, .int (nI j)), (6, .int (nI tu))]) hx hb dX1_merge_132 hl (k := 5) rfl (nI_add _ _) (by decide) rfl (fun ls hl => ?_)
                refine lv_iload hx hb dX1_merge_135 (lv_at hl 1 rfl) ?_
                refine lv_istore (lv' := [(5, .int (nI q)), (4, .int (nI (i + 1))), (7, .int (nI q)), (0, .ref (ad 5)), (1, .ref (ad 1)), (2, .ref (ad (58 + 2 * ka))), (3, .ref (ad (58 + 2 * kb))), (6, .int (nI tu))]) hx hb dX1_merge_137 hl (by decide) rfl (fun ls hl => ?_)
                refine lv_goto (tgt := 187) hx hb dX1_merge_139 (by decide) ?_
                refine lv_iinc (v := nI (tu + 1)) (lv' := [(6, .int (nI (tu + 1))), (5, .int (nI q)), (4, .int (nI (i + 1))), (7, .int (nI q)), (0, .ref (ad 5)), (1, .ref (ad 1)), (2, .ref (ad (58 + 2 * ka))), (3, .ref (ad (58 + 2 * kb)))]) hx hb dX1_merge_187 hl (k := 7) rfl (nI_add _ _) (by decide) rfl (fun ls hl => ?_)
                refine lv_goto (tgt := 33) hx hb dX1_merge_190 (by decide) ?_
                exact ih33 (tu + 1) (i + 1) q (k - 1) f2 M_13 _ _ _ _ _ (by omega) hJ2 (by rw [hM_128 (by omega), List.length_append, slc_len hq2]; omega) (by omega) (by rw [hM_128 (by omega), ← mgF_a c_55 c_107 hq]; exact hres) hZ hP hS (by omega) (lv_sub hl [4, 5, 6, 7, 2, 1, 0] rfl)
            · skip
              refine lv_aload_n hx hb dX1_merge_75 rfl (lv_at hl 0 rfl) ?_
              refine va_get (D := (dC, dI)) (ci := 1) (C := RX1) (T := TX1) (N := 5) hx hb hts hin1 hown hK hP 5 rfl rfl 0 (by decide) lk0 (fun _ h9 => h9) rfl dX1_merge_76 ?_
              refine lv_aload_n hx hb dX1_merge_79 rfl (lv_at hl 2 rfl) ?_
              refine va_get (D := (dC, dI)) (ci := 3) (C := RX3) (T := TX3) (N := 2) hx hb hts hin3 hown hK hP (58 + 2 * ka) (xw_ro ka (by omega)) rfl 0 (by decide) lk3 (fun _ h9 => h9) rfl dX1_merge_80 ?_
              refine lv_iload hx hb dX1_merge_83 (lv_at hl 4 rfl) ?_
              refine nx_iald hx hb hK hP (59 + 2 * ka) 0 (xw_ra ka (by omega)) rfl (i := i) (by have := (hZ ka (by omega)).1; omega) (by decide) dX1_merge_85 ?_
              refine nx_ti (y := gD ((va_up R 27 M) ka) i) ((hZ ka (by omega)).2.2 i (by rw [upn (show ka ≠ 27 by omega)]; omega)) ?_
              refine nx_ti (y := gD (R ka) i) (by rw [upn (show ka ≠ 27 by omega)]) ?_
              refine xc_i (b := ad 112) (As := [.int (gD (R ka) i)]) (rest := []) ⟨hx, hb, hml, hown, hts⟩ (x_add l dC dI aC ad cap hI v (va_up R 27 M) F G 27 (by decide) (gD (R ka) i)) (cwV 1 hts gX1_merge_X3_add rfl rfl rfl (by decide +kernel) ⟨Nat.le_of_ble_eq_true rfl, Nat.le_of_ble_eq_true rfl⟩) (xPre (q0 := 112) (ci := 3) rfl rfl hK hZ hP) hS rfl hl.1 rfl (Nat.le_of_ble_eq_true rfl) dX1_merge_86 ⟨Nat.le_of_ble_eq_true rfl, Nat.le_of_ble_eq_true rfl⟩ (fun x_86 v14 R14 F14 G14 Z S H locs h_86 hZ hP hS => ?_)
              obtain ⟨M_15, hu_86, hx_86, hM_86⟩ := add_u (R0 := R) (M := M) (to := 27) h_86
              subst hx_86
              cases hu_86
              refine lv_pop hx hb dX1_merge_89 rfl ?_
              refine lv_iinc (v := nI (i + 1)) (lv' := [(4, .int (nI (i + 1))), (0, .ref (ad 5)), (1, .ref (ad 1)), (2, .ref (ad (58 + 2 * ka))), (3, .ref (ad (58 + 2 * kb))), (5, .int (nI j)), (6, .int (nI tu))]) hx hb dX1_merge_90 hl (k := 4) rfl (nI_add _ _) (by decide) rfl (fun ls hl => ?_)
              refine lv_iinc (v := nI (j + 1)) (lv' := [(5, .int (nI (j + 1))), (4, .int (nI (i + 1))), (0, .ref (ad 5)), (1, .ref (ad 1)), (2, .ref (ad (58 + 2 * ka))), (3, .ref (ad (58 + 2 * kb))), (6, .int (nI tu))]) hx hb dX1_merge_93 hl (k := 5) rfl (nI_add _ _) (by decide) rfl (fun ls hl => ?_)
              refine lv_goto (tgt := 187) hx hb dX1_merge_96 (by decide) ?_
              refine lv_iinc (v := nI (tu + 1)) (lv' := [(6, .int (nI (tu + 1))), (5, .int (nI (j + 1))), (4, .int (nI (i + 1))), (0, .ref (ad 5)), (1, .ref (ad 1)), (2, .ref (ad (58 + 2 * ka))), (3, .ref (ad (58 + 2 * kb)))]) hx hb dX1_merge_187 hl (k := 6) rfl (nI_add _ _) (by decide) rfl (fun ls hl => ?_)
              refine lv_goto (tgt := 33) hx hb dX1_merge_190 (by decide) ?_
              exact ih33 (tu + 1) (i + 1) (j + 1) _ f2 M_15 _ _ _ _ _ (by omega) (mgI_c hJ c_55 c_72) (by rw [hM_86 (by omega), List.length_append, List.length_singleton]; omega) (by omega) (by rw [hM_86 (by omega), ← mg_eq hJ c_55 c_72]; exact hres) hZ hP hS (by omega) (lv_sub hl [3, 4, 5, 6, 2, 1, 0] rfl)
  exact L33 (13 - 0 + 1) 0 u0 0 1 ((R kb).length + 1) M_3 _ _ _ _ _ (by omega) (mgI_0 hTa hTb hu0) (by rw [hM_17 (by show 0 + _ ≤ 60; omega)]; show (slc (R ka) 0 u0).length ≤ _; rw [slc_len (by omega)]; omega) (by omega) (by rw [hM_17 (by show 0 + _ ≤ 60; omega)]; rfl) hZ hP hS (Nat.lt_succ_self _) (lv_sub hl [3, 4, 5, 6, 2, 1, 0] rfl)

set_option maxHeartbeats 1000000 in
set_option maxRecDepth 100000 in
/-- Peaks.next -/
theorem x_next (l : Launch) (dC : Nat → ClassId) (dI : Nat → Nat → Nat) (aC : Nat → ClassId) (ad cap : Nat → Nat) (hI : xI ad) (v : Nat → Int32) (R : Nat → List Int32) (F : Nat → Nat → Int32) (G : Nat → Nat → Int64) (A : Nat) (hE : vE A (F 0)) (hA : v 0 = nI A) (n : Nat) (hn : v 1 = nI n) (hn8 : n ≤ 8) (hTl : ∀ j, j < n → isT (F 0) (R (10 + j))) (hVl : ∀ j, j < n → vR A (R (10 + j))) (hl13 : ∀ j, j < n → (R (10 + j)).length ≤ 13) (s0 : Nat) (hs0 : s0 ≤ 832) (h9 : v 9 = sy s0) : Met l yX1_next wsX1_next ({ frames := 3, cells := 0, slots := 0, locals := 90 } : Room) (va_Pc [.ref (ad 5), .ref (ad 1)] (XB dC dI aC ad cap (v, R, F, G))) (va_Qi (fun (x : Int32) (u : MS) => (∃ sp M, s0 ≤ sp ∧ sp < 832 ∧ (∀ j, s0 ≤ j → j < sp → ovA (F 0) R n j = none) ∧ ovA (F 0) R n sp = some M ∧ x = nI 1 ∧ (va_up (va_up (va_up (va_up v 6 (nI (sp / 104))) 7 (nI (sp / 13 % 8))) 8 (nI (sp % 13))) 9 (nI sp), va_up R 27 M, F, G) = u) ∨ ((∀ j, s0 ≤ j → j < 832 → ovA (F 0) R n j = none) ∧ x = nI 0 ∧ ∃ a6 a7 a8 a9 M, (va_up (va_up (va_up (va_up v 6 a6) 7 a7) 8 a8) 9 a9, va_up R 27 M, F, G) = u)) (XB dC dI aC ad cap) (xA ad)) 0 0 (xA ad) := by
  refine Met.ofW (cc := cX1_next) (maxL := 2) (ret := (some .boolean)) (by decide) rfl ?_
  intro p e s m args below meth c s₁ B hml hv
  obtain ⟨rfl, hK, Z, S, hZ, hP⟩ := hv
  have hx := B.exec
  have hb := B.bytes
  have hret := B.returns
  have hts := atoms_spec (ws := wsX1_next) B.pre
  have hown : s.vm.findClass RX1 = some m.cls := findClass_of_methodNamed B.named
  have hlocks := B.notSynchronized
  dsimp only at hZ hP
  have lk0 := hts (.fieldLink RX1 18 "LeafTrees$Peaks" "spot" "I") (by decide +kernel)
  have lk1 := hts (.fieldLink RX1 22 "LeafTrees$Peaks" "outer" "I") (by decide +kernel)
  have lk2 := hts (.fieldLink RX1 25 "LeafTrees$Peaks" "inner" "I") (by decide +kernel)
  have lk3 := hts (.fieldLink RX1 28 "LeafTrees$Peaks" "place" "I") (by decide +kernel)
  have lk4 := hts (.fieldLink RX1 35 "LeafTrees$World" "rules" "[LLeafTrees$Rule;") (by decide +kernel)
  have lk5 := hts (.fieldLink RX1 41 "LeafTrees$Rule" "left" "LLeafTrees$Row;") (by decide +kernel)
  have hin1 : ∀ w ∈ u_ws RX1 TX1 5, w ∈ wsX1_next := by decide +kernel
  have hin4 : ∀ w ∈ u_ws RX4 TX4 3, w ∈ wsX1_next := by decide +kernel
  have hin8 : ∀ w ∈ u_ws RX8 TX8 4, w ∈ wsX1_next := by decide +kernel
  have hS : va_S (xA ad) s.heap s.heap [] := va_S.rf
  have hl := lv_entry [.ref (ad 5), .ref (ad 1)] (n := 2) (Nat.le_of_ble_eq_true rfl)
  rw [lg_entry_eq]
  generalize (lg_sl [.ref (ad 5), .ref (ad 1)] ++ List.replicate (2 - (lg_sl [.ref (ad 5), .ref (ad 1)]).length) Slot.unset).toArray = ls at hl ⊢
  have hl : lv_has ls 2 [(0, .ref (ad 5)), (1, .ref (ad 1))] := hl
  refine nx_Q (R := ({ frames := 3, cells := 0, slots := 0, locals := 90 } : Room)) (fun Q hQ => ?_)
  refine lv_aload_n hx hb dX1_next_0 rfl (lv_at hl 0 rfl) ?_
  refine lv_dup hx hb dX1_next_1 rfl ?_
  refine va_get (D := (dC, dI)) (ci := 1) (C := RX1) (T := TX1) (N := 5) hx hb hts hin1 hown hK hP 5 rfl rfl 4 (by decide) lk0 (fun _ h9 => h9) rfl dX1_next_2 ?_
  refine nx_ti (y := sy s0) (h9) ?_
  refine lv_iconst (v := nI 1) hx hb dX1_next_5 (by decide) ?_
  refine lv_iadd hx hb dX1_next_6 ?_
  refine nx_ti (y := nI s0) (sc_add) ?_
  refine va_put (D := (dC, dI)) (ci := 1) (v := .int (nI s0)) (ty := .int) (C := RX1) (T := TX1) (N := 5) hx hb hts hin1 tyX1 tyX1_ok nmX1 hown hK hP (wsX_D hI) hS 5 rfl rfl 4 (by decide) lk0 (fun _ h9 => h9) rfl (by decide +kernel) rfl rfl (Nat.le_of_ble_eq_true rfl) dX1_next_7 (fun H locs hP _ hS => ?_)
  have hP : va_P (dC, dI) vwCl (wsX aC ad cap (va_up v 9 (nI s0)) Z S F G) H := hP
  have L10 : ∀ (fuel10 : Nat) (sp : Nat) (M : List Int32) (a6 : Int32) (a7 : Int32) (a8 : Int32) (Z : Nat → Int32) (S : Nat → Nat → Int32) (H : Heap) (locs : List Loc) (ls : Array Slot), (s0 ≤ sp ∧ sp ≤ 832) → (∀ j, s0 ≤ j → j < sp → ovA (F 0) R n j = none) → xOK Z S (va_up R 27 M) → va_P (dC, dI) vwCl (wsX aC ad cap (va_up (va_up (va_up (va_up v 6 a6) 7 a7) 8 a8) 9 (nI sp)) Z S F G) H → va_S (xA ad) s.heap H locs → 832 - sp < fuel10 → lv_has ls 2 [(0, .ref (ad 5)), (1, .ref (ad 1))] → W p l e ({ frames := 3, cells := 0, slots := 0, locals := 90 } : Room) s m ([.ref (ad 5), .ref (ad 1)] : List Value).toArray below meth c H locs 0 0 Q (F0 m 10 ls []) := by
    intro fuel10
    induction fuel10 with
    | zero => intro sp M a6 a7 a8 Z S H locs ls hsp hno hZ hP hS hf10 hl; exact absurd hf10 (Nat.not_lt_zero _)
    | succ fuel10 ih10 =>
      intro sp M a6 a7 a8 Z S H locs ls hsp hno hZ hP hS hf10 hl
      refine lv_aload_n hx hb dX1_next_10 rfl (lv_at hl 0 rfl) ?_
      refine va_get (D := (dC, dI)) (ci := 1) (C := RX1) (T := TX1) (N := 5) hx hb hts hin1 hown hK hP 5 rfl rfl 4 (by decide) lk0 (fun _ h9 => h9) rfl dX1_next_11 ?_
      refine lv_sipush (v := nI 832) hx hb dX1_next_14 (by decide) ?_
      refine nx_icmp_ge (a := sp) (b := 832) (tgt := 111) hx hb dX1_next_17 (by decide) (by omega) (by omega) (fun c_17 => ?_) (fun c_17 => ?_)
      · skip
        refine lv_iconst (v := nI 0) hx hb dX1_next_111 (by decide) ?_
        subst hQ
        exact W.zret (v := nI 0) hx hb hret (rfl) (fun tq htq hWq => ⟨⟨_, ((va_up (va_up (va_up (va_up v 6 a6) 7 a7) 8 a8) 9 (nI sp)), va_up R 27 M, F, G), rfl, Or.inr ⟨fun j h1 h2 => hno j h1 (by omega), rfl, _, _, _, _, _, rfl⟩, va_K.moved hWq.alike hK, _, _, hZ, by rw [htq]; exact hP⟩, hS.F htq⟩) hS.2.2 dX1_next_112
      · skip
        refine lv_aload_n hx hb dX1_next_20 rfl (lv_at hl 0 rfl) ?_
        refine lv_aload_n hx hb dX1_next_21 rfl (lv_at hl 0 rfl) ?_
        refine va_get (D := (dC, dI)) (ci := 1) (C := RX1) (T := TX1) (N := 5) hx hb hts hin1 hown hK hP 5 rfl rfl 4 (by decide) lk0 (fun _ h9 => h9) rfl dX1_next_22 ?_
        refine lv_bipush (v := nI 104) hx hb dX1_next_25 (by decide) ?_
        refine lv_idiv hx hb dX1_next_27 (by decide) ?_
        refine nx_ti (y := nI (sp / 104)) (dv104 c_17) ?_
        refine va_put (D := (dC, dI)) (ci := 1) (v := .int (nI (sp / 104))) (ty := .int) (C := RX1) (T := TX1) (N := 5) hx hb hts hin1 tyX1 tyX1_ok nmX1 hown hK hP (wsX_D hI) hS 5 rfl rfl 1 (by decide) lk1 (fun _ h9 => h9) rfl (by decide +kernel) rfl rfl (Nat.le_of_ble_eq_true rfl) dX1_next_28 (fun H locs hP _ hS => ?_)
        have hP : va_P (dC, dI) vwCl (wsX aC ad cap (va_up (va_up (va_up (va_up v 6 (nI (sp / 104))) 7 a7) 8 a8) 9 (nI sp)) Z S F G) H := hP
        refine lv_aload_n hx hb dX1_next_31 rfl (lv_at hl 0 rfl) ?_
        refine lv_aload_n hx hb dX1_next_32 rfl (lv_at hl 0 rfl) ?_
        refine va_get (D := (dC, dI)) (ci := 1) (C := RX1) (T := TX1) (N := 5) hx hb hts hin1 hown hK hP 5 rfl rfl 4 (by decide) lk0 (fun _ h9 => h9) rfl dX1_next_33 ?_
        refine lv_bipush (v := nI 13) hx hb dX1_next_36 (by decide) ?_
        refine lv_idiv hx hb dX1_next_38 (by decide) ?_
        refine nx_ti (y := nI (sp / 13)) (dv13 c_17) ?_
        refine lv_bipush (v := nI 8) hx hb dX1_next_39 (by decide) ?_
        refine lv_irem hx hb dX1_next_41 (by decide) ?_
        refine nx_ti (y := nI (sp / 13 % 8)) (rm8 (a := sp / 13) (by omega)) ?_
        refine va_put (D := (dC, dI)) (ci := 1) (v := .int (nI (sp / 13 % 8))) (ty := .int) (C := RX1) (T := TX1) (N := 5) hx hb hts hin1 tyX1 tyX1_ok nmX1 hown hK hP (wsX_D hI) hS 5 rfl rfl 2 (by decide) lk2 (fun _ h9 => h9) rfl (by decide +kernel) rfl rfl (Nat.le_of_ble_eq_true rfl) dX1_next_42 (fun H locs hP _ hS => ?_)
        have hP : va_P (dC, dI) vwCl (wsX aC ad cap (va_up (va_up (va_up (va_up v 6 (nI (sp / 104))) 7 (nI (sp / 13 % 8))) 8 a8) 9 (nI sp)) Z S F G) H := hP
        refine lv_aload_n hx hb dX1_next_45 rfl (lv_at hl 0 rfl) ?_
        refine lv_aload_n hx hb dX1_next_46 rfl (lv_at hl 0 rfl) ?_
        refine va_get (D := (dC, dI)) (ci := 1) (C := RX1) (T := TX1) (N := 5) hx hb hts hin1 hown hK hP 5 rfl rfl 4 (by decide) lk0 (fun _ h9 => h9) rfl dX1_next_47 ?_
        refine lv_bipush (v := nI 13) hx hb dX1_next_50 (by decide) ?_
        refine lv_irem hx hb dX1_next_52 (by decide) ?_
        refine nx_ti (y := nI (sp % 13)) (rm13 c_17) ?_
        refine va_put (D := (dC, dI)) (ci := 1) (v := .int (nI (sp % 13))) (ty := .int) (C := RX1) (T := TX1) (N := 5) hx hb hts hin1 tyX1 tyX1_ok nmX1 hown hK hP (wsX_D hI) hS 5 rfl rfl 3 (by decide) lk3 (fun _ h9 => h9) rfl (by decide +kernel) rfl rfl (Nat.le_of_ble_eq_true rfl) dX1_next_53 (fun H locs hP _ hS => ?_)
        have hP : va_P (dC, dI) vwCl (wsX aC ad cap (va_up (va_up (va_up (va_up v 6 (nI (sp / 104))) 7 (nI (sp / 13 % 8))) 8 (nI (sp % 13))) 9 (nI sp)) Z S F G) H := hP
        refine lv_aload_n hx hb dX1_next_56 rfl (lv_at hl 0 rfl) ?_
        refine lv_aload_n hx hb dX1_next_57 rfl (lv_at hl 1 rfl) ?_
        refine xp_i (b := ad 5) (As := [.ref (ad 1)]) (rest := []) ⟨hx, hb, hml, hown, hts⟩ (x_mayOverlap l dC dI aC ad cap (va_up (va_up (va_up (va_up v 6 (nI (sp / 104))) 7 (nI (sp / 13 % 8))) 8 (nI (sp % 13))) 9 (nI sp)) (va_up R 27 M) F G n hn hn8 sp (by omega) rfl rfl rfl) (cwV 1 hts gX1_next_X1_mayOverlap rfl rfl rfl (by decide +kernel) ⟨Nat.le_of_ble_eq_true rfl, Nat.le_of_ble_eq_true rfl⟩) (xPre (q0 := 5) (ci := 1) rfl rfl hK hZ hP) rfl hl.1 rfl (Nat.le_of_ble_eq_true rfl) dX1_next_58 ⟨Nat.le_of_ble_eq_true rfl, Nat.le_of_ble_eq_true rfl⟩ (fun x_58 h_58 => ?_)
        have e3 := upn (f := R) (k := 27) (v := M) (show 10 + sp / 104 ≠ 27 by omega)
        have h_58 : x_58 = bI (ovC R n sp) := h_58.trans (bI_iff (ovC_congr (fun _ => e3)))
        subst h_58
        refine nx_bz (tgt := 98) hx hb dX1_next_61 (by decide) (fun c_61 => ?_) (fun c_61 => ?_)
        · skip
          have hnone : ovA (F 0) R n sp = none := ovA_n c_61
          refine lv_aload_n hx hb dX1_next_98 rfl (lv_at hl 0 rfl) ?_
          refine lv_dup hx hb dX1_next_99 rfl ?_
          refine va_get (D := (dC, dI)) (ci := 1) (C := RX1) (T := TX1) (N := 5) hx hb hts hin1 hown hK hP 5 rfl rfl 4 (by decide) lk0 (fun _ h9 => h9) rfl dX1_next_100 ?_
          refine lv_iconst (v := nI 1) hx hb dX1_next_103 (by decide) ?_
          refine lv_iadd hx hb dX1_next_104 ?_
          refine nx_ti (y := nI (sp + 1)) (nI_add _ _) ?_
          refine va_put (D := (dC, dI)) (ci := 1) (v := .int (nI (sp + 1))) (ty := .int) (C := RX1) (T := TX1) (N := 5) hx hb hts hin1 tyX1 tyX1_ok nmX1 hown hK hP (wsX_D hI) hS 5 rfl rfl 4 (by decide) lk0 (fun _ h9 => h9) rfl (by decide +kernel) rfl rfl (Nat.le_of_ble_eq_true rfl) dX1_next_105 (fun H locs hP _ hS => ?_)
          have hP : va_P (dC, dI) vwCl (wsX aC ad cap (va_up (va_up (va_up (va_up v 6 (nI (sp / 104))) 7 (nI (sp / 13 % 8))) 8 (nI (sp % 13))) 9 (nI (sp + 1))) Z S F G) H := hP
          refine lv_goto (tgt := 10) hx hb dX1_next_108 (by decide) ?_
          exact ih10 (sp + 1) M (nI (sp / 104)) (nI (sp / 13 % 8)) (nI (sp % 13)) _ _ _ _ _ (by omega) (fun j h1 h2 => by rcases Nat.lt_or_ge j sp with z | z <;> first | exact hno j h1 z | (rw [show j = sp by omega]; exact hnone)) hZ hP hS (by omega) (lv_sub hl [0, 1] rfl)
        · skip
          have hd1 := c_61.1
          have hd2 := c_61.2.1
          refine lv_aload_n hx hb dX1_next_64 rfl (lv_at hl 0 rfl) ?_
          refine lv_aload_n hx hb dX1_next_65 rfl (lv_at hl 1 rfl) ?_
          refine lv_aload_n hx hb dX1_next_66 rfl (lv_at hl 1 rfl) ?_
          refine va_get (D := (dC, dI)) (ci := 8) (C := RX8) (T := TX8) (N := 4) hx hb hts hin8 hown hK hP 1 rfl rfl 2 (by decide) lk4 (fun _ h9 => h9) rfl dX1_next_67 ?_
          refine lv_aload_n hx hb dX1_next_70 rfl (lv_at hl 0 rfl) ?_
          refine va_get (D := (dC, dI)) (ci := 1) (C := RX1) (T := TX1) (N := 5) hx hb hts hin1 hown hK hP 5 rfl rfl 1 (by decide) lk1 (fun _ h9 => h9) rfl dX1_next_71 ?_
          refine nx_aald (C := "LeafTrees$Rule") hx hb hK hP 11 4 rfl rfl (i := sp / 104) (by omega) (by decide) (show xRules ad (sp / 104) = some (ad (50 + (sp / 104))) from if_pos (by omega)) dX1_next_74 ?_
          refine va_get (D := (dC, dI)) (ci := 4) (C := RX4) (T := TX4) (N := 3) hx hb hts hin4 hown hK hP (50 + (sp / 104)) (xw_ru (sp / 104) (by omega)) rfl 0 (by decide) lk5 (fun _ h9 => h9) rfl dX1_next_75 ?_
          refine lv_aload_n hx hb dX1_next_78 rfl (lv_at hl 1 rfl) ?_
          refine va_get (D := (dC, dI)) (ci := 8) (C := RX8) (T := TX8) (N := 4) hx hb hts hin8 hown hK hP 1 rfl rfl 2 (by decide) lk4 (fun _ h9 => h9) rfl dX1_next_79 ?_
          refine lv_aload_n hx hb dX1_next_82 rfl (lv_at hl 0 rfl) ?_
          refine va_get (D := (dC, dI)) (ci := 1) (C := RX1) (T := TX1) (N := 5) hx hb hts hin1 hown hK hP 5 rfl rfl 2 (by decide) lk2 (fun _ h9 => h9) rfl dX1_next_83 ?_
          refine nx_aald (C := "LeafTrees$Rule") hx hb hK hP 11 4 rfl rfl (i := sp / 13 % 8) (by omega) (by decide) (show xRules ad (sp / 13 % 8) = some (ad (50 + (sp / 13 % 8))) from if_pos (by omega)) dX1_next_86 ?_
          refine va_get (D := (dC, dI)) (ci := 4) (C := RX4) (T := TX4) (N := 3) hx hb hts hin4 hown hK hP (50 + (sp / 13 % 8)) (xw_ru (sp / 13 % 8) (by omega)) rfl 0 (by decide) lk5 (fun _ h9 => h9) rfl dX1_next_87 ?_
          refine xc_i (b := ad 5) (As := [.ref (ad 1), .ref (ad (58 + 2 * (10 + (sp / 104)))), .ref (ad (58 + 2 * (10 + (sp / 13 % 8))))]) (rest := []) ⟨hx, hb, hml, hown, hts⟩ (x_merge l dC dI aC ad cap hI (va_up (va_up (va_up (va_up v 6 (nI (sp / 104))) 7 (nI (sp / 13 % 8))) 8 (nI (sp % 13))) 9 (nI sp)) (va_up R 27 M) F G A hE hA (sp % 13) rfl (10 + sp / 104) (by omega) (10 + sp / 13 % 8) (by omega) (by rw [e3]; exact c_61.2.2.1) (by rw [e3]; exact hVl _ c_61.1) (by rw [upn (show 10 + sp / 13 % 8 ≠ 27 by omega)]; exact hVl _ c_61.2.1) (by rw [e3]; exact hTl _ c_61.1) (by rw [upn (show 10 + sp / 13 % 8 ≠ 27 by omega)]; exact hTl _ c_61.2.1) (by rw [e3]; exact hl13 _ c_61.1) (by rw [upn (show 10 + sp / 13 % 8 ≠ 27 by omega)]; exact hl13 _ c_61.2.1)) (cwV 3 hts gX1_next_X1_merge rfl rfl rfl (by decide +kernel) ⟨Nat.le_of_ble_eq_true rfl, Nat.le_of_ble_eq_true rfl⟩) (xPre (q0 := 5) (ci := 1) rfl rfl hK hZ hP) hS rfl hl.1 rfl (Nat.le_of_ble_eq_true rfl) dX1_next_90 ⟨Nat.le_of_ble_eq_true rfl, Nat.le_of_ble_eq_true rfl⟩ (fun x_90 v1 R1 F1 G1 Z S H locs h_90 hZ hP hS => ?_)
          obtain ⟨M_2, hu_90, hx_90, hM_90⟩ := h_90
          have e1 := upn (f := R) (k := 27) (v := M) (show 10 + sp / 104 ≠ 27 by omega)
          have e2 := upn (f := R) (k := 27) (v := M) (show 10 + sp / 13 % 8 ≠ 27 by omega)
          have e0 : mrg (F 0) (va_up R 27 M (10 + sp / 104)) (va_up R 27 M (10 + sp / 13 % 8)) (sp % 13) = ovA (F 0) R n sp := by rw [e1, e2, ovA_y c_61]
          have hx_90 : x_90 = bI ((mrg (F 0) (va_up R 27 M (10 + sp / 104)) (va_up R 27 M (10 + sp / 13 % 8)) (sp % 13)).isSome = true) := hx_90
          have hM_90 : ∀ N, mrg (F 0) (va_up R 27 M (10 + sp / 104)) (va_up R 27 M (10 + sp / 13 % 8)) (sp % 13) = some N → M_2 = N := hM_90
          rw [e0] at hx_90 hM_90
          subst hx_90
          rw [up_up] at hu_90
          have hP : va_P (dC, dI) vwCl (wsX aC ad cap (va_up (va_up (va_up (va_up v 6 (nI (sp / 104))) 7 (nI (sp / 13 % 8))) 8 (nI (sp % 13))) 9 (nI sp)) Z S F G) H := by cases hu_90; exact hP
          have hZ : xOK Z S (va_up R 27 M_2) := by cases hu_90; exact hZ
          refine nx_bz (tgt := 98) hx hb dX1_next_93 (by decide) (fun c_93 => ?_) (fun c_93 => ?_)
          · skip
            have hnone : ovA (F 0) R n sp = none := by simpa using c_93
            refine lv_aload_n hx hb dX1_next_98 rfl (lv_at hl 0 rfl) ?_
            refine lv_dup hx hb dX1_next_99 rfl ?_
            refine va_get (D := (dC, dI)) (ci := 1) (C := RX1) (T := TX1) (N := 5) hx hb hts hin1 hown hK hP 5 rfl rfl 4 (by decide) lk0 (fun _ h9 => h9) rfl dX1_next_100 ?_
            refine lv_iconst (v := nI 1) hx hb dX1_next_103 (by decide) ?_
            refine lv_iadd hx hb dX1_next_104 ?_
            refine nx_ti (y := nI (sp + 1)) (nI_add _ _) ?_
            refine va_put (D := (dC, dI)) (ci := 1) (v := .int (nI (sp + 1))) (ty := .int) (C := RX1) (T := TX1) (N := 5) hx hb hts hin1 tyX1 tyX1_ok nmX1 hown hK hP (wsX_D hI) hS 5 rfl rfl 4 (by decide) lk0 (fun _ h9 => h9) rfl (by decide +kernel) rfl rfl (Nat.le_of_ble_eq_true rfl) dX1_next_105 (fun H locs hP _ hS => ?_)
            have hP : va_P (dC, dI) vwCl (wsX aC ad cap (va_up (va_up (va_up (va_up v 6 (nI (sp / 104))) 7 (nI (sp / 13 % 8))) 8 (nI (sp % 13))) 9 (nI (sp + 1))) Z S F G) H := hP
            refine lv_goto (tgt := 10) hx hb dX1_next_108 (by decide) ?_
            exact ih10 (sp + 1) M_2 (nI (sp / 104)) (nI (sp / 13 % 8)) (nI (sp % 13)) _ _ _ _ _ (by omega) (fun j h1 h2 => by rcases Nat.lt_or_ge j sp with z | z <;> first | exact hno j h1 z | (rw [show j = sp by omega]; exact hnone)) hZ hP hS (by omega) (lv_sub hl [0, 1] rfl)
          · skip
            obtain ⟨T0, hT0⟩ := Option.isSome_iff_exists.mp c_93
            refine lv_iconst (v := nI 1) hx hb dX1_next_96 (by decide) ?_
            subst hQ
            exact W.zret (v := nI 1) hx hb hret (rfl) (fun tq htq hWq => ⟨⟨_, ((va_up (va_up (va_up (va_up v 6 (nI (sp / 104))) 7 (nI (sp / 13 % 8))) 8 (nI (sp % 13))) 9 (nI sp)), va_up R 27 M_2, F, G), rfl, Or.inl ⟨sp, T0, hsp.1, c_17, hno, hT0, rfl, by rw [hM_90 T0 hT0]⟩, va_K.moved hWq.alike hK, _, _, hZ, by rw [htq]; exact hP⟩, hS.F htq⟩) hS.2.2 dX1_next_97
  exact L10 (832 - s0 + 1) s0 (R 27) (v 6) (v 7) (v 8) _ _ _ _ _ (by omega) (fun j h1 h2 => absurd h2 (by omega)) (by rw [up_eta]; exact hZ) hP hS (Nat.lt_succ_self _) (lv_sub hl [0, 1] rfl)
