set_option maxHeartbeats 1000000 in
set_option maxRecDepth 100000 in
/-- Rewriter.meet -/
theorem x_meet (l : Launch) (dC : Nat → ClassId) (dI : Nat → Nat → Nat) (aC : Nat → ClassId) (ad cap : Nat → Nat) (hI : xI ad) (v : Nat → Int32) (R : Nat → List Int32) (F : Nat → Nat → Int32) (G : Nat → Nat → Int64) (A : Nat) (hE : vE A (F 0)) (hA : v 0 = nI A) (n : Nat) (hn : v 1 = nI n) (hn8 : n ≤ 8) (hrl : rlT (F 0) R n (tnX v)) (hl0 : ∀ j, j < n → ¬ gD (R (10 + j)) 0 = -1) (hV2 : ∀ j, j < n → vR A (R (18 + j))) (sp : Nat) (h6 : v 6 = nI (sp / 104)) (h7 : v 7 = nI (sp / 13 % 8)) (h8 : v 8 = nI (sp % 13)) (hs1 : sp / 104 < n) (hs2 : sp / 13 % 8 < n) (hT : isT (F 0) (R 27)) (hV : vR A (R 27)) (hu : sp % 13 < (R 27).length) : Met l yX2_meet wsX2_meet ({ frames := 6, cells := 0, slots := 0, locals := 163 } : Room) (va_Pc [.ref (ad 4), .ref (ad 1), .ref (ad 5)] (XB dC dI aC ad cap (v, R, F, G))) (va_Qi (fun (x : Int32) (u : MS) => ∃ f c1 R1, (v, R1, va_up (va_up F 2 f) 3 c1, G) = u ∧ (∀ k, k < 26 → R1 k = R k) ∧ x = clO (F 0) R n (tnX v) (sp, R 27)) (XB dC dI aC ad cap) (xA ad)) 0 0 (xA ad) := by
  refine Met.ofW (cc := cX2_meet) (maxL := 5) (ret := (some .int)) (by decide) rfl ?_
  intro p e s m args below meth c s₁ B hml hv
  obtain ⟨rfl, hK, Z, S, hZ, hP⟩ := hv
  have hx := B.exec
  have hb := B.bytes
  have hret := B.returns
  have hts := atoms_spec (ws := wsX2_meet) B.pre
  have hown : s.vm.findClass RX2 = some m.cls := findClass_of_methodNamed B.named
  have hlocks := B.notSynchronized
  dsimp only at hZ hP
  have lk0 := hts (.fieldLink RX2 29 "LeafTrees$Rewriter" "one" "LLeafTrees$Row;") (by decide +kernel)
  have lk1 := hts (.fieldLink RX2 72 "LeafTrees$Peaks" "top" "LLeafTrees$Row;") (by decide +kernel)
  have lk2 := hts (.fieldLink RX2 32 "LeafTrees$Rewriter" "other" "LLeafTrees$Row;") (by decide +kernel)
  have lk3 := hts (.fieldLink RX2 81 "LeafTrees$Peaks" "outer" "I") (by decide +kernel)
  have lk4 := hts (.fieldLink RX2 88 "LeafTrees$Peaks" "inner" "I") (by decide +kernel)
  have lk5 := hts (.fieldLink RX2 91 "LeafTrees$Peaks" "place" "I") (by decide +kernel)
  have hin1 : ∀ w ∈ u_ws RX1 TX1 5, w ∈ wsX2_meet := by decide +kernel
  have hin2 : ∀ w ∈ u_ws RX2 TX2 5, w ∈ wsX2_meet := by decide +kernel
  have hS : va_S (xA ad) s.heap s.heap [] := va_S.rf
  have hl := lv_entry [.ref (ad 4), .ref (ad 1), .ref (ad 5)] (n := 5) (Nat.le_of_ble_eq_true rfl)
  rw [lg_entry_eq]
  generalize (lg_sl [.ref (ad 4), .ref (ad 1), .ref (ad 5)] ++ List.replicate (5 - (lg_sl [.ref (ad 4), .ref (ad 1), .ref (ad 5)]).length) Slot.unset).toArray = ls at hl ⊢
  have hl : lv_has ls 5 [(0, .ref (ad 4)), (1, .ref (ad 1)), (2, .ref (ad 5))] := hl
  refine nx_Q (R := ({ frames := 6, cells := 0, slots := 0, locals := 163 } : Room)) (fun Q hQ => ?_)
  refine lv_aload_n hx hb dX2_meet_0 rfl (lv_at hl 0 rfl) ?_
  refine va_get (D := (dC, dI)) (ci := 2) (C := RX2) (T := TX2) (N := 5) hx hb hts hin2 hown hK hP 4 rfl rfl 3 (by decide) lk0 (fun _ h9 => h9) rfl dX2_meet_1 ?_
  refine lv_aload_n hx hb dX2_meet_4 rfl (lv_at hl 2 rfl) ?_
  refine va_get (D := (dC, dI)) (ci := 1) (C := RX1) (T := TX1) (N := 5) hx hb hts hin1 hown hK hP 5 rfl rfl 0 (by decide) lk1 (fun _ h9 => h9) rfl dX2_meet_5 ?_
  refine xc_v (b := ad 110) (As := [.ref (ad 112)]) (rest := []) ⟨hx, hb, hml, hown, hts⟩ (x_become l dC dI aC ad cap hI v R F G 26 (by decide) 27 (by decide)) (cwV 1 hts gX2_meet_X3_become rfl rfl rfl (by decide +kernel) ⟨Nat.le_of_ble_eq_true rfl, Nat.le_of_ble_eq_true rfl⟩) (xPre (q0 := 110) (ci := 3) rfl rfl hK hZ hP) hS rfl hl.1 rfl (Nat.le_of_ble_eq_true rfl) dX2_meet_8 ⟨Nat.le_of_ble_eq_true rfl, Nat.le_of_ble_eq_true rfl⟩ (fun v1 R1 F1 G1 Z S H locs h_8 hZ hP hS => ?_)
  cases h_8
  refine lv_aload_n hx hb dX2_meet_11 rfl (lv_at hl 0 rfl) ?_
  refine va_get (D := (dC, dI)) (ci := 2) (C := RX2) (T := TX2) (N := 5) hx hb hts hin2 hown hK hP 4 rfl rfl 4 (by decide) lk2 (fun _ h9 => h9) rfl dX2_meet_12 ?_
  refine lv_aload_n hx hb dX2_meet_15 rfl (lv_at hl 2 rfl) ?_
  refine va_get (D := (dC, dI)) (ci := 1) (C := RX1) (T := TX1) (N := 5) hx hb hts hin1 hown hK hP 5 rfl rfl 0 (by decide) lk1 (fun _ h9 => h9) rfl dX2_meet_16 ?_
  refine xc_v (b := ad 116) (As := [.ref (ad 112)]) (rest := []) ⟨hx, hb, hml, hown, hts⟩ (x_become l dC dI aC ad cap hI v (va_up R 26 (R 27)) F G 29 (by decide) 27 (by decide)) (cwV 1 hts gX2_meet_X3_become rfl rfl rfl (by decide +kernel) ⟨Nat.le_of_ble_eq_true rfl, Nat.le_of_ble_eq_true rfl⟩) (xPre (q0 := 116) (ci := 3) rfl rfl hK hZ hP) hS rfl hl.1 rfl (Nat.le_of_ble_eq_true rfl) dX2_meet_19 ⟨Nat.le_of_ble_eq_true rfl, Nat.le_of_ble_eq_true rfl⟩ (fun v2 R2 F2 G2 Z S H locs h_19 hZ hP hS => ?_)
  rw [upn (show 27 ≠ 26 by decide)] at h_19
  cases h_19
  refine lv_aload_n hx hb dX2_meet_22 rfl (lv_at hl 0 rfl) ?_
  refine lv_aload_n hx hb dX2_meet_23 rfl (lv_at hl 1 rfl) ?_
  refine lv_aload_n hx hb dX2_meet_24 rfl (lv_at hl 2 rfl) ?_
  refine va_get (D := (dC, dI)) (ci := 1) (C := RX1) (T := TX1) (N := 5) hx hb hts hin1 hown hK hP 5 rfl rfl 1 (by decide) lk3 (fun _ h9 => h9) rfl dX2_meet_25 ?_
  refine nx_ti (y := nI (sp / 104)) (h6) ?_
  refine lv_aload_n hx hb dX2_meet_28 rfl (lv_at hl 0 rfl) ?_
  refine va_get (D := (dC, dI)) (ci := 2) (C := RX2) (T := TX2) (N := 5) hx hb hts hin2 hown hK hP 4 rfl rfl 3 (by decide) lk0 (fun _ h9 => h9) rfl dX2_meet_29 ?_
  refine lv_iconst (v := nI 0) hx hb dX2_meet_32 (by decide) ?_
  refine xc_i (b := ad 4) (As := [.ref (ad 1), .int (nI (sp / 104)), .ref (ad 110), .int (nI 0)]) (rest := []) ⟨hx, hb, hml, hown, hts⟩ (x_goDown l dC dI aC ad cap hI v (va_up (va_up R 26 (R 27)) 29 (R 27)) F G A hE hA n hn hn8 (rlT_congr hrl (fun k hk => row2 (by omega) (by omega)) (fun k hk => row2 (by omega) (by omega))) (fun k hk => by rw [(fun k hk => row2 (by omega) (by omega)) k hk]; exact hl0 k hk) (fun k hk => by rw [(fun k hk => row2 (by omega) (by omega)) k hk]; exact hV2 k hk) 26 (by decide) (by decide) (by decide) (by rw [upn (show 26 ≠ 29 by decide), va_up_self]; exact hV) (by rw [upn (show 26 ≠ 29 by decide), va_up_self]; exact hT) (sp / 104) hs1 0 (by rw [upn (show 26 ≠ 29 by decide), va_up_self]; exact isT_pos hT)) (cwV 4 hts gX2_meet_X2_goDown rfl rfl rfl (by decide +kernel) ⟨Nat.le_of_ble_eq_true rfl, Nat.le_of_ble_eq_true rfl⟩) (xPre (q0 := 4) (ci := 2) rfl rfl hK hZ hP) hS rfl hl.1 rfl (Nat.le_of_ble_eq_true rfl) dX2_meet_33 ⟨Nat.le_of_ble_eq_true rfl, Nat.le_of_ble_eq_true rfl⟩ (fun x_33 v3 R3 F3 G3 Z S H locs h_33 hZ hP hS => ?_)
  have e26 : (va_up (va_up R 26 (R 27)) 29 (R 27)) 26 = R 27 := by rw [upn (show 26 ≠ 29 by decide), va_up_self]
  obtain ⟨f1, c1, M1, hu_33, h5_33⟩ := h_33
  have eg : goL (F 0) (va_up (va_up R 26 (R 27)) 29 (R 27)) n (tnX v) ((va_up (va_up R 26 (R 27)) 29 (R 27)) 26) (sp / 104) 0 = goL (F 0) R n (tnX v) (R 27) (sp / 104) 0 := by rw [e26]; exact goL_congr hs1 (fun k hk => row2 (by omega) (by omega)) (fun k hk => row2 (by omega) (by omega))
  rw [eg] at hu_33 h5_33
  have hP : va_P (dC, dI) vwCl (wsX aC ad cap v Z S (va_up (va_up F 2 f1) 3 c1) G) H := by cases hu_33; exact hP
  have hZ : xOK Z S (va_up (va_up (va_up (va_up R 26 (R 27)) 29 (R 27)) 28 M1) 26 (goL (F 0) R n (tnX v) (R 27) (sp / 104) 0).2) := by cases hu_33; exact hZ
  refine lv_istore_n (lv' := [(3, .int x_33), (0, .ref (ad 4)), (1, .ref (ad 1)), (2, .ref (ad 5))]) hx hb dX2_meet_36 rfl hl (by decide) rfl (fun ls hl => ?_)
  have e29 : (va_up (va_up (va_up (va_up R 26 (R 27)) 29 (R 27)) 28 M1) 26 (goL (F 0) R n (tnX v) (R 27) (sp / 104) 0).2) 29 = R 27 := by rw [upn (show 29 ≠ 26 by decide), upn (show 29 ≠ 28 by decide), va_up_self]
  refine lv_aload_n hx hb dX2_meet_37 rfl (lv_at hl 1 rfl) ?_
  refine lv_aload_n hx hb dX2_meet_38 rfl (lv_at hl 2 rfl) ?_
  refine lv_aload_n hx hb dX2_meet_39 rfl (lv_at hl 3 rfl) ?_
  refine va_get (D := (dC, dI)) (ci := 1) (C := RX1) (T := TX1) (N := 5) hx hb hts hin1 hown hK hP 5 rfl rfl 2 (by decide) lk4 (fun _ h9 => h9) rfl dX2_meet_40 ?_
  refine nx_ti (y := nI (sp / 13 % 8)) (h7) ?_
  refine lv_aload_n hx hb dX2_meet_43 rfl (lv_at hl 1 rfl) ?_
  refine va_get (D := (dC, dI)) (ci := 2) (C := RX2) (T := TX2) (N := 5) hx hb hts hin2 hown hK hP 4 rfl rfl 4 (by decide) lk2 (fun _ h9 => h9) rfl dX2_meet_44 ?_
  refine lv_aload_n hx hb dX2_meet_47 rfl (lv_at hl 3 rfl) ?_
  refine va_get (D := (dC, dI)) (ci := 1) (C := RX1) (T := TX1) (N := 5) hx hb hts hin1 hown hK hP 5 rfl rfl 3 (by decide) lk5 (fun _ h9 => h9) rfl dX2_meet_48 ?_
  refine nx_ti (y := nI (sp % 13)) (h8) ?_
  refine xc_i (b := ad 4) (As := [.ref (ad 1), .int (nI (sp / 13 % 8)), .ref (ad 116), .int (nI (sp % 13))]) (rest := []) ⟨hx, hb, hml, hown, hts⟩ (x_goDown l dC dI aC ad cap hI v (va_up (va_up (va_up (va_up R 26 (R 27)) 29 (R 27)) 28 M1) 26 (goL (F 0) R n (tnX v) (R 27) (sp / 104) 0).2) (va_up (va_up F 2 f1) 3 c1) G A hE hA n hn hn8 (rlT_congr hrl (fun k hk => row4 (by omega) (by omega) (by omega) (by omega)) (fun k hk => row4 (by omega) (by omega) (by omega) (by omega))) (fun k hk => by rw [(fun k hk => row4 (by omega) (by omega) (by omega) (by omega)) k hk]; exact hl0 k hk) (fun k hk => by rw [(fun k hk => row4 (by omega) (by omega) (by omega) (by omega)) k hk]; exact hV2 k hk) 29 (by decide) (by decide) (by decide) (by rw [e29]; exact hV) (by rw [e29]; exact hT) (sp / 13 % 8) hs2 (sp % 13) (by rw [e29]; exact hu)) (cwV 4 hts gX2_meet_X2_goDown rfl rfl rfl (by decide +kernel) ⟨Nat.le_of_ble_eq_true rfl, Nat.le_of_ble_eq_true rfl⟩) (xPre (q0 := 4) (ci := 2) rfl rfl hK hZ hP) hS rfl hl.1 rfl (Nat.le_of_ble_eq_true rfl) dX2_meet_51 ⟨Nat.le_of_ble_eq_true rfl, Nat.le_of_ble_eq_true rfl⟩ (fun x_51 v4 R4 F4 G4 Z S H locs h_51 hZ hP hS => ?_)
  obtain ⟨f2, c2, M2, hu_51, h5_51⟩ := h_51
  have eg2 : goL (F 0) (va_up (va_up (va_up (va_up R 26 (R 27)) 29 (R 27)) 28 M1) 26 (goL (F 0) R n (tnX v) (R 27) (sp / 104) 0).2) n (tnX v) ((va_up (va_up (va_up (va_up R 26 (R 27)) 29 (R 27)) 28 M1) 26 (goL (F 0) R n (tnX v) (R 27) (sp / 104) 0).2) 29) (sp / 13 % 8) (sp % 13) = goL (F 0) R n (tnX v) (R 27) (sp / 13 % 8) (sp % 13) := by rw [e29]; exact goL_congr hs2 (fun k hk => row4 (by omega) (by omega) (by omega) (by omega)) (fun k hk => row4 (by omega) (by omega) (by omega) (by omega))
  have h5_51 : x_51 = -5 ↔ (goL (F 0) (va_up (va_up (va_up (va_up R 26 (R 27)) 29 (R 27)) 28 M1) 26 (goL (F 0) R n (tnX v) (R 27) (sp / 104) 0).2) n (tnX v) ((va_up (va_up (va_up (va_up R 26 (R 27)) 29 (R 27)) 28 M1) 26 (goL (F 0) R n (tnX v) (R 27) (sp / 104) 0).2) 29) (sp / 13 % 8) (sp % 13)).1 = -5 := h5_51
  rw [eg2] at h5_51
  have hu_51 : (_, va_up (va_up (va_up (va_up (va_up (va_up R 26 (R 27)) 29 (R 27)) 28 M1) 26 (goL (F 0) R n (tnX v) (R 27) (sp / 104) 0).2) 28 M2) 29 (goL (F 0) (va_up (va_up (va_up (va_up R 26 (R 27)) 29 (R 27)) 28 M1) 26 (goL (F 0) R n (tnX v) (R 27) (sp / 104) 0).2) n (tnX v) ((va_up (va_up (va_up (va_up R 26 (R 27)) 29 (R 27)) 28 M1) 26 (goL (F 0) R n (tnX v) (R 27) (sp / 104) 0).2) 29) (sp / 13 % 8) (sp % 13)).2, _, _) = _ := hu_51
  rw [eg2] at hu_51
  have hP : va_P (dC, dI) vwCl (wsX aC ad cap v Z S (va_up (va_up F 2 f2) 3 c2) G) H := by cases hu_51; exact hP
  have hZ : xOK Z S (va_up (va_up (va_up (va_up (va_up (va_up R 26 (R 27)) 29 (R 27)) 28 M1) 26 (goL (F 0) R n (tnX v) (R 27) (sp / 104) 0).2) 28 M2) 29 (goL (F 0) R n (tnX v) (R 27) (sp / 13 % 8) (sp % 13)).2) := by cases hu_51; exact hZ
  refine lv_istore (lv' := [(4, .int x_51), (3, .int x_33), (0, .ref (ad 4)), (1, .ref (ad 1)), (2, .ref (ad 5))]) hx hb dX2_meet_54 hl (by decide) rfl (fun ls hl => ?_)
  refine lv_iload_n hx hb dX2_meet_56 rfl (lv_at hl 1 rfl) ?_
  refine lv_bipush (v := (-5)) hx hb dX2_meet_57 (by decide) ?_
  refine lv_icmp_eq (tgt := 69) hx hb dX2_meet_59 (by decide) (fun c_59 => ?_) (fun c_59 => ?_)
  · skip
    refine lv_bipush (v := (-5)) hx hb dX2_meet_69 (by decide) ?_
    subst hQ
    exact W.iret (v := (-5)) hx hb hret (fun tq htq hWq => ⟨⟨_, (v, va_up (va_up (va_up (va_up (va_up (va_up R 26 (R 27)) 29 (R 27)) 28 M1) 26 (goL (F 0) R n (tnX v) (R 27) (sp / 104) 0).2) 28 M2) 29 (goL (F 0) R n (tnX v) (R 27) (sp / 13 % 8) (sp % 13)).2, (va_up (va_up F 2 f2) 3 c2), G), rfl, ⟨_, _, _, rfl, fun k hk => by rw [upn (show k ≠ 29 by omega), upn (show k ≠ 28 by omega), row4 (by omega) (by omega) (by omega) (by omega)], (clO_5 (o := (sp, R 27)) (Or.inl (h5_33.mp c_59))).symm⟩, va_K.moved hWq.alike hK, _, _, hZ, by rw [htq]; exact hP⟩, hS.F htq⟩) hS.2.2 dX2_meet_71
  · skip
    refine lv_iload hx hb dX2_meet_62 (lv_at hl 0 rfl) ?_
    refine lv_bipush (v := (-5)) hx hb dX2_meet_64 (by decide) ?_
    refine lv_icmp_ne (tgt := 72) hx hb dX2_meet_66 (by decide) (fun c_66 => ?_) (fun c_66 => ?_)
    · skip
      refine lv_aload_n hx hb dX2_meet_72 rfl (lv_at hl 2 rfl) ?_
      refine va_get (D := (dC, dI)) (ci := 2) (C := RX2) (T := TX2) (N := 5) hx hb hts hin2 hown hK hP 4 rfl rfl 3 (by decide) lk0 (fun _ h9 => h9) rfl dX2_meet_73 ?_
      refine lv_aload_n hx hb dX2_meet_76 rfl (lv_at hl 2 rfl) ?_
      refine va_get (D := (dC, dI)) (ci := 2) (C := RX2) (T := TX2) (N := 5) hx hb hts hin2 hown hK hP 4 rfl rfl 4 (by decide) lk2 (fun _ h9 => h9) rfl dX2_meet_77 ?_
      refine xp_i (b := ad 110) (As := [.ref (ad 116)]) (rest := []) ⟨hx, hb, hml, hown, hts⟩ (x_isLike l dC dI aC ad cap v (va_up (va_up (va_up (va_up (va_up (va_up R 26 (R 27)) 29 (R 27)) 28 M1) 26 (goL (F 0) R n (tnX v) (R 27) (sp / 104) 0).2) 28 M2) 29 (goL (F 0) R n (tnX v) (R 27) (sp / 13 % 8) (sp % 13)).2) (va_up (va_up F 2 f2) 3 c2) G 26 (by decide) 29 (by decide)) (cwV 1 hts gX2_meet_X3_isLike rfl rfl rfl (by decide +kernel) ⟨Nat.le_of_ble_eq_true rfl, Nat.le_of_ble_eq_true rfl⟩) (xPre (q0 := 110) (ci := 3) rfl rfl hK hZ hP) rfl hl.1 rfl (Nat.le_of_ble_eq_true rfl) dX2_meet_80 ⟨Nat.le_of_ble_eq_true rfl, Nat.le_of_ble_eq_true rfl⟩ (fun x_80 h_80 => ?_)
      refine nx_ti (y := bI ((va_up (va_up (va_up (va_up (va_up (va_up R 26 (R 27)) 29 (R 27)) 28 M1) 26 (goL (F 0) R n (tnX v) (R 27) (sp / 104) 0).2) 28 M2) 29 (goL (F 0) R n (tnX v) (R 27) (sp / 13 % 8) (sp % 13)).2) 26 = (va_up (va_up (va_up (va_up (va_up (va_up R 26 (R 27)) 29 (R 27)) 28 M1) 26 (goL (F 0) R n (tnX v) (R 27) (sp / 104) 0).2) 28 M2) 29 (goL (F 0) R n (tnX v) (R 27) (sp / 13 % 8) (sp % 13)).2) 29)) h_80 ?_
      refine nx_ti (y := bI ((goL (F 0) R n (tnX v) (R 27) (sp / 104) 0).2 = (goL (F 0) R n (tnX v) (R 27) (sp / 13 % 8) (sp % 13)).2)) (bI_iff (by rw [va_up_self, upn (show 26 ≠ 29 by decide), upn (show 26 ≠ 28 by decide), va_up_self])) ?_
      refine nx_bz (tgt := 90) hx hb dX2_meet_83 (by decide) (fun c_83 => ?_) (fun c_83 => ?_)
      · skip
        refine lv_iconst (v := nI 0) hx hb dX2_meet_90 (by decide) ?_
        subst hQ
        exact W.iret (v := nI 0) hx hb hret (fun tq htq hWq => ⟨⟨_, (v, va_up (va_up (va_up (va_up (va_up (va_up R 26 (R 27)) 29 (R 27)) 28 M1) 26 (goL (F 0) R n (tnX v) (R 27) (sp / 104) 0).2) 28 M2) 29 (goL (F 0) R n (tnX v) (R 27) (sp / 13 % 8) (sp % 13)).2, (va_up (va_up F 2 f2) 3 c2), G), rfl, ⟨_, _, _, rfl, fun k hk => by rw [upn (show k ≠ 29 by omega), upn (show k ≠ 28 by omega), row4 (by omega) (by omega) (by omega) (by omega)], by rw [clO_row (o := (sp, R 27)) hrl hs1 hs2 hT hu, if_neg (fun h => h.elim (fun z => c_59 (h5_33.mpr z)) (fun z => c_66 (h5_51.mpr z))), if_neg c_83]; rfl⟩, va_K.moved hWq.alike hK, _, _, hZ, by rw [htq]; exact hP⟩, hS.F htq⟩) hS.2.2 dX2_meet_91
      · skip
        refine lv_iconst (v := nI 1) hx hb dX2_meet_86 (by decide) ?_
        refine lv_goto (tgt := 91) hx hb dX2_meet_87 (by decide) ?_
        subst hQ
        exact W.iret (v := nI 1) hx hb hret (fun tq htq hWq => ⟨⟨_, (v, va_up (va_up (va_up (va_up (va_up (va_up R 26 (R 27)) 29 (R 27)) 28 M1) 26 (goL (F 0) R n (tnX v) (R 27) (sp / 104) 0).2) 28 M2) 29 (goL (F 0) R n (tnX v) (R 27) (sp / 13 % 8) (sp % 13)).2, (va_up (va_up F 2 f2) 3 c2), G), rfl, ⟨_, _, _, rfl, fun k hk => by rw [upn (show k ≠ 29 by omega), upn (show k ≠ 28 by omega), row4 (by omega) (by omega) (by omega) (by omega)], by rw [clO_row (o := (sp, R 27)) hrl hs1 hs2 hT hu, if_neg (fun h => h.elim (fun z => c_59 (h5_33.mpr z)) (fun z => c_66 (h5_51.mpr z))), if_pos c_83]; rfl⟩, va_K.moved hWq.alike hK, _, _, hZ, by rw [htq]; exact hP⟩, hS.F htq⟩) hS.2.2 dX2_meet_91
    · skip
      refine lv_bipush (v := (-5)) hx hb dX2_meet_69 (by decide) ?_
      subst hQ
      exact W.iret (v := (-5)) hx hb hret (fun tq htq hWq => ⟨⟨_, (v, va_up (va_up (va_up (va_up (va_up (va_up R 26 (R 27)) 29 (R 27)) 28 M1) 26 (goL (F 0) R n (tnX v) (R 27) (sp / 104) 0).2) 28 M2) 29 (goL (F 0) R n (tnX v) (R 27) (sp / 13 % 8) (sp % 13)).2, (va_up (va_up F 2 f2) 3 c2), G), rfl, ⟨_, _, _, rfl, fun k hk => by rw [upn (show k ≠ 29 by omega), upn (show k ≠ 28 by omega), row4 (by omega) (by omega) (by omega) (by omega)], (clO_5 (o := (sp, R 27)) (Or.inr (h5_51.mp c_66))).symm⟩, va_K.moved hWq.alike hK, _, _, hZ, by rw [htq]; exact hP⟩, hS.F htq⟩) hS.2.2 dX2_meet_71

set_option maxHeartbeats 1000000 in
set_option maxRecDepth 100000 in
/-- isRow -/
theorem x_isRow (l : Launch) (a : Int32) : Met l yX9_isRow wsX9_isRow ({ frames := 0, cells := 0, slots := 0, locals := 0 } : Room) (va_Pc [.int a] (fun _ => True)) (vp_Si (fun x => x = bI (rIn a 10))) 0 0 (fun _ => False) := by
  refine Met.ofW (cc := cX9_isRow) (maxL := 1) (ret := (some .boolean)) (by decide) rfl ?_
  intro p e s m args below meth c s₁ B hml hv
  obtain ⟨rfl, -⟩ := hv
  have hx := B.exec
  have hb := B.bytes
  have hret := B.returns
  have hts := atoms_spec (ws := wsX9_isRow) B.pre
  have hown : s.vm.findClass RX9 = some m.cls := findClass_of_methodNamed B.named
  have hlocks := B.notSynchronized
  have hl := lv_entry [.int a] (n := 1) (Nat.le_of_ble_eq_true rfl)
  rw [lg_entry_eq]
  generalize (lg_sl [.int a] ++ List.replicate (1 - (lg_sl [.int a]).length) Slot.unset).toArray = ls at hl ⊢
  have hl : lv_has ls 1 [(0, .int a)] := hl
  refine nx_Q (R := ({ frames := 0, cells := 0, slots := 0, locals := 0 } : Room)) (fun Q hQ => ?_)
  refine lv_iload_n hx hb dX9_isRow_0 rfl (lv_at hl 0 rfl) ?_
  refine lv_if_lt (tgt := 14) hx hb dX9_isRow_1 (by decide) (fun c_1 => ?_) (fun c_1 => ?_)
  · skip
    refine lv_iconst (v := nI 0) hx hb dX9_isRow_14 (by decide) ?_
    subst hQ
    exact W.zret (v := nI 0) hx hb hret (rfl) (fun tq htq hWq => ⟨_, rfl, (bI_f (fun h => ((rIn_c (by omega)).mpr h).1 c_1)).symm, htq⟩) (fun q h => by cases h) dX9_isRow_15
  · skip
    refine lv_iload_n hx hb dX9_isRow_4 rfl (lv_at hl 0 rfl) ?_
    refine lv_bipush (v := nI 10) hx hb dX9_isRow_5 (by decide) ?_
    refine lv_icmp_ge (tgt := 14) hx hb dX9_isRow_7 (by decide) (fun c_7 => ?_) (fun c_7 => ?_)
    · skip
      refine lv_iconst (v := nI 0) hx hb dX9_isRow_14 (by decide) ?_
      subst hQ
      exact W.zret (v := nI 0) hx hb hret (rfl) (fun tq htq hWq => ⟨_, rfl, (bI_f (fun h => ((rIn_c (by omega)).mpr h).2 c_7)).symm, htq⟩) (fun q h => by cases h) dX9_isRow_15
    · skip
      refine lv_iconst (v := nI 1) hx hb dX9_isRow_10 (by decide) ?_
      refine lv_goto (tgt := 15) hx hb dX9_isRow_11 (by decide) ?_
      subst hQ
      exact W.zret (v := nI 1) hx hb hret (rfl) (fun tq htq hWq => ⟨_, rfl, (bI_t ((rIn_c (by omega)).mp ⟨c_1, c_7⟩)).symm, htq⟩) (fun q h => by cases h) dX9_isRow_15

set_option maxHeartbeats 1000000 in
set_option maxRecDepth 100000 in
/-- isLeafNumber -/
theorem x_isLeafNumber (l : Launch) (a : Int32) : Met l yX9_isLeafNumber wsX9_isLeafNumber ({ frames := 0, cells := 0, slots := 0, locals := 0 } : Room) (va_Pc [.int a] (fun _ => True)) (vp_Si (fun x => x = bI (rN6 a))) 0 0 (fun _ => False) := by
  refine Met.ofW (cc := cX9_isLeafNumber) (maxL := 1) (ret := (some .boolean)) (by decide) rfl ?_
  intro p e s m args below meth c s₁ B hml hv
  obtain ⟨rfl, -⟩ := hv
  have hx := B.exec
  have hb := B.bytes
  have hret := B.returns
  have hts := atoms_spec (ws := wsX9_isLeafNumber) B.pre
  have hown : s.vm.findClass RX9 = some m.cls := findClass_of_methodNamed B.named
  have hlocks := B.notSynchronized
  have hl := lv_entry [.int a] (n := 1) (Nat.le_of_ble_eq_true rfl)
  rw [lg_entry_eq]
  generalize (lg_sl [.int a] ++ List.replicate (1 - (lg_sl [.int a]).length) Slot.unset).toArray = ls at hl ⊢
  have hl : lv_has ls 1 [(0, .int a)] := hl
  refine nx_Q (R := ({ frames := 0, cells := 0, slots := 0, locals := 0 } : Room)) (fun Q hQ => ?_)
  refine lv_iload_n hx hb dX9_isLeafNumber_0 rfl (lv_at hl 0 rfl) ?_
  refine lv_iconst (v := nI 1) hx hb dX9_isLeafNumber_1 (by decide) ?_
  refine lv_icmp_lt (tgt := 15) hx hb dX9_isLeafNumber_2 (by decide) (fun c_2 => ?_) (fun c_2 => ?_)
  · skip
    refine lv_iconst (v := nI 0) hx hb dX9_isLeafNumber_15 (by decide) ?_
    subst hQ
    exact W.zret (v := nI 0) hx hb hret (rfl) (fun tq htq hWq => ⟨_, rfl, (bI_f (fun h => (rN6_w.mpr h).1 c_2)).symm, htq⟩) (fun q h => by cases h) dX9_isLeafNumber_16
  · skip
    refine lv_iload_n hx hb dX9_isLeafNumber_5 rfl (lv_at hl 0 rfl) ?_
    refine lv_bipush (v := nI 6) hx hb dX9_isLeafNumber_6 (by decide) ?_
    refine lv_icmp_gt (tgt := 15) hx hb dX9_isLeafNumber_8 (by decide) (fun c_8 => ?_) (fun c_8 => ?_)
    · skip
      refine lv_iconst (v := nI 0) hx hb dX9_isLeafNumber_15 (by decide) ?_
      subst hQ
      exact W.zret (v := nI 0) hx hb hret (rfl) (fun tq htq hWq => ⟨_, rfl, (bI_f (fun h => (rN6_w.mpr h).2 c_8)).symm, htq⟩) (fun q h => by cases h) dX9_isLeafNumber_16
    · skip
      refine lv_iconst (v := nI 1) hx hb dX9_isLeafNumber_11 (by decide) ?_
      refine lv_goto (tgt := 16) hx hb dX9_isLeafNumber_12 (by decide) ?_
      subst hQ
      exact W.zret (v := nI 1) hx hb hret (rfl) (fun tq htq hWq => ⟨_, rfl, (bI_t (rN6_w.mp ⟨c_2, c_8⟩)).symm, htq⟩) (fun q h => by cases h) dX9_isLeafNumber_16

set_option maxHeartbeats 1000000 in
set_option maxRecDepth 100000 in
/-- isTreeRow -/
theorem x_isTreeRow (l : Launch) (dC : Nat → ClassId) (dI : Nat → Nat → Nat) (aC : Nat → ClassId) (ad cap : Nat → Nat) (v : Nat → Int32) (R : Nat → List Int32) (F : Nat → Nat → Int32) (G : Nat → Nat → Int64) (A : Nat) (hE : vE A (F 0)) (hA : v 0 = nI A) (a : Int32) (hV : ∀ r, r < 10 → vR A (R r))  : Met l yX9_isTreeRow wsX9_isTreeRow ({ frames := 3, cells := 0, slots := 0, locals := 75 } : Room) (va_Pc [.ref (ad 0), .int a] (XB dC dI aC ad cap (v, R, F, G))) (vp_Si (fun x => x = bI (tr (F 0) R a))) 0 0 (fun _ => False) := by
  refine Met.ofW (cc := cX9_isTreeRow) (maxL := 2) (ret := (some .boolean)) (by decide) rfl ?_
  intro p e s m args below meth c s₁ B hml hv
  obtain ⟨rfl, hK, Z, S, hZ, hP⟩ := hv
  have hx := B.exec
  have hb := B.bytes
  have hret := B.returns
  have hts := atoms_spec (ws := wsX9_isTreeRow) B.pre
  have hown : s.vm.findClass RX9 = some m.cls := findClass_of_methodNamed B.named
  have hlocks := B.notSynchronized
  dsimp only at hZ hP
  have lk0 := hts (.fieldLink RX9 10 "LeafTrees" "world" "LLeafTrees$World;") (by decide +kernel)
  have lk1 := hts (.fieldLink RX9 18 "LeafTrees" "rows" "[LLeafTrees$Row;") (by decide +kernel)
  have hin9 : ∀ w ∈ u_ws RX9 TX9 14, w ∈ wsX9_isTreeRow := by decide +kernel
  have hl := lv_entry [.ref (ad 0), .int a] (n := 2) (Nat.le_of_ble_eq_true rfl)
  rw [lg_entry_eq]
  generalize (lg_sl [.ref (ad 0), .int a] ++ List.replicate (2 - (lg_sl [.ref (ad 0), .int a]).length) Slot.unset).toArray = ls at hl ⊢
  have hl : lv_has ls 2 [(0, .ref (ad 0)), (1, .int a)] := hl
  refine nx_Q (R := ({ frames := 3, cells := 0, slots := 0, locals := 75 } : Room)) (fun Q hQ => ?_)
  refine lv_iload_n hx hb dX9_isTreeRow_0 rfl (lv_at hl 1 rfl) ?_
  refine ms_i (As := [.int a]) (rest := []) ⟨hx, hb, hml, hown, hts⟩ (x_isRow l a) (va_cwS 1 hts gX9_isTreeRow_X9_isRow rfl rfl rfl (by decide +kernel) ⟨Nat.le_of_ble_eq_true rfl, Nat.le_of_ble_eq_true rfl⟩) rfl hl.1 rfl (Nat.le_of_ble_eq_true rfl) dX9_isTreeRow_1 ⟨Nat.le_of_ble_eq_true rfl, Nat.le_of_ble_eq_true rfl⟩ (fun x_1 h_1 => ?_)
  subst h_1
  refine nx_bz (tgt := 27) hx hb dX9_isTreeRow_4 (by decide) (fun c_4 => ?_) (fun c_4 => ?_)
  · skip
    refine lv_iconst (v := nI 0) hx hb dX9_isTreeRow_27 (by decide) ?_
    subst hQ
    exact W.zret (v := nI 0) hx hb hret (rfl) (fun tq htq hWq => ⟨_, rfl, (bI_f (fun h => c_4 h.1)).symm, htq⟩) (fun q h => by cases h) dX9_isTreeRow_28
  · skip
    obtain ⟨r, hr, rfl⟩ := rIn_of c_4 (by decide)
    have hcr := nI_clamp (n := r) (by omega)
    refine lv_aload_n hx hb dX9_isTreeRow_7 rfl (lv_at hl 0 rfl) ?_
    refine va_get (D := (dC, dI)) (ci := 9) (C := RX9) (T := TX9) (N := 14) hx hb hts hin9 hown hK hP 0 rfl rfl 0 (by decide) lk0 (fun _ h9 => h9) rfl dX9_isTreeRow_8 ?_
    refine lv_aload_n hx hb dX9_isTreeRow_11 rfl (lv_at hl 0 rfl) ?_
    refine va_get (D := (dC, dI)) (ci := 9) (C := RX9) (T := TX9) (N := 14) hx hb hts hin9 hown hK hP 0 rfl rfl 1 (by decide) lk1 (fun _ h9 => h9) rfl dX9_isTreeRow_12 ?_
    refine lv_iload_n hx hb dX9_isTreeRow_15 rfl (lv_at hl 1 rfl) ?_
    refine nx_aald (C := "LeafTrees$Row") hx hb hK hP 2 3 rfl rfl (i := r) (by omega) (by decide) (show xRows ad r = some (ad (58 + 2 * r)) from if_pos (by omega)) dX9_isTreeRow_16 ?_
    refine xp_i (b := ad 1) (As := [.ref (ad (58 + 2 * r))]) (rest := []) ⟨hx, hb, hml, hown, hts⟩ (x_isTree l dC dI aC ad cap v R F G A hE hA r (by omega) (hV r hr)) (cwV 1 hts gX9_isTreeRow_X8_isTree rfl rfl rfl (by decide +kernel) ⟨Nat.le_of_ble_eq_true rfl, Nat.le_of_ble_eq_true rfl⟩) (xPre (q0 := 1) (ci := 8) rfl rfl hK hZ hP) rfl hl.1 rfl (Nat.le_of_ble_eq_true rfl) dX9_isTreeRow_17 ⟨Nat.le_of_ble_eq_true rfl, Nat.le_of_ble_eq_true rfl⟩ (fun x_17 h_17 => ?_)
    refine nx_ti (y := bI (isT (F 0) (R r))) h_17 ?_
    refine nx_bz (tgt := 27) hx hb dX9_isTreeRow_20 (by decide) (fun c_20 => ?_) (fun c_20 => ?_)
    · skip
      refine lv_iconst (v := nI 0) hx hb dX9_isTreeRow_27 (by decide) ?_
      subst hQ
      exact W.zret (v := nI 0) hx hb hret (rfl) (fun tq htq hWq => ⟨_, rfl, (bI_f (fun h => c_20 (by have h2 := h.2; rw [hcr] at h2; exact h2))).symm, htq⟩) (fun q h => by cases h) dX9_isTreeRow_28
    · skip
      refine lv_iconst (v := nI 1) hx hb dX9_isTreeRow_23 (by decide) ?_
      refine lv_goto (tgt := 28) hx hb dX9_isTreeRow_24 (by decide) ?_
      subst hQ
      exact W.zret (v := nI 1) hx hb hret (rfl) (fun tq htq hWq => ⟨_, rfl, (bI_t ⟨c_4, by rw [hcr]; exact c_20⟩).symm, htq⟩) (fun q h => by cases h) dX9_isTreeRow_28

set_option maxHeartbeats 1000000 in
set_option maxRecDepth 100000 in
/-- isLeft -/
theorem x_isLeft (l : Launch) (dC : Nat → ClassId) (dI : Nat → Nat → Nat) (aC : Nat → ClassId) (ad cap : Nat → Nat) (v : Nat → Int32) (R : Nat → List Int32) (F : Nat → Nat → Int32) (G : Nat → Nat → Int64) (A : Nat) (hE : vE A (F 0)) (hA : v 0 = nI A) (a : Int32) (hV : ∀ r, r < 10 → vR A (R r))  : Met l yX9_isLeft wsX9_isLeft ({ frames := 4, cells := 0, slots := 0, locals := 96 } : Room) (va_Pc [.ref (ad 0), .int a] (XB dC dI aC ad cap (v, R, F, G))) (vp_Si (fun x => x = bI (lf (F 0) R a))) 0 0 (fun _ => False) := by
  refine Met.ofW (cc := cX9_isLeft) (maxL := 2) (ret := (some .boolean)) (by decide) rfl ?_
  intro p e s m args below meth c s₁ B hml hv
  obtain ⟨rfl, hK, Z, S, hZ, hP⟩ := hv
  have hx := B.exec
  have hb := B.bytes
  have hret := B.returns
  have hts := atoms_spec (ws := wsX9_isLeft) B.pre
  have hown : s.vm.findClass RX9 = some m.cls := findClass_of_methodNamed B.named
  have hlocks := B.notSynchronized
  dsimp only at hZ hP
  have lk0 := hts (.fieldLink RX9 18 "LeafTrees" "rows" "[LLeafTrees$Row;") (by decide +kernel)
  have hin9 : ∀ w ∈ u_ws RX9 TX9 14, w ∈ wsX9_isLeft := by decide +kernel
  have hl := lv_entry [.ref (ad 0), .int a] (n := 2) (Nat.le_of_ble_eq_true rfl)
  rw [lg_entry_eq]
  generalize (lg_sl [.ref (ad 0), .int a] ++ List.replicate (2 - (lg_sl [.ref (ad 0), .int a]).length) Slot.unset).toArray = ls at hl ⊢
  have hl : lv_has ls 2 [(0, .ref (ad 0)), (1, .int a)] := hl
  refine nx_Q (R := ({ frames := 4, cells := 0, slots := 0, locals := 96 } : Room)) (fun Q hQ => ?_)
  refine lv_aload_n hx hb dX9_isLeft_0 rfl (lv_at hl 0 rfl) ?_
  refine lv_iload_n hx hb dX9_isLeft_1 rfl (lv_at hl 1 rfl) ?_
  refine xp_i (b := ad 0) (As := [.int a]) (rest := []) ⟨hx, hb, hml, hown, hts⟩ (x_isTreeRow l dC dI aC ad cap v R F G A hE hA a hV) (cwV 1 hts gX9_isLeft_X9_isTreeRow rfl rfl rfl (by decide +kernel) ⟨Nat.le_of_ble_eq_true rfl, Nat.le_of_ble_eq_true rfl⟩) (xPre (q0 := 0) (ci := 9) rfl rfl hK hZ hP) rfl hl.1 rfl (Nat.le_of_ble_eq_true rfl) dX9_isLeft_2 ⟨Nat.le_of_ble_eq_true rfl, Nat.le_of_ble_eq_true rfl⟩ (fun x_2 h_2 => ?_)
  refine nx_ti (y := bI (tr (F 0) R a)) h_2 ?_
  refine nx_bz (tgt := 38) hx hb dX9_isLeft_5 (by decide) (fun c_5 => ?_) (fun c_5 => ?_)
  · skip
    refine lv_iconst (v := nI 0) hx hb dX9_isLeft_38 (by decide) ?_
    subst hQ
    exact W.zret (v := nI 0) hx hb hret (rfl) (fun tq htq hWq => ⟨_, rfl, (bI_f (fun h => c_5 h.1)).symm, htq⟩) (fun q h => by cases h) dX9_isLeft_39
  · skip
    obtain ⟨r, hr, rfl⟩ := rIn_of c_5.1 (by decide)
    have hcr := nI_clamp (n := r) (by omega)
    have hl60 := (hZ r (by omega)).1
    refine lv_aload_n hx hb dX9_isLeft_8 rfl (lv_at hl 0 rfl) ?_
    refine va_get (D := (dC, dI)) (ci := 9) (C := RX9) (T := TX9) (N := 14) hx hb hts hin9 hown hK hP 0 rfl rfl 1 (by decide) lk0 (fun _ h9 => h9) rfl dX9_isLeft_9 ?_
    refine lv_iload_n hx hb dX9_isLeft_12 rfl (lv_at hl 1 rfl) ?_
    refine nx_aald (C := "LeafTrees$Row") hx hb hK hP 2 3 rfl rfl (i := r) (by omega) (by decide) (show xRows ad r = some (ad (58 + 2 * r)) from if_pos (by omega)) dX9_isLeft_13 ?_
    refine xp_i (b := ad (58 + 2 * r)) (As := []) (rest := []) ⟨hx, hb, hml, hown, hts⟩ (x_size l dC dI aC ad cap v R F G r (by omega)) (cwV 0 hts gX9_isLeft_X3_size rfl rfl rfl (by decide +kernel) ⟨Nat.le_of_ble_eq_true rfl, Nat.le_of_ble_eq_true rfl⟩) (xPre (q0 := (58 + 2 * r)) (ci := 3) rfl (xw_ro r (by omega)) hK hZ hP) rfl hl.1 rfl (Nat.le_of_ble_eq_true rfl) dX9_isLeft_14 ⟨Nat.le_of_ble_eq_true rfl, Nat.le_of_ble_eq_true rfl⟩ (fun x_14 h_14 => ?_)
    refine nx_ti (y := nI ((R r).length - lvs (R r))) h_14 ?_
    refine lv_iconst (v := nI 1) hx hb dX9_isLeft_17 (by decide) ?_
    refine nx_icmp_lt (a := ((R r).length - lvs (R r))) (b := 1) (tgt := 38) hx hb dX9_isLeft_18 (by decide) (by omega) (by omega) (fun c_18 => ?_) (fun c_18 => ?_)
    · skip
      refine lv_iconst (v := nI 0) hx hb dX9_isLeft_38 (by decide) ?_
      subst hQ
      exact W.zret (v := nI 0) hx hb hret (rfl) (fun tq htq hWq => ⟨_, rfl, (bI_f (fun h => by have h2 : 1 ≤ (R r).length - lvs (R r) ∧ (R r).length - lvs (R r) ≤ 4 := (by have h2 := h.2; rw [hcr] at h2; exact h2); omega)).symm, htq⟩) (fun q h => by cases h) dX9_isLeft_39
    · skip
      refine lv_aload_n hx hb dX9_isLeft_21 rfl (lv_at hl 0 rfl) ?_
      refine va_get (D := (dC, dI)) (ci := 9) (C := RX9) (T := TX9) (N := 14) hx hb hts hin9 hown hK hP 0 rfl rfl 1 (by decide) lk0 (fun _ h9 => h9) rfl dX9_isLeft_22 ?_
      refine lv_iload_n hx hb dX9_isLeft_25 rfl (lv_at hl 1 rfl) ?_
      refine nx_aald (C := "LeafTrees$Row") hx hb hK hP 2 3 rfl rfl (i := r) (by omega) (by decide) (show xRows ad r = some (ad (58 + 2 * r)) from if_pos (by omega)) dX9_isLeft_26 ?_
      refine xp_i (b := ad (58 + 2 * r)) (As := []) (rest := []) ⟨hx, hb, hml, hown, hts⟩ (x_size l dC dI aC ad cap v R F G r (by omega)) (cwV 0 hts gX9_isLeft_X3_size rfl rfl rfl (by decide +kernel) ⟨Nat.le_of_ble_eq_true rfl, Nat.le_of_ble_eq_true rfl⟩) (xPre (q0 := (58 + 2 * r)) (ci := 3) rfl (xw_ro r (by omega)) hK hZ hP) rfl hl.1 rfl (Nat.le_of_ble_eq_true rfl) dX9_isLeft_27 ⟨Nat.le_of_ble_eq_true rfl, Nat.le_of_ble_eq_true rfl⟩ (fun x_27 h_27 => ?_)
      refine nx_ti (y := nI ((R r).length - lvs (R r))) h_27 ?_
      refine lv_iconst (v := nI 4) hx hb dX9_isLeft_30 (by decide) ?_
      refine nx_icmp_gt (a := ((R r).length - lvs (R r))) (b := 4) (tgt := 38) hx hb dX9_isLeft_31 (by decide) (by omega) (by omega) (fun c_31 => ?_) (fun c_31 => ?_)
      · skip
        refine lv_iconst (v := nI 0) hx hb dX9_isLeft_38 (by decide) ?_
        subst hQ
        exact W.zret (v := nI 0) hx hb hret (rfl) (fun tq htq hWq => ⟨_, rfl, (bI_f (fun h => by have h2 : 1 ≤ (R r).length - lvs (R r) ∧ (R r).length - lvs (R r) ≤ 4 := (by have h2 := h.2; rw [hcr] at h2; exact h2); omega)).symm, htq⟩) (fun q h => by cases h) dX9_isLeft_39
      · skip
        refine lv_iconst (v := nI 1) hx hb dX9_isLeft_34 (by decide) ?_
        refine lv_goto (tgt := 39) hx hb dX9_isLeft_35 (by decide) ?_
        subst hQ
        exact W.zret (v := nI 1) hx hb hret (rfl) (fun tq htq hWq => ⟨_, rfl, (bI_t ⟨c_5, by rw [hcr]; show 1 ≤ (R r).length - lvs (R r) ∧ (R r).length - lvs (R r) ≤ 4; omega⟩).symm, htq⟩) (fun q h => by cases h) dX9_isLeft_39

set_option maxHeartbeats 1000000 in
set_option maxRecDepth 100000 in
/-- bring -/
theorem x_bring (l : Launch) (dC : Nat → ClassId) (dI : Nat → Nat → Nat) (aC : Nat → ClassId) (ad cap : Nat → Nat) (hI : xI ad) (v : Nat → Int32) (R : Nat → List Int32) (F : Nat → Nat → Int32) (G : Nat → Nat → Int64) (k : Nat) (hk : k < 31) (r : Nat) (hr : r < 10) (hkr : k ≠ r) : Met l yX9_bring wsX9_bring ({ frames := 2, cells := 0, slots := 0, locals := 61 } : Room) (va_Pc [.ref (ad 0), .ref (ad (58 + 2 * k)), .int (nI r)] (XB dC dI aC ad cap (v, R, F, G))) (va_Qi (fun (x : Int32) (u : MS) => x = nI (R k).length ∧ (v, va_up R r (R k), F, G) = u) (XB dC dI aC ad cap) (xA ad)) 0 0 (xA ad) := by
  refine Met.ofW (cc := cX9_bring) (maxL := 3) (ret := (some .int)) (by decide) rfl ?_
  intro p e s m args below meth c s₁ B hml hv
  obtain ⟨rfl, hK, Z, S, hZ, hP⟩ := hv
  have hx := B.exec
  have hb := B.bytes
  have hret := B.returns
  have hts := atoms_spec (ws := wsX9_bring) B.pre
  have hown : s.vm.findClass RX9 = some m.cls := findClass_of_methodNamed B.named
  have hlocks := B.notSynchronized
  dsimp only at hZ hP
  have lk0 := hts (.fieldLink RX9 18 "LeafTrees" "rows" "[LLeafTrees$Row;") (by decide +kernel)
  have lk1 := hts (.fieldLink RX9 93 "LeafTrees$Row" "length" "I") (by decide +kernel)
  have hin3 : ∀ w ∈ u_ws RX3 TX3 2, w ∈ wsX9_bring := by decide +kernel
  have hin9 : ∀ w ∈ u_ws RX9 TX9 14, w ∈ wsX9_bring := by decide +kernel
  have hS : va_S (xA ad) s.heap s.heap [] := va_S.rf
  have hl := lv_entry [.ref (ad 0), .ref (ad (58 + 2 * k)), .int (nI r)] (n := 3) (Nat.le_of_ble_eq_true rfl)
  rw [lg_entry_eq]
  generalize (lg_sl [.ref (ad 0), .ref (ad (58 + 2 * k)), .int (nI r)] ++ List.replicate (3 - (lg_sl [.ref (ad 0), .ref (ad (58 + 2 * k)), .int (nI r)]).length) Slot.unset).toArray = ls at hl ⊢
  have hl : lv_has ls 3 [(0, .ref (ad 0)), (1, .ref (ad (58 + 2 * k))), (2, .int (nI r))] := hl
  refine nx_Q (R := ({ frames := 2, cells := 0, slots := 0, locals := 61 } : Room)) (fun Q hQ => ?_)
  refine lv_aload_n hx hb dX9_bring_0 rfl (lv_at hl 0 rfl) ?_
  refine va_get (D := (dC, dI)) (ci := 9) (C := RX9) (T := TX9) (N := 14) hx hb hts hin9 hown hK hP 0 rfl rfl 1 (by decide) lk0 (fun _ h9 => h9) rfl dX9_bring_1 ?_
  refine lv_iload_n hx hb dX9_bring_4 rfl (lv_at hl 2 rfl) ?_
  refine nx_aald (C := "LeafTrees$Row") hx hb hK hP 2 3 rfl rfl (i := r) (by omega) (by decide) (show xRows ad r = some (ad (58 + 2 * r)) from if_pos (by omega)) dX9_bring_5 ?_
  refine lv_aload_n hx hb dX9_bring_6 rfl (lv_at hl 1 rfl) ?_
  refine xc_v (b := ad (58 + 2 * r)) (As := [.ref (ad (58 + 2 * k))]) (rest := []) ⟨hx, hb, hml, hown, hts⟩ (x_become l dC dI aC ad cap hI v R F G r (by omega) k hk) (cwV 1 hts gX9_bring_X3_become rfl rfl rfl (by decide +kernel) ⟨Nat.le_of_ble_eq_true rfl, Nat.le_of_ble_eq_true rfl⟩) (xPre (q0 := (58 + 2 * r)) (ci := 3) rfl (xw_ro r (by omega)) hK hZ hP) hS rfl hl.1 rfl (Nat.le_of_ble_eq_true rfl) dX9_bring_7 ⟨Nat.le_of_ble_eq_true rfl, Nat.le_of_ble_eq_true rfl⟩ (fun v1 R1 F1 G1 Z S H locs h_7 hZ hP hS => ?_)
  cases h_7
  refine lv_aload_n hx hb dX9_bring_10 rfl (lv_at hl 1 rfl) ?_
  refine va_get (D := (dC, dI)) (ci := 3) (C := RX3) (T := TX3) (N := 2) hx hb hts hin3 hown hK hP (58 + 2 * k) (xw_ro k (by omega)) rfl 1 (by decide) lk1 (fun _ h9 => h9) rfl dX9_bring_11 ?_
  refine nx_ti (y := nI ((va_up R r (R k)) k).length) ((hZ k (by omega)).2.1) ?_
  refine nx_ti (y := nI (R k).length) (by rw [upn hkr]) ?_
  subst hQ
  exact W.iret (v := nI (R k).length) hx hb hret (fun tq htq hWq => ⟨⟨_, (v, va_up R r (R k), F, G), rfl, ⟨rfl, rfl⟩, va_K.moved hWq.alike hK, _, _, hZ, by rw [htq]; exact hP⟩, hS.F htq⟩) hS.2.2 dX9_bring_14

set_option maxHeartbeats 1000000 in
set_option maxRecDepth 100000 in
/-- treeRows -/
theorem x_treeRows (l : Launch) (dC : Nat → ClassId) (dI : Nat → Nat → Nat) (aC : Nat → ClassId) (ad cap : Nat → Nat) (v : Nat → Int32) (R : Nat → List Int32) (F : Nat → Nat → Int32) (G : Nat → Nat → Int64) (A : Nat) (hE : vE A (F 0)) (hA : v 0 = nI A) (hV : ∀ r, r < 10 → vR A (R r))  : Met l yX9_treeRows wsX9_treeRows ({ frames := 3, cells := 0, slots := 0, locals := 75 } : Room) (va_Pc [.ref (ad 0)] (XB dC dI aC ad cap (v, R, F, G))) (vp_Si (fun x => x = nI (tcF (F 0) R 10))) 0 0 (fun _ => False) := by
  refine Met.ofW (cc := cX9_treeRows) (maxL := 3) (ret := (some .int)) (by decide) rfl ?_
  intro p e s m args below meth c s₁ B hml hv
  obtain ⟨rfl, hK, Z, S, hZ, hP⟩ := hv
  have hx := B.exec
  have hb := B.bytes
  have hret := B.returns
  have hts := atoms_spec (ws := wsX9_treeRows) B.pre
  have hown : s.vm.findClass RX9 = some m.cls := findClass_of_methodNamed B.named
  have hlocks := B.notSynchronized
  dsimp only at hZ hP
  have lk0 := hts (.fieldLink RX9 10 "LeafTrees" "world" "LLeafTrees$World;") (by decide +kernel)
  have lk1 := hts (.fieldLink RX9 18 "LeafTrees" "rows" "[LLeafTrees$Row;") (by decide +kernel)
  have hin9 : ∀ w ∈ u_ws RX9 TX9 14, w ∈ wsX9_treeRows := by decide +kernel
  have hl := lv_entry [.ref (ad 0)] (n := 3) (Nat.le_of_ble_eq_true rfl)
  rw [lg_entry_eq]
  generalize (lg_sl [.ref (ad 0)] ++ List.replicate (3 - (lg_sl [.ref (ad 0)]).length) Slot.unset).toArray = ls at hl ⊢
  have hl : lv_has ls 3 [(0, .ref (ad 0))] := hl
  refine nx_Q (R := ({ frames := 3, cells := 0, slots := 0, locals := 75 } : Room)) (fun Q hQ => ?_)
  refine lv_iconst (v := nI 0) hx hb dX9_treeRows_0 (by decide) ?_
  refine lv_istore_n (lv' := [(1, .int (nI 0)), (0, .ref (ad 0))]) hx hb dX9_treeRows_1 rfl hl (by decide) rfl (fun ls hl => ?_)
  refine lv_iconst (v := nI 0) hx hb dX9_treeRows_2 (by decide) ?_
  refine lv_istore_n (lv' := [(2, .int (nI 0)), (1, .int (nI 0)), (0, .ref (ad 0))]) hx hb dX9_treeRows_3 rfl hl (by decide) rfl (fun ls hl => ?_)
  have L4 : ∀ (fuel4 : Nat) (i : Nat) (ls : Array Slot), (i ≤ 10) → 10 - i < fuel4 → lv_has ls 3 [(0, .ref (ad 0)), (1, .int (nI (tcF (F 0) R i))), (2, .int (nI i))] → W p l e ({ frames := 3, cells := 0, slots := 0, locals := 75 } : Room) s m ([.ref (ad 0)] : List Value).toArray below meth c s.heap [] 0 0 Q (F0 m 4 ls []) := by
    intro fuel4
    induction fuel4 with
    | zero => intro i ls hi hf4 hl; exact absurd hf4 (Nat.not_lt_zero _)
    | succ fuel4 ih4 =>
      intro i ls hi hf4 hl
      refine lv_iload_n hx hb dX9_treeRows_4 rfl (lv_at hl 2 rfl) ?_
      refine lv_bipush (v := nI 10) hx hb dX9_treeRows_5 (by decide) ?_
      refine nx_icmp_ge (a := i) (b := 10) (tgt := 35) hx hb dX9_treeRows_7 (by decide) (by omega) (by omega) (fun c_7 => ?_) (fun c_7 => ?_)
      · skip
        refine lv_iload_n hx hb dX9_treeRows_35 rfl (lv_at hl 1 rfl) ?_
        subst hQ
        exact W.iret (v := nI (tcF (F 0) R i)) hx hb hret (fun tq htq hWq => ⟨_, rfl, by rw [show i = 10 by omega], htq⟩) (fun q h => by cases h) dX9_treeRows_36
      · skip
        refine lv_aload_n hx hb dX9_treeRows_10 rfl (lv_at hl 0 rfl) ?_
        refine va_get (D := (dC, dI)) (ci := 9) (C := RX9) (T := TX9) (N := 14) hx hb hts hin9 hown hK hP 0 rfl rfl 0 (by decide) lk0 (fun _ h9 => h9) rfl dX9_treeRows_11 ?_
        refine lv_aload_n hx hb dX9_treeRows_14 rfl (lv_at hl 0 rfl) ?_
        refine va_get (D := (dC, dI)) (ci := 9) (C := RX9) (T := TX9) (N := 14) hx hb hts hin9 hown hK hP 0 rfl rfl 1 (by decide) lk1 (fun _ h9 => h9) rfl dX9_treeRows_15 ?_
        refine lv_iload_n hx hb dX9_treeRows_18 rfl (lv_at hl 2 rfl) ?_
        refine nx_aald (C := "LeafTrees$Row") hx hb hK hP 2 3 rfl rfl (i := i) (by omega) (by decide) (show xRows ad i = some (ad (58 + 2 * i)) from if_pos (by omega)) dX9_treeRows_19 ?_
        refine xp_i (b := ad 1) (As := [.ref (ad (58 + 2 * i))]) (rest := []) ⟨hx, hb, hml, hown, hts⟩ (x_isTree l dC dI aC ad cap v R F G A hE hA i (by omega) (hV i (by omega))) (cwV 1 hts gX9_treeRows_X8_isTree rfl rfl rfl (by decide +kernel) ⟨Nat.le_of_ble_eq_true rfl, Nat.le_of_ble_eq_true rfl⟩) (xPre (q0 := 1) (ci := 8) rfl rfl hK hZ hP) rfl hl.1 rfl (Nat.le_of_ble_eq_true rfl) dX9_treeRows_20 ⟨Nat.le_of_ble_eq_true rfl, Nat.le_of_ble_eq_true rfl⟩ (fun x_20 h_20 => ?_)
        refine nx_ti (y := bI (isT (F 0) (R i))) h_20 ?_
        refine nx_bz (tgt := 29) hx hb dX9_treeRows_23 (by decide) (fun c_23 => ?_) (fun c_23 => ?_)
        · skip
          refine lv_iinc (v := nI (i + 1)) (lv' := [(2, .int (nI (i + 1))), (0, .ref (ad 0)), (1, .int (nI (tcF (F 0) R i)))]) hx hb dX9_treeRows_29 hl (k := 2) rfl (nI_add _ _) (by decide) rfl (fun ls hl => ?_)
          refine lv_goto (tgt := 4) hx hb dX9_treeRows_32 (by decide) ?_
          exact ih4 (i + 1) _ (by omega) (by omega) (by rw [tcF_f c_23]; exact lv_sub hl [1, 2, 0] rfl)
        · skip
          refine lv_iinc (v := nI (tcF (F 0) R i + 1)) (lv' := [(1, .int (nI (tcF (F 0) R i + 1))), (0, .ref (ad 0)), (2, .int (nI i))]) hx hb dX9_treeRows_26 hl (k := 1) rfl (nI_add _ _) (by decide) rfl (fun ls hl => ?_)
          refine lv_iinc (v := nI (i + 1)) (lv' := [(2, .int (nI (i + 1))), (1, .int (nI (tcF (F 0) R i + 1))), (0, .ref (ad 0))]) hx hb dX9_treeRows_29 hl (k := 2) rfl (nI_add _ _) (by decide) rfl (fun ls hl => ?_)
          refine lv_goto (tgt := 4) hx hb dX9_treeRows_32 (by decide) ?_
          exact ih4 (i + 1) _ (by omega) (by omega) (by rw [tcF_t c_23]; exact lv_sub hl [2, 1, 0] rfl)
  exact L4 (10 - 0 + 1) 0 _ (by omega) (Nat.lt_succ_self _) (lv_sub hl [2, 1, 0] rfl)

set_option maxHeartbeats 1000000 in
set_option maxRecDepth 100000 in
/-- forget -/
theorem x_forget (l : Launch) (dC : Nat → ClassId) (dI : Nat → Nat → Nat) (aC : Nat → ClassId) (ad cap : Nat → Nat) (hI : xI ad) (v : Nat → Int32) (R : Nat → List Int32) (F : Nat → Nat → Int32) (G : Nat → Nat → Int64)  : Met l yX9_forget wsX9_forget ({ frames := 0, cells := 0, slots := 0, locals := 0 } : Room) (va_Pc [.ref (ad 0)] (XB dC dI aC ad cap (v, R, F, G))) (va_Qv (fun (u : MS) => (fgv v, R, F, G) = u) (XB dC dI aC ad cap) (xA ad)) 0 0 (xA ad) := by
  refine Met.ofW (cc := cX9_forget) (maxL := 1) (ret := none) (by decide) rfl ?_
  intro p e s m args below meth c s₁ B hml hv
  obtain ⟨rfl, hK, Z, S, hZ, hP⟩ := hv
  have hx := B.exec
  have hb := B.bytes
  have hret := B.returns
  have hts := atoms_spec (ws := wsX9_forget) B.pre
  have hown : s.vm.findClass RX9 = some m.cls := findClass_of_methodNamed B.named
  have hlocks := B.notSynchronized
  dsimp only at hZ hP
  have lk0 := hts (.fieldLink RX9 242 "LeafTrees" "manyKnown" "Z") (by decide +kernel)
  have lk1 := hts (.fieldLink RX9 245 "LeafTrees" "dualKnown" "Z") (by decide +kernel)
  have lk2 := hts (.fieldLink RX9 201 "LeafTrees" "firstOpenKnown" "Z") (by decide +kernel)
  have hin9 : ∀ w ∈ u_ws RX9 TX9 14, w ∈ wsX9_forget := by decide +kernel
  have hS : va_S (xA ad) s.heap s.heap [] := va_S.rf
  have hl := lv_entry [.ref (ad 0)] (n := 1) (Nat.le_of_ble_eq_true rfl)
  rw [lg_entry_eq]
  generalize (lg_sl [.ref (ad 0)] ++ List.replicate (1 - (lg_sl [.ref (ad 0)]).length) Slot.unset).toArray = ls at hl ⊢
  have hl : lv_has ls 1 [(0, .ref (ad 0))] := hl
  refine nx_Q (R := ({ frames := 0, cells := 0, slots := 0, locals := 0 } : Room)) (fun Q hQ => ?_)
  refine lv_aload_n hx hb dX9_forget_0 rfl (lv_at hl 0 rfl) ?_
  refine lv_iconst (v := nI 0) hx hb dX9_forget_1 (by decide) ?_
  refine va_put (D := (dC, dI)) (ci := 9) (v := .int (nI 0)) (ty := .boolean) (C := RX9) (T := TX9) (N := 14) hx hb hts hin9 tyX9 tyX9_ok nmX9 hown hK hP (wsX_D hI) hS 0 rfl rfl 9 (by decide) lk0 (fun _ h9 => h9) rfl (by decide +kernel) rfl rfl (Nat.le_of_ble_eq_true rfl) dX9_forget_2 (fun H locs hP _ hS => ?_)
  have hP : va_P (dC, dI) vwCl (wsX aC ad cap (va_up v 2 (nI 0)) Z S F G) H := hP
  refine lv_aload_n hx hb dX9_forget_5 rfl (lv_at hl 0 rfl) ?_
  refine lv_iconst (v := nI 0) hx hb dX9_forget_6 (by decide) ?_
  refine va_put (D := (dC, dI)) (ci := 9) (v := .int (nI 0)) (ty := .boolean) (C := RX9) (T := TX9) (N := 14) hx hb hts hin9 tyX9 tyX9_ok nmX9 hown hK hP (wsX_D hI) hS 0 rfl rfl 11 (by decide) lk1 (fun _ h9 => h9) rfl (by decide +kernel) rfl rfl (Nat.le_of_ble_eq_true rfl) dX9_forget_7 (fun H locs hP _ hS => ?_)
  have hP : va_P (dC, dI) vwCl (wsX aC ad cap (va_up (va_up v 2 (nI 0)) 3 (nI 0)) Z S F G) H := hP
  refine lv_aload_n hx hb dX9_forget_10 rfl (lv_at hl 0 rfl) ?_
  refine lv_iconst (v := nI 0) hx hb dX9_forget_11 (by decide) ?_
  refine va_put (D := (dC, dI)) (ci := 9) (v := .int (nI 0)) (ty := .boolean) (C := RX9) (T := TX9) (N := 14) hx hb hts hin9 tyX9 tyX9_ok nmX9 hown hK hP (wsX_D hI) hS 0 rfl rfl 13 (by decide) lk2 (fun _ h9 => h9) rfl (by decide +kernel) rfl rfl (Nat.le_of_ble_eq_true rfl) dX9_forget_12 (fun H locs hP _ hS => ?_)
  have hP : va_P (dC, dI) vwCl (wsX aC ad cap (va_up (va_up (va_up v 2 (nI 0)) 3 (nI 0)) 5 (nI 0)) Z S F G) H := hP
  subst hQ
  exact W.vret hx hb hret (fun tq htq hWq => ⟨⟨((va_up (va_up (va_up v 2 (nI 0)) 3 (nI 0)) 5 (nI 0)), R, F, G), rfl, rfl, va_K.moved hWq.alike hK, _, _, hZ, by rw [htq]; exact hP⟩, hS.F htq⟩) hS.2.2 dX9_forget_15
