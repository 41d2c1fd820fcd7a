set_option maxHeartbeats 1000000 in
set_option maxRecDepth 100000 in
/-- graft -/
theorem x_graft (l : Launch) (dC : Nat → ClassId) (dI : Nat → Nat → Nat) (aC : Nat → ClassId) (ad cap : Nat → Nat) (hI : xI ad) (v : Nat → Int32) (R : Nat → List Int32) (F : Nat → Nat → Int32) (G : Nat → Nat → Int64) (A : Nat) (hE : vE A (F 0)) (hA : v 0 = nI A) (hV : ∀ r, r < 10 → vR A (R r)) (a i b to : Int32) : Met l yX9_graft wsX9_graft ({ frames := 4, cells := 0, slots := 0, locals := 96 } : Room) (va_Pc [.ref (ad 0), .int a, .int i, .int b, .int to] (XB dC dI aC ad cap (v, R, F, G))) (va_Qi (fun (x : Int32) (u : MS) => ∃ R1, (v, R1, F, G) = u ∧ (∀ k, k < 26 → R1 k = uGraft (F 0) R a i b to k) ∧ x = pGraft (F 0) R a i b to) (XB dC dI aC ad cap) (xA ad)) 0 0 (xA ad) := by
  refine Met.ofW (cc := cX9_graft) (maxL := 6) (ret := (some .int)) (by decide) rfl ?_
  intro p e s m args below meth c s₁ B hml hv
  obtain ⟨rfl, hK, Z, S, hZ, hP⟩ := hv
  have hx := B.exec
  have hb := B.bytes
  have hret := B.returns
  have hts := atoms_spec (ws := wsX9_graft) B.pre
  have hown : s.vm.findClass RX9 = some m.cls := findClass_of_methodNamed B.named
  have hlocks := B.notSynchronized
  dsimp only at hZ hP
  have lk0 := hts (.fieldLink RX9 18 "LeafTrees" "rows" "[LLeafTrees$Row;") (by decide +kernel)
  have lk1 := hts (.fieldLink RX9 93 "LeafTrees$Row" "length" "I") (by decide +kernel)
  have lk2 := hts (.fieldLink RX9 23 "LeafTrees" "work" "LLeafTrees$Row;") (by decide +kernel)
  have hin3 : ∀ w ∈ u_ws RX3 TX3 2, w ∈ wsX9_graft := by decide +kernel
  have hin9 : ∀ w ∈ u_ws RX9 TX9 14, w ∈ wsX9_graft := by decide +kernel
  have hS : va_S (xA ad) s.heap s.heap [] := va_S.rf
  have hl := lv_entry [.ref (ad 0), .int a, .int i, .int b, .int to] (n := 6) (Nat.le_of_ble_eq_true rfl)
  rw [lg_entry_eq]
  generalize (lg_sl [.ref (ad 0), .int a, .int i, .int b, .int to] ++ List.replicate (6 - (lg_sl [.ref (ad 0), .int a, .int i, .int b, .int to]).length) Slot.unset).toArray = ls at hl ⊢
  have hl : lv_has ls 6 [(0, .ref (ad 0)), (1, .int a), (2, .int i), (3, .int b), (4, .int to)] := hl
  refine nx_Q (R := ({ frames := 4, cells := 0, slots := 0, locals := 96 } : Room)) (fun Q hQ => ?_)
  refine lv_aload_n hx hb dX9_graft_0 rfl (lv_at hl 0 rfl) ?_
  refine lv_iload_n hx hb dX9_graft_1 rfl (lv_at hl 1 rfl) ?_
  refine xp_i (b := ad 0) (As := [.int a]) (rest := []) ⟨hx, hb, hml, hown, hts⟩ (x_isTreeRow l dC dI aC ad cap v R F G A hE hA a hV) (cwV 1 hts gX9_graft_X9_isTreeRow rfl rfl rfl (by decide +kernel) ⟨Nat.le_of_ble_eq_true rfl, Nat.le_of_ble_eq_true rfl⟩) (xPre (q0 := 0) (ci := 9) rfl rfl hK hZ hP) rfl hl.1 rfl (Nat.le_of_ble_eq_true rfl) dX9_graft_2 ⟨Nat.le_of_ble_eq_true rfl, Nat.le_of_ble_eq_true rfl⟩ (fun x_2 h_2 => ?_)
  refine nx_ti (y := bI (tr (F 0) R a)) h_2 ?_
  refine nx_bz (tgt := 24) hx hb dX9_graft_5 (by decide) (fun c_5 => ?_) (fun c_5 => ?_)
  · skip
    refine lv_bipush (v := (-2)) hx hb dX9_graft_24 (by decide) ?_
    subst hQ
    exact W.iret (v := (-2)) hx hb hret (fun tq htq hWq => ⟨⟨_, (v, R, F, G), rfl, ⟨R, rfl, fun k _ => by rw [uGraft, if_neg (fun h => c_5 h.1.1.1)], by rw [pGraft, if_neg (fun h => c_5 h.1.1.1)]⟩, va_K.moved hWq.alike hK, _, _, hZ, by rw [htq]; exact hP⟩, hS.F htq⟩) hS.2.2 dX9_graft_26
  · skip
    refine lv_aload_n hx hb dX9_graft_8 rfl (lv_at hl 0 rfl) ?_
    refine lv_iload_n hx hb dX9_graft_9 rfl (lv_at hl 3 rfl) ?_
    refine xp_i (b := ad 0) (As := [.int b]) (rest := []) ⟨hx, hb, hml, hown, hts⟩ (x_isTreeRow l dC dI aC ad cap v R F G A hE hA b hV) (cwV 1 hts gX9_graft_X9_isTreeRow rfl rfl rfl (by decide +kernel) ⟨Nat.le_of_ble_eq_true rfl, Nat.le_of_ble_eq_true rfl⟩) (xPre (q0 := 0) (ci := 9) rfl rfl hK hZ hP) rfl hl.1 rfl (Nat.le_of_ble_eq_true rfl) dX9_graft_10 ⟨Nat.le_of_ble_eq_true rfl, Nat.le_of_ble_eq_true rfl⟩ (fun x_10 h_10 => ?_)
    refine nx_ti (y := bI (tr (F 0) R b)) h_10 ?_
    refine nx_bz (tgt := 24) hx hb dX9_graft_13 (by decide) (fun c_13 => ?_) (fun c_13 => ?_)
    · skip
      refine lv_bipush (v := (-2)) hx hb dX9_graft_24 (by decide) ?_
      subst hQ
      exact W.iret (v := (-2)) hx hb hret (fun tq htq hWq => ⟨⟨_, (v, R, F, G), rfl, ⟨R, rfl, fun k _ => by rw [uGraft, if_neg (fun h => c_13 h.1.1.2)], by rw [pGraft, if_neg (fun h => c_13 h.1.1.2)]⟩, va_K.moved hWq.alike hK, _, _, hZ, by rw [htq]; exact hP⟩, hS.F htq⟩) hS.2.2 dX9_graft_26
    · skip
      refine lv_iload hx hb dX9_graft_16 (lv_at hl 4 rfl) ?_
      refine ms_i (As := [.int to]) (rest := []) ⟨hx, hb, hml, hown, hts⟩ (x_isRow l to) (va_cwS 1 hts gX9_graft_X9_isRow rfl rfl rfl (by decide +kernel) ⟨Nat.le_of_ble_eq_true rfl, Nat.le_of_ble_eq_true rfl⟩) rfl hl.1 rfl (Nat.le_of_ble_eq_true rfl) dX9_graft_18 ⟨Nat.le_of_ble_eq_true rfl, Nat.le_of_ble_eq_true rfl⟩ (fun x_18 h_18 => ?_)
      subst h_18
      refine nx_bn (tgt := 27) hx hb dX9_graft_21 (by decide) (fun c_21 => ?_) (fun c_21 => ?_)
      · skip
        obtain ⟨q, hq, rfl⟩ := rIn_of c_5.1 (by decide)
        obtain ⟨r, hr, rfl⟩ := rIn_of c_13.1 (by decide)
        obtain ⟨w, hw, rfl⟩ := rIn_of c_21 (by decide)
        have hcq := nI_clamp (n := q) (by omega)
        have hcr := nI_clamp (n := r) (by omega)
        have hcw := nI_clamp (n := w) (by omega)
        have hlq := (hZ q (by omega)).1
        have hlr := (hZ r (by omega)).1
        have hvq := lvs_le (R q)
        have q30 : q ≠ 30 := by omega
        have r30 : r ≠ 30 := by omega
        refine lv_aload_n hx hb dX9_graft_27 rfl (lv_at hl 0 rfl) ?_
        refine va_get (D := (dC, dI)) (ci := 9) (C := RX9) (T := TX9) (N := 14) hx hb hts hin9 hown hK hP 0 rfl rfl 1 (by decide) lk0 (fun _ h9 => h9) rfl dX9_graft_28 ?_
        refine lv_iload_n hx hb dX9_graft_31 rfl (lv_at hl 1 rfl) ?_
        refine nx_aald (C := "LeafTrees$Row") hx hb hK hP 2 3 rfl rfl (i := q) (by omega) (by decide) (show xRows ad q = some (ad (58 + 2 * q)) from if_pos (by omega)) dX9_graft_32 ?_
        refine lv_iload_n hx hb dX9_graft_33 rfl (lv_at hl 2 rfl) ?_
        by_cases hiL : rIn i (lvs (R q))
        · skip
          obtain ⟨j, hj, rfl⟩ := rIn_of hiL (by omega)
          have hcj := nI_clamp (n := j) (by omega)
          obtain ⟨p0, hp1, hp2, hp3⟩ := leaf_ex (g := gD (R q)) (n := (R q).length) hj
          have hok : grOK (F 0) R (nI q) (nI j) (nI r) (nI w) := ⟨⟨⟨c_5, c_13⟩, c_21⟩, by rw [hcq]; exact hiL⟩
          refine xp_i (b := ad (58 + 2 * q)) (As := [.int (nI j)]) (rest := []) ⟨hx, hb, hml, hown, hts⟩ (x_placeOfLeaf l dC dI aC ad cap v R F G q (by omega) (nI j)) (cwV 1 hts gX9_graft_X3_placeOfLeaf rfl rfl rfl (by decide +kernel) ⟨Nat.le_of_ble_eq_true rfl, Nat.le_of_ble_eq_true rfl⟩) (xPre (q0 := (58 + 2 * q)) (ci := 3) rfl (xw_ro q (by omega)) hK hZ hP) rfl hl.1 rfl (Nat.le_of_ble_eq_true rfl) dX9_graft_34 ⟨Nat.le_of_ble_eq_true rfl, Nat.le_of_ble_eq_true rfl⟩ (fun x_34 h_34 => ?_)
          have hx_34 := h_34.1 j p0 rfl hp1 hp2 hp3 (by omega)
          subst hx_34
          refine lv_istore (lv' := [(5, .int (nI p0)), (0, .ref (ad 0)), (1, .int (nI q)), (2, .int (nI j)), (3, .int (nI r)), (4, .int (nI w))]) hx hb dX9_graft_37 hl (by decide) rfl (fun ls hl => ?_)
          refine lv_iload hx hb dX9_graft_39 (lv_at hl 0 rfl) ?_
          refine lv_iconst (v := (-1)) hx hb dX9_graft_41 (by decide) ?_
          refine lv_icmp_ne (tgt := 48) hx hb dX9_graft_42 (by decide) (fun c_42 => ?_) (fun c_42 => ?_)
          · skip
            refine lv_aload_n hx hb dX9_graft_48 rfl (lv_at hl 1 rfl) ?_
            refine va_get (D := (dC, dI)) (ci := 9) (C := RX9) (T := TX9) (N := 14) hx hb hts hin9 hown hK hP 0 rfl rfl 1 (by decide) lk0 (fun _ h9 => h9) rfl dX9_graft_49 ?_
            refine lv_iload_n hx hb dX9_graft_52 rfl (lv_at hl 2 rfl) ?_
            refine nx_aald (C := "LeafTrees$Row") hx hb hK hP 2 3 rfl rfl (i := q) (by omega) (by decide) (show xRows ad q = some (ad (58 + 2 * q)) from if_pos (by omega)) dX9_graft_53 ?_
            refine va_get (D := (dC, dI)) (ci := 3) (C := RX3) (T := TX3) (N := 2) hx hb hts hin3 hown hK hP (58 + 2 * q) (xw_ro q (by omega)) rfl 1 (by decide) lk1 (fun _ h9 => h9) rfl dX9_graft_54 ?_
            refine nx_ti (y := nI (R q).length) ((hZ q (by omega)).2.1) ?_
            refine lv_iconst (v := nI 1) hx hb dX9_graft_57 (by decide) ?_
            refine lv_isub hx hb dX9_graft_58 ?_
            refine nx_ti (y := nI ((R q).length - 1)) (pk_sub (by omega)) ?_
            refine lv_aload_n hx hb dX9_graft_59 rfl (lv_at hl 1 rfl) ?_
            refine va_get (D := (dC, dI)) (ci := 9) (C := RX9) (T := TX9) (N := 14) hx hb hts hin9 hown hK hP 0 rfl rfl 1 (by decide) lk0 (fun _ h9 => h9) rfl dX9_graft_60 ?_
            refine lv_iload_n hx hb dX9_graft_63 rfl (lv_at hl 4 rfl) ?_
            refine nx_aald (C := "LeafTrees$Row") hx hb hK hP 2 3 rfl rfl (i := r) (by omega) (by decide) (show xRows ad r = some (ad (58 + 2 * r)) from if_pos (by omega)) dX9_graft_64 ?_
            refine va_get (D := (dC, dI)) (ci := 3) (C := RX3) (T := TX3) (N := 2) hx hb hts hin3 hown hK hP (58 + 2 * r) (xw_ro r (by omega)) rfl 1 (by decide) lk1 (fun _ h9 => h9) rfl dX9_graft_65 ?_
            refine nx_ti (y := nI (R r).length) ((hZ r (by omega)).2.1) ?_
            refine lv_iadd hx hb dX9_graft_68 ?_
            refine nx_ti (y := nI (((R q).length - 1) + (R r).length)) (nI_add _ _) ?_
            refine lv_bipush (v := nI 60) hx hb dX9_graft_69 (by decide) ?_
            refine nx_icmp_le (a := (((R q).length - 1) + (R r).length)) (b := 60) (tgt := 77) hx hb dX9_graft_71 (by decide) (by omega) (by omega) (fun c_71 => ?_) (fun c_71 => ?_)
            · skip
              refine lv_aload_n hx hb dX9_graft_77 rfl (lv_at hl 1 rfl) ?_
              refine va_get (D := (dC, dI)) (ci := 9) (C := RX9) (T := TX9) (N := 14) hx hb hts hin9 hown hK hP 0 rfl rfl 2 (by decide) lk2 (fun _ h9 => h9) rfl dX9_graft_78 ?_
              refine xc_v (b := ad 118) (As := []) (rest := []) ⟨hx, hb, hml, hown, hts⟩ (x_clear l dC dI aC ad cap hI v R F G 30 (by decide)) (cwV 0 hts gX9_graft_X3_clear rfl rfl rfl (by decide +kernel) ⟨Nat.le_of_ble_eq_true rfl, Nat.le_of_ble_eq_true rfl⟩) (xPre (q0 := 118) (ci := 3) rfl rfl hK hZ hP) hS rfl hl.1 rfl (Nat.le_of_ble_eq_true rfl) dX9_graft_81 ⟨Nat.le_of_ble_eq_true rfl, Nat.le_of_ble_eq_true rfl⟩ (fun v1 R1 F1 G1 Z S H locs h_81 hZ hP hS => ?_)
              cases h_81
              refine lv_aload_n hx hb dX9_graft_84 rfl (lv_at hl 1 rfl) ?_
              refine va_get (D := (dC, dI)) (ci := 9) (C := RX9) (T := TX9) (N := 14) hx hb hts hin9 hown hK hP 0 rfl rfl 2 (by decide) lk2 (fun _ h9 => h9) rfl dX9_graft_85 ?_
              refine lv_aload_n hx hb dX9_graft_88 rfl (lv_at hl 1 rfl) ?_
              refine va_get (D := (dC, dI)) (ci := 9) (C := RX9) (T := TX9) (N := 14) hx hb hts hin9 hown hK hP 0 rfl rfl 1 (by decide) lk0 (fun _ h9 => h9) rfl dX9_graft_89 ?_
              refine lv_iload_n hx hb dX9_graft_92 rfl (lv_at hl 2 rfl) ?_
              refine nx_aald (C := "LeafTrees$Row") hx hb hK hP 2 3 rfl rfl (i := q) (by omega) (by decide) (show xRows ad q = some (ad (58 + 2 * q)) from if_pos (by omega)) dX9_graft_93 ?_
              refine lv_iconst (v := nI 0) hx hb dX9_graft_94 (by decide) ?_
              refine lv_iload hx hb dX9_graft_95 (lv_at hl 0 rfl) ?_
              refine xc_i (b := ad 118) (As := [.ref (ad (58 + 2 * q)), .int (nI 0), .int (nI p0)]) (rest := []) ⟨hx, hb, hml, hown, hts⟩ (x_addPart l dC dI aC ad cap hI v (va_up R 30 []) F G 30 (by decide) q (by omega) 0 p0 (by omega) (by rw [upn q30]; omega)) (cwV 3 hts gX9_graft_X3_addPart rfl rfl rfl (by decide +kernel) ⟨Nat.le_of_ble_eq_true rfl, Nat.le_of_ble_eq_true rfl⟩) (xPre (q0 := 118) (ci := 3) rfl rfl hK hZ hP) hS rfl hl.1 rfl (Nat.le_of_ble_eq_true rfl) dX9_graft_97 ⟨Nat.le_of_ble_eq_true rfl, Nat.le_of_ble_eq_true rfl⟩ (fun x_97 v2 R2 F2 G2 Z S H locs h_97 hZ hP hS => ?_)
              obtain ⟨M_3, hu_97, hx_97, hM_97⟩ := adds_u (R0 := R) (M := []) (to := 30) (fr := q) q30 h_97
              subst hx_97
              cases hu_97
              refine lv_pop hx hb dX9_graft_100 rfl ?_
              refine lv_aload_n hx hb dX9_graft_101 rfl (lv_at hl 1 rfl) ?_
              refine va_get (D := (dC, dI)) (ci := 9) (C := RX9) (T := TX9) (N := 14) hx hb hts hin9 hown hK hP 0 rfl rfl 2 (by decide) lk2 (fun _ h9 => h9) rfl dX9_graft_102 ?_
              refine lv_aload_n hx hb dX9_graft_105 rfl (lv_at hl 1 rfl) ?_
              refine va_get (D := (dC, dI)) (ci := 9) (C := RX9) (T := TX9) (N := 14) hx hb hts hin9 hown hK hP 0 rfl rfl 1 (by decide) lk0 (fun _ h9 => h9) rfl dX9_graft_106 ?_
              refine lv_iload_n hx hb dX9_graft_109 rfl (lv_at hl 4 rfl) ?_
              refine nx_aald (C := "LeafTrees$Row") hx hb hK hP 2 3 rfl rfl (i := r) (by omega) (by decide) (show xRows ad r = some (ad (58 + 2 * r)) from if_pos (by omega)) dX9_graft_110 ?_
              refine lv_iconst (v := nI 0) hx hb dX9_graft_111 (by decide) ?_
              refine lv_aload_n hx hb dX9_graft_112 rfl (lv_at hl 1 rfl) ?_
              refine va_get (D := (dC, dI)) (ci := 9) (C := RX9) (T := TX9) (N := 14) hx hb hts hin9 hown hK hP 0 rfl rfl 1 (by decide) lk0 (fun _ h9 => h9) rfl dX9_graft_113 ?_
              refine lv_iload_n hx hb dX9_graft_116 rfl (lv_at hl 4 rfl) ?_
              refine nx_aald (C := "LeafTrees$Row") hx hb hK hP 2 3 rfl rfl (i := r) (by omega) (by decide) (show xRows ad r = some (ad (58 + 2 * r)) from if_pos (by omega)) dX9_graft_117 ?_
              refine va_get (D := (dC, dI)) (ci := 3) (C := RX3) (T := TX3) (N := 2) hx hb hts hin3 hown hK hP (58 + 2 * r) (xw_ro r (by omega)) rfl 1 (by decide) lk1 (fun _ h9 => h9) rfl dX9_graft_118 ?_
              refine nx_ti (y := nI ((va_up R 30 M_3) r).length) ((hZ r (by omega)).2.1) ?_
              refine nx_ti (y := nI (R r).length) (by rw [upn r30]) ?_
              have m1 : M_3 = slc (R q) 0 p0 := hM_97 (by show 0 + _ ≤ 60; omega)
              have l1 : M_3.length = p0 := by rw [m1, slc_len (by omega)]; omega
              refine xc_i (b := ad 118) (As := [.ref (ad (58 + 2 * r)), .int (nI 0), .int (nI (R r).length)]) (rest := []) ⟨hx, hb, hml, hown, hts⟩ (x_addPart l dC dI aC ad cap hI v (va_up R 30 M_3) F G 30 (by decide) r (by omega) 0 (R r).length (by omega) (by rw [upn r30]; omega)) (cwV 3 hts gX9_graft_X3_addPart rfl rfl rfl (by decide +kernel) ⟨Nat.le_of_ble_eq_true rfl, Nat.le_of_ble_eq_true rfl⟩) (xPre (q0 := 118) (ci := 3) rfl rfl hK hZ hP) hS rfl hl.1 rfl (Nat.le_of_ble_eq_true rfl) dX9_graft_121 ⟨Nat.le_of_ble_eq_true rfl, Nat.le_of_ble_eq_true rfl⟩ (fun x_121 v4 R4 F4 G4 Z S H locs h_121 hZ hP hS => ?_)
              obtain ⟨M_5, hu_121, hx_121, hM_121⟩ := adds_u (R0 := R) (M := M_3) (to := 30) (fr := r) r30 h_121
              subst hx_121
              cases hu_121
              refine lv_pop hx hb dX9_graft_124 rfl ?_
              refine lv_aload_n hx hb dX9_graft_125 rfl (lv_at hl 1 rfl) ?_
              refine va_get (D := (dC, dI)) (ci := 9) (C := RX9) (T := TX9) (N := 14) hx hb hts hin9 hown hK hP 0 rfl rfl 2 (by decide) lk2 (fun _ h9 => h9) rfl dX9_graft_126 ?_
              refine lv_aload_n hx hb dX9_graft_129 rfl (lv_at hl 1 rfl) ?_
              refine va_get (D := (dC, dI)) (ci := 9) (C := RX9) (T := TX9) (N := 14) hx hb hts hin9 hown hK hP 0 rfl rfl 1 (by decide) lk0 (fun _ h9 => h9) rfl dX9_graft_130 ?_
              refine lv_iload_n hx hb dX9_graft_133 rfl (lv_at hl 2 rfl) ?_
              refine nx_aald (C := "LeafTrees$Row") hx hb hK hP 2 3 rfl rfl (i := q) (by omega) (by decide) (show xRows ad q = some (ad (58 + 2 * q)) from if_pos (by omega)) dX9_graft_134 ?_
              refine lv_iload hx hb dX9_graft_135 (lv_at hl 0 rfl) ?_
              refine lv_iconst (v := nI 1) hx hb dX9_graft_137 (by decide) ?_
              refine lv_iadd hx hb dX9_graft_138 ?_
              refine nx_ti (y := nI (p0 + 1)) (nI_add _ _) ?_
              refine lv_aload_n hx hb dX9_graft_139 rfl (lv_at hl 1 rfl) ?_
              refine va_get (D := (dC, dI)) (ci := 9) (C := RX9) (T := TX9) (N := 14) hx hb hts hin9 hown hK hP 0 rfl rfl 1 (by decide) lk0 (fun _ h9 => h9) rfl dX9_graft_140 ?_
              refine lv_iload_n hx hb dX9_graft_143 rfl (lv_at hl 2 rfl) ?_
              refine nx_aald (C := "LeafTrees$Row") hx hb hK hP 2 3 rfl rfl (i := q) (by omega) (by decide) (show xRows ad q = some (ad (58 + 2 * q)) from if_pos (by omega)) dX9_graft_144 ?_
              refine va_get (D := (dC, dI)) (ci := 3) (C := RX3) (T := TX3) (N := 2) hx hb hts hin3 hown hK hP (58 + 2 * q) (xw_ro q (by omega)) rfl 1 (by decide) lk1 (fun _ h9 => h9) rfl dX9_graft_145 ?_
              refine nx_ti (y := nI ((va_up R 30 M_5) q).length) ((hZ q (by omega)).2.1) ?_
              refine nx_ti (y := nI (R q).length) (by rw [upn q30]) ?_
              have m2 := hM_121 (by omega)
              rw [slc_all] at m2
              have l2 : M_5.length = p0 + (R r).length := by rw [m2, List.length_append, l1]
              refine xc_i (b := ad 118) (As := [.ref (ad (58 + 2 * q)), .int (nI (p0 + 1)), .int (nI (R q).length)]) (rest := []) ⟨hx, hb, hml, hown, hts⟩ (x_addPart l dC dI aC ad cap hI v (va_up R 30 M_5) F G 30 (by decide) q (by omega) (p0 + 1) (R q).length (by omega) (by rw [upn q30]; omega)) (cwV 3 hts gX9_graft_X3_addPart rfl rfl rfl (by decide +kernel) ⟨Nat.le_of_ble_eq_true rfl, Nat.le_of_ble_eq_true rfl⟩) (xPre (q0 := 118) (ci := 3) rfl rfl hK hZ hP) hS rfl hl.1 rfl (Nat.le_of_ble_eq_true rfl) dX9_graft_148 ⟨Nat.le_of_ble_eq_true rfl, Nat.le_of_ble_eq_true rfl⟩ (fun x_148 v6 R6 F6 G6 Z S H locs h_148 hZ hP hS => ?_)
              obtain ⟨M_7, hu_148, hx_148, hM_148⟩ := adds_u (R0 := R) (M := M_5) (to := 30) (fr := q) q30 h_148
              subst hx_148
              cases hu_148
              refine lv_pop hx hb dX9_graft_151 rfl ?_
              refine lv_aload_n hx hb dX9_graft_152 rfl (lv_at hl 1 rfl) ?_
              refine lv_aload_n hx hb dX9_graft_153 rfl (lv_at hl 1 rfl) ?_
              refine va_get (D := (dC, dI)) (ci := 9) (C := RX9) (T := TX9) (N := 14) hx hb hts hin9 hown hK hP 0 rfl rfl 2 (by decide) lk2 (fun _ h9 => h9) rfl dX9_graft_154 ?_
              refine lv_iload hx hb dX9_graft_157 (lv_at hl 5 rfl) ?_
              have m3 : M_7 = grL (R q) (R r) p0 := by rw [hM_148 (by omega), m2, m1]; rfl
              have hlp : (lpL (R q) j).getD 0 = p0 := by rw [lpL_found hp1 hp2 hp3]; rfl
              refine xc_i (b := ad 0) (As := [.ref (ad 118), .int (nI w)]) (rest := []) ⟨hx, hb, hml, hown, hts⟩ (x_bring l dC dI aC ad cap hI v (va_up R 30 M_7) F G 30 (by decide) w hw (by omega)) (cwV 2 hts gX9_graft_X9_bring rfl rfl rfl (by decide +kernel) ⟨Nat.le_of_ble_eq_true rfl, Nat.le_of_ble_eq_true rfl⟩) (xPre (q0 := 0) (ci := 9) rfl rfl hK hZ hP) hS rfl hl.1 rfl (Nat.le_of_ble_eq_true rfl) dX9_graft_159 ⟨Nat.le_of_ble_eq_true rfl, Nat.le_of_ble_eq_true rfl⟩ (fun x_159 v8 R8 F8 G8 Z S H locs h_159 hZ hP hS => ?_)
              obtain ⟨hx_159, hu_159⟩ := h_159
              subst hx_159
              cases hu_159
              subst hQ
              exact W.iret (v := nI ((va_up R 30 M_7) 30).length) hx hb hret (fun tq htq hWq => ⟨⟨_, (v, va_up (va_up R 30 M_7) w ((va_up R 30 M_7) 30), F, G), rfl, ⟨_, rfl, fun k hk => by rw [uGraft, if_pos hok, hcq, hcj, hcr, hcw, uGraft2, if_pos (by omega), hlp, va_up_self, m3]; exact xRow_k (by decide) hk, by rw [pGraft, if_pos hok, hcq, hcj, hcr, pGraft2, if_pos (by omega), va_up_self, m3, grL_len hp1]⟩, va_K.moved hWq.alike hK, _, _, hZ, by rw [htq]; exact hP⟩, hS.F htq⟩) hS.2.2 dX9_graft_162
            · skip
              refine lv_bipush (v := (-4)) hx hb dX9_graft_74 (by decide) ?_
              subst hQ
              exact W.iret (v := (-4)) hx hb hret (fun tq htq hWq => ⟨⟨_, (v, R, F, G), rfl, ⟨R, rfl, fun k _ => by rw [uGraft, if_pos hok, hcq, hcj, hcr, hcw, uGraft2, if_neg (by omega)], by rw [pGraft, if_pos hok, hcq, hcj, hcr, pGraft2, if_neg (by omega)]⟩, va_K.moved hWq.alike hK, _, _, hZ, by rw [htq]; exact hP⟩, hS.F htq⟩) hS.2.2 dX9_graft_76
          · skip
            exact absurd c_42 (fun h => nI_pos (n := p0) (by omega) (by rw [h]; decide))
        · skip
          refine xp_i (b := ad (58 + 2 * q)) (As := [.int i]) (rest := []) ⟨hx, hb, hml, hown, hts⟩ (x_placeOfLeaf l dC dI aC ad cap v R F G q (by omega) i) (cwV 1 hts gX9_graft_X3_placeOfLeaf rfl rfl rfl (by decide +kernel) ⟨Nat.le_of_ble_eq_true rfl, Nat.le_of_ble_eq_true rfl⟩) (xPre (q0 := (58 + 2 * q)) (ci := 3) rfl (xw_ro q (by omega)) hK hZ hP) rfl hl.1 rfl (Nat.le_of_ble_eq_true rfl) dX9_graft_34 ⟨Nat.le_of_ble_eq_true rfl, Nat.le_of_ble_eq_true rfl⟩ (fun x_34 h_34 => ?_)
          have hx_34 := h_34.2 hiL
          subst hx_34
          refine lv_istore (lv' := [(5, .int (-1)), (0, .ref (ad 0)), (1, .int (nI q)), (2, .int i), (3, .int (nI r)), (4, .int (nI w))]) hx hb dX9_graft_37 hl (by decide) rfl (fun ls hl => ?_)
          refine lv_iload hx hb dX9_graft_39 (lv_at hl 0 rfl) ?_
          refine lv_iconst (v := (-1)) hx hb dX9_graft_41 (by decide) ?_
          refine lv_icmp_ne (tgt := 48) hx hb dX9_graft_42 (by decide) (fun c_42 => ?_) (fun c_42 => ?_)
          · skip
            exact absurd rfl c_42
          · skip
            refine lv_bipush (v := (-2)) hx hb dX9_graft_45 (by decide) ?_
            subst hQ
            exact W.iret (v := (-2)) hx hb hret (fun tq htq hWq => ⟨⟨_, (v, R, F, G), rfl, ⟨R, rfl, fun k _ => by rw [uGraft, if_neg (fun h => hiL (by have h2 := h.2; rw [hcq] at h2; exact h2))], by rw [pGraft, if_neg (fun h => hiL (by have h2 := h.2; rw [hcq] at h2; exact h2))]⟩, va_K.moved hWq.alike hK, _, _, hZ, by rw [htq]; exact hP⟩, hS.F htq⟩) hS.2.2 dX9_graft_47
      · skip
        refine lv_bipush (v := (-2)) hx hb dX9_graft_24 (by decide) ?_
        subst hQ
        exact W.iret (v := (-2)) hx hb hret (fun tq htq hWq => ⟨⟨_, (v, R, F, G), rfl, ⟨R, rfl, fun k _ => by rw [uGraft, if_neg (fun h => c_21 h.1.2)], by rw [pGraft, if_neg (fun h => c_21 h.1.2)]⟩, va_K.moved hWq.alike hK, _, _, hZ, by rw [htq]; exact hP⟩, hS.F htq⟩) hS.2.2 dX9_graft_26

set_option maxHeartbeats 1000000 in
set_option maxRecDepth 100000 in
/-- overlaps -/
theorem x_overlaps (l : Launch) (dC : Nat → ClassId) (dI : Nat → Nat → Nat) (aC : Nat → ClassId) (ad cap : Nat → Nat) (hI : xI ad) (v : Nat → Int32) (R : Nat → List Int32) (F : Nat → Nat → Int32) (G : Nat → Nat → Int64) (A : Nat) (hE : vE A (F 0)) (hA : v 0 = nI A) (n : Nat) (hn : v 1 = nI n) (hn8 : n ≤ 8) (hTl : ∀ j, j < n → isT (F 0) (R (10 + j))) (hVl : ∀ j, j < n → vR A (R (10 + j))) (hl13 : ∀ j, j < n → (R (10 + j)).length ≤ 13)  : Met l yX9_overlaps wsX9_overlaps ({ frames := 4, cells := 0, slots := 0, locals := 111 } : Room) (va_Pc [.ref (ad 0)] (XB dC dI aC ad cap (v, R, F, G))) (va_Qi (fun (x : Int32) (u : MS) => ∃ b6 b7 b8 b9 M1, (va_up (va_up (va_up (va_up v 6 b6) 7 b7) 8 b8) 9 b9, va_up R 27 M1, F, G) = u ∧ x = nI (ovL (F 0) R n).length) (XB dC dI aC ad cap) (xA ad)) 0 0 (xA ad) := by
  refine Met.ofW (cc := cX9_overlaps) (maxL := 3) (ret := (some .int)) (by decide) rfl ?_
  intro p e s m args below meth c s₁ B hml hv
  obtain ⟨rfl, hK, Z, S, hZ, hP⟩ := hv
  have hx := B.exec
  have hb := B.bytes
  have hret := B.returns
  have hts := atoms_spec (ws := wsX9_overlaps) B.pre
  have hown : s.vm.findClass RX9 = some m.cls := findClass_of_methodNamed B.named
  have hlocks := B.notSynchronized
  dsimp only at hZ hP
  have lk0 := hts (.fieldLink RX9 44 "LeafTrees" "peaks" "LLeafTrees$Peaks;") (by decide +kernel)
  have lk1 := hts (.fieldLink RX9 10 "LeafTrees" "world" "LLeafTrees$World;") (by decide +kernel)
  have hin9 : ∀ w ∈ u_ws RX9 TX9 14, w ∈ wsX9_overlaps := by decide +kernel
  have hS : va_S (xA ad) s.heap s.heap [] := va_S.rf
  have hl := lv_entry [.ref (ad 0)] (n := 3) (Nat.le_of_ble_eq_true rfl)
  rw [lg_entry_eq]
  generalize (lg_sl [.ref (ad 0)] ++ List.replicate (3 - (lg_sl [.ref (ad 0)]).length) Slot.unset).toArray = ls at hl ⊢
  have hl : lv_has ls 3 [(0, .ref (ad 0))] := hl
  refine nx_Q (R := ({ frames := 4, cells := 0, slots := 0, locals := 111 } : Room)) (fun Q hQ => ?_)
  refine lv_iconst (v := nI 0) hx hb dX9_overlaps_0 (by decide) ?_
  refine lv_istore_n (lv' := [(1, .int (nI 0)), (0, .ref (ad 0))]) hx hb dX9_overlaps_1 rfl hl (by decide) rfl (fun ls hl => ?_)
  refine lv_aload_n hx hb dX9_overlaps_2 rfl (lv_at hl 1 rfl) ?_
  refine va_get (D := (dC, dI)) (ci := 9) (C := RX9) (T := TX9) (N := 14) hx hb hts hin9 hown hK hP 0 rfl rfl 5 (by decide) lk0 (fun _ h9 => h9) rfl dX9_overlaps_3 ?_
  refine xc_v (b := ad 5) (As := []) (rest := []) ⟨hx, hb, hml, hown, hts⟩ (x_restart l dC dI aC ad cap hI v R F G ) (cwV 0 hts gX9_overlaps_X1_restart rfl rfl rfl (by decide +kernel) ⟨Nat.le_of_ble_eq_true rfl, Nat.le_of_ble_eq_true rfl⟩) (xPre (q0 := 5) (ci := 1) rfl rfl hK hZ hP) hS rfl hl.1 rfl (Nat.le_of_ble_eq_true rfl) dX9_overlaps_6 ⟨Nat.le_of_ble_eq_true rfl, Nat.le_of_ble_eq_true rfl⟩ (fun v1 R1 F1 G1 Z S H locs h_6 hZ hP hS => ?_)
  cases h_6
  refine lv_iconst (v := nI 0) hx hb dX9_overlaps_9 (by decide) ?_
  refine lv_istore_n (lv' := [(2, .int (nI 0)), (1, .int (nI 0)), (0, .ref (ad 0))]) hx hb dX9_overlaps_10 rfl hl (by decide) rfl (fun ls hl => ?_)
  have L11 : ∀ (fuel11 : Nat) (i : Nat) (s0 : Nat) (M : List Int32) (a6 : Int32) (a7 : Int32) (a8 : Int32) (Z : Nat → Int32) (S : Nat → Nat → Int32) (H : Heap) (locs : List Loc) (ls : Array Slot), (i ≤ 832) → (s0 ≤ 832) → ((ovS (F 0) R n s0).length = i) → xOK Z S (va_up R 27 M) → va_P (dC, dI) vwCl (wsX aC ad cap (va_up (va_up (va_up (va_up v 6 a6) 7 a7) 8 a8) 9 (sy s0)) Z S F G) H → va_S (xA ad) s.heap H locs → 833 - s0 < fuel11 → lv_has ls 3 [(0, .ref (ad 0)), (1, .int (nI i)), (2, .int (nI i))] → W p l e ({ frames := 4, cells := 0, slots := 0, locals := 111 } : Room) s m ([.ref (ad 0)] : List Value).toArray below meth c H locs 0 0 Q (F0 m 11 ls []) := by
    intro fuel11
    induction fuel11 with
    | zero => intro i s0 M a6 a7 a8 Z S H locs ls hi hs0 hlen hZ hP hS hf11 hl; exact absurd hf11 (Nat.not_lt_zero _)
    | succ fuel11 ih11 =>
      intro i s0 M a6 a7 a8 Z S H locs ls hi hs0 hlen hZ hP hS hf11 hl
      refine lv_iload_n hx hb dX9_overlaps_11 rfl (lv_at hl 2 rfl) ?_
      refine lv_sipush (v := nI 832) hx hb dX9_overlaps_12 (by decide) ?_
      refine nx_icmp_ge (a := i) (b := 832) (tgt := 41) hx hb dX9_overlaps_15 (by decide) (by omega) (by omega) (fun c_15 => ?_) (fun c_15 => ?_)
      · skip
        refine lv_iload_n hx hb dX9_overlaps_41 rfl (lv_at hl 1 rfl) ?_
        subst hQ
        exact W.iret (v := nI i) hx hb hret (fun tq htq hWq => ⟨⟨_, ((va_up (va_up (va_up (va_up v 6 a6) 7 a7) 8 a8) 9 (sy s0)), va_up R 27 M, F, G), rfl, ⟨_, _, _, _, _, rfl, by rw [ov_full hlen hs0 (by omega)]⟩, va_K.moved hWq.alike hK, _, _, hZ, by rw [htq]; exact hP⟩, hS.F htq⟩) hS.2.2 dX9_overlaps_42
      · skip
        refine lv_aload_n hx hb dX9_overlaps_18 rfl (lv_at hl 0 rfl) ?_
        refine va_get (D := (dC, dI)) (ci := 9) (C := RX9) (T := TX9) (N := 14) hx hb hts hin9 hown hK hP 0 rfl rfl 5 (by decide) lk0 (fun _ h9 => h9) rfl dX9_overlaps_19 ?_
        refine lv_aload_n hx hb dX9_overlaps_22 rfl (lv_at hl 0 rfl) ?_
        refine va_get (D := (dC, dI)) (ci := 9) (C := RX9) (T := TX9) (N := 14) hx hb hts hin9 hown hK hP 0 rfl rfl 0 (by decide) lk1 (fun _ h9 => h9) rfl dX9_overlaps_23 ?_
        refine xc_i (b := ad 5) (As := [.ref (ad 1)]) (rest := []) ⟨hx, hb, hml, hown, hts⟩ (x_next l dC dI aC ad cap hI (va_up (va_up (va_up (va_up v 6 a6) 7 a7) 8 a8) 9 (sy s0)) (va_up R 27 M) F G A hE hA n hn hn8 (fun j hj => by rw [upn (show 10 + j ≠ 27 by omega)]; exact hTl j hj) (fun j hj => by rw [upn (show 10 + j ≠ 27 by omega)]; exact hVl j hj) (fun j hj => by rw [upn (show 10 + j ≠ 27 by omega)]; exact hl13 j hj) s0 hs0 rfl) (cwV 1 hts gX9_overlaps_X1_next rfl rfl rfl (by decide +kernel) ⟨Nat.le_of_ble_eq_true rfl, Nat.le_of_ble_eq_true rfl⟩) (xPre (q0 := 5) (ci := 1) rfl rfl hK hZ hP) hS rfl hl.1 rfl (Nat.le_of_ble_eq_true rfl) dX9_overlaps_26 ⟨Nat.le_of_ble_eq_true rfl, Nat.le_of_ble_eq_true rfl⟩ (fun x_26 v2 R2 F2 G2 Z S H locs h_26 hZ hP hS => ?_)
        refine lv_if_eq (tgt := 41) hx hb dX9_overlaps_29 (by decide) (fun c_29 => ?_) (fun c_29 => ?_)
        · skip
          obtain ⟨hno, -, b6, b7, b8, b9, Mq, hu_26⟩ := h_26.resolve_left (fun ⟨_, _, _, _, _, _, hx9, _⟩ => absurd (hx9.symm.trans c_29) (by decide))
          rw [vn_vn, up_up] at hu_26
          have hno2 : ∀ j, s0 ≤ j → j < 832 → ovA (F 0) R n j = none := fun j h1 h2 => (ovA_congr (fun k hk => upn (show 10 + k ≠ 27 by omega))).symm.trans (hno j h1 h2)
          have hP : va_P (dC, dI) vwCl (wsX aC ad cap (va_up (va_up (va_up (va_up v 6 b6) 7 b7) 8 b8) 9 b9) Z S F G) H := by cases hu_26; exact hP
          have hZ : xOK Z S (va_up R 27 Mq) := by cases hu_26; exact hZ
          refine lv_iload_n hx hb dX9_overlaps_41 rfl (lv_at hl 1 rfl) ?_
          subst hQ
          exact W.iret (v := nI i) hx hb hret (fun tq htq hWq => ⟨⟨_, ((va_up (va_up (va_up (va_up v 6 b6) 7 b7) 8 b8) 9 b9), va_up R 27 Mq, F, G), rfl, ⟨_, _, _, _, _, rfl, by rw [ov_n hlen hs0 hno2]⟩, va_K.moved hWq.alike hK, _, _, hZ, by rw [htq]; exact hP⟩, hS.F htq⟩) hS.2.2 dX9_overlaps_42
        · skip
          obtain ⟨sp, Mq, hsp1, hsp2, hno, hy, -, hu_26⟩ := h_26.resolve_right (fun ⟨_, hx9, _⟩ => c_29 (hx9.trans (by decide)))
          rw [vn_vn, up_up] at hu_26
          have hy2 : ovA (F 0) R n sp = some Mq := (ovA_congr (fun k hk => upn (show 10 + k ≠ 27 by omega))).symm.trans hy
          obtain ⟨hat, hlen2⟩ := ov_y hlen hsp1 hsp2 (fun j h1 h2 => (ovA_congr (fun k hk => upn (show 10 + k ≠ 27 by omega))).symm.trans (hno j h1 h2)) hy2
          have hP : va_P (dC, dI) vwCl (wsX aC ad cap (va_up (va_up (va_up (va_up v 6 (nI (sp / 104))) 7 (nI (sp / 13 % 8))) 8 (nI (sp % 13))) 9 (nI sp)) Z S F G) H := by cases hu_26; exact hP
          have hZ : xOK Z S (va_up R 27 Mq) := by cases hu_26; exact hZ
          refine lv_iinc (v := nI (i + 1)) (lv' := [(1, .int (nI (i + 1))), (0, .ref (ad 0)), (2, .int (nI i))]) hx hb dX9_overlaps_32 hl (k := 1) rfl (nI_add _ _) (by decide) rfl (fun ls hl => ?_)
          refine lv_iinc (v := nI (i + 1)) (lv' := [(2, .int (nI (i + 1))), (1, .int (nI (i + 1))), (0, .ref (ad 0))]) hx hb dX9_overlaps_35 hl (k := 2) rfl (nI_add _ _) (by decide) rfl (fun ls hl => ?_)
          refine lv_goto (tgt := 11) hx hb dX9_overlaps_38 (by decide) ?_
          exact ih11 (i + 1) (sp + 1) Mq (nI (sp / 104)) (nI (sp / 13 % 8)) (nI (sp % 13)) _ _ _ _ _ (by omega) (by omega) hlen2 hZ (by rw [sy_s]; exact hP) hS (by omega) (lv_sub hl [2, 1, 0] rfl)
  exact L11 (833 - 0 + 1) 0 0 (R 27) (v 6) (v 7) (v 8) _ _ _ _ _ (by omega) (by omega) rfl (by rw [up_eta]; exact hZ) (by rw [up_eta, up_eta, up_eta]; exact hP) hS (Nat.lt_succ_self _) (lv_sub hl [2, 1, 0] rfl)

set_option maxHeartbeats 1000000 in
set_option maxRecDepth 100000 in
/-- overlap -/
theorem x_overlap (l : Launch) (dC : Nat → ClassId) (dI : Nat → Nat → Nat) (aC : Nat → ClassId) (ad cap : Nat → Nat) (hI : xI ad) (v : Nat → Int32) (R : Nat → List Int32) (F : Nat → Nat → Int32) (G : Nat → Nat → Int64) (A : Nat) (hE : vE A (F 0)) (hA : v 0 = nI A) (n : Nat) (hn : v 1 = nI n) (hn8 : n ≤ 8) (hTl : ∀ j, j < n → isT (F 0) (R (10 + j))) (hVl : ∀ j, j < n → vR A (R (10 + j))) (hl13 : ∀ j, j < n → (R (10 + j)).length ≤ 13) (i to : Int32) : Met l yX9_overlap wsX9_overlap ({ frames := 4, cells := 0, slots := 0, locals := 111 } : Room) (va_Pc [.ref (ad 0), .int i, .int to] (XB dC dI aC ad cap (v, R, F, G))) (va_Qi (fun (x : Int32) (u : MS) => ∃ b6 b7 b8 b9 R1, (va_up (va_up (va_up (va_up v 6 b6) 7 b7) 8 b8) 9 b9, R1, F, G) = u ∧ (∀ k, k < 26 → R1 k = uOverlap (F 0) R n i to k) ∧ x = pOverlap (F 0) R n i to) (XB dC dI aC ad cap) (xA ad)) 0 0 (xA ad) := by
  refine Met.ofW (cc := cX9_overlap) (maxL := 4) (ret := (some .int)) (by decide) rfl ?_
  intro p e s m args below meth c s₁ B hml hv
  obtain ⟨rfl, hK, Z, S, hZ, hP⟩ := hv
  have hx := B.exec
  have hb := B.bytes
  have hret := B.returns
  have hts := atoms_spec (ws := wsX9_overlap) B.pre
  have hown : s.vm.findClass RX9 = some m.cls := findClass_of_methodNamed B.named
  have hlocks := B.notSynchronized
  dsimp only at hZ hP
  have lk0 := hts (.fieldLink RX9 44 "LeafTrees" "peaks" "LLeafTrees$Peaks;") (by decide +kernel)
  have lk1 := hts (.fieldLink RX9 10 "LeafTrees" "world" "LLeafTrees$World;") (by decide +kernel)
  have lk2 := hts (.fieldLink RX9 189 "LeafTrees$Peaks" "top" "LLeafTrees$Row;") (by decide +kernel)
  have lk3 := hts (.fieldLink RX9 192 "LeafTrees$Peaks" "outer" "I") (by decide +kernel)
  have lk4 := hts (.fieldLink RX9 195 "LeafTrees$Peaks" "inner" "I") (by decide +kernel)
  have lk5 := hts (.fieldLink RX9 198 "LeafTrees$Peaks" "place" "I") (by decide +kernel)
  have hin1 : ∀ w ∈ u_ws RX1 TX1 5, w ∈ wsX9_overlap := by decide +kernel
  have hin9 : ∀ w ∈ u_ws RX9 TX9 14, w ∈ wsX9_overlap := by decide +kernel
  have hS : va_S (xA ad) s.heap s.heap [] := va_S.rf
  have hl := lv_entry [.ref (ad 0), .int i, .int to] (n := 4) (Nat.le_of_ble_eq_true rfl)
  rw [lg_entry_eq]
  generalize (lg_sl [.ref (ad 0), .int i, .int to] ++ List.replicate (4 - (lg_sl [.ref (ad 0), .int i, .int to]).length) Slot.unset).toArray = ls at hl ⊢
  have hl : lv_has ls 4 [(0, .ref (ad 0)), (1, .int i), (2, .int to)] := hl
  refine nx_Q (R := ({ frames := 4, cells := 0, slots := 0, locals := 111 } : Room)) (fun Q hQ => ?_)
  refine lv_iload_n hx hb dX9_overlap_0 rfl (lv_at hl 1 rfl) ?_
  refine lv_if_lt (tgt := 11) hx hb dX9_overlap_1 (by decide) (fun c_1 => ?_) (fun c_1 => ?_)
  · skip
    refine lv_bipush (v := (-2)) hx hb dX9_overlap_11 (by decide) ?_
    subst hQ
    exact W.iret (v := (-2)) hx hb hret (fun tq htq hWq => ⟨⟨_, (v, R, F, G), rfl, ⟨v 6, v 7, v 8, v 9, R, by rw [vn_eta], fun k _ => by rw [uOverlap, if_neg (fun h => h.1 c_1)], by rw [pOverlap, if_neg (fun h => h.1 c_1)]⟩, va_K.moved hWq.alike hK, _, _, hZ, by rw [htq]; exact hP⟩, hS.F htq⟩) hS.2.2 dX9_overlap_13
  · skip
    refine lv_iload_n hx hb dX9_overlap_4 rfl (lv_at hl 2 rfl) ?_
    refine ms_i (As := [.int to]) (rest := []) ⟨hx, hb, hml, hown, hts⟩ (x_isRow l to) (va_cwS 1 hts gX9_overlap_X9_isRow rfl rfl rfl (by decide +kernel) ⟨Nat.le_of_ble_eq_true rfl, Nat.le_of_ble_eq_true rfl⟩) rfl hl.1 rfl (Nat.le_of_ble_eq_true rfl) dX9_overlap_5 ⟨Nat.le_of_ble_eq_true rfl, Nat.le_of_ble_eq_true rfl⟩ (fun x_5 h_5 => ?_)
    subst h_5
    refine nx_bn (tgt := 14) hx hb dX9_overlap_8 (by decide) (fun c_8 => ?_) (fun c_8 => ?_)
    · skip
      obtain ⟨w, hw, rfl⟩ := rIn_of c_8 (by decide)
      have hcw := nI_clamp (n := w) (by omega)
      have hok : ¬ i < 0 ∧ rIn (nI w) 10 := ⟨c_1, c_8⟩
      refine lv_aload_n hx hb dX9_overlap_14 rfl (lv_at hl 0 rfl) ?_
      refine va_get (D := (dC, dI)) (ci := 9) (C := RX9) (T := TX9) (N := 14) hx hb hts hin9 hown hK hP 0 rfl rfl 5 (by decide) lk0 (fun _ h9 => h9) rfl dX9_overlap_15 ?_
      refine xc_v (b := ad 5) (As := []) (rest := []) ⟨hx, hb, hml, hown, hts⟩ (x_restart l dC dI aC ad cap hI v R F G ) (cwV 0 hts gX9_overlap_X1_restart rfl rfl rfl (by decide +kernel) ⟨Nat.le_of_ble_eq_true rfl, Nat.le_of_ble_eq_true rfl⟩) (xPre (q0 := 5) (ci := 1) rfl rfl hK hZ hP) hS rfl hl.1 rfl (Nat.le_of_ble_eq_true rfl) dX9_overlap_18 ⟨Nat.le_of_ble_eq_true rfl, Nat.le_of_ble_eq_true rfl⟩ (fun v1 R1 F1 G1 Z S H locs h_18 hZ hP hS => ?_)
      cases h_18
      refine lv_iconst (v := nI 0) hx hb dX9_overlap_21 (by decide) ?_
      refine lv_istore_n (lv' := [(3, .int (nI 0)), (0, .ref (ad 0)), (1, .int i), (2, .int (nI w))]) hx hb dX9_overlap_22 rfl hl (by decide) rfl (fun ls hl => ?_)
      have L23 : ∀ (fuel23 : Nat) (j : Nat) (s0 : Nat) (M : List Int32) (a6 : Int32) (a7 : Int32) (a8 : Int32) (Z : Nat → Int32) (S : Nat → Nat → Int32) (H : Heap) (locs : List Loc) (ls : Array Slot), (j ≤ 832) → (s0 ≤ 832) → ((ovS (F 0) R n s0).length = j) → (∀ q, q < j → ¬ nI q = i) → xOK Z S (va_up R 27 M) → va_P (dC, dI) vwCl (wsX aC ad cap (va_up (va_up (va_up (va_up v 6 a6) 7 a7) 8 a8) 9 (sy s0)) Z S F G) H → va_S (xA ad) s.heap H locs → 833 - s0 < fuel23 → lv_has ls 4 [(0, .ref (ad 0)), (1, .int i), (2, .int (nI w)), (3, .int (nI j))] → W p l e ({ frames := 4, cells := 0, slots := 0, locals := 111 } : Room) s m ([.ref (ad 0), .int i, .int (nI w)] : List Value).toArray below meth c H locs 0 0 Q (F0 m 23 ls []) := by
        intro fuel23
        induction fuel23 with
        | zero => intro j s0 M a6 a7 a8 Z S H locs ls hi hs0 hlen hk hZ hP hS hf23 hl; exact absurd hf23 (Nat.not_lt_zero _)
        | succ fuel23 ih23 =>
          intro j s0 M a6 a7 a8 Z S H locs ls hi hs0 hlen hk hZ hP hS hf23 hl
          refine lv_iload_n hx hb dX9_overlap_23 rfl (lv_at hl 3 rfl) ?_
          refine lv_sipush (v := nI 832) hx hb dX9_overlap_24 (by decide) ?_
          refine nx_icmp_ge (a := j) (b := 832) (tgt := 99) hx hb dX9_overlap_27 (by decide) (by omega) (by omega) (fun c_27 => ?_) (fun c_27 => ?_)
          · skip
            refine lv_iconst (v := (-1)) hx hb dX9_overlap_99 (by decide) ?_
            subst hQ
            exact W.iret (v := (-1)) hx hb hret (fun tq htq hWq => ⟨⟨_, ((va_up (va_up (va_up (va_up v 6 a6) 7 a7) 8 a8) 9 (sy s0)), va_up R 27 M, F, G), rfl, (fun hz => ⟨_, _, _, _, _, rfl, fun k hk => by rw [(pOv_n hok hz).2]; exact upn (by omega), (pOv_n hok hz).1.symm⟩) (ov_past c_1 (ov_full hlen hs0 (by omega)) hk), va_K.moved hWq.alike hK, _, _, hZ, by rw [htq]; exact hP⟩, hS.F htq⟩) hS.2.2 dX9_overlap_100
          · skip
            refine lv_aload_n hx hb dX9_overlap_30 rfl (lv_at hl 0 rfl) ?_
            refine va_get (D := (dC, dI)) (ci := 9) (C := RX9) (T := TX9) (N := 14) hx hb hts hin9 hown hK hP 0 rfl rfl 5 (by decide) lk0 (fun _ h9 => h9) rfl dX9_overlap_31 ?_
            refine lv_aload_n hx hb dX9_overlap_34 rfl (lv_at hl 0 rfl) ?_
            refine va_get (D := (dC, dI)) (ci := 9) (C := RX9) (T := TX9) (N := 14) hx hb hts hin9 hown hK hP 0 rfl rfl 0 (by decide) lk1 (fun _ h9 => h9) rfl dX9_overlap_35 ?_
            refine xc_i (b := ad 5) (As := [.ref (ad 1)]) (rest := []) ⟨hx, hb, hml, hown, hts⟩ (x_next l dC dI aC ad cap hI (va_up (va_up (va_up (va_up v 6 a6) 7 a7) 8 a8) 9 (sy s0)) (va_up R 27 M) F G A hE hA n hn hn8 (fun j hj => by rw [upn (show 10 + j ≠ 27 by omega)]; exact hTl j hj) (fun j hj => by rw [upn (show 10 + j ≠ 27 by omega)]; exact hVl j hj) (fun j hj => by rw [upn (show 10 + j ≠ 27 by omega)]; exact hl13 j hj) s0 hs0 rfl) (cwV 1 hts gX9_overlap_X1_next rfl rfl rfl (by decide +kernel) ⟨Nat.le_of_ble_eq_true rfl, Nat.le_of_ble_eq_true rfl⟩) (xPre (q0 := 5) (ci := 1) rfl rfl hK hZ hP) hS rfl hl.1 rfl (Nat.le_of_ble_eq_true rfl) dX9_overlap_38 ⟨Nat.le_of_ble_eq_true rfl, Nat.le_of_ble_eq_true rfl⟩ (fun x_38 v2 R2 F2 G2 Z S H locs h_38 hZ hP hS => ?_)
            refine lv_if_eq (tgt := 99) hx hb dX9_overlap_41 (by decide) (fun c_41 => ?_) (fun c_41 => ?_)
            · skip
              obtain ⟨hno, -, b6, b7, b8, b9, Mq, hu_38⟩ := h_38.resolve_left (fun ⟨_, _, _, _, _, _, hx9, _⟩ => absurd (hx9.symm.trans c_41) (by decide))
              rw [vn_vn, up_up] at hu_38
              have hno2 : ∀ j, s0 ≤ j → j < 832 → ovA (F 0) R n j = none := fun j h1 h2 => (ovA_congr (fun k hk => upn (show 10 + k ≠ 27 by omega))).symm.trans (hno j h1 h2)
              have hP : va_P (dC, dI) vwCl (wsX aC ad cap (va_up (va_up (va_up (va_up v 6 b6) 7 b7) 8 b8) 9 b9) Z S F G) H := by cases hu_38; exact hP
              have hZ : xOK Z S (va_up R 27 Mq) := by cases hu_38; exact hZ
              refine lv_iconst (v := (-1)) hx hb dX9_overlap_99 (by decide) ?_
              subst hQ
              exact W.iret (v := (-1)) hx hb hret (fun tq htq hWq => ⟨⟨_, ((va_up (va_up (va_up (va_up v 6 b6) 7 b7) 8 b8) 9 b9), va_up R 27 Mq, F, G), rfl, (fun hz => ⟨_, _, _, _, _, rfl, fun k hk => by rw [(pOv_n hok hz).2]; exact upn (by omega), (pOv_n hok hz).1.symm⟩) (ov_past c_1 (ov_n hlen hs0 hno2) hk), va_K.moved hWq.alike hK, _, _, hZ, by rw [htq]; exact hP⟩, hS.F htq⟩) hS.2.2 dX9_overlap_100
            · skip
              obtain ⟨sp, Mq, hsp1, hsp2, hno, hy, -, hu_38⟩ := h_38.resolve_right (fun ⟨_, hx9, _⟩ => c_41 (hx9.trans (by decide)))
              rw [vn_vn, up_up] at hu_38
              have hy2 : ovA (F 0) R n sp = some Mq := (ovA_congr (fun k hk => upn (show 10 + k ≠ 27 by omega))).symm.trans hy
              obtain ⟨hat, hlen2⟩ := ov_y hlen hsp1 hsp2 (fun j h1 h2 => (ovA_congr (fun k hk => upn (show 10 + k ≠ 27 by omega))).symm.trans (hno j h1 h2)) hy2
              have hP : va_P (dC, dI) vwCl (wsX aC ad cap (va_up (va_up (va_up (va_up v 6 (nI (sp / 104))) 7 (nI (sp / 13 % 8))) 8 (nI (sp % 13))) 9 (nI sp)) Z S F G) H := by cases hu_38; exact hP
              have hZ : xOK Z S (va_up R 27 Mq) := by cases hu_38; exact hZ
              refine lv_iload_n hx hb dX9_overlap_44 rfl (lv_at hl 3 rfl) ?_
              refine lv_iload_n hx hb dX9_overlap_45 rfl (lv_at hl 1 rfl) ?_
              refine lv_icmp_ne (tgt := 93) hx hb dX9_overlap_46 (by decide) (fun c_46 => ?_) (fun c_46 => ?_)
              · skip
                refine lv_iinc (v := nI (j + 1)) (lv' := [(3, .int (nI (j + 1))), (0, .ref (ad 0)), (1, .int i), (2, .int (nI w))]) hx hb dX9_overlap_93 hl (k := 3) rfl (nI_add _ _) (by decide) rfl (fun ls hl => ?_)
                refine lv_goto (tgt := 23) hx hb dX9_overlap_96 (by decide) ?_
                exact ih23 (j + 1) (sp + 1) Mq (nI (sp / 104)) (nI (sp / 13 % 8)) (nI (sp % 13)) _ _ _ _ _ (by omega) (by omega) hlen2 (fun q hq => by rcases Nat.lt_or_ge q j with z | z <;> first | exact hk q z | (rw [show q = j by omega]; exact c_46)) hZ (by rw [sy_s]; exact hP) hS (by omega) (lv_sub hl [1, 2, 3, 0] rfl)
              · skip
                have hcj := nI_clamp (n := j) (by omega)
                subst c_46
                have hat2 : (ovL (F 0) R n)[(nI j).toNatClampNeg]? = some (sp, Mq) := by rw [hcj]; exact hat
                refine lv_aload_n hx hb dX9_overlap_49 rfl (lv_at hl 0 rfl) ?_
                refine lv_aload_n hx hb dX9_overlap_50 rfl (lv_at hl 0 rfl) ?_
                refine va_get (D := (dC, dI)) (ci := 9) (C := RX9) (T := TX9) (N := 14) hx hb hts hin9 hown hK hP 0 rfl rfl 5 (by decide) lk0 (fun _ h9 => h9) rfl dX9_overlap_51 ?_
                refine va_get (D := (dC, dI)) (ci := 1) (C := RX1) (T := TX1) (N := 5) hx hb hts hin1 hown hK hP 5 rfl rfl 0 (by decide) lk2 (fun _ h9 => h9) rfl dX9_overlap_54 ?_
                refine lv_iload_n hx hb dX9_overlap_57 rfl (lv_at hl 2 rfl) ?_
                refine xc_i (b := ad 0) (As := [.ref (ad 112), .int (nI w)]) (rest := []) ⟨hx, hb, hml, hown, hts⟩ (x_bring l dC dI aC ad cap hI (va_up (va_up (va_up (va_up v 6 (nI (sp / 104))) 7 (nI (sp / 13 % 8))) 8 (nI (sp % 13))) 9 (nI sp)) (va_up R 27 Mq) F G 27 (by decide) w hw (by omega)) (cwV 2 hts gX9_overlap_X9_bring rfl rfl rfl (by decide +kernel) ⟨Nat.le_of_ble_eq_true rfl, Nat.le_of_ble_eq_true rfl⟩) (xPre (q0 := 0) (ci := 9) rfl rfl hK hZ hP) hS rfl hl.1 rfl (Nat.le_of_ble_eq_true rfl) dX9_overlap_58 ⟨Nat.le_of_ble_eq_true rfl, Nat.le_of_ble_eq_true rfl⟩ (fun x_58 v3 R3 F3 G3 Z S H locs h_58 hZ hP hS => ?_)
                obtain ⟨hx_58, hu_58⟩ := h_58
                subst hx_58
                cases hu_58
                refine lv_pop hx hb dX9_overlap_61 rfl ?_
                refine lv_sipush (v := nI 1000) hx hb dX9_overlap_62 (by decide) ?_
                refine lv_aload_n hx hb dX9_overlap_65 rfl (lv_at hl 0 rfl) ?_
                refine va_get (D := (dC, dI)) (ci := 9) (C := RX9) (T := TX9) (N := 14) hx hb hts hin9 hown hK hP 0 rfl rfl 5 (by decide) lk0 (fun _ h9 => h9) rfl dX9_overlap_66 ?_
                refine va_get (D := (dC, dI)) (ci := 1) (C := RX1) (T := TX1) (N := 5) hx hb hts hin1 hown hK hP 5 rfl rfl 1 (by decide) lk3 (fun _ h9 => h9) rfl dX9_overlap_69 ?_
                refine lv_imul hx hb dX9_overlap_72 ?_
                refine nx_ti (y := nI (1000 * (sp / 104))) (pk_mul _ _) ?_
                refine lv_bipush (v := nI 100) hx hb dX9_overlap_73 (by decide) ?_
                refine lv_aload_n hx hb dX9_overlap_75 rfl (lv_at hl 0 rfl) ?_
                refine va_get (D := (dC, dI)) (ci := 9) (C := RX9) (T := TX9) (N := 14) hx hb hts hin9 hown hK hP 0 rfl rfl 5 (by decide) lk0 (fun _ h9 => h9) rfl dX9_overlap_76 ?_
                refine va_get (D := (dC, dI)) (ci := 1) (C := RX1) (T := TX1) (N := 5) hx hb hts hin1 hown hK hP 5 rfl rfl 2 (by decide) lk4 (fun _ h9 => h9) rfl dX9_overlap_79 ?_
                refine lv_imul hx hb dX9_overlap_82 ?_
                refine nx_ti (y := nI (100 * (sp / 13 % 8))) (pk_mul _ _) ?_
                refine lv_iadd hx hb dX9_overlap_83 ?_
                refine nx_ti (y := nI ((1000 * (sp / 104)) + (100 * (sp / 13 % 8)))) (nI_add _ _) ?_
                refine lv_aload_n hx hb dX9_overlap_84 rfl (lv_at hl 0 rfl) ?_
                refine va_get (D := (dC, dI)) (ci := 9) (C := RX9) (T := TX9) (N := 14) hx hb hts hin9 hown hK hP 0 rfl rfl 5 (by decide) lk0 (fun _ h9 => h9) rfl dX9_overlap_85 ?_
                refine va_get (D := (dC, dI)) (ci := 1) (C := RX1) (T := TX1) (N := 5) hx hb hts hin1 hown hK hP 5 rfl rfl 3 (by decide) lk5 (fun _ h9 => h9) rfl dX9_overlap_88 ?_
                refine lv_iadd hx hb dX9_overlap_91 ?_
                refine nx_ti (y := nI (((1000 * (sp / 104)) + (100 * (sp / 13 % 8))) + (sp % 13))) (nI_add _ _) ?_
                subst hQ
                exact W.iret (v := nI (((1000 * (sp / 104)) + (100 * (sp / 13 % 8))) + (sp % 13))) hx hb hret (fun tq htq hWq => ⟨⟨_, ((va_up (va_up (va_up (va_up v 6 (nI (sp / 104))) 7 (nI (sp / 13 % 8))) 8 (nI (sp % 13))) 9 (nI sp)), va_up (va_up R 27 Mq) w ((va_up R 27 Mq) 27), F, G), rfl, ⟨_, _, _, _, _, rfl, fun k hk => by rw [(pOv_y hok hat2).2, hcw, va_up_self]; exact xRow_k (by decide) hk, by rw [(pOv_y hok hat2).1]⟩, va_K.moved hWq.alike hK, _, _, hZ, by rw [htq]; exact hP⟩, hS.F htq⟩) hS.2.2 dX9_overlap_92
      exact L23 (833 - 0 + 1) 0 0 (R 27) (v 6) (v 7) (v 8) _ _ _ _ _ (by omega) (by omega) rfl (fun q hq => absurd hq (Nat.not_lt_zero q)) (by rw [up_eta]; exact hZ) (by rw [up_eta, up_eta, up_eta]; exact hP) hS (Nat.lt_succ_self _) (lv_sub hl [1, 2, 3, 0] rfl)
    · skip
      refine lv_bipush (v := (-2)) hx hb dX9_overlap_11 (by decide) ?_
      subst hQ
      exact W.iret (v := (-2)) hx hb hret (fun tq htq hWq => ⟨⟨_, (v, R, F, G), rfl, ⟨v 6, v 7, v 8, v 9, R, by rw [vn_eta], fun k _ => by rw [uOverlap, if_neg (fun h => c_8 h.2)], by rw [pOverlap, if_neg (fun h => c_8 h.2)]⟩, va_K.moved hWq.alike hK, _, _, hZ, by rw [htq]; exact hP⟩, hS.F htq⟩) hS.2.2 dX9_overlap_13

set_option maxHeartbeats 1000000 in
set_option maxRecDepth 100000 in
/-- closes -/
theorem x_closes (l : Launch) (dC : Nat → ClassId) (dI : Nat → Nat → Nat) (aC : Nat → ClassId) (ad cap : Nat → Nat) (hI : xI ad) (v : Nat → Int32) (R : Nat → List Int32) (F : Nat → Nat → Int32) (G : Nat → Nat → Int64) (A : Nat) (hE : vE A (F 0)) (hA : v 0 = nI A) (n : Nat) (hn : v 1 = nI n) (hn8 : n ≤ 8) (hrl : rlT (F 0) R n (tnX v)) (hl0 : ∀ j, j < n → ¬ gD (R (10 + j)) 0 = -1) (hV2 : ∀ j, j < n → vR A (R (18 + j))) (hTl : ∀ j, j < n → isT (F 0) (R (10 + j))) (hVl : ∀ j, j < n → vR A (R (10 + j))) (hl13 : ∀ j, j < n → (R (10 + j)).length ≤ 13) (hc : ¬ v 5 = 0 → v 4 = pCloses (F 0) R n (tnX v)) : Met l yX9_closes wsX9_closes ({ frames := 7, cells := 0, slots := 0, locals := 187 } : Room) (va_Pc [.ref (ad 0)] (XB dC dI aC ad cap (v, R, F, G))) (va_Qi (fun (x : Int32) (u : MS) => ∃ a4 a5 b6 b7 b8 b9 R1 f2 f3, (va_up (va_up (va_up (va_up (va_up (va_up v 4 a4) 5 a5) 6 b6) 7 b7) 8 b8) 9 b9, R1, va_up (va_up F 2 f2) 3 f3, G) = u ∧ (∀ k, k < 26 → R1 k = R k) ∧ a4 = pCloses (F 0) R n (tnX v) ∧ x = pCloses (F 0) R n (tnX v)) (XB dC dI aC ad cap) (xA ad)) 0 0 (xA ad) := by
  refine Met.ofW (cc := cX9_closes) (maxL := 3) (ret := (some .int)) (by decide) rfl ?_
  intro p e s m args below meth c s₁ B hml hv
  obtain ⟨rfl, hK, Z, S, hZ, hP⟩ := hv
  have hx := B.exec
  have hb := B.bytes
  have hret := B.returns
  have hts := atoms_spec (ws := wsX9_closes) B.pre
  have hown : s.vm.findClass RX9 = some m.cls := findClass_of_methodNamed B.named
  have hlocks := B.notSynchronized
  dsimp only at hZ hP
  have lk0 := hts (.fieldLink RX9 201 "LeafTrees" "firstOpenKnown" "Z") (by decide +kernel)
  have lk1 := hts (.fieldLink RX9 69 "LeafTrees" "firstOpen" "I") (by decide +kernel)
  have lk2 := hts (.fieldLink RX9 44 "LeafTrees" "peaks" "LLeafTrees$Peaks;") (by decide +kernel)
  have lk3 := hts (.fieldLink RX9 10 "LeafTrees" "world" "LLeafTrees$World;") (by decide +kernel)
  have lk4 := hts (.fieldLink RX9 37 "LeafTrees" "rewriter" "LLeafTrees$Rewriter;") (by decide +kernel)
  have hin9 : ∀ w ∈ u_ws RX9 TX9 14, w ∈ wsX9_closes := by decide +kernel
  have hS : va_S (xA ad) s.heap s.heap [] := va_S.rf
  have hl := lv_entry [.ref (ad 0)] (n := 3) (Nat.le_of_ble_eq_true rfl)
  rw [lg_entry_eq]
  generalize (lg_sl [.ref (ad 0)] ++ List.replicate (3 - (lg_sl [.ref (ad 0)]).length) Slot.unset).toArray = ls at hl ⊢
  have hl : lv_has ls 3 [(0, .ref (ad 0))] := hl
  refine nx_Q (R := ({ frames := 7, cells := 0, slots := 0, locals := 187 } : Room)) (fun Q hQ => ?_)
  refine lv_aload_n hx hb dX9_closes_0 rfl (lv_at hl 0 rfl) ?_
  refine va_get (D := (dC, dI)) (ci := 9) (C := RX9) (T := TX9) (N := 14) hx hb hts hin9 hown hK hP 0 rfl rfl 13 (by decide) lk0 (fun _ h9 => h9) rfl dX9_closes_1 ?_
  refine lv_if_eq (tgt := 12) hx hb dX9_closes_4 (by decide) (fun c_4 => ?_) (fun c_4 => ?_)
  · skip
    refine lv_aload_n hx hb dX9_closes_12 rfl (lv_at hl 0 rfl) ?_
    refine lv_iconst (v := (-1)) hx hb dX9_closes_13 (by decide) ?_
    refine va_put (D := (dC, dI)) (ci := 9) (v := .int (-1)) (ty := .int) (C := RX9) (T := TX9) (N := 14) hx hb hts hin9 tyX9 tyX9_ok nmX9 hown hK hP (wsX_D hI) hS 0 rfl rfl 12 (by decide) lk1 (fun _ h9 => h9) rfl (by decide +kernel) rfl rfl (Nat.le_of_ble_eq_true rfl) dX9_closes_14 (fun H locs hP _ hS => ?_)
    have hP : va_P (dC, dI) vwCl (wsX aC ad cap (va_up v 4 (-1)) Z S F G) H := hP
    refine lv_aload_n hx hb dX9_closes_17 rfl (lv_at hl 0 rfl) ?_
    refine lv_iconst (v := nI 1) hx hb dX9_closes_18 (by decide) ?_
    refine va_put (D := (dC, dI)) (ci := 9) (v := .int (nI 1)) (ty := .boolean) (C := RX9) (T := TX9) (N := 14) hx hb hts hin9 tyX9 tyX9_ok nmX9 hown hK hP (wsX_D hI) hS 0 rfl rfl 13 (by decide) lk0 (fun _ h9 => h9) rfl (by decide +kernel) rfl rfl (Nat.le_of_ble_eq_true rfl) dX9_closes_19 (fun H locs hP _ hS => ?_)
    have hP : va_P (dC, dI) vwCl (wsX aC ad cap (va_up (va_up v 4 (-1)) 5 (nI 1)) Z S F G) H := hP
    refine lv_aload_n hx hb dX9_closes_22 rfl (lv_at hl 0 rfl) ?_
    refine va_get (D := (dC, dI)) (ci := 9) (C := RX9) (T := TX9) (N := 14) hx hb hts hin9 hown hK hP 0 rfl rfl 5 (by decide) lk2 (fun _ h9 => h9) rfl dX9_closes_23 ?_
    refine xc_v (b := ad 5) (As := []) (rest := []) ⟨hx, hb, hml, hown, hts⟩ (x_restart l dC dI aC ad cap hI (va_up (va_up v 4 (-1)) 5 (nI 1)) R F G ) (cwV 0 hts gX9_closes_X1_restart rfl rfl rfl (by decide +kernel) ⟨Nat.le_of_ble_eq_true rfl, Nat.le_of_ble_eq_true rfl⟩) (xPre (q0 := 5) (ci := 1) rfl rfl hK hZ hP) hS rfl hl.1 rfl (Nat.le_of_ble_eq_true rfl) dX9_closes_26 ⟨Nat.le_of_ble_eq_true rfl, Nat.le_of_ble_eq_true rfl⟩ (fun v1 R1 F1 G1 Z S H locs h_26 hZ hP hS => ?_)
    cases h_26
    refine lv_iconst (v := nI 0) hx hb dX9_closes_29 (by decide) ?_
    refine lv_istore_n (lv' := [(1, .int (nI 0)), (0, .ref (ad 0))]) hx hb dX9_closes_30 rfl hl (by decide) rfl (fun ls hl => ?_)
    have L31 : ∀ (fuel31 : Nat) (i : Nat) (s0 : Nat) (a4 : Int32) (a6 : Int32) (a7 : Int32) (a8 : Int32) (R1 : Nat → List Int32) (f2 : Nat → Int32) (f3 : Nat → Int32) (Z : Nat → Int32) (S : Nat → Nat → Int32) (H : Heap) (locs : List Loc) (ls : Array Slot), (i ≤ 832) → (s0 ≤ 832) → (∀ k, k < 26 → R1 k = R k) → ((a4 = -1 ∧ (ovS (F 0) R n s0).length = i ∧ clF (F 0) R n (tnX v) (ovL (F 0) R n) ((ovL (F 0) R n).length + 1 - i) i = pCloses (F 0) R n (tnX v)) ∨ (¬ a4 = -1 ∧ a4 = pCloses (F 0) R n (tnX v))) → xOK Z S R1 → va_P (dC, dI) vwCl (wsX aC ad cap (va_up (va_up (va_up (va_up (va_up (va_up v 4 a4) 5 (nI 1)) 6 a6) 7 a7) 8 a8) 9 (sy s0)) Z S (va_up (va_up F 2 f2) 3 f3) G) H → va_S (xA ad) s.heap H locs → 833 - s0 < fuel31 → lv_has ls 3 [(0, .ref (ad 0)), (1, .int (nI i))] → W p l e ({ frames := 7, cells := 0, slots := 0, locals := 187 } : Room) s m ([.ref (ad 0)] : List Value).toArray below meth c H locs 0 0 Q (F0 m 31 ls []) := by
      intro fuel31
      induction fuel31 with
      | zero => intro i s0 a4 a6 a7 a8 R1 f2 f3 Z S H locs ls hi hs0 hR1 hd hZ hP hS hf31 hl; exact absurd hf31 (Nat.not_lt_zero _)
      | succ fuel31 ih31 =>
        intro i s0 a4 a6 a7 a8 R1 f2 f3 Z S H locs ls hi hs0 hR1 hd hZ hP hS hf31 hl
        refine lv_iload_n hx hb dX9_closes_31 rfl (lv_at hl 1 rfl) ?_
        refine lv_sipush (v := nI 832) hx hb dX9_closes_32 (by decide) ?_
        refine nx_icmp_ge (a := i) (b := 832) (tgt := 106) hx hb dX9_closes_35 (by decide) (by omega) (by omega) (fun c_35 => ?_) (fun c_35 => ?_)
        · skip
          refine lv_aload_n hx hb dX9_closes_106 rfl (lv_at hl 0 rfl) ?_
          refine va_get (D := (dC, dI)) (ci := 9) (C := RX9) (T := TX9) (N := 14) hx hb hts hin9 hown hK hP 0 rfl rfl 12 (by decide) lk1 (fun _ h9 => h9) rfl dX9_closes_107 ?_
          subst hQ
          exact W.iret (v := a4) hx hb hret (fun tq htq hWq => ⟨⟨_, ((va_up (va_up (va_up (va_up (va_up (va_up v 4 a4) 5 (nI 1)) 6 a6) 7 a7) 8 a8) 9 (sy s0)), R1, (va_up (va_up F 2 f2) 3 f3), G), rfl, (fun hz => ⟨_, _, _, _, _, _, _, _, _, rfl, hR1, hz, hz⟩) (show a4 = pCloses (F 0) R n (tnX v) from hd.elim (fun ⟨z1, hlen, hcl⟩ => by rw [← hcl, clF_n (by rw [ov_full hlen hs0 (by omega)]; omega) (by rw [ov_full hlen hs0 (by omega)]; omega)]; exact z1) (fun h => h.2)), va_K.moved hWq.alike hK, _, _, hZ, by rw [htq]; exact hP⟩, hS.F htq⟩) hS.2.2 dX9_closes_110
        · skip
          refine lv_aload_n hx hb dX9_closes_38 rfl (lv_at hl 0 rfl) ?_
          refine va_get (D := (dC, dI)) (ci := 9) (C := RX9) (T := TX9) (N := 14) hx hb hts hin9 hown hK hP 0 rfl rfl 12 (by decide) lk1 (fun _ h9 => h9) rfl dX9_closes_39 ?_
          refine lv_iconst (v := (-1)) hx hb dX9_closes_42 (by decide) ?_
          refine lv_icmp_ne (tgt := 106) hx hb dX9_closes_43 (by decide) (fun c_43 => ?_) (fun c_43 => ?_)
          · skip
            refine lv_aload_n hx hb dX9_closes_106 rfl (lv_at hl 0 rfl) ?_
            refine va_get (D := (dC, dI)) (ci := 9) (C := RX9) (T := TX9) (N := 14) hx hb hts hin9 hown hK hP 0 rfl rfl 12 (by decide) lk1 (fun _ h9 => h9) rfl dX9_closes_107 ?_
            subst hQ
            exact W.iret (v := a4) hx hb hret (fun tq htq hWq => ⟨⟨_, ((va_up (va_up (va_up (va_up (va_up (va_up v 4 a4) 5 (nI 1)) 6 a6) 7 a7) 8 a8) 9 (sy s0)), R1, (va_up (va_up F 2 f2) 3 f3), G), rfl, (fun hz => ⟨_, _, _, _, _, _, _, _, _, rfl, hR1, hz, hz⟩) (show a4 = pCloses (F 0) R n (tnX v) from (hd.resolve_left (fun h => c_43 h.1)).2), va_K.moved hWq.alike hK, _, _, hZ, by rw [htq]; exact hP⟩, hS.F htq⟩) hS.2.2 dX9_closes_110
          · skip
            obtain ⟨-, hlen, hcl⟩ := hd.resolve_right (fun h => h.1 c_43)
            refine lv_aload_n hx hb dX9_closes_46 rfl (lv_at hl 0 rfl) ?_
            refine va_get (D := (dC, dI)) (ci := 9) (C := RX9) (T := TX9) (N := 14) hx hb hts hin9 hown hK hP 0 rfl rfl 5 (by decide) lk2 (fun _ h9 => h9) rfl dX9_closes_47 ?_
            refine lv_aload_n hx hb dX9_closes_50 rfl (lv_at hl 0 rfl) ?_
            refine va_get (D := (dC, dI)) (ci := 9) (C := RX9) (T := TX9) (N := 14) hx hb hts hin9 hown hK hP 0 rfl rfl 0 (by decide) lk3 (fun _ h9 => h9) rfl dX9_closes_51 ?_
            refine xc_i (b := ad 5) (As := [.ref (ad 1)]) (rest := []) ⟨hx, hb, hml, hown, hts⟩ (x_next l dC dI aC ad cap hI (va_up (va_up (va_up (va_up (va_up (va_up v 4 a4) 5 (nI 1)) 6 a6) 7 a7) 8 a8) 9 (sy s0)) R1 (va_up (va_up F 2 f2) 3 f3) G A hE hA n hn hn8 (fun j hj => by rw [hR1 _ (by omega)]; exact hTl j hj) (fun j hj => by rw [hR1 _ (by omega)]; exact hVl j hj) (fun j hj => by rw [hR1 _ (by omega)]; exact hl13 j hj) s0 hs0 rfl) (cwV 1 hts gX9_closes_X1_next rfl rfl rfl (by decide +kernel) ⟨Nat.le_of_ble_eq_true rfl, Nat.le_of_ble_eq_true rfl⟩) (xPre (q0 := 5) (ci := 1) rfl rfl hK hZ hP) hS rfl hl.1 rfl (Nat.le_of_ble_eq_true rfl) dX9_closes_54 ⟨Nat.le_of_ble_eq_true rfl, Nat.le_of_ble_eq_true rfl⟩ (fun x_54 v2 R2 F2 G2 Z S H locs h_54 hZ hP hS => ?_)
            refine lv_if_eq (tgt := 106) hx hb dX9_closes_57 (by decide) (fun c_57 => ?_) (fun c_57 => ?_)
            · skip
              obtain ⟨hno, -, b6, b7, b8, b9, Mq, hu_54⟩ := h_54.resolve_left (fun ⟨_, _, _, _, _, _, hx9, _⟩ => absurd (hx9.symm.trans c_57) (by decide))
              rw [vn_vn] at hu_54
              have hno2 : ∀ j, s0 ≤ j → j < 832 → ovA (F 0) R n j = none := fun j h1 h2 => (ovA_congr (fun k hk => hR1 (10 + k) (by omega))).symm.trans (hno j h1 h2)
              have hpc : a4 = pCloses (F 0) R n (tnX v) := by rw [← hcl, clF_n (by rw [ov_n hlen hs0 hno2]; omega) (by rw [ov_n hlen hs0 hno2]; omega)]; exact c_43
              have hRq : ∀ k, k < 26 → (va_up R1 27 Mq) k = R k := fun k hk => by rw [upn (by omega)]; exact hR1 k hk
              have hP : va_P (dC, dI) vwCl (wsX aC ad cap (va_up (va_up (va_up (va_up (va_up (va_up v 4 a4) 5 (nI 1)) 6 b6) 7 b7) 8 b8) 9 b9) Z S (va_up (va_up F 2 f2) 3 f3) G) H := by cases hu_54; exact hP
              have hZ : xOK Z S (va_up R1 27 Mq) := by cases hu_54; exact hZ
              refine lv_aload_n hx hb dX9_closes_106 rfl (lv_at hl 0 rfl) ?_
              refine va_get (D := (dC, dI)) (ci := 9) (C := RX9) (T := TX9) (N := 14) hx hb hts hin9 hown hK hP 0 rfl rfl 12 (by decide) lk1 (fun _ h9 => h9) rfl dX9_closes_107 ?_
              subst hQ
              exact W.iret (v := a4) hx hb hret (fun tq htq hWq => ⟨⟨_, ((va_up (va_up (va_up (va_up (va_up (va_up v 4 a4) 5 (nI 1)) 6 b6) 7 b7) 8 b8) 9 b9), va_up R1 27 Mq, (va_up (va_up F 2 f2) 3 f3), G), rfl, (fun hz => ⟨_, _, _, _, _, _, _, _, _, rfl, hRq, hz, hz⟩) (show a4 = pCloses (F 0) R n (tnX v) from hpc), va_K.moved hWq.alike hK, _, _, hZ, by rw [htq]; exact hP⟩, hS.F htq⟩) hS.2.2 dX9_closes_110
            · skip
              obtain ⟨sp, Mq, hsp1, hsp2, hno, hy, -, hu_54⟩ := h_54.resolve_right (fun ⟨_, hx9, _⟩ => c_57 (hx9.trans (by decide)))
              rw [vn_vn] at hu_54
              have hy2 : ovA (F 0) R n sp = some Mq := (ovA_congr (fun k hk => hR1 (10 + k) (by omega))).symm.trans hy
              obtain ⟨hat, hlen2⟩ := ov_y hlen hsp1 hsp2 (fun j h1 h2 => (ovA_congr (fun k hk => hR1 (10 + k) (by omega))).symm.trans (hno j h1 h2)) hy2
              have hov := ov_lt hat
              have hcs := clF_s (E := F 0) (R := R) (n := n) (tn := tnX v) hov hat
              rw [hcl] at hcs
              obtain ⟨q1, q2, q3, q4, q5⟩ := ov_in hTl hVl hy2
              have hRq : ∀ k, k < 26 → (va_up R1 27 Mq) k = R k := fun k hk => by rw [upn (by omega)]; exact hR1 k hk
              have hCa : ∀ k, k < n → (va_up R1 27 Mq) (10 + k) = R (10 + k) := fun k hk => hRq _ (by omega)
              have hCb : ∀ k, k < n → (va_up R1 27 Mq) (18 + k) = R (18 + k) := fun k hk => hRq _ (by omega)
              have e27 : (va_up R1 27 Mq) 27 = Mq := va_up_self _ _ _
              have htn := vn_tn v a4 (nI 1) (nI (sp / 104)) (nI (sp / 13 % 8)) (nI (sp % 13)) (nI sp)
              have hP : va_P (dC, dI) vwCl (wsX aC ad cap (va_up (va_up (va_up (va_up (va_up (va_up v 4 a4) 5 (nI 1)) 6 (nI (sp / 104))) 7 (nI (sp / 13 % 8))) 8 (nI (sp % 13))) 9 (nI sp)) Z S (va_up (va_up F 2 f2) 3 f3) G) H := by cases hu_54; exact hP
              have hZ : xOK Z S (va_up R1 27 Mq) := by cases hu_54; exact hZ
              refine lv_aload_n hx hb dX9_closes_60 rfl (lv_at hl 0 rfl) ?_
              refine va_get (D := (dC, dI)) (ci := 9) (C := RX9) (T := TX9) (N := 14) hx hb hts hin9 hown hK hP 0 rfl rfl 4 (by decide) lk4 (fun _ h9 => h9) rfl dX9_closes_61 ?_
              refine lv_aload_n hx hb dX9_closes_64 rfl (lv_at hl 0 rfl) ?_
              refine va_get (D := (dC, dI)) (ci := 9) (C := RX9) (T := TX9) (N := 14) hx hb hts hin9 hown hK hP 0 rfl rfl 0 (by decide) lk3 (fun _ h9 => h9) rfl dX9_closes_65 ?_
              refine lv_aload_n hx hb dX9_closes_68 rfl (lv_at hl 0 rfl) ?_
              refine va_get (D := (dC, dI)) (ci := 9) (C := RX9) (T := TX9) (N := 14) hx hb hts hin9 hown hK hP 0 rfl rfl 5 (by decide) lk2 (fun _ h9 => h9) rfl dX9_closes_69 ?_
              refine xc_i (b := ad 4) (As := [.ref (ad 1), .ref (ad 5)]) (rest := []) ⟨hx, hb, hml, hown, hts⟩ (x_meet l dC dI aC ad cap hI (va_up (va_up (va_up (va_up (va_up (va_up v 4 a4) 5 (nI 1)) 6 (nI (sp / 104))) 7 (nI (sp / 13 % 8))) 8 (nI (sp % 13))) 9 (nI sp)) (va_up R1 27 Mq) (va_up (va_up F 2 f2) 3 f3) G A hE hA n hn hn8 (by rw [htn]; exact rlT_congr hrl hCa hCb) (fun k hk => by rw [hCa k hk]; exact hl0 k hk) (fun k hk => by rw [hCb k hk]; exact hV2 k hk) sp rfl rfl rfl q1 q2 (by rw [e27]; exact q3) (by rw [e27]; exact q4) (by rw [e27]; exact q5)) (cwV 2 hts gX9_closes_X2_meet rfl rfl rfl (by decide +kernel) ⟨Nat.le_of_ble_eq_true rfl, Nat.le_of_ble_eq_true rfl⟩) (xPre (q0 := 4) (ci := 2) rfl rfl hK hZ hP) hS rfl hl.1 rfl (Nat.le_of_ble_eq_true rfl) dX9_closes_72 ⟨Nat.le_of_ble_eq_true rfl, Nat.le_of_ble_eq_true rfl⟩ (fun x_72 v3 R3 F3 G3 Z S H locs h_72 hZ hP hS => ?_)
              obtain ⟨fm, cm, Rm, hu_72, hRm, hx_72⟩ := h_72
              have hx_72 : x_72 = clO (F 0) (va_up R1 27 Mq) n (tnX (va_up (va_up (va_up (va_up (va_up (va_up v 4 a4) 5 (nI 1)) 6 (nI (sp / 104))) 7 (nI (sp / 13 % 8))) 8 (nI (sp % 13))) 9 (nI sp))) (sp, (va_up R1 27 Mq) 27) := hx_72
              rw [htn, e27, clO_congr q1 q2 hCa hCb] at hx_72
              have hRm2 : ∀ k, k < 26 → Rm k = R k := fun k hk => (hRm k hk).trans (hRq k hk)
              have hu_72 : (va_up (va_up (va_up (va_up (va_up (va_up v 4 a4) 5 (nI 1)) 6 (nI (sp / 104))) 7 (nI (sp / 13 % 8))) 8 (nI (sp % 13))) 9 (nI sp), Rm, va_up (va_up (va_up (va_up F 2 f2) 3 f3) 2 fm) 3 cm, _) = _ := hu_72
              rw [up_swap (show (3 : Nat) ≠ 2 by decide) f3 fm, up_up, up_up] at hu_72
              have hP : va_P (dC, dI) vwCl (wsX aC ad cap (va_up (va_up (va_up (va_up (va_up (va_up v 4 a4) 5 (nI 1)) 6 (nI (sp / 104))) 7 (nI (sp / 13 % 8))) 8 (nI (sp % 13))) 9 (nI sp)) Z S (va_up (va_up F 2 fm) 3 cm) G) H := by cases hu_72; exact hP
              have hZ : xOK Z S Rm := by cases hu_72; exact hZ
              refine lv_istore_n (lv' := [(2, .int x_72), (0, .ref (ad 0)), (1, .int (nI i))]) hx hb dX9_closes_75 rfl hl (by decide) rfl (fun ls hl => ?_)
              refine lv_iload_n hx hb dX9_closes_76 rfl (lv_at hl 0 rfl) ?_
              refine lv_bipush (v := (-5)) hx hb dX9_closes_77 (by decide) ?_
              refine lv_icmp_ne (tgt := 91) hx hb dX9_closes_79 (by decide) (fun c_79 => ?_) (fun c_79 => ?_)
              · skip
                refine lv_iload_n hx hb dX9_closes_91 rfl (lv_at hl 0 rfl) ?_
                refine lv_if_ne (tgt := 100) hx hb dX9_closes_92 (by decide) (fun c_92 => ?_) (fun c_92 => ?_)
                · skip
                  refine lv_iinc (v := nI (i + 1)) (lv' := [(1, .int (nI (i + 1))), (2, .int x_72), (0, .ref (ad 0))]) hx hb dX9_closes_100 hl (k := 2) rfl (nI_add _ _) (by decide) rfl (fun ls hl => ?_)
                  refine lv_goto (tgt := 31) hx hb dX9_closes_103 (by decide) ?_
                  exact ih31 (i + 1) (sp + 1) a4 (nI (sp / 104)) (nI (sp / 13 % 8)) (nI (sp % 13)) Rm fm cm _ _ _ _ _ (by omega) (by omega) hRm2 (Or.inl ⟨c_43, hlen2, by rw [hcs, if_neg (fun h => c_79 (hx_72.trans h)), if_pos (clO_v.elim (fun h => absurd (hx_72.trans h) c_79) (fun h => h.elim id (fun z => absurd (hx_72.trans z) c_92)))]⟩) hZ (by rw [sy_s]; exact hP) hS (by omega) (lv_sub hl [2, 0] rfl)
                · skip
                  refine lv_aload_n hx hb dX9_closes_95 rfl (lv_at hl 1 rfl) ?_
                  refine lv_iload_n hx hb dX9_closes_96 rfl (lv_at hl 2 rfl) ?_
                  refine va_put (D := (dC, dI)) (ci := 9) (v := .int (nI i)) (ty := .int) (C := RX9) (T := TX9) (N := 14) hx hb hts hin9 tyX9 tyX9_ok nmX9 hown hK hP (wsX_D hI) hS 0 rfl rfl 12 (by decide) lk1 (fun _ h9 => h9) rfl (by decide +kernel) rfl rfl (Nat.le_of_ble_eq_true rfl) dX9_closes_97 (fun H locs hP _ hS => ?_)
                  have hP : va_P (dC, dI) vwCl (wsX aC ad cap (va_up (va_up (va_up (va_up (va_up (va_up v 4 (nI i)) 5 (nI 1)) 6 (nI (sp / 104))) 7 (nI (sp / 13 % 8))) 8 (nI (sp % 13))) 9 (nI sp)) Z S (va_up (va_up F 2 fm) 3 cm) G) H := hP
                  refine lv_iinc (v := nI (i + 1)) (lv' := [(1, .int (nI (i + 1))), (2, .int x_72), (0, .ref (ad 0))]) hx hb dX9_closes_100 hl (k := 2) rfl (nI_add _ _) (by decide) rfl (fun ls hl => ?_)
                  refine lv_goto (tgt := 31) hx hb dX9_closes_103 (by decide) ?_
                  exact ih31 (i + 1) (sp + 1) (nI i) (nI (sp / 104)) (nI (sp / 13 % 8)) (nI (sp % 13)) Rm fm cm _ _ _ _ _ (by omega) (by omega) hRm2 (Or.inr ⟨fun h => nI_pos (n := i) (by omega) (by rw [h]; decide), by rw [hcs, if_neg (fun h => c_79 (hx_72.trans h)), if_neg (fun h => absurd (h.symm.trans (hx_72.symm.trans c_92)) (by decide))]⟩) hZ (by rw [sy_s]; exact hP) hS (by omega) (lv_sub hl [2, 0] rfl)
              · skip
                refine lv_aload_n hx hb dX9_closes_82 rfl (lv_at hl 1 rfl) ?_
                refine lv_bipush (v := (-5)) hx hb dX9_closes_83 (by decide) ?_
                refine va_put (D := (dC, dI)) (ci := 9) (v := .int (-5)) (ty := .int) (C := RX9) (T := TX9) (N := 14) hx hb hts hin9 tyX9 tyX9_ok nmX9 hown hK hP (wsX_D hI) hS 0 rfl rfl 12 (by decide) lk1 (fun _ h9 => h9) rfl (by decide +kernel) rfl rfl (Nat.le_of_ble_eq_true rfl) dX9_closes_85 (fun H locs hP _ hS => ?_)
                have hP : va_P (dC, dI) vwCl (wsX aC ad cap (va_up (va_up (va_up (va_up (va_up (va_up v 4 (-5)) 5 (nI 1)) 6 (nI (sp / 104))) 7 (nI (sp / 13 % 8))) 8 (nI (sp % 13))) 9 (nI sp)) Z S (va_up (va_up F 2 fm) 3 cm) G) H := hP
                refine lv_goto (tgt := 100) hx hb dX9_closes_88 (by decide) ?_
                refine lv_iinc (v := nI (i + 1)) (lv' := [(1, .int (nI (i + 1))), (2, .int x_72), (0, .ref (ad 0))]) hx hb dX9_closes_100 hl (k := 2) rfl (nI_add _ _) (by decide) rfl (fun ls hl => ?_)
                refine lv_goto (tgt := 31) hx hb dX9_closes_103 (by decide) ?_
                exact ih31 (i + 1) (sp + 1) (-5) (nI (sp / 104)) (nI (sp / 13 % 8)) (nI (sp % 13)) Rm fm cm _ _ _ _ _ (by omega) (by omega) hRm2 (Or.inr ⟨by decide, by rw [hcs, if_pos (hx_72.symm.trans c_79)]⟩) hZ (by rw [sy_s]; exact hP) hS (by omega) (lv_sub hl [2, 0] rfl)
    exact L31 (833 - 0 + 1) 0 0 (-1) (v 6) (v 7) (v 8) R (F 2) (F 3) _ _ _ _ _ (by omega) (by omega) (fun _ _ => rfl) (Or.inl ⟨rfl, rfl, rfl⟩) hZ (by rw [up_eta2, vm_in]; exact hP) hS (Nat.lt_succ_self _) (lv_sub hl [1, 0] rfl)
  · skip
    refine lv_aload_n hx hb dX9_closes_7 rfl (lv_at hl 0 rfl) ?_
    refine va_get (D := (dC, dI)) (ci := 9) (C := RX9) (T := TX9) (N := 14) hx hb hts hin9 hown hK hP 0 rfl rfl 12 (by decide) lk1 (fun _ h9 => h9) rfl dX9_closes_8 ?_
    subst hQ
    exact W.iret (v := v 4) hx hb hret (fun tq htq hWq => ⟨⟨_, (v, R, F, G), rfl, ⟨v 4, v 5, v 6, v 7, v 8, v 9, R, F 2, F 3, by rw [vm_eta, up_eta2], fun _ _ => rfl, hc c_4, hc c_4⟩, va_K.moved hWq.alike hK, _, _, hZ, by rw [htq]; exact hP⟩, hS.F htq⟩) hS.2.2 dX9_closes_11

set_option maxHeartbeats 1000000 in
set_option maxRecDepth 100000 in
/-- count -/
theorem x_count (l : Launch) (dC : Nat → ClassId) (dI : Nat → Nat → Nat) (aC : Nat → ClassId) (ad cap : Nat → Nat) (v : Nat → Int32) (R : Nat → List Int32) (F : Nat → Nat → Int32) (G : Nat → Nat → Int64) (A : Nat) (hE : vE A (F 0)) (hA : v 0 = nI A) (hV : ∀ r, r < 10 → vR A (R r)) (n : Nat) (hn : v 1 = nI n) (hn8 : n ≤ 8) (w : Int32) : Met l yX9_count wsX9_count ({ frames := 4, cells := 0, slots := 0, locals := 97 } : Room) (va_Pc [.ref (ad 0), .int w] (XB dC dI aC ad cap (v, R, F, G))) (vp_Si (fun x => x = pCount A (F 0) R n (tnX v) w)) 0 0 (fun _ => False) := by
  refine Met.ofW (cc := cX9_count) (maxL := 2) (ret := (some .int)) (by decide) rfl ?_
  intro p e s m args below meth c s₁ B hml hv
  obtain ⟨rfl, hK, Z, S, hZ, hP⟩ := hv
  have hx := B.exec
  have hb := B.bytes
  have hret := B.returns
  have hts := atoms_spec (ws := wsX9_count) B.pre
  have hown : s.vm.findClass RX9 = some m.cls := findClass_of_methodNamed B.named
  have hlocks := B.notSynchronized
  dsimp only at hZ hP
  have lk0 := hts (.fieldLink RX9 10 "LeafTrees" "world" "LLeafTrees$World;") (by decide +kernel)
  have lk1 := hts (.fieldLink RX9 138 "LeafTrees$World" "ruleCount" "I") (by decide +kernel)
  have lk2 := hts (.fieldLink RX9 73 "LeafTrees$World" "acts" "I") (by decide +kernel)
  have hin8 : ∀ w ∈ u_ws RX8 TX8 4, w ∈ wsX9_count := by decide +kernel
  have hin9 : ∀ w ∈ u_ws RX9 TX9 14, w ∈ wsX9_count := by decide +kernel
  have hl := lv_entry [.ref (ad 0), .int w] (n := 2) (Nat.le_of_ble_eq_true rfl)
  rw [lg_entry_eq]
  generalize (lg_sl [.ref (ad 0), .int w] ++ List.replicate (2 - (lg_sl [.ref (ad 0), .int w]).length) Slot.unset).toArray = ls at hl ⊢
  have hl : lv_has ls 2 [(0, .ref (ad 0)), (1, .int w)] := hl
  refine nx_Q (R := ({ frames := 4, cells := 0, slots := 0, locals := 97 } : Room)) (fun Q hQ => ?_)
  refine lv_iload_n hx hb dX9_count_0 rfl (lv_at hl 1 rfl) ?_
  refine lv_if_lt (tgt := 9) hx hb dX9_count_1 (by decide) (fun c_1 => ?_) (fun c_1 => ?_)
  · skip
    refine lv_bipush (v := (-2)) hx hb dX9_count_9 (by decide) ?_
    subst hQ
    exact W.iret (v := (-2)) hx hb hret (fun tq htq hWq => ⟨_, rfl, by rw [pCount, if_neg (fun h => by rw [h] at c_1; exact absurd c_1 (by decide)), if_neg (fun h => by rw [h] at c_1; exact absurd c_1 (by decide)), if_neg (fun h => by rw [h] at c_1; exact absurd c_1 (by decide)), if_neg (fun h => by rw [h] at c_1; exact absurd c_1 (by decide))], htq⟩) (fun q h => by cases h) dX9_count_11
  · skip
    refine lv_iload_n hx hb dX9_count_4 rfl (lv_at hl 1 rfl) ?_
    refine lv_iconst (v := nI 3) hx hb dX9_count_5 (by decide) ?_
    refine lv_icmp_le (tgt := 12) hx hb dX9_count_6 (by decide) (fun c_6 => ?_) (fun c_6 => ?_)
    · skip
      refine lv_iload_n hx hb dX9_count_12 rfl (lv_at hl 1 rfl) ?_
      refine lv_if_ne (tgt := 24) hx hb dX9_count_13 (by decide) (fun c_13 => ?_) (fun c_13 => ?_)
      · skip
        refine lv_iload_n hx hb dX9_count_24 rfl (lv_at hl 1 rfl) ?_
        refine lv_iconst (v := nI 1) hx hb dX9_count_25 (by decide) ?_
        refine lv_icmp_ne (tgt := 37) hx hb dX9_count_26 (by decide) (fun c_26 => ?_) (fun c_26 => ?_)
        · skip
          refine lv_iload_n hx hb dX9_count_37 rfl (lv_at hl 1 rfl) ?_
          refine lv_iconst (v := nI 2) hx hb dX9_count_38 (by decide) ?_
          refine lv_icmp_ne (tgt := 49) hx hb dX9_count_39 (by decide) (fun c_39 => ?_) (fun c_39 => ?_)
          · skip
            refine lv_aload_n hx hb dX9_count_49 rfl (lv_at hl 0 rfl) ?_
            refine va_get (D := (dC, dI)) (ci := 9) (C := RX9) (T := TX9) (N := 14) hx hb hts hin9 hown hK hP 0 rfl rfl 0 (by decide) lk0 (fun _ h9 => h9) rfl dX9_count_50 ?_
            refine xp_i (b := ad 1) (As := []) (rest := []) ⟨hx, hb, hml, hown, hts⟩ (x_rulesToNothing l dC dI aC ad cap v R F G n hn hn8) (cwV 0 hts gX9_count_X8_rulesToNothing rfl rfl rfl (by decide +kernel) ⟨Nat.le_of_ble_eq_true rfl, Nat.le_of_ble_eq_true rfl⟩) (xPre (q0 := 1) (ci := 8) rfl rfl hK hZ hP) rfl hl.1 rfl (Nat.le_of_ble_eq_true rfl) dX9_count_53 ⟨Nat.le_of_ble_eq_true rfl, Nat.le_of_ble_eq_true rfl⟩ (fun x_53 h_53 => ?_)
            refine nx_ti (y := nI (nzF (tnX v) n)) h_53 ?_
            subst hQ
            exact W.iret (v := nI (nzF (tnX v) n)) hx hb hret (fun tq htq hWq => ⟨_, rfl, by rw [pCount, if_neg (fun h => c_13 (h.trans (by decide))), if_neg c_26, if_neg c_39, if_pos (cnt3 c_1 c_6 c_13 c_26 c_39)], htq⟩) (fun q h => by cases h) dX9_count_56
          · skip
            refine lv_aload_n hx hb dX9_count_42 rfl (lv_at hl 0 rfl) ?_
            refine xp_i (b := ad 0) (As := []) (rest := []) ⟨hx, hb, hml, hown, hts⟩ (x_treeRows l dC dI aC ad cap v R F G A hE hA hV) (cwV 0 hts gX9_count_X9_treeRows rfl rfl rfl (by decide +kernel) ⟨Nat.le_of_ble_eq_true rfl, Nat.le_of_ble_eq_true rfl⟩) (xPre (q0 := 0) (ci := 9) rfl rfl hK hZ hP) rfl hl.1 rfl (Nat.le_of_ble_eq_true rfl) dX9_count_43 ⟨Nat.le_of_ble_eq_true rfl, Nat.le_of_ble_eq_true rfl⟩ (fun x_43 h_43 => ?_)
            refine nx_ti (y := nI (tcF (F 0) R 10)) h_43 ?_
            refine lv_goto (tgt := 56) hx hb dX9_count_46 (by decide) ?_
            subst hQ
            exact W.iret (v := nI (tcF (F 0) R 10)) hx hb hret (fun tq htq hWq => ⟨_, rfl, by rw [pCount, if_neg (fun h => c_13 (h.trans (by decide))), if_neg c_26, if_pos c_39], htq⟩) (fun q h => by cases h) dX9_count_56
        · skip
          refine lv_aload_n hx hb dX9_count_29 rfl (lv_at hl 0 rfl) ?_
          refine va_get (D := (dC, dI)) (ci := 9) (C := RX9) (T := TX9) (N := 14) hx hb hts hin9 hown hK hP 0 rfl rfl 0 (by decide) lk0 (fun _ h9 => h9) rfl dX9_count_30 ?_
          refine va_get (D := (dC, dI)) (ci := 8) (C := RX8) (T := TX8) (N := 4) hx hb hts hin8 hown hK hP 1 rfl rfl 3 (by decide) lk1 (fun _ h9 => h9) rfl dX9_count_33 ?_
          refine nx_ti (y := nI n) (hn) ?_
          subst hQ
          exact W.iret (v := nI n) hx hb hret (fun tq htq hWq => ⟨_, rfl, by rw [pCount, if_neg (fun h => c_13 (h.trans (by decide))), if_pos c_26], htq⟩) (fun q h => by cases h) dX9_count_36
      · skip
        refine lv_aload_n hx hb dX9_count_16 rfl (lv_at hl 0 rfl) ?_
        refine va_get (D := (dC, dI)) (ci := 9) (C := RX9) (T := TX9) (N := 14) hx hb hts hin9 hown hK hP 0 rfl rfl 0 (by decide) lk0 (fun _ h9 => h9) rfl dX9_count_17 ?_
        refine va_get (D := (dC, dI)) (ci := 8) (C := RX8) (T := TX8) (N := 4) hx hb hts hin8 hown hK hP 1 rfl rfl 1 (by decide) lk2 (fun _ h9 => h9) rfl dX9_count_20 ?_
        refine nx_ti (y := nI A) (hA) ?_
        subst hQ
        exact W.iret (v := nI A) hx hb hret (fun tq htq hWq => ⟨_, rfl, by rw [pCount, if_pos (c_13.trans (by decide))], htq⟩) (fun q h => by cases h) dX9_count_23
    · skip
      refine lv_bipush (v := (-2)) hx hb dX9_count_9 (by decide) ?_
      subst hQ
      exact W.iret (v := (-2)) hx hb hret (fun tq htq hWq => ⟨_, rfl, by rw [pCount, if_neg (fun h => by rw [h] at c_6; exact absurd c_6 (by decide)), if_neg (fun h => by rw [h] at c_6; exact absurd c_6 (by decide)), if_neg (fun h => by rw [h] at c_6; exact absurd c_6 (by decide)), if_neg (fun h => by rw [h] at c_6; exact absurd c_6 (by decide))], htq⟩) (fun q h => by cases h) dX9_count_11

set_option maxHeartbeats 1000000 in
set_option maxRecDepth 100000 in
/-- digest -/
theorem x_digest (l : Launch) (dC : Nat → ClassId) (dI : Nat → Nat → Nat) (aC : Nat → ClassId) (ad cap : Nat → Nat) (v : Nat → Int32) (R : Nat → List Int32) (F : Nat → Nat → Int32) (G : Nat → Nat → Int64) (A : Nat) (hE : vE A (F 0)) (hA : v 0 = nI A) (hV : ∀ r, r < 10 → vR A (R r)) (n : Nat) (hn : v 1 = nI n) (hn8 : n ≤ 8) (hA4 : A ≤ 4) : Met l yX9_digest wsX9_digest ({ frames := 4, cells := 0, slots := 0, locals := 97 } : Room) (va_Pc [.ref (ad 0)] (XB dC dI aC ad cap (v, R, F, G))) (vp_Sl (fun x => x = pDigest A (F 0) R n (tnX v))) 0 0 (fun _ => False) := by
  refine Met.ofW (cc := cX9_digest) (maxL := 4) (ret := (some .long)) (by decide) rfl ?_
  intro p e s m args below meth c s₁ B hml hv
  obtain ⟨rfl, hK, Z, S, hZ, hP⟩ := hv
  have hx := B.exec
  have hb := B.bytes
  have hret := B.returns
  have hts := atoms_spec (ws := wsX9_digest) B.pre
  have hown : s.vm.findClass RX9 = some m.cls := findClass_of_methodNamed B.named
  have hlocks := B.notSynchronized
  dsimp only at hZ hP
  have lk0 := hts (.constantLong RX9 231 (227)) (by decide +kernel)
  have lk1 := hts (.constantLong RX9 233 (31)) (by decide +kernel)
  have lk2 := hts (.fieldLink RX9 10 "LeafTrees" "world" "LLeafTrees$World;") (by decide +kernel)
  have lk3 := hts (.fieldLink RX9 73 "LeafTrees$World" "acts" "I") (by decide +kernel)
  have lk4 := hts (.fieldLink RX9 138 "LeafTrees$World" "ruleCount" "I") (by decide +kernel)
  have lk5 := hts (.fieldLink RX9 148 "LeafTrees$World" "rules" "[LLeafTrees$Rule;") (by decide +kernel)
  have lk6 := hts (.fieldLink RX9 152 "LeafTrees$Rule" "left" "LLeafTrees$Row;") (by decide +kernel)
  have lk7 := hts (.fieldLink RX9 157 "LeafTrees$Rule" "right" "LLeafTrees$Row;") (by decide +kernel)
  have lk8 := hts (.fieldLink RX9 18 "LeafTrees" "rows" "[LLeafTrees$Row;") (by decide +kernel)
  have lk9 := hts (.fieldLink RX9 235 "LeafTrees$World" "entries" "[I") (by decide +kernel)
  have hin4 : ∀ w ∈ u_ws RX4 TX4 3, w ∈ wsX9_digest := by decide +kernel
  have hin8 : ∀ w ∈ u_ws RX8 TX8 4, w ∈ wsX9_digest := by decide +kernel
  have hin9 : ∀ w ∈ u_ws RX9 TX9 14, w ∈ wsX9_digest := by decide +kernel
  have hl := lv_entry [.ref (ad 0)] (n := 4) (Nat.le_of_ble_eq_true rfl)
  rw [lg_entry_eq]
  generalize (lg_sl [.ref (ad 0)] ++ List.replicate (4 - (lg_sl [.ref (ad 0)]).length) Slot.unset).toArray = ls at hl ⊢
  have hl : lv_has ls 4 [(0, .ref (ad 0))] := hl
  refine nx_Q (R := ({ frames := 4, cells := 0, slots := 0, locals := 97 } : Room)) (fun Q hQ => ?_)
  refine lv_ldc2 hx hb hown lk0 dX9_digest_0 ?_
  refine lv_lstore_n (lv' := [(1, .long (227)), (0, .ref (ad 0))]) hx hb dX9_digest_3 rfl hl (by decide) rfl (fun ls hl => ?_)
  refine lv_ldc2 hx hb hown lk1 dX9_digest_4 ?_
  refine lv_lload_n hx hb dX9_digest_7 rfl (lv_at hl 0 rfl) ?_
  refine lv_lmul hx hb dX9_digest_8 ?_
  refine lv_aload_n hx hb dX9_digest_9 rfl (lv_at hl 1 rfl) ?_
  refine va_get (D := (dC, dI)) (ci := 9) (C := RX9) (T := TX9) (N := 14) hx hb hts hin9 hown hK hP 0 rfl rfl 0 (by decide) lk2 (fun _ h9 => h9) rfl dX9_digest_10 ?_
  refine va_get (D := (dC, dI)) (ci := 8) (C := RX8) (T := TX8) (N := 4) hx hb hts hin8 hown hK hP 1 rfl rfl 1 (by decide) lk3 (fun _ h9 => h9) rfl dX9_digest_13 ?_
  refine nx_ti (y := nI A) (hA) ?_
  refine lv_i2l hx hb dX9_digest_16 rfl ?_
  refine lv_ladd hx hb dX9_digest_17 ?_
  refine lv_lstore_n (lv' := [(1, .long (((31) * (227)) + (nI A).toInt64)), (0, .ref (ad 0))]) hx hb dX9_digest_18 rfl hl (by decide) rfl (fun ls hl => ?_)
  refine lv_ldc2 hx hb hown lk1 dX9_digest_19 ?_
  refine lv_lload_n hx hb dX9_digest_22 rfl (lv_at hl 0 rfl) ?_
  refine lv_lmul hx hb dX9_digest_23 ?_
  refine lv_aload_n hx hb dX9_digest_24 rfl (lv_at hl 1 rfl) ?_
  refine va_get (D := (dC, dI)) (ci := 9) (C := RX9) (T := TX9) (N := 14) hx hb hts hin9 hown hK hP 0 rfl rfl 0 (by decide) lk2 (fun _ h9 => h9) rfl dX9_digest_25 ?_
  refine va_get (D := (dC, dI)) (ci := 8) (C := RX8) (T := TX8) (N := 4) hx hb hts hin8 hown hK hP 1 rfl rfl 3 (by decide) lk4 (fun _ h9 => h9) rfl dX9_digest_28 ?_
  refine nx_ti (y := nI n) (hn) ?_
  refine lv_i2l hx hb dX9_digest_31 rfl ?_
  refine lv_ladd hx hb dX9_digest_32 ?_
  refine lv_lstore_n (lv' := [(1, .long (((31) * (((31) * (227)) + (nI A).toInt64)) + (nI n).toInt64)), (0, .ref (ad 0))]) hx hb dX9_digest_33 rfl hl (by decide) rfl (fun ls hl => ?_)
  refine lv_ldc2 hx hb hown lk1 dX9_digest_34 ?_
  refine lv_lload_n hx hb dX9_digest_37 rfl (lv_at hl 0 rfl) ?_
  refine lv_lmul hx hb dX9_digest_38 ?_
  refine lv_aload_n hx hb dX9_digest_39 rfl (lv_at hl 1 rfl) ?_
  refine xp_i (b := ad 0) (As := []) (rest := [.long ((31) * (((31) * (((31) * (227)) + (nI A).toInt64)) + (nI n).toInt64))]) ⟨hx, hb, hml, hown, hts⟩ (x_treeRows l dC dI aC ad cap v R F G A hE hA hV) (cwV 0 hts gX9_digest_X9_treeRows rfl rfl rfl (by decide +kernel) ⟨Nat.le_of_ble_eq_true rfl, Nat.le_of_ble_eq_true rfl⟩) (xPre (q0 := 0) (ci := 9) rfl rfl hK hZ hP) rfl hl.1 rfl (Nat.le_of_ble_eq_true rfl) dX9_digest_40 ⟨Nat.le_of_ble_eq_true rfl, Nat.le_of_ble_eq_true rfl⟩ (fun x_40 h_40 => ?_)
  refine nx_ti (y := nI (tcF (F 0) R 10)) h_40 ?_
  refine lv_i2l hx hb dX9_digest_43 rfl ?_
  refine lv_ladd hx hb dX9_digest_44 ?_
  refine lv_lstore_n (lv' := [(1, .long (((31) * (((31) * (((31) * (227)) + (nI A).toInt64)) + (nI n).toInt64)) + (nI (tcF (F 0) R 10)).toInt64)), (0, .ref (ad 0))]) hx hb dX9_digest_45 rfl hl (by decide) rfl (fun ls hl => ?_)
  refine lv_ldc2 hx hb hown lk1 dX9_digest_46 ?_
  refine lv_lload_n hx hb dX9_digest_49 rfl (lv_at hl 0 rfl) ?_
  refine lv_lmul hx hb dX9_digest_50 ?_
  refine lv_aload_n hx hb dX9_digest_51 rfl (lv_at hl 1 rfl) ?_
  refine va_get (D := (dC, dI)) (ci := 9) (C := RX9) (T := TX9) (N := 14) hx hb hts hin9 hown hK hP 0 rfl rfl 0 (by decide) lk2 (fun _ h9 => h9) rfl dX9_digest_52 ?_
  refine xp_i (b := ad 1) (As := []) (rest := [.long ((31) * (((31) * (((31) * (((31) * (227)) + (nI A).toInt64)) + (nI n).toInt64)) + (nI (tcF (F 0) R 10)).toInt64))]) ⟨hx, hb, hml, hown, hts⟩ (x_rulesToNothing l dC dI aC ad cap v R F G n hn hn8) (cwV 0 hts gX9_digest_X8_rulesToNothing rfl rfl rfl (by decide +kernel) ⟨Nat.le_of_ble_eq_true rfl, Nat.le_of_ble_eq_true rfl⟩) (xPre (q0 := 1) (ci := 8) rfl rfl hK hZ hP) rfl hl.1 rfl (Nat.le_of_ble_eq_true rfl) dX9_digest_55 ⟨Nat.le_of_ble_eq_true rfl, Nat.le_of_ble_eq_true rfl⟩ (fun x_55 h_55 => ?_)
  refine nx_ti (y := nI (nzF (tnX v) n)) h_55 ?_
  refine lv_i2l hx hb dX9_digest_58 rfl ?_
  refine lv_ladd hx hb dX9_digest_59 ?_
  refine nx_tl (y := dg1 A (F 0) R n (tnX v) 4) (dg1_4.symm) ?_
  refine lv_lstore_n (lv' := [(1, .long (dg1 A (F 0) R n (tnX v) 4)), (0, .ref (ad 0))]) hx hb dX9_digest_60 rfl hl (by decide) rfl (fun ls hl => ?_)
  refine lv_iconst (v := nI 0) hx hb dX9_digest_61 (by decide) ?_
  refine lv_istore_n (lv' := [(3, .int (nI 0)), (1, .long (dg1 A (F 0) R n (tnX v) 4)), (0, .ref (ad 0))]) hx hb dX9_digest_62 rfl hl (by decide) rfl (fun ls hl => ?_)
  have L63 : ∀ (fuel63 : Nat) (i : Nat) (ls : Array Slot), (i ≤ A) → A - i < fuel63 → lv_has ls 4 [(0, .ref (ad 0)), (1, .long (dg2 (F 0) (dg1 A (F 0) R n (tnX v) 4) i)), (3, .int (nI i))] → W p l e ({ frames := 4, cells := 0, slots := 0, locals := 97 } : Room) s m ([.ref (ad 0)] : List Value).toArray below meth c s.heap [] 0 0 Q (F0 m 63 ls []) := by
    intro fuel63
    induction fuel63 with
    | zero => intro i ls hi hf63 hl; exact absurd hf63 (Nat.not_lt_zero _)
    | succ fuel63 ih63 =>
      intro i ls hi hf63 hl
      refine lv_iload_n hx hb dX9_digest_63 rfl (lv_at hl 2 rfl) ?_
      refine lv_aload_n hx hb dX9_digest_64 rfl (lv_at hl 0 rfl) ?_
      refine va_get (D := (dC, dI)) (ci := 9) (C := RX9) (T := TX9) (N := 14) hx hb hts hin9 hown hK hP 0 rfl rfl 0 (by decide) lk2 (fun _ h9 => h9) rfl dX9_digest_65 ?_
      refine va_get (D := (dC, dI)) (ci := 8) (C := RX8) (T := TX8) (N := 4) hx hb hts hin8 hown hK hP 1 rfl rfl 1 (by decide) lk3 (fun _ h9 => h9) rfl dX9_digest_68 ?_
      refine nx_ti (y := nI A) (hA) ?_
      refine nx_icmp_ge (a := i) (b := A) (tgt := 97) hx hb dX9_digest_71 (by decide) (by omega) (by omega) (fun c_71 => ?_) (fun c_71 => ?_)
      · skip
        refine lv_iconst (v := nI 0) hx hb dX9_digest_97 (by decide) ?_
        refine lv_istore_n (lv' := [(3, .int (nI 0)), (0, .ref (ad 0)), (1, .long (dg2 (F 0) (dg1 A (F 0) R n (tnX v) 4) i))]) hx hb dX9_digest_98 rfl hl (by decide) rfl (fun ls hl => ?_)
        have L99 : ∀ (fuel99 : Nat) (i : Nat) (ls : Array Slot), (i ≤ 10) → 10 - i < fuel99 → lv_has ls 4 [(0, .ref (ad 0)), (1, .long (dg3 R (dg2 (F 0) (dg1 A (F 0) R n (tnX v) 4) A) i)), (3, .int (nI i))] → W p l e ({ frames := 4, cells := 0, slots := 0, locals := 97 } : Room) s m ([.ref (ad 0)] : List Value).toArray below meth c s.heap [] 0 0 Q (F0 m 99 ls []) := by
          intro fuel99
          induction fuel99 with
          | zero => intro i ls hi hf99 hl; exact absurd hf99 (Nat.not_lt_zero _)
          | succ fuel99 ih99 =>
            intro i ls hi hf99 hl
            refine lv_iload_n hx hb dX9_digest_99 rfl (lv_at hl 2 rfl) ?_
            refine lv_bipush (v := nI 10) hx hb dX9_digest_100 (by decide) ?_
            refine nx_icmp_ge (a := i) (b := 10) (tgt := 122) hx hb dX9_digest_102 (by decide) (by omega) (by omega) (fun c_102 => ?_) (fun c_102 => ?_)
            · skip
              refine lv_iconst (v := nI 0) hx hb dX9_digest_122 (by decide) ?_
              refine lv_istore_n (lv' := [(3, .int (nI 0)), (0, .ref (ad 0)), (1, .long (dg3 R (dg2 (F 0) (dg1 A (F 0) R n (tnX v) 4) A) i))]) hx hb dX9_digest_123 rfl hl (by decide) rfl (fun ls hl => ?_)
              have L124 : ∀ (fuel124 : Nat) (i : Nat) (ls : Array Slot), (i ≤ n) → n - i < fuel124 → lv_has ls 4 [(0, .ref (ad 0)), (1, .long (dg4 R (dg3 R (dg2 (F 0) (dg1 A (F 0) R n (tnX v) 4) A) 10) i)), (3, .int (nI i))] → W p l e ({ frames := 4, cells := 0, slots := 0, locals := 97 } : Room) s m ([.ref (ad 0)] : List Value).toArray below meth c s.heap [] 0 0 Q (F0 m 124 ls []) := by
                intro fuel124
                induction fuel124 with
                | zero => intro i ls hi hf124 hl; exact absurd hf124 (Nat.not_lt_zero _)
                | succ fuel124 ih124 =>
                  intro i ls hi hf124 hl
                  refine lv_iload_n hx hb dX9_digest_124 rfl (lv_at hl 2 rfl) ?_
                  refine lv_aload_n hx hb dX9_digest_125 rfl (lv_at hl 0 rfl) ?_
                  refine va_get (D := (dC, dI)) (ci := 9) (C := RX9) (T := TX9) (N := 14) hx hb hts hin9 hown hK hP 0 rfl rfl 0 (by decide) lk2 (fun _ h9 => h9) rfl dX9_digest_126 ?_
                  refine va_get (D := (dC, dI)) (ci := 8) (C := RX8) (T := TX8) (N := 4) hx hb hts hin8 hown hK hP 1 rfl rfl 3 (by decide) lk4 (fun _ h9 => h9) rfl dX9_digest_129 ?_
                  refine nx_ti (y := nI n) (hn) ?_
                  refine nx_icmp_ge (a := i) (b := n) (tgt := 175) hx hb dX9_digest_132 (by decide) (by omega) (by omega) (fun c_132 => ?_) (fun c_132 => ?_)
                  · skip
                    refine lv_lload_n hx hb dX9_digest_175 rfl (lv_at hl 1 rfl) ?_
                    subst hQ
                    exact W.lret (v := dg4 R (dg3 R (dg2 (F 0) (dg1 A (F 0) R n (tnX v) 4) A) 10) i) hx hb hret (fun tq htq hWq => ⟨_, rfl, by rw [show i = n by omega]; rfl, htq⟩) (fun q h => by cases h) dX9_digest_176
                  · skip
                    refine lv_aload_n hx hb dX9_digest_135 rfl (lv_at hl 0 rfl) ?_
                    refine va_get (D := (dC, dI)) (ci := 9) (C := RX9) (T := TX9) (N := 14) hx hb hts hin9 hown hK hP 0 rfl rfl 0 (by decide) lk2 (fun _ h9 => h9) rfl dX9_digest_136 ?_
                    refine va_get (D := (dC, dI)) (ci := 8) (C := RX8) (T := TX8) (N := 4) hx hb hts hin8 hown hK hP 1 rfl rfl 2 (by decide) lk5 (fun _ h9 => h9) rfl dX9_digest_139 ?_
                    refine lv_iload_n hx hb dX9_digest_142 rfl (lv_at hl 2 rfl) ?_
                    refine nx_aald (C := "LeafTrees$Rule") hx hb hK hP 11 4 rfl rfl (i := i) (by omega) (by decide) (show xRules ad i = some (ad (50 + i)) from if_pos (by omega)) dX9_digest_143 ?_
                    refine va_get (D := (dC, dI)) (ci := 4) (C := RX4) (T := TX4) (N := 3) hx hb hts hin4 hown hK hP (50 + i) (xw_ru i (by omega)) rfl 0 (by decide) lk6 (fun _ h9 => h9) rfl dX9_digest_144 ?_
                    refine lv_lload_n hx hb dX9_digest_147 rfl (lv_at hl 1 rfl) ?_
                    refine xp_l (b := ad (58 + 2 * (10 + i))) (As := [.long (dg4 R (dg3 R (dg2 (F 0) (dg1 A (F 0) R n (tnX v) 4) A) 10) i)]) (rest := []) ⟨hx, hb, hml, hown, hts⟩ (x_digestedAfter l dC dI aC ad cap v R F G (dg4 R (dg3 R (dg2 (F 0) (dg1 A (F 0) R n (tnX v) 4) A) 10) i) (10 + i) (by omega)) (cwV 1 hts gX9_digest_X3_digestedAfter rfl rfl rfl (by decide +kernel) ⟨Nat.le_of_ble_eq_true rfl, Nat.le_of_ble_eq_true rfl⟩) (xPre (q0 := (58 + 2 * (10 + i))) (ci := 3) rfl (xw_ro (10 + i) (by omega)) hK hZ hP) rfl hl.1 rfl (Nat.le_of_ble_eq_true rfl) dX9_digest_148 ⟨Nat.le_of_ble_eq_true rfl, Nat.le_of_ble_eq_true rfl⟩ (fun x_148 h_148 => ?_)
                    refine nx_tl (y := dgR (dg4 R (dg3 R (dg2 (F 0) (dg1 A (F 0) R n (tnX v) 4) A) 10) i) (R (10 + i))) h_148 ?_
                    refine lv_lstore_n (lv' := [(1, .long (dgR (dg4 R (dg3 R (dg2 (F 0) (dg1 A (F 0) R n (tnX v) 4) A) 10) i) (R (10 + i)))), (0, .ref (ad 0)), (3, .int (nI i))]) hx hb dX9_digest_151 rfl hl (by decide) rfl (fun ls hl => ?_)
                    refine lv_aload_n hx hb dX9_digest_152 rfl (lv_at hl 1 rfl) ?_
                    refine va_get (D := (dC, dI)) (ci := 9) (C := RX9) (T := TX9) (N := 14) hx hb hts hin9 hown hK hP 0 rfl rfl 0 (by decide) lk2 (fun _ h9 => h9) rfl dX9_digest_153 ?_
                    refine va_get (D := (dC, dI)) (ci := 8) (C := RX8) (T := TX8) (N := 4) hx hb hts hin8 hown hK hP 1 rfl rfl 2 (by decide) lk5 (fun _ h9 => h9) rfl dX9_digest_156 ?_
                    refine lv_iload_n hx hb dX9_digest_159 rfl (lv_at hl 2 rfl) ?_
                    refine nx_aald (C := "LeafTrees$Rule") hx hb hK hP 11 4 rfl rfl (i := i) (by omega) (by decide) (show xRules ad i = some (ad (50 + i)) from if_pos (by omega)) dX9_digest_160 ?_
                    refine va_get (D := (dC, dI)) (ci := 4) (C := RX4) (T := TX4) (N := 3) hx hb hts hin4 hown hK hP (50 + i) (xw_ru i (by omega)) rfl 1 (by decide) lk7 (fun _ h9 => h9) rfl dX9_digest_161 ?_
                    refine lv_lload_n hx hb dX9_digest_164 rfl (lv_at hl 0 rfl) ?_
                    refine xp_l (b := ad (58 + 2 * (18 + i))) (As := [.long (dgR (dg4 R (dg3 R (dg2 (F 0) (dg1 A (F 0) R n (tnX v) 4) A) 10) i) (R (10 + i)))]) (rest := []) ⟨hx, hb, hml, hown, hts⟩ (x_digestedAfter l dC dI aC ad cap v R F G (dgR (dg4 R (dg3 R (dg2 (F 0) (dg1 A (F 0) R n (tnX v) 4) A) 10) i) (R (10 + i))) (18 + i) (by omega)) (cwV 1 hts gX9_digest_X3_digestedAfter rfl rfl rfl (by decide +kernel) ⟨Nat.le_of_ble_eq_true rfl, Nat.le_of_ble_eq_true rfl⟩) (xPre (q0 := (58 + 2 * (18 + i))) (ci := 3) rfl (xw_ro (18 + i) (by omega)) hK hZ hP) rfl hl.1 rfl (Nat.le_of_ble_eq_true rfl) dX9_digest_165 ⟨Nat.le_of_ble_eq_true rfl, Nat.le_of_ble_eq_true rfl⟩ (fun x_165 h_165 => ?_)
                    refine nx_tl (y := dgR (dgR (dg4 R (dg3 R (dg2 (F 0) (dg1 A (F 0) R n (tnX v) 4) A) 10) i) (R (10 + i))) (R (18 + i))) h_165 ?_
                    refine lv_lstore_n (lv' := [(1, .long (dgR (dgR (dg4 R (dg3 R (dg2 (F 0) (dg1 A (F 0) R n (tnX v) 4) A) 10) i) (R (10 + i))) (R (18 + i)))), (0, .ref (ad 0)), (3, .int (nI i))]) hx hb dX9_digest_168 rfl hl (by decide) rfl (fun ls hl => ?_)
                    refine lv_iinc (v := nI (i + 1)) (lv' := [(3, .int (nI (i + 1))), (1, .long (dgR (dgR (dg4 R (dg3 R (dg2 (F 0) (dg1 A (F 0) R n (tnX v) 4) A) 10) i) (R (10 + i))) (R (18 + i)))), (0, .ref (ad 0))]) hx hb dX9_digest_169 hl (k := 2) rfl (nI_add _ _) (by decide) rfl (fun ls hl => ?_)
                    refine lv_goto (tgt := 124) hx hb dX9_digest_172 (by decide) ?_
                    exact ih124 (i + 1) _ (by omega) (by omega) (lv_sub hl [2, 1, 0] rfl)
              exact L124 (n - 0 + 1) 0 _ (by omega) (Nat.lt_succ_self _) (by rw [show i = 10 by omega] at hl; exact lv_sub hl [1, 2, 0] rfl)
            · skip
              refine lv_aload_n hx hb dX9_digest_105 rfl (lv_at hl 0 rfl) ?_
              refine va_get (D := (dC, dI)) (ci := 9) (C := RX9) (T := TX9) (N := 14) hx hb hts hin9 hown hK hP 0 rfl rfl 1 (by decide) lk8 (fun _ h9 => h9) rfl dX9_digest_106 ?_
              refine lv_iload_n hx hb dX9_digest_109 rfl (lv_at hl 2 rfl) ?_
              refine nx_aald (C := "LeafTrees$Row") hx hb hK hP 2 3 rfl rfl (i := i) (by omega) (by decide) (show xRows ad i = some (ad (58 + 2 * i)) from if_pos (by omega)) dX9_digest_110 ?_
              refine lv_lload_n hx hb dX9_digest_111 rfl (lv_at hl 1 rfl) ?_
              refine xp_l (b := ad (58 + 2 * i)) (As := [.long (dg3 R (dg2 (F 0) (dg1 A (F 0) R n (tnX v) 4) A) i)]) (rest := []) ⟨hx, hb, hml, hown, hts⟩ (x_digestedAfter l dC dI aC ad cap v R F G (dg3 R (dg2 (F 0) (dg1 A (F 0) R n (tnX v) 4) A) i) i (by omega)) (cwV 1 hts gX9_digest_X3_digestedAfter rfl rfl rfl (by decide +kernel) ⟨Nat.le_of_ble_eq_true rfl, Nat.le_of_ble_eq_true rfl⟩) (xPre (q0 := (58 + 2 * i)) (ci := 3) rfl (xw_ro i (by omega)) hK hZ hP) rfl hl.1 rfl (Nat.le_of_ble_eq_true rfl) dX9_digest_112 ⟨Nat.le_of_ble_eq_true rfl, Nat.le_of_ble_eq_true rfl⟩ (fun x_112 h_112 => ?_)
              refine nx_tl (y := dgR (dg3 R (dg2 (F 0) (dg1 A (F 0) R n (tnX v) 4) A) i) (R i)) h_112 ?_
              refine lv_lstore_n (lv' := [(1, .long (dgR (dg3 R (dg2 (F 0) (dg1 A (F 0) R n (tnX v) 4) A) i) (R i))), (0, .ref (ad 0)), (3, .int (nI i))]) hx hb dX9_digest_115 rfl hl (by decide) rfl (fun ls hl => ?_)
              refine lv_iinc (v := nI (i + 1)) (lv' := [(3, .int (nI (i + 1))), (1, .long (dgR (dg3 R (dg2 (F 0) (dg1 A (F 0) R n (tnX v) 4) A) i) (R i))), (0, .ref (ad 0))]) hx hb dX9_digest_116 hl (k := 2) rfl (nI_add _ _) (by decide) rfl (fun ls hl => ?_)
              refine lv_goto (tgt := 99) hx hb dX9_digest_119 (by decide) ?_
              exact ih99 (i + 1) _ (by omega) (by omega) (lv_sub hl [2, 1, 0] rfl)
        exact L99 (10 - 0 + 1) 0 _ (by omega) (Nat.lt_succ_self _) (by rw [show i = A by omega] at hl; exact lv_sub hl [1, 2, 0] rfl)
      · skip
        refine lv_ldc2 hx hb hown lk1 dX9_digest_74 ?_
        refine lv_lload_n hx hb dX9_digest_77 rfl (lv_at hl 1 rfl) ?_
        refine lv_lmul hx hb dX9_digest_78 ?_
        refine lv_aload_n hx hb dX9_digest_79 rfl (lv_at hl 0 rfl) ?_
        refine va_get (D := (dC, dI)) (ci := 9) (C := RX9) (T := TX9) (N := 14) hx hb hts hin9 hown hK hP 0 rfl rfl 0 (by decide) lk2 (fun _ h9 => h9) rfl dX9_digest_80 ?_
        refine va_get (D := (dC, dI)) (ci := 8) (C := RX8) (T := TX8) (N := 4) hx hb hts hin8 hown hK hP 1 rfl rfl 0 (by decide) lk9 (fun _ h9 => h9) rfl dX9_digest_83 ?_
        refine lv_iload_n hx hb dX9_digest_86 rfl (lv_at hl 2 rfl) ?_
        refine nx_iald hx hb hK hP 10 0 rfl rfl (i := i) (by omega) (by decide) dX9_digest_87 ?_
        refine lv_i2l hx hb dX9_digest_88 rfl ?_
        refine lv_ladd hx hb dX9_digest_89 ?_
        refine lv_lstore_n (lv' := [(1, .long (((31) * (dg2 (F 0) (dg1 A (F 0) R n (tnX v) 4) i)) + (F 0 i).toInt64)), (0, .ref (ad 0)), (3, .int (nI i))]) hx hb dX9_digest_90 rfl hl (by decide) rfl (fun ls hl => ?_)
        refine lv_iinc (v := nI (i + 1)) (lv' := [(3, .int (nI (i + 1))), (1, .long (((31) * (dg2 (F 0) (dg1 A (F 0) R n (tnX v) 4) i)) + (F 0 i).toInt64)), (0, .ref (ad 0))]) hx hb dX9_digest_91 hl (k := 2) rfl (nI_add _ _) (by decide) rfl (fun ls hl => ?_)
        refine lv_goto (tgt := 63) hx hb dX9_digest_94 (by decide) ?_
        exact ih63 (i + 1) _ (by omega) (by omega) (lv_sub hl [2, 1, 0] rfl)
  exact L63 (A - 0 + 1) 0 _ (by omega) (Nat.lt_succ_self _) (lv_sub hl [2, 1, 0] rfl)
