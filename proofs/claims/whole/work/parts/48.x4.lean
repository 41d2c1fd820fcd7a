set_option maxHeartbeats 1000000 in
set_option maxRecDepth 100000 in
/-- Rewriter.fits -/
theorem x_fits (l : Launch) (dC : Nat → ClassId) (dI : Nat → Nat → Nat) (aC : Nat → ClassId) (ad cap : Nat → Nat) (hI : xI ad) (v : Nat → Int32) (R : Nat → List Int32) (F : Nat → Nat → Int32) (G : Nat → Nat → Int64) (k1 : Nat) (hk1 : k1 < 31) (r : Nat) (hr : r < 31) (pl : Nat) (hpl : pl ≤ (R r).length) (hT : isT (F 0) (R r)) (hf : eFr (F 0) (R r) (F 2) 0) : Met l yX2_fits wsX2_fits ({ frames := 0, cells := 0, slots := 0, locals := 0 } : Room) (va_Pc [.ref (ad 4), .ref (ad (58 + 2 * k1)), .ref (ad (58 + 2 * r)), .int (nI pl)] (XB dC dI aC ad cap (v, R, F, G))) (va_Qi (fun (x : Int32) (u : MS) => ∃ c1, (v, R, va_up F 3 c1, G) = u ∧ x = bI ((mt (F 0) (R k1) (R r) pl).isSome = true) ∧ ∀ q ac, mt (F 0) (R k1) (R r) pl = some (q, ac) → xH c1 ac) (XB dC dI aC ad cap) (xA ad)) 0 0 (xA ad) := by
  refine Met.ofW (cc := cX2_fits) (maxL := 7) (ret := (some .boolean)) (by decide) rfl ?_
  intro p e s m args below meth c s₁ B hml hv
  obtain ⟨rfl, hK, Z, S, hZ, hP⟩ := hv
  have hx := B.exec
  have hb := B.bytes
  have hret := B.returns
  have hts := atoms_spec (ws := wsX2_fits) B.pre
  have hown : s.vm.findClass RX2 = some m.cls := findClass_of_methodNamed B.named
  have hlocks := B.notSynchronized
  dsimp only at hZ hP
  have lk0 := hts (.fieldLink RX2 39 "LeafTrees$Row" "length" "I") (by decide +kernel)
  have lk1 := hts (.fieldLink RX2 57 "LeafTrees$Row" "symbols" "[I") (by decide +kernel)
  have lk2 := hts (.fieldLink RX2 18 "LeafTrees$Rewriter" "caught" "[I") (by decide +kernel)
  have lk3 := hts (.fieldLink RX2 12 "LeafTrees$Rewriter" "shape" "LLeafTrees$Shape;") (by decide +kernel)
  have lk4 := hts (.fieldLink RX2 105 "LeafTrees$Shape" "ends" "[I") (by decide +kernel)
  have hin2 : ∀ w ∈ u_ws RX2 TX2 5, w ∈ wsX2_fits := by decide +kernel
  have hin3 : ∀ w ∈ u_ws RX3 TX3 2, w ∈ wsX2_fits := by decide +kernel
  have hin6 : ∀ w ∈ u_ws RX6 TX6 1, w ∈ wsX2_fits := by decide +kernel
  have hS : va_S (xA ad) s.heap s.heap [] := va_S.rf
  have hl := lv_entry [.ref (ad 4), .ref (ad (58 + 2 * k1)), .ref (ad (58 + 2 * r)), .int (nI pl)] (n := 7) (Nat.le_of_ble_eq_true rfl)
  rw [lg_entry_eq]
  generalize (lg_sl [.ref (ad 4), .ref (ad (58 + 2 * k1)), .ref (ad (58 + 2 * r)), .int (nI pl)] ++ List.replicate (7 - (lg_sl [.ref (ad 4), .ref (ad (58 + 2 * k1)), .ref (ad (58 + 2 * r)), .int (nI pl)]).length) Slot.unset).toArray = ls at hl ⊢
  have hl : lv_has ls 7 [(0, .ref (ad 4)), (1, .ref (ad (58 + 2 * k1))), (2, .ref (ad (58 + 2 * r))), (3, .int (nI pl))] := hl
  refine nx_Q (R := ({ frames := 0, cells := 0, slots := 0, locals := 0 } : Room)) (fun Q hQ => ?_)
  have hl1 := (hZ k1 hk1).1
  have hl2 := (hZ r hr).1
  refine lv_iload_n hx hb dX2_fits_0 rfl (lv_at hl 3 rfl) ?_
  refine lv_istore (lv' := [(4, .int (nI pl)), (0, .ref (ad 4)), (1, .ref (ad (58 + 2 * k1))), (2, .ref (ad (58 + 2 * r))), (3, .int (nI pl))]) hx hb dX2_fits_1 hl (by decide) rfl (fun ls hl => ?_)
  refine lv_iconst (v := nI 0) hx hb dX2_fits_3 (by decide) ?_
  refine lv_istore (lv' := [(5, .int (nI 0)), (4, .int (nI pl)), (0, .ref (ad 4)), (1, .ref (ad (58 + 2 * k1))), (2, .ref (ad (58 + 2 * r))), (3, .int (nI pl))]) hx hb dX2_fits_4 hl (by decide) rfl (fun ls hl => ?_)
  refine lv_iconst (v := nI 0) hx hb dX2_fits_6 (by decide) ?_
  refine lv_istore (lv' := [(6, .int (nI 0)), (5, .int (nI 0)), (4, .int (nI pl)), (0, .ref (ad 4)), (1, .ref (ad (58 + 2 * k1))), (2, .ref (ad (58 + 2 * r))), (3, .int (nI pl))]) hx hb dX2_fits_7 hl (by decide) rfl (fun ls hl => ?_)
  have L9 : ∀ (fuel9 : Nat) (i : Nat) (j : Nat) (ac : List (Nat × Nat)) (c1 : Nat → Int32) (Z : Nat → Int32) (S : Nat → Nat → Int32) (H : Heap) (locs : List Loc) (ls : Array Slot), (i ≤ (R k1).length) → (j ≤ (R r).length) → (ac.length = cF (gD (R k1)) i) → (xH c1 ac) → (mtF (F 0) (R r) (gD (R k1)) ((R k1).length - i) i j ac = mt (F 0) (R k1) (R r) pl) → xOK Z S R → va_P (dC, dI) vwCl (wsX aC ad cap v Z S (va_up F 3 c1) G) H → va_S (xA ad) s.heap H locs → 60 - i < fuel9 → lv_has ls 7 [(0, .ref (ad 4)), (1, .ref (ad (58 + 2 * k1))), (2, .ref (ad (58 + 2 * r))), (4, .int (nI j)), (5, .int (nI (cF (gD (R k1)) i))), (6, .int (nI i))] → W p l e ({ frames := 0, cells := 0, slots := 0, locals := 0 } : Room) s m ([.ref (ad 4), .ref (ad (58 + 2 * k1)), .ref (ad (58 + 2 * r)), .int (nI pl)] : List Value).toArray below meth c H locs 0 0 Q (F0 m 9 ls []) := by
    intro fuel9
    induction fuel9 with
    | zero => intro i j ac c1 Z S H locs ls hi hj hac hH hres hZ hP hS hf9 hl; exact absurd hf9 (Nat.not_lt_zero _)
    | succ fuel9 ih9 =>
      intro i j ac c1 Z S H locs ls hi hj hac hH hres hZ hP hS hf9 hl
      refine lv_iload hx hb dX2_fits_9 (lv_at hl 5 rfl) ?_
      refine lv_aload_n hx hb dX2_fits_11 rfl (lv_at hl 1 rfl) ?_
      refine va_get (D := (dC, dI)) (ci := 3) (C := RX3) (T := TX3) (N := 2) hx hb hts hin3 hown hK hP (58 + 2 * k1) (xw_ro k1 (by omega)) rfl 1 (by decide) lk0 (fun _ h9 => h9) rfl dX2_fits_12 ?_
      refine nx_ti (y := nI (R k1).length) ((hZ k1 (by omega)).2.1) ?_
      refine nx_icmp_ge (a := i) (b := (R k1).length) (tgt := 98) hx hb dX2_fits_15 (by decide) (by omega) (by omega) (fun c_15 => ?_) (fun c_15 => ?_)
      · skip
        refine lv_iconst (v := nI 1) hx hb dX2_fits_98 (by decide) ?_
        subst hQ
        exact W.zret (v := nI 1) hx hb hret (rfl) (fun tq htq hWq => ⟨⟨_, (v, R, (va_up F 3 c1), G), rfl, ⟨_, rfl, (bI_t (by rw [← hres, mtF_0 c_15]; rfl)).symm, fun q a h => by rw [← hres, mtF_0 c_15] at h; cases h; exact hH⟩, va_K.moved hWq.alike hK, _, _, hZ, by rw [htq]; exact hP⟩, hS.F htq⟩) hS.2.2 dX2_fits_99
      · skip
        refine lv_iload hx hb dX2_fits_18 (lv_at hl 3 rfl) ?_
        refine lv_aload_n hx hb dX2_fits_20 rfl (lv_at hl 2 rfl) ?_
        refine va_get (D := (dC, dI)) (ci := 3) (C := RX3) (T := TX3) (N := 2) hx hb hts hin3 hown hK hP (58 + 2 * r) (xw_ro r (by omega)) rfl 1 (by decide) lk0 (fun _ h9 => h9) rfl dX2_fits_21 ?_
        refine nx_ti (y := nI (R r).length) ((hZ r (by omega)).2.1) ?_
        refine nx_icmp_lt (a := j) (b := (R r).length) (tgt := 29) hx hb dX2_fits_24 (by decide) (by omega) (by omega) (fun c_24 => ?_) (fun c_24 => ?_)
        · skip
          obtain ⟨qe, hqe, hqe1, hqe2⟩ := isT_end hT c_24
          refine lv_aload_n hx hb dX2_fits_29 rfl (lv_at hl 1 rfl) ?_
          refine va_get (D := (dC, dI)) (ci := 3) (C := RX3) (T := TX3) (N := 2) hx hb hts hin3 hown hK hP (58 + 2 * k1) (xw_ro k1 (by omega)) rfl 0 (by decide) lk1 (fun _ h9 => h9) rfl dX2_fits_30 ?_
          refine lv_iload hx hb dX2_fits_33 (lv_at hl 5 rfl) ?_
          refine nx_iald hx hb hK hP (59 + 2 * k1) 0 (xw_ra k1 (by omega)) rfl (i := i) (by have := (hZ k1 (by omega)).1; omega) (by decide) dX2_fits_35 ?_
          refine nx_ti (y := gD (R k1) i) ((hZ k1 (by omega)).2.2 i (by omega)) ?_
          refine lv_iconst (v := (-1)) hx hb dX2_fits_36 (by decide) ?_
          refine lv_icmp_ne (tgt := 67) hx hb dX2_fits_37 (by decide) (fun c_37 => ?_) (fun c_37 => ?_)
          · skip
            refine lv_aload_n hx hb dX2_fits_67 rfl (lv_at hl 1 rfl) ?_
            refine va_get (D := (dC, dI)) (ci := 3) (C := RX3) (T := TX3) (N := 2) hx hb hts hin3 hown hK hP (58 + 2 * k1) (xw_ro k1 (by omega)) rfl 0 (by decide) lk1 (fun _ h9 => h9) rfl dX2_fits_68 ?_
            refine lv_iload hx hb dX2_fits_71 (lv_at hl 5 rfl) ?_
            refine nx_iald hx hb hK hP (59 + 2 * k1) 0 (xw_ra k1 (by omega)) rfl (i := i) (by have := (hZ k1 (by omega)).1; omega) (by decide) dX2_fits_73 ?_
            refine nx_ti (y := gD (R k1) i) ((hZ k1 (by omega)).2.2 i (by omega)) ?_
            refine lv_aload_n hx hb dX2_fits_74 rfl (lv_at hl 2 rfl) ?_
            refine va_get (D := (dC, dI)) (ci := 3) (C := RX3) (T := TX3) (N := 2) hx hb hts hin3 hown hK hP (58 + 2 * r) (xw_ro r (by omega)) rfl 0 (by decide) lk1 (fun _ h9 => h9) rfl dX2_fits_75 ?_
            refine lv_iload hx hb dX2_fits_78 (lv_at hl 3 rfl) ?_
            refine nx_iald hx hb hK hP (59 + 2 * r) 0 (xw_ra r (by omega)) rfl (i := j) (by have := (hZ r (by omega)).1; omega) (by decide) dX2_fits_80 ?_
            refine nx_ti (y := gD (R r) j) ((hZ r (by omega)).2.2 j (by omega)) ?_
            refine lv_icmp_ne (tgt := 90) hx hb dX2_fits_81 (by decide) (fun c_81 => ?_) (fun c_81 => ?_)
            · skip
              refine lv_iconst (v := nI 0) hx hb dX2_fits_90 (by decide) ?_
              subst hQ
              exact W.zret (v := nI 0) hx hb hret (rfl) (fun tq htq hWq => ⟨⟨_, (v, R, (va_up F 3 c1), G), rfl, ⟨_, rfl, (bI_f (by rw [← hres, mtF_ne c_15 c_24 c_37 (fun h => c_81 h.symm)]; decide)).symm, fun q a h => by rw [← hres, mtF_ne c_15 c_24 c_37 (fun h => c_81 h.symm)] at h; cases h⟩, va_K.moved hWq.alike hK, _, _, hZ, by rw [htq]; exact hP⟩, hS.F htq⟩) hS.2.2 dX2_fits_91
            · skip
              refine lv_iinc (v := nI (j + 1)) (lv' := [(4, .int (nI (j + 1))), (0, .ref (ad 4)), (1, .ref (ad (58 + 2 * k1))), (2, .ref (ad (58 + 2 * r))), (5, .int (nI (cF (gD (R k1)) i))), (6, .int (nI i))]) hx hb dX2_fits_84 hl (k := 3) rfl (nI_add _ _) (by decide) rfl (fun ls hl => ?_)
              refine lv_goto (tgt := 92) hx hb dX2_fits_87 (by decide) ?_
              refine lv_iinc (v := nI (i + 1)) (lv' := [(6, .int (nI (i + 1))), (4, .int (nI (j + 1))), (0, .ref (ad 4)), (1, .ref (ad (58 + 2 * k1))), (2, .ref (ad (58 + 2 * r))), (5, .int (nI (cF (gD (R k1)) i)))]) hx hb dX2_fits_92 hl (k := 5) rfl (nI_add _ _) (by decide) rfl (fun ls hl => ?_)
              refine lv_goto (tgt := 9) hx hb dX2_fits_95 (by decide) ?_
              exact ih9 (i + 1) (j + 1) ac c1 _ _ _ _ _ (by omega) c_24 (by rw [hac, cF_f c_37]) hH ((mtF_eq c_15 c_24 c_37 c_81.symm).symm.trans hres) hZ hP hS (by omega) (by rw [cF_f c_37]; exact lv_sub hl [2, 3, 4, 1, 5, 0] rfl)
          · skip
            refine lv_aload_n hx hb dX2_fits_40 rfl (lv_at hl 0 rfl) ?_
            refine va_get (D := (dC, dI)) (ci := 2) (C := RX2) (T := TX2) (N := 5) hx hb hts hin2 hown hK hP 4 rfl rfl 1 (by decide) lk2 (fun _ h9 => h9) rfl dX2_fits_41 ?_
            refine lv_iload hx hb dX2_fits_44 (lv_at hl 4 rfl) ?_
            refine lv_iload hx hb dX2_fits_46 (lv_at hl 3 rfl) ?_
            refine nx_iast hx hb hK hP (wsX_D hI) hS 14 0 rfl rfl (i := cF (gD (R k1)) i) (by have := cF_le (gD (R k1)) i; omega) (by decide) dX2_fits_48 (fun H locs hP hS => ?_)
            have hP : va_P (dC, dI) vwCl (wsX aC ad cap v Z S (va_up F 3 (upd c1 (cF (gD (R k1)) i) (nI j))) G) H := hP
            refine lv_iinc (v := nI (cF (gD (R k1)) i + 1)) (lv' := [(5, .int (nI (cF (gD (R k1)) i + 1))), (0, .ref (ad 4)), (1, .ref (ad (58 + 2 * k1))), (2, .ref (ad (58 + 2 * r))), (4, .int (nI j)), (6, .int (nI i))]) hx hb dX2_fits_49 hl (k := 4) rfl (nI_add _ _) (by decide) rfl (fun ls hl => ?_)
            refine lv_aload_n hx hb dX2_fits_52 rfl (lv_at hl 1 rfl) ?_
            refine va_get (D := (dC, dI)) (ci := 2) (C := RX2) (T := TX2) (N := 5) hx hb hts hin2 hown hK hP 4 rfl rfl 0 (by decide) lk3 (fun _ h9 => h9) rfl dX2_fits_53 ?_
            refine va_get (D := (dC, dI)) (ci := 6) (C := RX6) (T := TX6) (N := 1) hx hb hts hin6 hown hK hP 13 rfl rfl 0 (by decide) lk4 (fun _ h9 => h9) rfl dX2_fits_56 ?_
            refine lv_iload hx hb dX2_fits_59 (lv_at hl 4 rfl) ?_
            refine nx_iald hx hb hK hP 24 0 rfl rfl (i := j) (by omega) (by decide) dX2_fits_61 ?_
            refine nx_ti (y := nI qe) (hf j (Nat.zero_le _) c_24 qe hqe) ?_
            refine lv_istore (lv' := [(4, .int (nI qe)), (5, .int (nI (cF (gD (R k1)) i + 1))), (0, .ref (ad 4)), (1, .ref (ad (58 + 2 * k1))), (2, .ref (ad (58 + 2 * r))), (6, .int (nI i))]) hx hb dX2_fits_62 hl (by decide) rfl (fun ls hl => ?_)
            refine lv_goto (tgt := 92) hx hb dX2_fits_64 (by decide) ?_
            refine lv_iinc (v := nI (i + 1)) (lv' := [(6, .int (nI (i + 1))), (4, .int (nI qe)), (5, .int (nI (cF (gD (R k1)) i + 1))), (0, .ref (ad 4)), (1, .ref (ad (58 + 2 * k1))), (2, .ref (ad (58 + 2 * r)))]) hx hb dX2_fits_92 hl (k := 5) rfl (nI_add _ _) (by decide) rfl (fun ls hl => ?_)
            refine lv_goto (tgt := 9) hx hb dX2_fits_95 (by decide) ?_
            exact ih9 (i + 1) qe (ac ++ [(j, qe)]) (upd c1 (cF (gD (R k1)) i) (nI j)) _ _ _ _ _ (by omega) hqe2 (by rw [List.length_append, List.length_singleton, hac, cF_t c_37]) (by rw [← hac]; exact xH_snoc hH j qe) ((mtF_lf c_15 c_24 c_37 hqe).symm.trans hres) hZ hP hS (by omega) (by rw [cF_t c_37]; exact lv_sub hl [3, 4, 5, 1, 2, 0] rfl)
        · skip
          refine lv_iconst (v := nI 0) hx hb dX2_fits_27 (by decide) ?_
          subst hQ
          exact W.zret (v := nI 0) hx hb hret (rfl) (fun tq htq hWq => ⟨⟨_, (v, R, (va_up F 3 c1), G), rfl, ⟨_, rfl, (bI_f (by rw [← hres, mtF_out c_15 (by omega)]; decide)).symm, fun q a h => by rw [← hres, mtF_out c_15 (by omega)] at h; cases h⟩, va_K.moved hWq.alike hK, _, _, hZ, by rw [htq]; exact hP⟩, hS.F htq⟩) hS.2.2 dX2_fits_28
  exact L9 (60 - 0 + 1) 0 pl [] (F 3) _ _ _ _ _ (by omega) (by omega) rfl (fun i h => absurd h (Nat.not_lt_zero i)) rfl hZ (by rw [up_eta]; exact hP) hS (Nat.lt_succ_self _) (lv_sub hl [3, 4, 5, 2, 1, 0] rfl)

set_option maxHeartbeats 1000000 in
set_option maxRecDepth 100000 in
/-- Rewriter.replace -/
theorem x_replace (l : Launch) (dC : Nat → ClassId) (dI : Nat → Nat → Nat) (aC : Nat → ClassId) (ad cap : Nat → Nat) (hI : xI ad) (v : Nat → Int32) (R : Nat → List Int32) (F : Nat → Nat → Int32) (G : Nat → Nat → Int64) (k : Nat) (hk : k < 8) (r : Nat) (hr : r < 31) (hne : r ≠ 28) (pl q : Nat) (hpl : pl < (R r).length) (ac : List (Nat × Nat)) (hac : acOK (R r).length ac) (hacE : acE (F 0) (R r) ac) (hH : xH (F 3) ac) (hf : eFr (F 0) (R r) (F 2) 0) (hq : endL (F 0) (R r) pl = some q) (hn0 : v (17 + k) = 0 → ac.length = lvs (R (18 + k))) (hac60 : ac.length ≤ 60) : Met l yX2_replace wsX2_replace ({ frames := 2, cells := 0, slots := 0, locals := 63 } : Room) (va_Pc [.ref (ad 4), .ref (ad (50 + k)), .ref (ad (58 + 2 * r)), .int (nI pl)] (XB dC dI aC ad cap (v, R, F, G))) (va_Qi (fun (x : Int32) (u : MS) => ∃ M, (v, va_up (va_up R 28 M) r (useL R (tnX v) (R r) pl k q ac).2, F, G) = u ∧ x = (useL R (tnX v) (R r) pl k q ac).1) (XB dC dI aC ad cap) (xA ad)) 0 0 (xA ad) := by
  refine Met.ofW (cc := cX2_replace) (maxL := 8) (ret := (some .int)) (by decide) rfl ?_
  intro p e s m args below meth c s₁ B hml hv
  obtain ⟨rfl, hK, Z, S, hZ, hP⟩ := hv
  have hx := B.exec
  have hb := B.bytes
  have hret := B.returns
  have hts := atoms_spec (ws := wsX2_replace) B.pre
  have hown : s.vm.findClass RX2 = some m.cls := findClass_of_methodNamed B.named
  have hlocks := B.notSynchronized
  dsimp only at hZ hP
  have lk0 := hts (.fieldLink RX2 108 "LeafTrees$Rule" "toNothing" "Z") (by decide +kernel)
  have lk1 := hts (.fieldLink RX2 25 "LeafTrees$Rewriter" "made" "LLeafTrees$Row;") (by decide +kernel)
  have lk2 := hts (.fieldLink RX2 119 "LeafTrees$Rule" "right" "LLeafTrees$Row;") (by decide +kernel)
  have lk3 := hts (.fieldLink RX2 39 "LeafTrees$Row" "length" "I") (by decide +kernel)
  have lk4 := hts (.fieldLink RX2 12 "LeafTrees$Rewriter" "shape" "LLeafTrees$Shape;") (by decide +kernel)
  have lk5 := hts (.fieldLink RX2 105 "LeafTrees$Shape" "ends" "[I") (by decide +kernel)
  have lk6 := hts (.fieldLink RX2 57 "LeafTrees$Row" "symbols" "[I") (by decide +kernel)
  have lk7 := hts (.fieldLink RX2 18 "LeafTrees$Rewriter" "caught" "[I") (by decide +kernel)
  have hin2 : ∀ w ∈ u_ws RX2 TX2 5, w ∈ wsX2_replace := by decide +kernel
  have hin3 : ∀ w ∈ u_ws RX3 TX3 2, w ∈ wsX2_replace := by decide +kernel
  have hin4 : ∀ w ∈ u_ws RX4 TX4 3, w ∈ wsX2_replace := by decide +kernel
  have hin6 : ∀ w ∈ u_ws RX6 TX6 1, w ∈ wsX2_replace := by decide +kernel
  have hS : va_S (xA ad) s.heap s.heap [] := va_S.rf
  have hl := lv_entry [.ref (ad 4), .ref (ad (50 + k)), .ref (ad (58 + 2 * r)), .int (nI pl)] (n := 8) (Nat.le_of_ble_eq_true rfl)
  rw [lg_entry_eq]
  generalize (lg_sl [.ref (ad 4), .ref (ad (50 + k)), .ref (ad (58 + 2 * r)), .int (nI pl)] ++ List.replicate (8 - (lg_sl [.ref (ad 4), .ref (ad (50 + k)), .ref (ad (58 + 2 * r)), .int (nI pl)]).length) Slot.unset).toArray = ls at hl ⊢
  have hl : lv_has ls 8 [(0, .ref (ad 4)), (1, .ref (ad (50 + k))), (2, .ref (ad (58 + 2 * r))), (3, .int (nI pl))] := hl
  refine nx_Q (R := ({ frames := 2, cells := 0, slots := 0, locals := 63 } : Room)) (fun Q hQ => ?_)
  have hl1 := (hZ (18 + k) (by omega)).1
  have hl2 := (hZ r hr).1
  have hq2 := endL_le (Nat.le_of_lt hpl) hq
  refine lv_aload_n hx hb dX2_replace_0 rfl (lv_at hl 1 rfl) ?_
  refine va_get (D := (dC, dI)) (ci := 4) (C := RX4) (T := TX4) (N := 3) hx hb hts hin4 hown hK hP (50 + k) (xw_ru k (by omega)) rfl 2 (by decide) lk0 (fun _ h9 => h9) rfl dX2_replace_1 ?_
  refine nx_ti (y := tnX v k) (rfl) ?_
  refine lv_if_eq (tgt := 13) hx hb dX2_replace_4 (by decide) (fun c_4 => ?_) (fun c_4 => ?_)
  · skip
    refine lv_aload_n hx hb dX2_replace_13 rfl (lv_at hl 0 rfl) ?_
    refine va_get (D := (dC, dI)) (ci := 2) (C := RX2) (T := TX2) (N := 5) hx hb hts hin2 hown hK hP 4 rfl rfl 2 (by decide) lk1 (fun _ h9 => h9) rfl dX2_replace_14 ?_
    refine xc_v (b := ad 114) (As := []) (rest := []) ⟨hx, hb, hml, hown, hts⟩ (x_clear l dC dI aC ad cap hI v R F G 28 (by decide)) (cwV 0 hts gX2_replace_X3_clear rfl rfl rfl (by decide +kernel) ⟨Nat.le_of_ble_eq_true rfl, Nat.le_of_ble_eq_true rfl⟩) (xPre (q0 := 114) (ci := 3) rfl rfl hK hZ hP) hS rfl hl.1 rfl (Nat.le_of_ble_eq_true rfl) dX2_replace_17 ⟨Nat.le_of_ble_eq_true rfl, Nat.le_of_ble_eq_true rfl⟩ (fun v1 R1 F1 G1 Z S H locs h_17 hZ hP hS => ?_)
    cases h_17
    refine lv_aload_n hx hb dX2_replace_20 rfl (lv_at hl 0 rfl) ?_
    refine va_get (D := (dC, dI)) (ci := 2) (C := RX2) (T := TX2) (N := 5) hx hb hts hin2 hown hK hP 4 rfl rfl 2 (by decide) lk1 (fun _ h9 => h9) rfl dX2_replace_21 ?_
    refine lv_aload_n hx hb dX2_replace_24 rfl (lv_at hl 2 rfl) ?_
    refine lv_iconst (v := nI 0) hx hb dX2_replace_25 (by decide) ?_
    refine lv_iload_n hx hb dX2_replace_26 rfl (lv_at hl 3 rfl) ?_
    refine xc_i (b := ad 114) (As := [.ref (ad (58 + 2 * r)), .int (nI 0), .int (nI pl)]) (rest := []) ⟨hx, hb, hml, hown, hts⟩ (x_addPart l dC dI aC ad cap hI v (va_up R 28 []) F G 28 (by decide) r hr 0 pl (by omega) (by rw [upn hne]; omega)) (cwV 3 hts gX2_replace_X3_addPart rfl rfl rfl (by decide +kernel) ⟨Nat.le_of_ble_eq_true rfl, Nat.le_of_ble_eq_true rfl⟩) (xPre (q0 := 114) (ci := 3) rfl rfl hK hZ hP) hS rfl hl.1 rfl (Nat.le_of_ble_eq_true rfl) dX2_replace_27 ⟨Nat.le_of_ble_eq_true rfl, Nat.le_of_ble_eq_true rfl⟩ (fun x_27 v2 R2 F2 G2 Z S H locs h_27 hZ hP hS => ?_)
    obtain ⟨M_3, hu_27, hx_27, hM_27⟩ := adds_u (R0 := R) (M := []) (to := 28) (fr := r) hne h_27
    subst hx_27
    cases hu_27
    refine nx_ti (y := bI ((preF (R r) pl ac (gD (R (18 + k))) 0).length ≤ 60)) (bI_iff (by rw [preF, exF, List.append_nil, slc_len (by omega)]; show 0 + _ ≤ 60 ↔ _; omega)) ?_
    refine lv_istore (lv' := [(4, .int (bI ((preF (R r) pl ac (gD (R (18 + k))) 0).length ≤ 60))), (0, .ref (ad 4)), (1, .ref (ad (50 + k))), (2, .ref (ad (58 + 2 * r))), (3, .int (nI pl))]) hx hb dX2_replace_30 hl (by decide) rfl (fun ls hl => ?_)
    refine lv_iconst (v := nI 0) hx hb dX2_replace_32 (by decide) ?_
    refine lv_istore (lv' := [(5, .int (nI 0)), (4, .int (bI ((preF (R r) pl ac (gD (R (18 + k))) 0).length ≤ 60))), (0, .ref (ad 4)), (1, .ref (ad (50 + k))), (2, .ref (ad (58 + 2 * r))), (3, .int (nI pl))]) hx hb dX2_replace_33 hl (by decide) rfl (fun ls hl => ?_)
    refine lv_iconst (v := nI 0) hx hb dX2_replace_35 (by decide) ?_
    refine lv_istore (lv' := [(6, .int (nI 0)), (5, .int (nI 0)), (4, .int (bI ((preF (R r) pl ac (gD (R (18 + k))) 0).length ≤ 60))), (0, .ref (ad 4)), (1, .ref (ad (50 + k))), (2, .ref (ad (58 + 2 * r))), (3, .int (nI pl))]) hx hb dX2_replace_36 hl (by decide) rfl (fun ls hl => ?_)
    have L38 : ∀ (fuel38 : Nat) (i : Nat) (M : List Int32) (Z : Nat → Int32) (S : Nat → Nat → Int32) (H : Heap) (locs : List Loc) (ls : Array Slot), (i ≤ (R (18 + k)).length) → ((preF (R r) pl ac (gD (R (18 + k))) i).length ≤ 60 → M = (preF (R r) pl ac (gD (R (18 + k))) i)) → xOK Z S (va_up R 28 M) → va_P (dC, dI) vwCl (wsX aC ad cap v Z S F G) H → va_S (xA ad) s.heap H locs → 60 - i < fuel38 → lv_has ls 8 [(0, .ref (ad 4)), (1, .ref (ad (50 + k))), (2, .ref (ad (58 + 2 * r))), (3, .int (nI pl)), (4, .int (bI ((preF (R r) pl ac (gD (R (18 + k))) i).length ≤ 60))), (5, .int (nI (cF (gD (R (18 + k))) i))), (6, .int (nI i))] → W p l e ({ frames := 2, cells := 0, slots := 0, locals := 63 } : Room) s m ([.ref (ad 4), .ref (ad (50 + k)), .ref (ad (58 + 2 * r)), .int (nI pl)] : List Value).toArray below meth c H locs 0 0 Q (F0 m 38 ls []) := by
      intro fuel38
      induction fuel38 with
      | zero => intro i M Z S H locs ls hi hM hZ hP hS hf38 hl; exact absurd hf38 (Nat.not_lt_zero _)
      | succ fuel38 ih38 =>
        intro i M Z S H locs ls hi hM hZ hP hS hf38 hl
        refine lv_iload hx hb dX2_replace_38 (lv_at hl 6 rfl) ?_
        refine lv_aload_n hx hb dX2_replace_40 rfl (lv_at hl 1 rfl) ?_
        refine va_get (D := (dC, dI)) (ci := 4) (C := RX4) (T := TX4) (N := 3) hx hb hts hin4 hown hK hP (50 + k) (xw_ru k (by omega)) rfl 1 (by decide) lk2 (fun _ h9 => h9) rfl dX2_replace_41 ?_
        refine va_get (D := (dC, dI)) (ci := 3) (C := RX3) (T := TX3) (N := 2) hx hb hts hin3 hown hK hP (58 + 2 * (18 + k)) (xw_ro (18 + k) (by omega)) rfl 1 (by decide) lk3 (fun _ h9 => h9) rfl dX2_replace_44 ?_
        refine nx_ti (y := nI ((va_up R 28 M) (18 + k)).length) ((hZ (18 + k) (by omega)).2.1) ?_
        refine nx_ti (y := nI (R (18 + k)).length) (by rw [upn (show 18 + k ≠ 28 by omega)]) ?_
        refine nx_icmp_ge (a := i) (b := (R (18 + k)).length) (tgt := 128) hx hb dX2_replace_47 (by decide) (by omega) (by omega) (fun c_47 => ?_) (fun c_47 => ?_)
        · skip
          refine lv_iload hx hb dX2_replace_128 (lv_at hl 4 rfl) ?_
          refine nx_bz (tgt := 157) hx hb dX2_replace_130 (by decide) (fun c_130 => ?_) (fun c_130 => ?_)
          · skip
            refine lv_bipush (v := (-5)) hx hb dX2_replace_157 (by decide) ?_
            subst hQ
            exact W.iret (v := (-5)) hx hb hret (fun tq htq hWq => ⟨⟨_, (v, va_up R 28 M, F, G), rfl, ⟨_, by rw [useL, if_neg (fun h => h c_4), if_neg (by have := preF_mono (t := R r) (p := pl) (ac := ac) (g := gD (R (18 + k))) i ((R (18 + k)).length - i); rw [show i + ((R (18 + k)).length - i) = (R (18 + k)).length by omega] at this; rw [rplL, List.length_append]; have h9 : ¬ (preF (R r) pl ac (gD (R (18 + k))) i).length ≤ 60 := c_130; omega), up_back hne], by rw [useL, if_neg (fun h => h c_4), if_neg (by have := preF_mono (t := R r) (p := pl) (ac := ac) (g := gD (R (18 + k))) i ((R (18 + k)).length - i); rw [show i + ((R (18 + k)).length - i) = (R (18 + k)).length by omega] at this; rw [rplL, List.length_append]; have h9 : ¬ (preF (R r) pl ac (gD (R (18 + k))) i).length ≤ 60 := c_130; omega)]⟩, va_K.moved hWq.alike hK, _, _, hZ, by rw [htq]; exact hP⟩, hS.F htq⟩) hS.2.2 dX2_replace_159
          · skip
            have hMM := hM c_130
            have hii : i = (R (18 + k)).length := by omega
            have hM60 : (preF (R r) pl ac (gD (R (18 + k))) i).length ≤ 60 := c_130
            refine lv_aload_n hx hb dX2_replace_133 rfl (lv_at hl 0 rfl) ?_
            refine va_get (D := (dC, dI)) (ci := 2) (C := RX2) (T := TX2) (N := 5) hx hb hts hin2 hown hK hP 4 rfl rfl 2 (by decide) lk1 (fun _ h9 => h9) rfl dX2_replace_134 ?_
            refine lv_aload_n hx hb dX2_replace_137 rfl (lv_at hl 2 rfl) ?_
            refine lv_aload_n hx hb dX2_replace_138 rfl (lv_at hl 0 rfl) ?_
            refine va_get (D := (dC, dI)) (ci := 2) (C := RX2) (T := TX2) (N := 5) hx hb hts hin2 hown hK hP 4 rfl rfl 0 (by decide) lk4 (fun _ h9 => h9) rfl dX2_replace_139 ?_
            refine va_get (D := (dC, dI)) (ci := 6) (C := RX6) (T := TX6) (N := 1) hx hb hts hin6 hown hK hP 13 rfl rfl 0 (by decide) lk5 (fun _ h9 => h9) rfl dX2_replace_142 ?_
            refine lv_iload_n hx hb dX2_replace_145 rfl (lv_at hl 3 rfl) ?_
            refine nx_iald hx hb hK hP 24 0 rfl rfl (i := pl) (by omega) (by decide) dX2_replace_146 ?_
            refine nx_ti (y := nI q) (hf pl (Nat.zero_le _) hpl q hq) ?_
            refine lv_aload_n hx hb dX2_replace_147 rfl (lv_at hl 2 rfl) ?_
            refine va_get (D := (dC, dI)) (ci := 3) (C := RX3) (T := TX3) (N := 2) hx hb hts hin3 hown hK hP (58 + 2 * r) (xw_ro r (by omega)) rfl 1 (by decide) lk3 (fun _ h9 => h9) rfl dX2_replace_148 ?_
            refine nx_ti (y := nI ((va_up R 28 M) r).length) ((hZ r (by omega)).2.1) ?_
            refine nx_ti (y := nI (R r).length) (by rw [upn hne]) ?_
            refine xc_i (b := ad 114) (As := [.ref (ad (58 + 2 * r)), .int (nI q), .int (nI (R r).length)]) (rest := []) ⟨hx, hb, hml, hown, hts⟩ (x_addPart l dC dI aC ad cap hI v (va_up R 28 M) F G 28 (by decide) r hr q (R r).length hq2.2 (by rw [upn hne]; omega)) (cwV 3 hts gX2_replace_X3_addPart rfl rfl rfl (by decide +kernel) ⟨Nat.le_of_ble_eq_true rfl, Nat.le_of_ble_eq_true rfl⟩) (xPre (q0 := 114) (ci := 3) rfl rfl hK hZ hP) hS rfl hl.1 rfl (Nat.le_of_ble_eq_true rfl) dX2_replace_151 ⟨Nat.le_of_ble_eq_true rfl, Nat.le_of_ble_eq_true rfl⟩ (fun x_151 v4 R4 F4 G4 Z S H locs h_151 hZ hP hS => ?_)
            obtain ⟨M_5, hu_151, hx_151, hM_151⟩ := adds_u (R0 := R) (M := M) (to := 28) (fr := r) hne h_151
            subst hx_151
            cases hu_151
            refine nx_bn (tgt := 160) hx hb dX2_replace_154 (by decide) (fun c_154 => ?_) (fun c_154 => ?_)
            · skip
              refine lv_aload_n hx hb dX2_replace_160 rfl (lv_at hl 2 rfl) ?_
              refine lv_aload_n hx hb dX2_replace_161 rfl (lv_at hl 0 rfl) ?_
              refine va_get (D := (dC, dI)) (ci := 2) (C := RX2) (T := TX2) (N := 5) hx hb hts hin2 hown hK hP 4 rfl rfl 2 (by decide) lk1 (fun _ h9 => h9) rfl dX2_replace_162 ?_
              refine xc_v (b := ad (58 + 2 * r)) (As := [.ref (ad 114)]) (rest := []) ⟨hx, hb, hml, hown, hts⟩ (x_become l dC dI aC ad cap hI v (va_up R 28 M_5) F G r hr 28 (by decide)) (cwV 1 hts gX2_replace_X3_become rfl rfl rfl (by decide +kernel) ⟨Nat.le_of_ble_eq_true rfl, Nat.le_of_ble_eq_true rfl⟩) (xPre (q0 := (58 + 2 * r)) (ci := 3) rfl (xw_ro r (by omega)) hK hZ hP) hS rfl hl.1 rfl (Nat.le_of_ble_eq_true rfl) dX2_replace_165 ⟨Nat.le_of_ble_eq_true rfl, Nat.le_of_ble_eq_true rfl⟩ (fun v6 R6 F6 G6 Z S H locs h_165 hZ hP hS => ?_)
              cases h_165
              refine lv_iconst (v := nI 1) hx hb dX2_replace_168 (by decide) ?_
              subst hQ
              exact W.iret (v := nI 1) hx hb hret (fun tq htq hWq => ⟨⟨_, (v, va_up (va_up R 28 M_5) r ((va_up R 28 M_5) 28), F, G), rfl, ⟨_, by rw [va_up_self, hM_151 c_154, useL, if_neg (fun h => h c_4), if_pos (by rw [rplL, List.length_append, ← hii, slc_len (Nat.le_refl _), ← hMM]; exact c_154), hMM, hii]; rfl, by rw [useL, if_neg (fun h => h c_4), if_pos (by rw [rplL, List.length_append, ← hii, slc_len (Nat.le_refl _), ← hMM]; exact c_154)]; rfl⟩, va_K.moved hWq.alike hK, _, _, hZ, by rw [htq]; exact hP⟩, hS.F htq⟩) hS.2.2 dX2_replace_169
            · skip
              refine lv_bipush (v := (-5)) hx hb dX2_replace_157 (by decide) ?_
              subst hQ
              exact W.iret (v := (-5)) hx hb hret (fun tq htq hWq => ⟨⟨_, (v, va_up R 28 M_5, F, G), rfl, ⟨_, by rw [useL, if_neg (fun h => h c_4), if_neg (by rw [rplL, List.length_append, ← hii, slc_len (Nat.le_refl _), ← hMM]; exact c_154), up_back hne], by rw [useL, if_neg (fun h => h c_4), if_neg (by rw [rplL, List.length_append, ← hii, slc_len (Nat.le_refl _), ← hMM]; exact c_154)]⟩, va_K.moved hWq.alike hK, _, _, hZ, by rw [htq]; exact hP⟩, hS.F htq⟩) hS.2.2 dX2_replace_159
        · skip
          refine lv_iload hx hb dX2_replace_50 (lv_at hl 4 rfl) ?_
          refine nx_bz (tgt := 128) hx hb dX2_replace_52 (by decide) (fun c_52 => ?_) (fun c_52 => ?_)
          · skip
            refine lv_iload hx hb dX2_replace_128 (lv_at hl 4 rfl) ?_
            refine nx_bz (tgt := 157) hx hb dX2_replace_130 (by decide) (fun c_130 => ?_) (fun c_130 => ?_)
            · skip
              refine lv_bipush (v := (-5)) hx hb dX2_replace_157 (by decide) ?_
              subst hQ
              exact W.iret (v := (-5)) hx hb hret (fun tq htq hWq => ⟨⟨_, (v, va_up R 28 M, F, G), rfl, ⟨_, by rw [useL, if_neg (fun h => h c_4), if_neg (by have := preF_mono (t := R r) (p := pl) (ac := ac) (g := gD (R (18 + k))) i ((R (18 + k)).length - i); rw [show i + ((R (18 + k)).length - i) = (R (18 + k)).length by omega] at this; rw [rplL, List.length_append]; have h9 : ¬ (preF (R r) pl ac (gD (R (18 + k))) i).length ≤ 60 := c_130; omega), up_back hne], by rw [useL, if_neg (fun h => h c_4), if_neg (by have := preF_mono (t := R r) (p := pl) (ac := ac) (g := gD (R (18 + k))) i ((R (18 + k)).length - i); rw [show i + ((R (18 + k)).length - i) = (R (18 + k)).length by omega] at this; rw [rplL, List.length_append]; have h9 : ¬ (preF (R r) pl ac (gD (R (18 + k))) i).length ≤ 60 := c_130; omega)]⟩, va_K.moved hWq.alike hK, _, _, hZ, by rw [htq]; exact hP⟩, hS.F htq⟩) hS.2.2 dX2_replace_159
            · skip
              exact absurd c_130 c_52
          · skip
            have hlen60 : (preF (R r) pl ac (gD (R (18 + k))) i).length ≤ 60 := c_52
            refine lv_aload_n hx hb dX2_replace_55 rfl (lv_at hl 1 rfl) ?_
            refine va_get (D := (dC, dI)) (ci := 4) (C := RX4) (T := TX4) (N := 3) hx hb hts hin4 hown hK hP (50 + k) (xw_ru k (by omega)) rfl 1 (by decide) lk2 (fun _ h9 => h9) rfl dX2_replace_56 ?_
            refine va_get (D := (dC, dI)) (ci := 3) (C := RX3) (T := TX3) (N := 2) hx hb hts hin3 hown hK hP (58 + 2 * (18 + k)) (xw_ro (18 + k) (by omega)) rfl 0 (by decide) lk6 (fun _ h9 => h9) rfl dX2_replace_59 ?_
            refine lv_iload hx hb dX2_replace_62 (lv_at hl 6 rfl) ?_
            refine nx_iald hx hb hK hP (59 + 2 * (18 + k)) 0 (xw_ra (18 + k) (by omega)) rfl (i := i) (by have := (hZ (18 + k) (by omega)).1; omega) (by decide) dX2_replace_64 ?_
            refine nx_ti (y := gD ((va_up R 28 M) (18 + k)) i) ((hZ (18 + k) (by omega)).2.2 i (by rw [upn (show 18 + k ≠ 28 by omega)]; omega)) ?_
            refine nx_ti (y := gD (R (18 + k)) i) (by rw [upn (show 18 + k ≠ 28 by omega)]) ?_
            refine lv_istore (lv' := [(7, .int (gD (R (18 + k)) i)), (0, .ref (ad 4)), (1, .ref (ad (50 + k))), (2, .ref (ad (58 + 2 * r))), (3, .int (nI pl)), (4, .int (bI ((preF (R r) pl ac (gD (R (18 + k))) i).length ≤ 60))), (5, .int (nI (cF (gD (R (18 + k))) i))), (6, .int (nI i))]) hx hb dX2_replace_65 hl (by decide) rfl (fun ls hl => ?_)
            refine lv_iload hx hb dX2_replace_67 (lv_at hl 0 rfl) ?_
            refine lv_iconst (v := (-1)) hx hb dX2_replace_69 (by decide) ?_
            refine lv_icmp_ne (tgt := 111) hx hb dX2_replace_70 (by decide) (fun c_70 => ?_) (fun c_70 => ?_)
            · skip
              refine lv_aload_n hx hb dX2_replace_111 rfl (lv_at hl 1 rfl) ?_
              refine va_get (D := (dC, dI)) (ci := 2) (C := RX2) (T := TX2) (N := 5) hx hb hts hin2 hown hK hP 4 rfl rfl 2 (by decide) lk1 (fun _ h9 => h9) rfl dX2_replace_112 ?_
              refine lv_iload hx hb dX2_replace_115 (lv_at hl 0 rfl) ?_
              refine xc_i (b := ad 114) (As := [.int (gD (R (18 + k)) i)]) (rest := []) ⟨hx, hb, hml, hown, hts⟩ (x_add l dC dI aC ad cap hI v (va_up R 28 M) F G 28 (by decide) (gD (R (18 + k)) i)) (cwV 1 hts gX2_replace_X3_add rfl rfl rfl (by decide +kernel) ⟨Nat.le_of_ble_eq_true rfl, Nat.le_of_ble_eq_true rfl⟩) (xPre (q0 := 114) (ci := 3) rfl rfl hK hZ hP) hS rfl hl.1 rfl (Nat.le_of_ble_eq_true rfl) dX2_replace_117 ⟨Nat.le_of_ble_eq_true rfl, Nat.le_of_ble_eq_true rfl⟩ (fun x_117 v7 R7 F7 G7 Z S H locs h_117 hZ hP hS => ?_)
              obtain ⟨M_8, hu_117, hx_117, hM_117⟩ := add_u (R0 := R) (M := M) (to := 28) h_117
              subst hx_117
              cases hu_117
              refine nx_ti (y := bI ((preF (R r) pl ac (gD (R (18 + k))) (i + 1)).length ≤ 60)) (bI_iff (by rw [preF_f c_70, List.length_append, hM c_52]; rfl)) ?_
              refine lv_istore (lv' := [(4, .int (bI ((preF (R r) pl ac (gD (R (18 + k))) (i + 1)).length ≤ 60))), (7, .int (gD (R (18 + k)) i)), (0, .ref (ad 4)), (1, .ref (ad (50 + k))), (2, .ref (ad (58 + 2 * r))), (3, .int (nI pl)), (5, .int (nI (cF (gD (R (18 + k))) i))), (6, .int (nI i))]) hx hb dX2_replace_120 hl (by decide) rfl (fun ls hl => ?_)
              refine lv_iinc (v := nI (i + 1)) (lv' := [(6, .int (nI (i + 1))), (4, .int (bI ((preF (R r) pl ac (gD (R (18 + k))) (i + 1)).length ≤ 60))), (7, .int (gD (R (18 + k)) i)), (0, .ref (ad 4)), (1, .ref (ad (50 + k))), (2, .ref (ad (58 + 2 * r))), (3, .int (nI pl)), (5, .int (nI (cF (gD (R (18 + k))) i)))]) hx hb dX2_replace_122 hl (k := 7) rfl (nI_add _ _) (by decide) rfl (fun ls hl => ?_)
              refine lv_goto (tgt := 38) hx hb dX2_replace_125 (by decide) ?_
              exact ih38 (i + 1) M_8 _ _ _ _ _ (by omega) (fun h => by rw [preF_f c_70, List.length_append] at h; rw [hM_117 (by rw [hM c_52]; exact h), hM c_52, preF_f c_70]) hZ hP hS (by omega) (by rw [cF_f c_70]; exact lv_sub hl [3, 4, 5, 6, 1, 7, 0] rfl)
            · skip
              have hlt : cF (gD (R (18 + k))) i < ac.length := by have h1 : cF (gD (R (18 + k))) (i + 1) ≤ lvs (R (18 + k)) := cF_mono _ (by omega); rw [cF_t c_70, ← hn0 c_4] at h1; exact h1
              have hbb := acOK_at hac hlt
              have hbe := acE_at hacE hlt
              refine lv_aload_n hx hb dX2_replace_73 rfl (lv_at hl 1 rfl) ?_
              refine va_get (D := (dC, dI)) (ci := 2) (C := RX2) (T := TX2) (N := 5) hx hb hts hin2 hown hK hP 4 rfl rfl 2 (by decide) lk1 (fun _ h9 => h9) rfl dX2_replace_74 ?_
              refine lv_aload_n hx hb dX2_replace_77 rfl (lv_at hl 3 rfl) ?_
              refine lv_aload_n hx hb dX2_replace_78 rfl (lv_at hl 1 rfl) ?_
              refine va_get (D := (dC, dI)) (ci := 2) (C := RX2) (T := TX2) (N := 5) hx hb hts hin2 hown hK hP 4 rfl rfl 1 (by decide) lk7 (fun _ h9 => h9) rfl dX2_replace_79 ?_
              refine lv_iload hx hb dX2_replace_82 (lv_at hl 6 rfl) ?_
              refine nx_iald hx hb hK hP 14 0 rfl rfl (i := cF (gD (R (18 + k))) i) (by omega) (by decide) dX2_replace_84 ?_
              refine nx_ti (y := nI (aD ac (cF (gD (R (18 + k))) i)).1) (hH _ hlt) ?_
              refine lv_aload_n hx hb dX2_replace_85 rfl (lv_at hl 1 rfl) ?_
              refine va_get (D := (dC, dI)) (ci := 2) (C := RX2) (T := TX2) (N := 5) hx hb hts hin2 hown hK hP 4 rfl rfl 0 (by decide) lk4 (fun _ h9 => h9) rfl dX2_replace_86 ?_
              refine va_get (D := (dC, dI)) (ci := 6) (C := RX6) (T := TX6) (N := 1) hx hb hts hin6 hown hK hP 13 rfl rfl 0 (by decide) lk5 (fun _ h9 => h9) rfl dX2_replace_89 ?_
              refine lv_aload_n hx hb dX2_replace_92 rfl (lv_at hl 1 rfl) ?_
              refine va_get (D := (dC, dI)) (ci := 2) (C := RX2) (T := TX2) (N := 5) hx hb hts hin2 hown hK hP 4 rfl rfl 1 (by decide) lk7 (fun _ h9 => h9) rfl dX2_replace_93 ?_
              refine lv_iload hx hb dX2_replace_96 (lv_at hl 6 rfl) ?_
              refine nx_iald hx hb hK hP 14 0 rfl rfl (i := cF (gD (R (18 + k))) i) (by omega) (by decide) dX2_replace_98 ?_
              refine nx_ti (y := nI (aD ac (cF (gD (R (18 + k))) i)).1) (hH _ hlt) ?_
              refine nx_iald hx hb hK hP 24 0 rfl rfl (i := (aD ac (cF (gD (R (18 + k))) i)).1) (by omega) (by decide) dX2_replace_99 ?_
              refine nx_ti (y := nI (aD ac (cF (gD (R (18 + k))) i)).2) (hf _ (Nat.zero_le _) hbe.2 _ hbe.1) ?_
              refine xc_i (b := ad 114) (As := [.ref (ad (58 + 2 * r)), .int (nI (aD ac (cF (gD (R (18 + k))) i)).1), .int (nI (aD ac (cF (gD (R (18 + k))) i)).2)]) (rest := []) ⟨hx, hb, hml, hown, hts⟩ (x_addPart l dC dI aC ad cap hI v (va_up R 28 M) F G 28 (by decide) r hr (aD ac (cF (gD (R (18 + k))) i)).1 (aD ac (cF (gD (R (18 + k))) i)).2 hbb.1 (by rw [upn hne]; exact hbb.2)) (cwV 3 hts gX2_replace_X3_addPart rfl rfl rfl (by decide +kernel) ⟨Nat.le_of_ble_eq_true rfl, Nat.le_of_ble_eq_true rfl⟩) (xPre (q0 := 114) (ci := 3) rfl rfl hK hZ hP) hS rfl hl.1 rfl (Nat.le_of_ble_eq_true rfl) dX2_replace_100 ⟨Nat.le_of_ble_eq_true rfl, Nat.le_of_ble_eq_true rfl⟩ (fun x_100 v9 R9 F9 G9 Z S H locs h_100 hZ hP hS => ?_)
              obtain ⟨M_10, hu_100, hx_100, hM_100⟩ := adds_u (R0 := R) (M := M) (to := 28) (fr := r) hne h_100
              subst hx_100
              cases hu_100
              refine nx_ti (y := bI ((preF (R r) pl ac (gD (R (18 + k))) (i + 1)).length ≤ 60)) (bI_iff (by rw [preF_t c_70, List.length_append, slc_len hbb.2, hM c_52])) ?_
              refine lv_istore (lv' := [(4, .int (bI ((preF (R r) pl ac (gD (R (18 + k))) (i + 1)).length ≤ 60))), (7, .int (gD (R (18 + k)) i)), (0, .ref (ad 4)), (1, .ref (ad (50 + k))), (2, .ref (ad (58 + 2 * r))), (3, .int (nI pl)), (5, .int (nI (cF (gD (R (18 + k))) i))), (6, .int (nI i))]) hx hb dX2_replace_103 hl (by decide) rfl (fun ls hl => ?_)
              refine lv_iinc (v := nI (cF (gD (R (18 + k))) i + 1)) (lv' := [(5, .int (nI (cF (gD (R (18 + k))) i + 1))), (4, .int (bI ((preF (R r) pl ac (gD (R (18 + k))) (i + 1)).length ≤ 60))), (7, .int (gD (R (18 + k)) i)), (0, .ref (ad 4)), (1, .ref (ad (50 + k))), (2, .ref (ad (58 + 2 * r))), (3, .int (nI pl)), (6, .int (nI i))]) hx hb dX2_replace_105 hl (k := 6) rfl (nI_add _ _) (by decide) rfl (fun ls hl => ?_)
              refine lv_goto (tgt := 122) hx hb dX2_replace_108 (by decide) ?_
              refine lv_iinc (v := nI (i + 1)) (lv' := [(6, .int (nI (i + 1))), (5, .int (nI (cF (gD (R (18 + k))) i + 1))), (4, .int (bI ((preF (R r) pl ac (gD (R (18 + k))) (i + 1)).length ≤ 60))), (7, .int (gD (R (18 + k)) i)), (0, .ref (ad 4)), (1, .ref (ad (50 + k))), (2, .ref (ad (58 + 2 * r))), (3, .int (nI pl))]) hx hb dX2_replace_122 hl (k := 7) rfl (nI_add _ _) (by decide) rfl (fun ls hl => ?_)
              refine lv_goto (tgt := 38) hx hb dX2_replace_125 (by decide) ?_
              exact ih38 (i + 1) M_10 _ _ _ _ _ (by omega) (fun h => by rw [preF_t c_70, List.length_append, slc_len hbb.2] at h; rw [hM_100 (by rw [hM c_52]; exact h), hM c_52, preF_t c_70]) hZ hP hS (by omega) (by rw [cF_t c_70]; exact lv_sub hl [4, 5, 6, 7, 2, 1, 0] rfl)
    exact L38 (60 - 0 + 1) 0 M_3 _ _ _ _ _ (by omega) (fun _ => by rw [hM_27 (by show 0 + _ ≤ 60; omega), preF, exF, List.append_nil]; rfl) hZ hP hS (Nat.lt_succ_self _) (lv_sub hl [3, 4, 5, 6, 2, 1, 0] rfl)
  · skip
    refine lv_aload_n hx hb dX2_replace_7 rfl (lv_at hl 2 rfl) ?_
    refine xc_v (b := ad (58 + 2 * r)) (As := []) (rest := []) ⟨hx, hb, hml, hown, hts⟩ (x_clear l dC dI aC ad cap hI v R F G r hr) (cwV 0 hts gX2_replace_X3_clear rfl rfl rfl (by decide +kernel) ⟨Nat.le_of_ble_eq_true rfl, Nat.le_of_ble_eq_true rfl⟩) (xPre (q0 := (58 + 2 * r)) (ci := 3) rfl (xw_ro r (by omega)) hK hZ hP) hS rfl hl.1 rfl (Nat.le_of_ble_eq_true rfl) dX2_replace_8 ⟨Nat.le_of_ble_eq_true rfl, Nat.le_of_ble_eq_true rfl⟩ (fun v11 R11 F11 G11 Z S H locs h_8 hZ hP hS => ?_)
    cases h_8
    refine lv_iconst (v := nI 2) hx hb dX2_replace_11 (by decide) ?_
    subst hQ
    exact W.iret (v := nI 2) hx hb hret (fun tq htq hWq => ⟨⟨_, (v, va_up R r [], F, G), rfl, ⟨R 28, by rw [useL, if_pos c_4, up_eta], by rw [useL, if_pos c_4]; rfl⟩, va_K.moved hWq.alike hK, _, _, hZ, by rw [htq]; exact hP⟩, hS.F htq⟩) hS.2.2 dX2_replace_12
