set_option maxHeartbeats 1000000 in
set_option maxRecDepth 100000 in
/-- Row.clear -/
theorem x_clear (l : Launch) (dC : Nat → ClassId) (dI : Nat → Nat → Nat) (aC : Nat → ClassId) (ad cap : Nat → Nat) (hI : xI ad) (v : Nat → Int32) (R : Nat → List Int32) (F : Nat → Nat → Int32) (G : Nat → Nat → Int64) (k : Nat) (hk : k < 31) : Met l yX3_clear wsX3_clear ({ frames := 0, cells := 0, slots := 0, locals := 0 } : Room) (va_Pc [.ref (ad (58 + 2 * k))] (XB dC dI aC ad cap (v, R, F, G))) (va_Qv (fun (u : MS) => (v, va_up R k [], F, G) = u) (XB dC dI aC ad cap) (xA ad)) 0 0 (xA ad) := by
  refine Met.ofW (cc := cX3_clear) (maxL := 1) (ret := none) (by decide) rfl ?_
  intro p e s m args below meth c s₁ B hml hv
  obtain ⟨rfl, hK, Z, S, hZ, hP⟩ := hv
  have hx := B.exec
  have hb := B.bytes
  have hret := B.returns
  have hts := atoms_spec (ws := wsX3_clear) B.pre
  have hown : s.vm.findClass RX3 = some m.cls := findClass_of_methodNamed B.named
  have hlocks := B.notSynchronized
  dsimp only at hZ hP
  have lk0 := hts (.fieldLink RX3 15 "LeafTrees$Row" "length" "I") (by decide +kernel)
  have hin3 : ∀ w ∈ u_ws RX3 TX3 2, w ∈ wsX3_clear := by decide +kernel
  have hS : va_S (xA ad) s.heap s.heap [] := va_S.rf
  have hl := lv_entry [.ref (ad (58 + 2 * k))] (n := 1) (Nat.le_of_ble_eq_true rfl)
  rw [lg_entry_eq]
  generalize (lg_sl [.ref (ad (58 + 2 * k))] ++ List.replicate (1 - (lg_sl [.ref (ad (58 + 2 * k))]).length) Slot.unset).toArray = ls at hl ⊢
  have hl : lv_has ls 1 [(0, .ref (ad (58 + 2 * k)))] := hl
  refine nx_Q (R := ({ frames := 0, cells := 0, slots := 0, locals := 0 } : Room)) (fun Q hQ => ?_)
  refine lv_aload_n hx hb dX3_clear_0 rfl (lv_at hl 0 rfl) ?_
  refine lv_iconst (v := nI 0) hx hb dX3_clear_1 (by decide) ?_
  refine va_put (D := (dC, dI)) (ci := 3) (v := .int (nI 0)) (ty := .int) (C := RX3) (T := TX3) (N := 2) hx hb hts hin3 tyX3 tyX3_ok nmX3 hown hK hP (wsX_D hI) hS (58 + 2 * k) (xw_ro k (by omega)) rfl 1 (by decide) lk0 (fun _ h9 => h9) rfl (by decide +kernel) rfl rfl (Nat.le_of_ble_eq_true rfl) dX3_clear_2 (fun H locs hP _ hS => ?_)
  have hP : va_P (dC, dI) vwCl ((wsX aC ad cap v Z S F G).set (58 + 2 * k) (ad (58 + 2 * k), .inr (3, [.ref (ad (59 + 2 * k)), .int (nI 0)]))) H := hP
  rw [xs_len k (by omega)] at hP
  have hZ := xOK_len (k := k) (l := []) hZ (by decide) rfl (fun i hi => absurd hi (Nat.not_lt_zero i))
  subst hQ
  exact W.vret hx hb hret (fun tq htq hWq => ⟨⟨(v, va_up R k [], F, G), rfl, rfl, va_K.moved hWq.alike hK, _, _, hZ, by rw [htq]; exact hP⟩, hS.F htq⟩) hS.2.2 dX3_clear_5

set_option maxHeartbeats 1000000 in
set_option maxRecDepth 100000 in
/-- Row.add -/
theorem x_add (l : Launch) (dC : Nat → ClassId) (dI : Nat → Nat → Nat) (aC : Nat → ClassId) (ad cap : Nat → Nat) (hI : xI ad) (v : Nat → Int32) (R : Nat → List Int32) (F : Nat → Nat → Int32) (G : Nat → Nat → Int64) (k : Nat) (hk : k < 31) (z : Int32) : Met l yX3_add wsX3_add ({ frames := 0, cells := 0, slots := 0, locals := 0 } : Room) (va_Pc [.ref (ad (58 + 2 * k)), .int z] (XB dC dI aC ad cap (v, R, F, G))) (va_Qi (fun (x : Int32) (u : MS) => x = bI ((R k).length < 60) ∧ (v, if (R k).length < 60 then va_up R k (R k ++ [z]) else R, F, G) = u) (XB dC dI aC ad cap) (xA ad)) 0 0 (xA ad) := by
  refine Met.ofW (cc := cX3_add) (maxL := 2) (ret := (some .boolean)) (by decide) rfl ?_
  intro p e s m args below meth c s₁ B hml hv
  obtain ⟨rfl, hK, Z, S, hZ, hP⟩ := hv
  have hx := B.exec
  have hb := B.bytes
  have hret := B.returns
  have hts := atoms_spec (ws := wsX3_add) B.pre
  have hown : s.vm.findClass RX3 = some m.cls := findClass_of_methodNamed B.named
  have hlocks := B.notSynchronized
  dsimp only at hZ hP
  have lk0 := hts (.fieldLink RX3 15 "LeafTrees$Row" "length" "I") (by decide +kernel)
  have lk1 := hts (.fieldLink RX3 9 "LeafTrees$Row" "symbols" "[I") (by decide +kernel)
  have hin3 : ∀ w ∈ u_ws RX3 TX3 2, w ∈ wsX3_add := by decide +kernel
  have hS : va_S (xA ad) s.heap s.heap [] := va_S.rf
  have hl := lv_entry [.ref (ad (58 + 2 * k)), .int z] (n := 2) (Nat.le_of_ble_eq_true rfl)
  rw [lg_entry_eq]
  generalize (lg_sl [.ref (ad (58 + 2 * k)), .int z] ++ List.replicate (2 - (lg_sl [.ref (ad (58 + 2 * k)), .int z]).length) Slot.unset).toArray = ls at hl ⊢
  have hl : lv_has ls 2 [(0, .ref (ad (58 + 2 * k))), (1, .int z)] := hl
  refine nx_Q (R := ({ frames := 0, cells := 0, slots := 0, locals := 0 } : Room)) (fun Q hQ => ?_)
  have hlen := (hZ k hk).1
  have hZo := (hZ k hk).2.2
  refine lv_aload_n hx hb dX3_add_0 rfl (lv_at hl 0 rfl) ?_
  refine va_get (D := (dC, dI)) (ci := 3) (C := RX3) (T := TX3) (N := 2) hx hb hts hin3 hown hK hP (58 + 2 * k) (xw_ro k (by omega)) rfl 1 (by decide) lk0 (fun _ h9 => h9) rfl dX3_add_1 ?_
  refine nx_ti (y := nI (R k).length) ((hZ k (by omega)).2.1) ?_
  refine lv_bipush (v := nI 60) hx hb dX3_add_4 (by decide) ?_
  refine nx_icmp_lt (a := (R k).length) (b := 60) (tgt := 11) hx hb dX3_add_6 (by decide) (by omega) (by omega) (fun c_6 => ?_) (fun c_6 => ?_)
  · skip
    refine lv_aload_n hx hb dX3_add_11 rfl (lv_at hl 0 rfl) ?_
    refine va_get (D := (dC, dI)) (ci := 3) (C := RX3) (T := TX3) (N := 2) hx hb hts hin3 hown hK hP (58 + 2 * k) (xw_ro k (by omega)) rfl 0 (by decide) lk1 (fun _ h9 => h9) rfl dX3_add_12 ?_
    refine lv_aload_n hx hb dX3_add_15 rfl (lv_at hl 0 rfl) ?_
    refine va_get (D := (dC, dI)) (ci := 3) (C := RX3) (T := TX3) (N := 2) hx hb hts hin3 hown hK hP (58 + 2 * k) (xw_ro k (by omega)) rfl 1 (by decide) lk0 (fun _ h9 => h9) rfl dX3_add_16 ?_
    refine nx_ti (y := nI (R k).length) ((hZ k (by omega)).2.1) ?_
    refine lv_iload_n hx hb dX3_add_19 rfl (lv_at hl 1 rfl) ?_
    refine nx_iast hx hb hK hP (wsX_D hI) hS (59 + 2 * k) 0 (xw_ra k (by omega)) rfl (i := (R k).length) (by omega) (by decide) dX3_add_20 (fun H locs hP hS => ?_)
    rw [xs_arr k (by omega)] at hP
    have hZ := xOK_st (k := k) (x := z) hZ (Nat.le_refl (R k).length)
    refine lv_aload_n hx hb dX3_add_21 rfl (lv_at hl 0 rfl) ?_
    refine lv_dup hx hb dX3_add_22 rfl ?_
    refine va_get (D := (dC, dI)) (ci := 3) (C := RX3) (T := TX3) (N := 2) hx hb hts hin3 hown hK hP (58 + 2 * k) (xw_ro k (by omega)) rfl 1 (by decide) lk0 (fun _ h9 => h9) rfl dX3_add_23 ?_
    refine nx_ti (y := nI (R k).length) ((hZ k (by omega)).2.1) ?_
    refine lv_iconst (v := nI 1) hx hb dX3_add_26 (by decide) ?_
    refine lv_iadd hx hb dX3_add_27 ?_
    refine nx_ti (y := nI ((R k).length + 1)) (nI_add _ _) ?_
    refine va_put (D := (dC, dI)) (ci := 3) (v := .int (nI ((R k).length + 1))) (ty := .int) (C := RX3) (T := TX3) (N := 2) hx hb hts hin3 tyX3 tyX3_ok nmX3 hown hK hP (wsX_D hI) hS (58 + 2 * k) (xw_ro k (by omega)) rfl 1 (by decide) lk0 (fun _ h9 => h9) rfl (by decide +kernel) rfl rfl (Nat.le_of_ble_eq_true rfl) dX3_add_28 (fun H locs hP _ hS => ?_)
    have hP : va_P (dC, dI) vwCl ((wsX aC ad cap v Z (va_up S k (upd (S k) (R k).length z)) F G).set (58 + 2 * k) (ad (58 + 2 * k), .inr (3, [.ref (ad (59 + 2 * k)), .int (nI ((R k).length + 1))]))) H := hP
    rw [xs_len k (by omega)] at hP
    have hZ := xOK_len (k := k) (z := nI ((R k).length + 1)) (l := R k ++ [z]) hZ (by rw [List.length_append, List.length_singleton]; omega) (by rw [List.length_append]; rfl) (fun i hi => by rw [va_up_self]; rw [List.length_append, List.length_singleton] at hi; by_cases h9 : i = (R k).length <;> first | (rw [h9, pk_us, gD_snoc]; done) | (rw [pk_un h9, gD_app_l (by omega)]; exact hZo i (by omega)))
    refine lv_iconst (v := nI 1) hx hb dX3_add_31 (by decide) ?_
    subst hQ
    exact W.zret (v := nI 1) hx hb hret (rfl) (fun tq htq hWq => ⟨⟨_, (v, va_up R k (R k ++ [z]), F, G), rfl, ⟨(bI_t c_6).symm, by rw [if_pos c_6]⟩, va_K.moved hWq.alike hK, _, _, hZ, by rw [htq]; exact hP⟩, hS.F htq⟩) hS.2.2 dX3_add_32
  · skip
    refine lv_iconst (v := nI 0) hx hb dX3_add_9 (by decide) ?_
    subst hQ
    exact W.zret (v := nI 0) hx hb hret (rfl) (fun tq htq hWq => ⟨⟨_, (v, R, F, G), rfl, ⟨(bI_f (by omega)).symm, by rw [if_neg (by omega)]⟩, va_K.moved hWq.alike hK, _, _, hZ, by rw [htq]; exact hP⟩, hS.F htq⟩) hS.2.2 dX3_add_10

set_option maxHeartbeats 1000000 in
set_option maxRecDepth 100000 in
/-- Row.addPart -/
theorem x_addPart (l : Launch) (dC : Nat → ClassId) (dI : Nat → Nat → Nat) (aC : Nat → ClassId) (ad cap : Nat → Nat) (hI : xI ad) (v : Nat → Int32) (R : Nat → List Int32) (F : Nat → Nat → Int32) (G : Nat → Nat → Int64) (k : Nat) (hk : k < 31) (j : Nat) (hj : j < 31) (bg en : Nat) (hbe : bg ≤ en) (hen : en ≤ (R j).length) : Met l yX3_addPart wsX3_addPart ({ frames := 1, cells := 0, slots := 0, locals := 40 } : Room) (va_Pc [.ref (ad (58 + 2 * k)), .ref (ad (58 + 2 * j)), .int (nI bg), .int (nI en)] (XB dC dI aC ad cap (v, R, F, G))) (va_Qi (fun (x : Int32) (u : MS) => x = bI ((R k).length + (en - bg) ≤ 60) ∧ (v, if (R k).length + (en - bg) ≤ 60 then va_up R k (R k ++ slc (R j) bg en) else R, F, G) = u) (XB dC dI aC ad cap) (xA ad)) 0 0 (xA ad) := by
  refine Met.ofW (cc := cX3_addPart) (maxL := 4) (ret := (some .boolean)) (by decide) rfl ?_
  intro p e s m args below meth c s₁ B hml hv
  obtain ⟨rfl, hK, Z, S, hZ, hP⟩ := hv
  have hx := B.exec
  have hb := B.bytes
  have hret := B.returns
  have hts := atoms_spec (ws := wsX3_addPart) B.pre
  have hown : s.vm.findClass RX3 = some m.cls := findClass_of_methodNamed B.named
  have hlocks := B.notSynchronized
  dsimp only at hZ hP
  have lk0 := hts (.fieldLink RX3 15 "LeafTrees$Row" "length" "I") (by decide +kernel)
  have lk1 := hts (.fieldLink RX3 9 "LeafTrees$Row" "symbols" "[I") (by decide +kernel)
  have lk2 := hts (.methodLink RX3 19 arraycopyName) (by decide +kernel)
  have lk3 := hts (.native arraycopyName) (by decide +kernel)
  have lk4 := hts (.static arraycopyName) (by decide +kernel)
  have lk5 := hts (.initialized "java/lang/System") (by decide +kernel)
  have hin3 : ∀ w ∈ u_ws RX3 TX3 2, w ∈ wsX3_addPart := by decide +kernel
  have hS : va_S (xA ad) s.heap s.heap [] := va_S.rf
  have hl := lv_entry [.ref (ad (58 + 2 * k)), .ref (ad (58 + 2 * j)), .int (nI bg), .int (nI en)] (n := 4) (Nat.le_of_ble_eq_true rfl)
  rw [lg_entry_eq]
  generalize (lg_sl [.ref (ad (58 + 2 * k)), .ref (ad (58 + 2 * j)), .int (nI bg), .int (nI en)] ++ List.replicate (4 - (lg_sl [.ref (ad (58 + 2 * k)), .ref (ad (58 + 2 * j)), .int (nI bg), .int (nI en)]).length) Slot.unset).toArray = ls at hl ⊢
  have hl : lv_has ls 4 [(0, .ref (ad (58 + 2 * k))), (1, .ref (ad (58 + 2 * j))), (2, .int (nI bg)), (3, .int (nI en))] := hl
  refine nx_Q (R := ({ frames := 1, cells := 0, slots := 0, locals := 40 } : Room)) (fun Q hQ => ?_)
  have hlk := (hZ k hk).1
  have hlj := (hZ j hj).1
  have hZ0 := hZ
  refine lv_iload_n hx hb dX3_addPart_0 rfl (lv_at hl 2 rfl) ?_
  refine nx_if_lt (tgt := 30) hx hb dX3_addPart_1 (by decide) (by omega) ?_
  refine lv_iload_n hx hb dX3_addPart_4 rfl (lv_at hl 2 rfl) ?_
  refine lv_iload_n hx hb dX3_addPart_5 rfl (lv_at hl 3 rfl) ?_
  refine nx_icmp_gt (a := bg) (b := en) (tgt := 30) hx hb dX3_addPart_6 (by decide) (by omega) (by omega) (fun c_6 => ?_) (fun c_6 => ?_)
  · skip
    exact absurd c_6 (by omega)
  · skip
    refine lv_iload_n hx hb dX3_addPart_9 rfl (lv_at hl 3 rfl) ?_
    refine lv_aload_n hx hb dX3_addPart_10 rfl (lv_at hl 1 rfl) ?_
    refine va_get (D := (dC, dI)) (ci := 3) (C := RX3) (T := TX3) (N := 2) hx hb hts hin3 hown hK hP (58 + 2 * j) (xw_ro j (by omega)) rfl 1 (by decide) lk0 (fun _ h9 => h9) rfl dX3_addPart_11 ?_
    refine nx_ti (y := nI (R j).length) ((hZ j (by omega)).2.1) ?_
    refine nx_icmp_gt (a := en) (b := (R j).length) (tgt := 30) hx hb dX3_addPart_14 (by decide) (by omega) (by omega) (fun c_14 => ?_) (fun c_14 => ?_)
    · skip
      exact absurd c_14 (by omega)
    · skip
      refine lv_aload_n hx hb dX3_addPart_17 rfl (lv_at hl 0 rfl) ?_
      refine va_get (D := (dC, dI)) (ci := 3) (C := RX3) (T := TX3) (N := 2) hx hb hts hin3 hown hK hP (58 + 2 * k) (xw_ro k (by omega)) rfl 1 (by decide) lk0 (fun _ h9 => h9) rfl dX3_addPart_18 ?_
      refine nx_ti (y := nI (R k).length) ((hZ k (by omega)).2.1) ?_
      refine lv_iload_n hx hb dX3_addPart_21 rfl (lv_at hl 3 rfl) ?_
      refine lv_iadd hx hb dX3_addPart_22 ?_
      refine nx_ti (y := nI ((R k).length + en)) (nI_add _ _) ?_
      refine lv_iload_n hx hb dX3_addPart_23 rfl (lv_at hl 2 rfl) ?_
      refine lv_isub hx hb dX3_addPart_24 ?_
      refine nx_ti (y := nI (((R k).length + en) - bg)) (pk_sub (by omega)) ?_
      refine lv_bipush (v := nI 60) hx hb dX3_addPart_25 (by decide) ?_
      refine nx_icmp_le (a := (((R k).length + en) - bg)) (b := 60) (tgt := 32) hx hb dX3_addPart_27 (by decide) (by omega) (by omega) (fun c_27 => ?_) (fun c_27 => ?_)
      · skip
        refine lv_aload_n hx hb dX3_addPart_32 rfl (lv_at hl 1 rfl) ?_
        refine va_get (D := (dC, dI)) (ci := 3) (C := RX3) (T := TX3) (N := 2) hx hb hts hin3 hown hK hP (58 + 2 * j) (xw_ro j (by omega)) rfl 0 (by decide) lk1 (fun _ h9 => h9) rfl dX3_addPart_33 ?_
        refine lv_iload_n hx hb dX3_addPart_36 rfl (lv_at hl 2 rfl) ?_
        refine lv_aload_n hx hb dX3_addPart_37 rfl (lv_at hl 0 rfl) ?_
        refine va_get (D := (dC, dI)) (ci := 3) (C := RX3) (T := TX3) (N := 2) hx hb hts hin3 hown hK hP (58 + 2 * k) (xw_ro k (by omega)) rfl 0 (by decide) lk1 (fun _ h9 => h9) rfl dX3_addPart_38 ?_
        refine lv_aload_n hx hb dX3_addPart_41 rfl (lv_at hl 0 rfl) ?_
        refine va_get (D := (dC, dI)) (ci := 3) (C := RX3) (T := TX3) (N := 2) hx hb hts hin3 hown hK hP (58 + 2 * k) (xw_ro k (by omega)) rfl 1 (by decide) lk0 (fun _ h9 => h9) rfl dX3_addPart_42 ?_
        refine nx_ti (y := nI (R k).length) ((hZ k (by omega)).2.1) ?_
        refine lv_iload_n hx hb dX3_addPart_45 rfl (lv_at hl 3 rfl) ?_
        refine lv_iload_n hx hb dX3_addPart_46 rfl (lv_at hl 2 rfl) ?_
        refine lv_isub hx hb dX3_addPart_47 ?_
        refine nx_ti (y := nI (en - bg)) (pk_sub hbe) ?_
        refine nx_copyi (rest := []) hx hb (hml.trans hl.1.symm) hown lk2 lk3 lk4 lk5 hK hP (wsX_D hI) hS (59 + 2 * j) (59 + 2 * k) 0 0 (xw_ra j (by omega)) (xw_ra k (by omega)) rfl rfl (sp := bg) (dp := (R k).length) (n := en - bg) (by omega) (by omega) (by decide) (Nat.le_of_ble_eq_true rfl) (by decide) dX3_addPart_48 (fun H locs hP hS => ?_)
        rw [xs_arr k (by omega)] at hP
        refine lv_aload_n hx hb dX3_addPart_51 rfl (lv_at hl 0 rfl) ?_
        refine lv_dup hx hb dX3_addPart_52 rfl ?_
        refine va_get (D := (dC, dI)) (ci := 3) (C := RX3) (T := TX3) (N := 2) hx hb hts hin3 hown hK hP (58 + 2 * k) (xw_ro k (by omega)) rfl 1 (by decide) lk0 (fun _ h9 => h9) rfl dX3_addPart_53 ?_
        refine nx_ti (y := nI (R k).length) ((hZ0 k hk).2.1) ?_
        refine lv_iload_n hx hb dX3_addPart_56 rfl (lv_at hl 3 rfl) ?_
        refine lv_iload_n hx hb dX3_addPart_57 rfl (lv_at hl 2 rfl) ?_
        refine lv_isub hx hb dX3_addPart_58 ?_
        refine nx_ti (y := nI (en - bg)) (pk_sub hbe) ?_
        refine lv_iadd hx hb dX3_addPart_59 ?_
        refine nx_ti (y := nI ((R k).length + (en - bg))) (nI_add _ _) ?_
        refine va_put (D := (dC, dI)) (ci := 3) (v := .int (nI ((R k).length + (en - bg)))) (ty := .int) (C := RX3) (T := TX3) (N := 2) hx hb hts hin3 tyX3 tyX3_ok nmX3 hown hK hP (wsX_D hI) hS (58 + 2 * k) (xw_ro k (by omega)) rfl 1 (by decide) lk0 (fun _ h9 => h9) rfl (by decide +kernel) rfl rfl (Nat.le_of_ble_eq_true rfl) dX3_addPart_60 (fun H locs hP _ hS => ?_)
        have hP : va_P (dC, dI) vwCl ((wsX aC ad cap v Z (va_up S k (va_cpy (S j) (S k) bg (R k).length (en - bg))) F G).set (58 + 2 * k) (ad (58 + 2 * k), .inr (3, [.ref (ad (59 + 2 * k)), .int (nI ((R k).length + (en - bg)))]))) H := hP
        rw [xs_len k (by omega)] at hP
        have hZ := xOK_part hZ0 hk hj (by omega) hen (by omega)
        refine lv_iconst (v := nI 1) hx hb dX3_addPart_63 (by decide) ?_
        subst hQ
        exact W.zret (v := nI 1) hx hb hret (rfl) (fun tq htq hWq => ⟨⟨_, (v, va_up R k (R k ++ slc (R j) bg en), F, G), rfl, ⟨(bI_t (by omega)).symm, by rw [if_pos (by omega)]⟩, va_K.moved hWq.alike hK, _, _, hZ, by rw [htq]; exact hP⟩, hS.F htq⟩) hS.2.2 dX3_addPart_64
      · skip
        refine lv_iconst (v := nI 0) hx hb dX3_addPart_30 (by decide) ?_
        subst hQ
        exact W.zret (v := nI 0) hx hb hret (rfl) (fun tq htq hWq => ⟨⟨_, (v, R, F, G), rfl, ⟨(bI_f (by omega)).symm, by rw [if_neg (by omega)]⟩, va_K.moved hWq.alike hK, _, _, hZ, by rw [htq]; exact hP⟩, hS.F htq⟩) hS.2.2 dX3_addPart_31

set_option maxHeartbeats 1000000 in
set_option maxRecDepth 100000 in
/-- Row.become -/
theorem x_become (l : Launch) (dC : Nat → ClassId) (dI : Nat → Nat → Nat) (aC : Nat → ClassId) (ad cap : Nat → Nat) (hI : xI ad) (v : Nat → Int32) (R : Nat → List Int32) (F : Nat → Nat → Int32) (G : Nat → Nat → Int64) (k : Nat) (hk : k < 31) (j : Nat) (hj : j < 31) : Met l yX3_become wsX3_become ({ frames := 1, cells := 0, slots := 0, locals := 40 } : Room) (va_Pc [.ref (ad (58 + 2 * k)), .ref (ad (58 + 2 * j))] (XB dC dI aC ad cap (v, R, F, G))) (va_Qv (fun (u : MS) => (v, va_up R k (R j), F, G) = u) (XB dC dI aC ad cap) (xA ad)) 0 0 (xA ad) := by
  refine Met.ofW (cc := cX3_become) (maxL := 2) (ret := none) (by decide) rfl ?_
  intro p e s m args below meth c s₁ B hml hv
  obtain ⟨rfl, hK, Z, S, hZ, hP⟩ := hv
  have hx := B.exec
  have hb := B.bytes
  have hret := B.returns
  have hts := atoms_spec (ws := wsX3_become) B.pre
  have hown : s.vm.findClass RX3 = some m.cls := findClass_of_methodNamed B.named
  have hlocks := B.notSynchronized
  dsimp only at hZ hP
  have lk0 := hts (.fieldLink RX3 9 "LeafTrees$Row" "symbols" "[I") (by decide +kernel)
  have lk1 := hts (.fieldLink RX3 15 "LeafTrees$Row" "length" "I") (by decide +kernel)
  have lk2 := hts (.methodLink RX3 19 arraycopyName) (by decide +kernel)
  have lk3 := hts (.native arraycopyName) (by decide +kernel)
  have lk4 := hts (.static arraycopyName) (by decide +kernel)
  have lk5 := hts (.initialized "java/lang/System") (by decide +kernel)
  have hin3 : ∀ w ∈ u_ws RX3 TX3 2, w ∈ wsX3_become := by decide +kernel
  have hS : va_S (xA ad) s.heap s.heap [] := va_S.rf
  have hl := lv_entry [.ref (ad (58 + 2 * k)), .ref (ad (58 + 2 * j))] (n := 2) (Nat.le_of_ble_eq_true rfl)
  rw [lg_entry_eq]
  generalize (lg_sl [.ref (ad (58 + 2 * k)), .ref (ad (58 + 2 * j))] ++ List.replicate (2 - (lg_sl [.ref (ad (58 + 2 * k)), .ref (ad (58 + 2 * j))]).length) Slot.unset).toArray = ls at hl ⊢
  have hl : lv_has ls 2 [(0, .ref (ad (58 + 2 * k))), (1, .ref (ad (58 + 2 * j)))] := hl
  refine nx_Q (R := ({ frames := 1, cells := 0, slots := 0, locals := 40 } : Room)) (fun Q hQ => ?_)
  have hlj := (hZ j hj).1
  have hZ0 := hZ
  refine lv_aload_n hx hb dX3_become_0 rfl (lv_at hl 1 rfl) ?_
  refine va_get (D := (dC, dI)) (ci := 3) (C := RX3) (T := TX3) (N := 2) hx hb hts hin3 hown hK hP (58 + 2 * j) (xw_ro j (by omega)) rfl 0 (by decide) lk0 (fun _ h9 => h9) rfl dX3_become_1 ?_
  refine lv_iconst (v := nI 0) hx hb dX3_become_4 (by decide) ?_
  refine lv_aload_n hx hb dX3_become_5 rfl (lv_at hl 0 rfl) ?_
  refine va_get (D := (dC, dI)) (ci := 3) (C := RX3) (T := TX3) (N := 2) hx hb hts hin3 hown hK hP (58 + 2 * k) (xw_ro k (by omega)) rfl 0 (by decide) lk0 (fun _ h9 => h9) rfl dX3_become_6 ?_
  refine lv_iconst (v := nI 0) hx hb dX3_become_9 (by decide) ?_
  refine lv_aload_n hx hb dX3_become_10 rfl (lv_at hl 1 rfl) ?_
  refine va_get (D := (dC, dI)) (ci := 3) (C := RX3) (T := TX3) (N := 2) hx hb hts hin3 hown hK hP (58 + 2 * j) (xw_ro j (by omega)) rfl 1 (by decide) lk1 (fun _ h9 => h9) rfl dX3_become_11 ?_
  refine nx_ti (y := nI (R j).length) ((hZ j (by omega)).2.1) ?_
  refine nx_copyi (rest := []) hx hb (hml.trans hl.1.symm) hown lk2 lk3 lk4 lk5 hK hP (wsX_D hI) hS (59 + 2 * j) (59 + 2 * k) 0 0 (xw_ra j (by omega)) (xw_ra k (by omega)) rfl rfl (sp := 0) (dp := 0) (n := (R j).length) (by omega) (by omega) (by decide) (Nat.le_of_ble_eq_true rfl) (by decide) dX3_become_14 (fun H locs hP hS => ?_)
  rw [xs_arr k (by omega)] at hP
  refine lv_aload_n hx hb dX3_become_17 rfl (lv_at hl 0 rfl) ?_
  refine lv_aload_n hx hb dX3_become_18 rfl (lv_at hl 1 rfl) ?_
  refine va_get (D := (dC, dI)) (ci := 3) (C := RX3) (T := TX3) (N := 2) hx hb hts hin3 hown hK hP (58 + 2 * j) (xw_ro j (by omega)) rfl 1 (by decide) lk1 (fun _ h9 => h9) rfl dX3_become_19 ?_
  refine nx_ti (y := nI (R j).length) ((hZ0 j hj).2.1) ?_
  refine va_put (D := (dC, dI)) (ci := 3) (v := .int (nI (R j).length)) (ty := .int) (C := RX3) (T := TX3) (N := 2) hx hb hts hin3 tyX3 tyX3_ok nmX3 hown hK hP (wsX_D hI) hS (58 + 2 * k) (xw_ro k (by omega)) rfl 1 (by decide) lk1 (fun _ h9 => h9) rfl (by decide +kernel) rfl rfl (Nat.le_of_ble_eq_true rfl) dX3_become_22 (fun H locs hP _ hS => ?_)
  have hP : va_P (dC, dI) vwCl ((wsX aC ad cap v Z (va_up S k (va_cpy (S j) (S k) 0 0 (R j).length)) F G).set (58 + 2 * k) (ad (58 + 2 * k), .inr (3, [.ref (ad (59 + 2 * k)), .int (nI (R j).length)]))) H := hP
  rw [xs_len k (by omega)] at hP
  have hZ := xOK_all (k := k) hZ0 hj
  subst hQ
  exact W.vret hx hb hret (fun tq htq hWq => ⟨⟨(v, va_up R k (R j), F, G), rfl, rfl, va_K.moved hWq.alike hK, _, _, hZ, by rw [htq]; exact hP⟩, hS.F htq⟩) hS.2.2 dX3_become_25

set_option maxHeartbeats 1000000 in
set_option maxRecDepth 100000 in
/-- Row.isLike -/
theorem x_isLike (l : Launch) (dC : Nat → ClassId) (dI : Nat → Nat → Nat) (aC : Nat → ClassId) (ad cap : Nat → Nat) (v : Nat → Int32) (R : Nat → List Int32) (F : Nat → Nat → Int32) (G : Nat → Nat → Int64) (k : Nat) (hk : k < 31) (j : Nat) (hj : j < 31) : Met l yX3_isLike wsX3_isLike ({ frames := 0, cells := 0, slots := 0, locals := 0 } : Room) (va_Pc [.ref (ad (58 + 2 * k)), .ref (ad (58 + 2 * j))] (XB dC dI aC ad cap (v, R, F, G))) (vp_Si (fun x => x = bI (R k = R j))) 0 0 (fun _ => False) := by
  refine Met.ofW (cc := cX3_isLike) (maxL := 3) (ret := (some .boolean)) (by decide) rfl ?_
  intro p e s m args below meth c s₁ B hml hv
  obtain ⟨rfl, hK, Z, S, hZ, hP⟩ := hv
  have hx := B.exec
  have hb := B.bytes
  have hret := B.returns
  have hts := atoms_spec (ws := wsX3_isLike) B.pre
  have hown : s.vm.findClass RX3 = some m.cls := findClass_of_methodNamed B.named
  have hlocks := B.notSynchronized
  dsimp only at hZ hP
  have lk0 := hts (.fieldLink RX3 15 "LeafTrees$Row" "length" "I") (by decide +kernel)
  have lk1 := hts (.fieldLink RX3 9 "LeafTrees$Row" "symbols" "[I") (by decide +kernel)
  have hin3 : ∀ w ∈ u_ws RX3 TX3 2, w ∈ wsX3_isLike := by decide +kernel
  have hl := lv_entry [.ref (ad (58 + 2 * k)), .ref (ad (58 + 2 * j))] (n := 3) (Nat.le_of_ble_eq_true rfl)
  rw [lg_entry_eq]
  generalize (lg_sl [.ref (ad (58 + 2 * k)), .ref (ad (58 + 2 * j))] ++ List.replicate (3 - (lg_sl [.ref (ad (58 + 2 * k)), .ref (ad (58 + 2 * j))]).length) Slot.unset).toArray = ls at hl ⊢
  have hl : lv_has ls 3 [(0, .ref (ad (58 + 2 * k))), (1, .ref (ad (58 + 2 * j)))] := hl
  refine nx_Q (R := ({ frames := 0, cells := 0, slots := 0, locals := 0 } : Room)) (fun Q hQ => ?_)
  have hlk := (hZ k hk).1
  have hlj := (hZ j hj).1
  refine lv_aload_n hx hb dX3_isLike_0 rfl (lv_at hl 0 rfl) ?_
  refine va_get (D := (dC, dI)) (ci := 3) (C := RX3) (T := TX3) (N := 2) hx hb hts hin3 hown hK hP (58 + 2 * k) (xw_ro k (by omega)) rfl 1 (by decide) lk0 (fun _ h9 => h9) rfl dX3_isLike_1 ?_
  refine nx_ti (y := nI (R k).length) ((hZ k (by omega)).2.1) ?_
  refine lv_aload_n hx hb dX3_isLike_4 rfl (lv_at hl 1 rfl) ?_
  refine va_get (D := (dC, dI)) (ci := 3) (C := RX3) (T := TX3) (N := 2) hx hb hts hin3 hown hK hP (58 + 2 * j) (xw_ro j (by omega)) rfl 1 (by decide) lk0 (fun _ h9 => h9) rfl dX3_isLike_5 ?_
  refine nx_ti (y := nI (R j).length) ((hZ j (by omega)).2.1) ?_
  refine nx_icmp_eq (a := (R k).length) (b := (R j).length) (tgt := 13) hx hb dX3_isLike_8 (by decide) (by omega) (by omega) (fun c_8 => ?_) (fun c_8 => ?_)
  · skip
    refine lv_iconst (v := nI 0) hx hb dX3_isLike_13 (by decide) ?_
    refine lv_istore_n (lv' := [(2, .int (nI 0)), (0, .ref (ad (58 + 2 * k))), (1, .ref (ad (58 + 2 * j)))]) hx hb dX3_isLike_14 rfl hl (by decide) rfl (fun ls hl => ?_)
    have L15 : ∀ (fuel15 : Nat) (i : Nat) (ls : Array Slot), (i ≤ (R k).length) → (∀ q, q < i → gD (R k) q = gD (R j) q) → 60 - i < fuel15 → lv_has ls 3 [(0, .ref (ad (58 + 2 * k))), (1, .ref (ad (58 + 2 * j))), (2, .int (nI i))] → W p l e ({ frames := 0, cells := 0, slots := 0, locals := 0 } : Room) s m ([.ref (ad (58 + 2 * k)), .ref (ad (58 + 2 * j))] : List Value).toArray below meth c s.heap [] 0 0 Q (F0 m 15 ls []) := by
      intro fuel15
      induction fuel15 with
      | zero => intro i ls hi hq hf15 hl; exact absurd hf15 (Nat.not_lt_zero _)
      | succ fuel15 ih15 =>
        intro i ls hi hq hf15 hl
        refine lv_iload_n hx hb dX3_isLike_15 rfl (lv_at hl 2 rfl) ?_
        refine lv_aload_n hx hb dX3_isLike_16 rfl (lv_at hl 0 rfl) ?_
        refine va_get (D := (dC, dI)) (ci := 3) (C := RX3) (T := TX3) (N := 2) hx hb hts hin3 hown hK hP (58 + 2 * k) (xw_ro k (by omega)) rfl 1 (by decide) lk0 (fun _ h9 => h9) rfl dX3_isLike_17 ?_
        refine nx_ti (y := nI (R k).length) ((hZ k (by omega)).2.1) ?_
        refine nx_icmp_ge (a := i) (b := (R k).length) (tgt := 46) hx hb dX3_isLike_20 (by decide) (by omega) (by omega) (fun c_20 => ?_) (fun c_20 => ?_)
        · skip
          refine lv_iconst (v := nI 1) hx hb dX3_isLike_46 (by decide) ?_
          subst hQ
          exact W.zret (v := nI 1) hx hb hret (rfl) (fun tq htq hWq => ⟨_, rfl, (bI_t (list_eq_gD.mpr ⟨c_8, fun q h => hq q (by omega)⟩)).symm, htq⟩) (fun q h => by cases h) dX3_isLike_47
        · skip
          refine lv_aload_n hx hb dX3_isLike_23 rfl (lv_at hl 0 rfl) ?_
          refine va_get (D := (dC, dI)) (ci := 3) (C := RX3) (T := TX3) (N := 2) hx hb hts hin3 hown hK hP (58 + 2 * k) (xw_ro k (by omega)) rfl 0 (by decide) lk1 (fun _ h9 => h9) rfl dX3_isLike_24 ?_
          refine lv_iload_n hx hb dX3_isLike_27 rfl (lv_at hl 2 rfl) ?_
          refine nx_iald hx hb hK hP (59 + 2 * k) 0 (xw_ra k (by omega)) rfl (i := i) (by have := (hZ k (by omega)).1; omega) (by decide) dX3_isLike_28 ?_
          refine nx_ti (y := gD (R k) i) ((hZ k (by omega)).2.2 i (by omega)) ?_
          refine lv_aload_n hx hb dX3_isLike_29 rfl (lv_at hl 1 rfl) ?_
          refine va_get (D := (dC, dI)) (ci := 3) (C := RX3) (T := TX3) (N := 2) hx hb hts hin3 hown hK hP (58 + 2 * j) (xw_ro j (by omega)) rfl 0 (by decide) lk1 (fun _ h9 => h9) rfl dX3_isLike_30 ?_
          refine lv_iload_n hx hb dX3_isLike_33 rfl (lv_at hl 2 rfl) ?_
          refine nx_iald hx hb hK hP (59 + 2 * j) 0 (xw_ra j (by omega)) rfl (i := i) (by have := (hZ j (by omega)).1; omega) (by decide) dX3_isLike_34 ?_
          refine nx_ti (y := gD (R j) i) ((hZ j (by omega)).2.2 i (by omega)) ?_
          refine lv_icmp_eq (tgt := 40) hx hb dX3_isLike_35 (by decide) (fun c_35 => ?_) (fun c_35 => ?_)
          · skip
            refine lv_iinc (v := nI (i + 1)) (lv' := [(2, .int (nI (i + 1))), (0, .ref (ad (58 + 2 * k))), (1, .ref (ad (58 + 2 * j)))]) hx hb dX3_isLike_40 hl (k := 2) rfl (nI_add _ _) (by decide) rfl (fun ls hl => ?_)
            refine lv_goto (tgt := 15) hx hb dX3_isLike_43 (by decide) ?_
            exact ih15 (i + 1) _ (by omega) (lt_s hq c_35) (by omega) (lv_sub hl [1, 2, 0] rfl)
          · skip
            refine lv_iconst (v := nI 0) hx hb dX3_isLike_38 (by decide) ?_
            subst hQ
            exact W.zret (v := nI 0) hx hb hret (rfl) (fun tq htq hWq => ⟨_, rfl, (bI_f (fun h => c_35 (by rw [h]))).symm, htq⟩) (fun q h => by cases h) dX3_isLike_39
    exact L15 (60 - 0 + 1) 0 _ (by omega) (fun q h => absurd h (Nat.not_lt_zero q)) (Nat.lt_succ_self _) (lv_sub hl [1, 2, 0] rfl)
  · skip
    refine lv_iconst (v := nI 0) hx hb dX3_isLike_11 (by decide) ?_
    subst hQ
    exact W.zret (v := nI 0) hx hb hret (rfl) (fun tq htq hWq => ⟨_, rfl, (bI_f (fun h => c_8 (by rw [h]))).symm, htq⟩) (fun q h => by cases h) dX3_isLike_12

set_option maxHeartbeats 1000000 in
set_option maxRecDepth 100000 in
/-- Row.leaves -/
theorem x_leaves (l : Launch) (dC : Nat → ClassId) (dI : Nat → Nat → Nat) (aC : Nat → ClassId) (ad cap : Nat → Nat) (v : Nat → Int32) (R : Nat → List Int32) (F : Nat → Nat → Int32) (G : Nat → Nat → Int64) (k : Nat) (hk : k < 31) : Met l yX3_leaves wsX3_leaves ({ frames := 0, cells := 0, slots := 0, locals := 0 } : Room) (va_Pc [.ref (ad (58 + 2 * k))] (XB dC dI aC ad cap (v, R, F, G))) (vp_Si (fun x => x = nI (lvs (R k)))) 0 0 (fun _ => False) := by
  refine Met.ofW (cc := cX3_leaves) (maxL := 3) (ret := (some .int)) (by decide) rfl ?_
  intro p e s m args below meth c s₁ B hml hv
  obtain ⟨rfl, hK, Z, S, hZ, hP⟩ := hv
  have hx := B.exec
  have hb := B.bytes
  have hret := B.returns
  have hts := atoms_spec (ws := wsX3_leaves) B.pre
  have hown : s.vm.findClass RX3 = some m.cls := findClass_of_methodNamed B.named
  have hlocks := B.notSynchronized
  dsimp only at hZ hP
  have lk0 := hts (.fieldLink RX3 15 "LeafTrees$Row" "length" "I") (by decide +kernel)
  have lk1 := hts (.fieldLink RX3 9 "LeafTrees$Row" "symbols" "[I") (by decide +kernel)
  have hin3 : ∀ w ∈ u_ws RX3 TX3 2, w ∈ wsX3_leaves := by decide +kernel
  have hl := lv_entry [.ref (ad (58 + 2 * k))] (n := 3) (Nat.le_of_ble_eq_true rfl)
  rw [lg_entry_eq]
  generalize (lg_sl [.ref (ad (58 + 2 * k))] ++ List.replicate (3 - (lg_sl [.ref (ad (58 + 2 * k))]).length) Slot.unset).toArray = ls at hl ⊢
  have hl : lv_has ls 3 [(0, .ref (ad (58 + 2 * k)))] := hl
  refine nx_Q (R := ({ frames := 0, cells := 0, slots := 0, locals := 0 } : Room)) (fun Q hQ => ?_)
  have hlen := (hZ k hk).1
  refine lv_iconst (v := nI 0) hx hb dX3_leaves_0 (by decide) ?_
  refine lv_istore_n (lv' := [(1, .int (nI 0)), (0, .ref (ad (58 + 2 * k)))]) hx hb dX3_leaves_1 rfl hl (by decide) rfl (fun ls hl => ?_)
  refine lv_iconst (v := nI 0) hx hb dX3_leaves_2 (by decide) ?_
  refine lv_istore_n (lv' := [(2, .int (nI 0)), (1, .int (nI 0)), (0, .ref (ad (58 + 2 * k)))]) hx hb dX3_leaves_3 rfl hl (by decide) rfl (fun ls hl => ?_)
  have L4 : ∀ (fuel4 : Nat) (i : Nat) (ls : Array Slot), (i ≤ (R k).length) → 60 - i < fuel4 → lv_has ls 3 [(0, .ref (ad (58 + 2 * k))), (1, .int (nI (cF (gD (R k)) i))), (2, .int (nI i))] → W p l e ({ frames := 0, cells := 0, slots := 0, locals := 0 } : Room) s m ([.ref (ad (58 + 2 * k))] : List Value).toArray below meth c s.heap [] 0 0 Q (F0 m 4 ls []) := by
    intro fuel4
    induction fuel4 with
    | zero => intro i ls hi hf4 hl; exact absurd hf4 (Nat.not_lt_zero _)
    | succ fuel4 ih4 =>
      intro i ls hi hf4 hl
      refine lv_iload_n hx hb dX3_leaves_4 rfl (lv_at hl 2 rfl) ?_
      refine lv_aload_n hx hb dX3_leaves_5 rfl (lv_at hl 0 rfl) ?_
      refine va_get (D := (dC, dI)) (ci := 3) (C := RX3) (T := TX3) (N := 2) hx hb hts hin3 hown hK hP (58 + 2 * k) (xw_ro k (by omega)) rfl 1 (by decide) lk0 (fun _ h9 => h9) rfl dX3_leaves_6 ?_
      refine nx_ti (y := nI (R k).length) ((hZ k (by omega)).2.1) ?_
      refine nx_icmp_ge (a := i) (b := (R k).length) (tgt := 31) hx hb dX3_leaves_9 (by decide) (by omega) (by omega) (fun c_9 => ?_) (fun c_9 => ?_)
      · skip
        refine lv_iload_n hx hb dX3_leaves_31 rfl (lv_at hl 1 rfl) ?_
        subst hQ
        exact W.iret (v := nI (cF (gD (R k)) i)) hx hb hret (fun tq htq hWq => ⟨_, rfl, by rw [lvs, show (R k).length = i by omega], htq⟩) (fun q h => by cases h) dX3_leaves_32
      · skip
        refine lv_aload_n hx hb dX3_leaves_12 rfl (lv_at hl 0 rfl) ?_
        refine va_get (D := (dC, dI)) (ci := 3) (C := RX3) (T := TX3) (N := 2) hx hb hts hin3 hown hK hP (58 + 2 * k) (xw_ro k (by omega)) rfl 0 (by decide) lk1 (fun _ h9 => h9) rfl dX3_leaves_13 ?_
        refine lv_iload_n hx hb dX3_leaves_16 rfl (lv_at hl 2 rfl) ?_
        refine nx_iald hx hb hK hP (59 + 2 * k) 0 (xw_ra k (by omega)) rfl (i := i) (by have := (hZ k (by omega)).1; omega) (by decide) dX3_leaves_17 ?_
        refine nx_ti (y := gD (R k) i) ((hZ k (by omega)).2.2 i (by omega)) ?_
        refine lv_iconst (v := (-1)) hx hb dX3_leaves_18 (by decide) ?_
        refine lv_icmp_ne (tgt := 25) hx hb dX3_leaves_19 (by decide) (fun c_19 => ?_) (fun c_19 => ?_)
        · skip
          refine lv_iinc (v := nI (i + 1)) (lv' := [(2, .int (nI (i + 1))), (0, .ref (ad (58 + 2 * k))), (1, .int (nI (cF (gD (R k)) i)))]) hx hb dX3_leaves_25 hl (k := 2) rfl (nI_add _ _) (by decide) rfl (fun ls hl => ?_)
          refine lv_goto (tgt := 4) hx hb dX3_leaves_28 (by decide) ?_
          exact ih4 (i + 1) _ (by omega) (by omega) (by rw [cF_f c_19]; exact lv_sub hl [1, 2, 0] rfl)
        · skip
          refine lv_iinc (v := nI (cF (gD (R k)) i + 1)) (lv' := [(1, .int (nI (cF (gD (R k)) i + 1))), (0, .ref (ad (58 + 2 * k))), (2, .int (nI i))]) hx hb dX3_leaves_22 hl (k := 1) rfl (nI_add _ _) (by decide) rfl (fun ls hl => ?_)
          refine lv_iinc (v := nI (i + 1)) (lv' := [(2, .int (nI (i + 1))), (1, .int (nI (cF (gD (R k)) i + 1))), (0, .ref (ad (58 + 2 * k)))]) hx hb dX3_leaves_25 hl (k := 2) rfl (nI_add _ _) (by decide) rfl (fun ls hl => ?_)
          refine lv_goto (tgt := 4) hx hb dX3_leaves_28 (by decide) ?_
          exact ih4 (i + 1) _ (by omega) (by omega) (by rw [cF_t c_19]; exact lv_sub hl [2, 1, 0] rfl)
  exact L4 (60 - 0 + 1) 0 _ (by omega) (Nat.lt_succ_self _) (lv_sub hl [2, 1, 0] rfl)

set_option maxHeartbeats 1000000 in
set_option maxRecDepth 100000 in
/-- Row.size -/
theorem x_size (l : Launch) (dC : Nat → ClassId) (dI : Nat → Nat → Nat) (aC : Nat → ClassId) (ad cap : Nat → Nat) (v : Nat → Int32) (R : Nat → List Int32) (F : Nat → Nat → Int32) (G : Nat → Nat → Int64) (k : Nat) (hk : k < 31) : Met l yX3_size wsX3_size ({ frames := 1, cells := 0, slots := 0, locals := 22 } : Room) (va_Pc [.ref (ad (58 + 2 * k))] (XB dC dI aC ad cap (v, R, F, G))) (vp_Si (fun x => x = nI ((R k).length - lvs (R k)))) 0 0 (fun _ => False) := by
  refine Met.ofW (cc := cX3_size) (maxL := 1) (ret := (some .int)) (by decide) rfl ?_
  intro p e s m args below meth c s₁ B hml hv
  obtain ⟨rfl, hK, Z, S, hZ, hP⟩ := hv
  have hx := B.exec
  have hb := B.bytes
  have hret := B.returns
  have hts := atoms_spec (ws := wsX3_size) B.pre
  have hown : s.vm.findClass RX3 = some m.cls := findClass_of_methodNamed B.named
  have hlocks := B.notSynchronized
  dsimp only at hZ hP
  have lk0 := hts (.fieldLink RX3 15 "LeafTrees$Row" "length" "I") (by decide +kernel)
  have hin3 : ∀ w ∈ u_ws RX3 TX3 2, w ∈ wsX3_size := by decide +kernel
  have hl := lv_entry [.ref (ad (58 + 2 * k))] (n := 1) (Nat.le_of_ble_eq_true rfl)
  rw [lg_entry_eq]
  generalize (lg_sl [.ref (ad (58 + 2 * k))] ++ List.replicate (1 - (lg_sl [.ref (ad (58 + 2 * k))]).length) Slot.unset).toArray = ls at hl ⊢
  have hl : lv_has ls 1 [(0, .ref (ad (58 + 2 * k)))] := hl
  refine nx_Q (R := ({ frames := 1, cells := 0, slots := 0, locals := 22 } : Room)) (fun Q hQ => ?_)
  refine lv_aload_n hx hb dX3_size_0 rfl (lv_at hl 0 rfl) ?_
  refine va_get (D := (dC, dI)) (ci := 3) (C := RX3) (T := TX3) (N := 2) hx hb hts hin3 hown hK hP (58 + 2 * k) (xw_ro k (by omega)) rfl 1 (by decide) lk0 (fun _ h9 => h9) rfl dX3_size_1 ?_
  refine nx_ti (y := nI (R k).length) ((hZ k (by omega)).2.1) ?_
  refine lv_aload_n hx hb dX3_size_4 rfl (lv_at hl 0 rfl) ?_
  refine xp_i (b := ad (58 + 2 * k)) (As := []) (rest := [.int (nI (R k).length)]) ⟨hx, hb, hml, hown, hts⟩ (x_leaves l dC dI aC ad cap v R F G k hk) (cwV 0 hts gX3_size_X3_leaves rfl rfl rfl (by decide +kernel) ⟨Nat.le_of_ble_eq_true rfl, Nat.le_of_ble_eq_true rfl⟩) (xPre (q0 := (58 + 2 * k)) (ci := 3) rfl (xw_ro k (by omega)) hK hZ hP) rfl hl.1 rfl (Nat.le_of_ble_eq_true rfl) dX3_size_5 ⟨Nat.le_of_ble_eq_true rfl, Nat.le_of_ble_eq_true rfl⟩ (fun x_5 h_5 => ?_)
  refine nx_ti (y := nI (lvs (R k))) h_5 ?_
  refine lv_isub hx hb dX3_size_8 ?_
  refine nx_ti (y := nI ((R k).length - (lvs (R k)))) (pk_sub (lvs_le _)) ?_
  subst hQ
  exact W.iret (v := nI ((R k).length - (lvs (R k)))) hx hb hret (fun tq htq hWq => ⟨_, rfl, rfl, htq⟩) (fun q h => by cases h) dX3_size_9

set_option maxHeartbeats 1000000 in
set_option maxRecDepth 100000 in
/-- Row.digestedAfter -/
theorem x_digestedAfter (l : Launch) (dC : Nat → ClassId) (dI : Nat → Nat → Nat) (aC : Nat → ClassId) (ad cap : Nat → Nat) (v : Nat → Int32) (R : Nat → List Int32) (F : Nat → Nat → Int32) (G : Nat → Nat → Int64) (h : Int64) (k : Nat) (hk : k < 31) : Met l yX3_digestedAfter wsX3_digestedAfter ({ frames := 0, cells := 0, slots := 0, locals := 0 } : Room) (va_Pc [.ref (ad (58 + 2 * k)), .long h] (XB dC dI aC ad cap (v, R, F, G))) (vp_Sl (fun x => x = dgR h (R k))) 0 0 (fun _ => False) := by
  refine Met.ofW (cc := cX3_digestedAfter) (maxL := 6) (ret := (some .long)) (by decide) rfl ?_
  intro p e s m args below meth c s₁ B hml hv
  obtain ⟨rfl, hK, Z, S, hZ, hP⟩ := hv
  have hx := B.exec
  have hb := B.bytes
  have hret := B.returns
  have hts := atoms_spec (ws := wsX3_digestedAfter) B.pre
  have hown : s.vm.findClass RX3 = some m.cls := findClass_of_methodNamed B.named
  have hlocks := B.notSynchronized
  dsimp only at hZ hP
  have lk0 := hts (.fieldLink RX3 15 "LeafTrees$Row" "length" "I") (by decide +kernel)
  have lk1 := hts (.constantLong RX3 29 (31)) (by decide +kernel)
  have lk2 := hts (.constantLong RX3 31 (9)) (by decide +kernel)
  have lk3 := hts (.fieldLink RX3 9 "LeafTrees$Row" "symbols" "[I") (by decide +kernel)
  have hin3 : ∀ w ∈ u_ws RX3 TX3 2, w ∈ wsX3_digestedAfter := by decide +kernel
  have hl := lv_entry [.ref (ad (58 + 2 * k)), .long h] (n := 6) (Nat.le_of_ble_eq_true rfl)
  rw [lg_entry_eq]
  generalize (lg_sl [.ref (ad (58 + 2 * k)), .long h] ++ List.replicate (6 - (lg_sl [.ref (ad (58 + 2 * k)), .long h]).length) Slot.unset).toArray = ls at hl ⊢
  have hl : lv_has ls 6 [(0, .ref (ad (58 + 2 * k))), (1, .long h)] := hl
  refine nx_Q (R := ({ frames := 0, cells := 0, slots := 0, locals := 0 } : Room)) (fun Q hQ => ?_)
  have hlen := (hZ k hk).1
  refine lv_lload_n hx hb dX3_digestedAfter_0 rfl (lv_at hl 1 rfl) ?_
  refine lv_lstore_n (lv' := [(3, .long h), (0, .ref (ad (58 + 2 * k))), (1, .long h)]) hx hb dX3_digestedAfter_1 rfl hl (by decide) rfl (fun ls hl => ?_)
  refine lv_iconst (v := nI 0) hx hb dX3_digestedAfter_2 (by decide) ?_
  refine lv_istore (lv' := [(5, .int (nI 0)), (3, .long h), (0, .ref (ad (58 + 2 * k))), (1, .long h)]) hx hb dX3_digestedAfter_3 hl (by decide) rfl (fun ls hl => ?_)
  have L5 : ∀ (fuel5 : Nat) (i : Nat) (ls : Array Slot), (i ≤ (R k).length) → 60 - i < fuel5 → lv_has ls 6 [(0, .ref (ad (58 + 2 * k))), (3, .long (dgF h (gD (R k)) i)), (5, .int (nI i))] → W p l e ({ frames := 0, cells := 0, slots := 0, locals := 0 } : Room) s m ([.ref (ad (58 + 2 * k)), .long h] : List Value).toArray below meth c s.heap [] 0 0 Q (F0 m 5 ls []) := by
    intro fuel5
    induction fuel5 with
    | zero => intro i ls hi hf5 hl; exact absurd hf5 (Nat.not_lt_zero _)
    | succ fuel5 ih5 =>
      intro i ls hi hf5 hl
      refine lv_iload hx hb dX3_digestedAfter_5 (lv_at hl 2 rfl) ?_
      refine lv_aload_n hx hb dX3_digestedAfter_7 rfl (lv_at hl 0 rfl) ?_
      refine va_get (D := (dC, dI)) (ci := 3) (C := RX3) (T := TX3) (N := 2) hx hb hts hin3 hown hK hP (58 + 2 * k) (xw_ro k (by omega)) rfl 1 (by decide) lk0 (fun _ h9 => h9) rfl dX3_digestedAfter_8 ?_
      refine nx_ti (y := nI (R k).length) ((hZ k (by omega)).2.1) ?_
      refine nx_icmp_ge (a := i) (b := (R k).length) (tgt := 35) hx hb dX3_digestedAfter_11 (by decide) (by omega) (by omega) (fun c_11 => ?_) (fun c_11 => ?_)
      · skip
        refine lv_ldc2 hx hb hown lk1 dX3_digestedAfter_35 ?_
        refine lv_lload_n hx hb dX3_digestedAfter_38 rfl (lv_at hl 1 rfl) ?_
        refine lv_lmul hx hb dX3_digestedAfter_39 ?_
        refine lv_ldc2 hx hb hown lk2 dX3_digestedAfter_40 ?_
        refine lv_ladd hx hb dX3_digestedAfter_43 ?_
        subst hQ
        exact W.lret (v := ((31) * (dgF h (gD (R k)) i)) + (9)) hx hb hret (fun tq htq hWq => ⟨_, rfl, by rw [dgR, show (R k).length = i by omega], htq⟩) (fun q h => by cases h) dX3_digestedAfter_44
      · skip
        refine lv_ldc2 hx hb hown lk1 dX3_digestedAfter_14 ?_
        refine lv_lload_n hx hb dX3_digestedAfter_17 rfl (lv_at hl 1 rfl) ?_
        refine lv_lmul hx hb dX3_digestedAfter_18 ?_
        refine lv_aload_n hx hb dX3_digestedAfter_19 rfl (lv_at hl 0 rfl) ?_
        refine va_get (D := (dC, dI)) (ci := 3) (C := RX3) (T := TX3) (N := 2) hx hb hts hin3 hown hK hP (58 + 2 * k) (xw_ro k (by omega)) rfl 0 (by decide) lk3 (fun _ h9 => h9) rfl dX3_digestedAfter_20 ?_
        refine lv_iload hx hb dX3_digestedAfter_23 (lv_at hl 2 rfl) ?_
        refine nx_iald hx hb hK hP (59 + 2 * k) 0 (xw_ra k (by omega)) rfl (i := i) (by have := (hZ k (by omega)).1; omega) (by decide) dX3_digestedAfter_25 ?_
        refine nx_ti (y := gD (R k) i) ((hZ k (by omega)).2.2 i (by omega)) ?_
        refine lv_i2l hx hb dX3_digestedAfter_26 rfl ?_
        refine lv_ladd hx hb dX3_digestedAfter_27 ?_
        refine lv_lstore_n (lv' := [(3, .long (((31) * (dgF h (gD (R k)) i)) + (gD (R k) i).toInt64)), (0, .ref (ad (58 + 2 * k))), (5, .int (nI i))]) hx hb dX3_digestedAfter_28 rfl hl (by decide) rfl (fun ls hl => ?_)
        refine lv_iinc (v := nI (i + 1)) (lv' := [(5, .int (nI (i + 1))), (3, .long (((31) * (dgF h (gD (R k)) i)) + (gD (R k) i).toInt64)), (0, .ref (ad (58 + 2 * k)))]) hx hb dX3_digestedAfter_29 hl (k := 2) rfl (nI_add _ _) (by decide) rfl (fun ls hl => ?_)
        refine lv_goto (tgt := 5) hx hb dX3_digestedAfter_32 (by decide) ?_
        exact ih5 (i + 1) _ (by omega) (by omega) (lv_sub hl [2, 1, 0] rfl)
  exact L5 (60 - 0 + 1) 0 _ (by omega) (Nat.lt_succ_self _) (lv_sub hl [2, 1, 0] rfl)

set_option maxHeartbeats 1000000 in
set_option maxRecDepth 100000 in
/-- Row.placeOfLeaf -/
theorem x_placeOfLeaf (l : Launch) (dC : Nat → ClassId) (dI : Nat → Nat → Nat) (aC : Nat → ClassId) (ad cap : Nat → Nat) (v : Nat → Int32) (R : Nat → List Int32) (F : Nat → Nat → Int32) (G : Nat → Nat → Int64) (k : Nat) (hk : k < 31) (a : Int32) : Met l yX3_placeOfLeaf wsX3_placeOfLeaf ({ frames := 0, cells := 0, slots := 0, locals := 0 } : Room) (va_Pc [.ref (ad (58 + 2 * k)), .int a] (XB dC dI aC ad cap (v, R, F, G))) (vp_Si (fun x => (∀ i p0, a = nI i → p0 < (R k).length → gD (R k) p0 = -1 → cF (gD (R k)) p0 = i → i < 2 ^ 31 → x = nI p0) ∧ (¬ rIn a (lvs (R k)) → x = -1))) 0 0 (fun _ => False) := by
  refine Met.ofW (cc := cX3_placeOfLeaf) (maxL := 4) (ret := (some .int)) (by decide) rfl ?_
  intro p e s m args below meth c s₁ B hml hv
  obtain ⟨rfl, hK, Z, S, hZ, hP⟩ := hv
  have hx := B.exec
  have hb := B.bytes
  have hret := B.returns
  have hts := atoms_spec (ws := wsX3_placeOfLeaf) B.pre
  have hown : s.vm.findClass RX3 = some m.cls := findClass_of_methodNamed B.named
  have hlocks := B.notSynchronized
  dsimp only at hZ hP
  have lk0 := hts (.fieldLink RX3 15 "LeafTrees$Row" "length" "I") (by decide +kernel)
  have lk1 := hts (.fieldLink RX3 9 "LeafTrees$Row" "symbols" "[I") (by decide +kernel)
  have hin3 : ∀ w ∈ u_ws RX3 TX3 2, w ∈ wsX3_placeOfLeaf := by decide +kernel
  have hl := lv_entry [.ref (ad (58 + 2 * k)), .int a] (n := 4) (Nat.le_of_ble_eq_true rfl)
  rw [lg_entry_eq]
  generalize (lg_sl [.ref (ad (58 + 2 * k)), .int a] ++ List.replicate (4 - (lg_sl [.ref (ad (58 + 2 * k)), .int a]).length) Slot.unset).toArray = ls at hl ⊢
  have hl : lv_has ls 4 [(0, .ref (ad (58 + 2 * k))), (1, .int a)] := hl
  refine nx_Q (R := ({ frames := 0, cells := 0, slots := 0, locals := 0 } : Room)) (fun Q hQ => ?_)
  have hlen := (hZ k hk).1
  refine lv_iconst (v := nI 0) hx hb dX3_placeOfLeaf_0 (by decide) ?_
  refine lv_istore_n (lv' := [(2, .int (nI 0)), (0, .ref (ad (58 + 2 * k))), (1, .int a)]) hx hb dX3_placeOfLeaf_1 rfl hl (by decide) rfl (fun ls hl => ?_)
  refine lv_iconst (v := nI 0) hx hb dX3_placeOfLeaf_2 (by decide) ?_
  refine lv_istore_n (lv' := [(3, .int (nI 0)), (2, .int (nI 0)), (0, .ref (ad (58 + 2 * k))), (1, .int a)]) hx hb dX3_placeOfLeaf_3 rfl hl (by decide) rfl (fun ls hl => ?_)
  have L4 : ∀ (fuel4 : Nat) (i : Nat) (ls : Array Slot), (i ≤ (R k).length) → (∀ q, q < i → ¬ (gD (R k) q = -1 ∧ nI (cF (gD (R k)) q) = a)) → 60 - i < fuel4 → lv_has ls 4 [(0, .ref (ad (58 + 2 * k))), (1, .int a), (2, .int (nI (cF (gD (R k)) i))), (3, .int (nI i))] → W p l e ({ frames := 0, cells := 0, slots := 0, locals := 0 } : Room) s m ([.ref (ad (58 + 2 * k)), .int a] : List Value).toArray below meth c s.heap [] 0 0 Q (F0 m 4 ls []) := by
    intro fuel4
    induction fuel4 with
    | zero => intro i ls hi hno hf4 hl; exact absurd hf4 (Nat.not_lt_zero _)
    | succ fuel4 ih4 =>
      intro i ls hi hno hf4 hl
      have hcl := cF_le (gD (R k)) i
      refine lv_iload_n hx hb dX3_placeOfLeaf_4 rfl (lv_at hl 3 rfl) ?_
      refine lv_aload_n hx hb dX3_placeOfLeaf_5 rfl (lv_at hl 0 rfl) ?_
      refine va_get (D := (dC, dI)) (ci := 3) (C := RX3) (T := TX3) (N := 2) hx hb hts hin3 hown hK hP (58 + 2 * k) (xw_ro k (by omega)) rfl 1 (by decide) lk0 (fun _ h9 => h9) rfl dX3_placeOfLeaf_6 ?_
      refine nx_ti (y := nI (R k).length) ((hZ k (by omega)).2.1) ?_
      refine nx_icmp_ge (a := i) (b := (R k).length) (tgt := 38) hx hb dX3_placeOfLeaf_9 (by decide) (by omega) (by omega) (fun c_9 => ?_) (fun c_9 => ?_)
      · skip
        refine lv_iconst (v := (-1)) hx hb dX3_placeOfLeaf_38 (by decide) ?_
        subst hQ
        exact W.iret (v := (-1)) hx hb hret (fun tq htq hWq => ⟨_, rfl, ⟨fun i0 p0 ha h1 h2 h3 h4 => absurd ⟨h2, by rw [h3, ha]⟩ (hno p0 (by omega)), fun _ => rfl⟩, htq⟩) (fun q h => by cases h) dX3_placeOfLeaf_39
      · skip
        refine lv_aload_n hx hb dX3_placeOfLeaf_12 rfl (lv_at hl 0 rfl) ?_
        refine va_get (D := (dC, dI)) (ci := 3) (C := RX3) (T := TX3) (N := 2) hx hb hts hin3 hown hK hP (58 + 2 * k) (xw_ro k (by omega)) rfl 0 (by decide) lk1 (fun _ h9 => h9) rfl dX3_placeOfLeaf_13 ?_
        refine lv_iload_n hx hb dX3_placeOfLeaf_16 rfl (lv_at hl 3 rfl) ?_
        refine nx_iald hx hb hK hP (59 + 2 * k) 0 (xw_ra k (by omega)) rfl (i := i) (by have := (hZ k (by omega)).1; omega) (by decide) dX3_placeOfLeaf_17 ?_
        refine nx_ti (y := gD (R k) i) ((hZ k (by omega)).2.2 i (by omega)) ?_
        refine lv_iconst (v := (-1)) hx hb dX3_placeOfLeaf_18 (by decide) ?_
        refine lv_icmp_ne (tgt := 32) hx hb dX3_placeOfLeaf_19 (by decide) (fun c_19 => ?_) (fun c_19 => ?_)
        · skip
          refine lv_iinc (v := nI (i + 1)) (lv' := [(3, .int (nI (i + 1))), (0, .ref (ad (58 + 2 * k))), (1, .int a), (2, .int (nI (cF (gD (R k)) i)))]) hx hb dX3_placeOfLeaf_32 hl (k := 3) rfl (nI_add _ _) (by decide) rfl (fun ls hl => ?_)
          refine lv_goto (tgt := 4) hx hb dX3_placeOfLeaf_35 (by decide) ?_
          exact ih4 (i + 1) _ (by omega) (lt_s hno (fun h => c_19 h.1)) (by omega) (by rw [cF_f c_19]; exact lv_sub hl [1, 2, 3, 0] rfl)
        · skip
          refine lv_iload_n hx hb dX3_placeOfLeaf_22 rfl (lv_at hl 2 rfl) ?_
          refine lv_iload_n hx hb dX3_placeOfLeaf_23 rfl (lv_at hl 1 rfl) ?_
          refine lv_icmp_ne (tgt := 29) hx hb dX3_placeOfLeaf_24 (by decide) (fun c_24 => ?_) (fun c_24 => ?_)
          · skip
            refine lv_iinc (v := nI (cF (gD (R k)) i + 1)) (lv' := [(2, .int (nI (cF (gD (R k)) i + 1))), (0, .ref (ad (58 + 2 * k))), (1, .int a), (3, .int (nI i))]) hx hb dX3_placeOfLeaf_29 hl (k := 2) rfl (nI_add _ _) (by decide) rfl (fun ls hl => ?_)
            refine lv_iinc (v := nI (i + 1)) (lv' := [(3, .int (nI (i + 1))), (2, .int (nI (cF (gD (R k)) i + 1))), (0, .ref (ad (58 + 2 * k))), (1, .int a)]) hx hb dX3_placeOfLeaf_32 hl (k := 3) rfl (nI_add _ _) (by decide) rfl (fun ls hl => ?_)
            refine lv_goto (tgt := 4) hx hb dX3_placeOfLeaf_35 (by decide) ?_
            exact ih4 (i + 1) _ (by omega) (lt_s hno (fun h => c_24 h.2)) (by omega) (by rw [cF_t c_19]; exact lv_sub hl [2, 3, 1, 0] rfl)
          · skip
            refine lv_iload_n hx hb dX3_placeOfLeaf_27 rfl (lv_at hl 3 rfl) ?_
            subst hQ
            exact W.iret (v := nI i) hx hb hret (fun tq htq hWq => ⟨_, rfl, ⟨fun i0 p0 ha h1 h2 h3 h4 => by have e1 : cF (gD (R k)) i = i0 := (nI_eq (by omega) h4).mp (c_24.trans ha); have e2 := lpL_found (show i < (R k).length by omega) c_19 rfl; have e3 := lpL_found h1 h2 (h3.trans e1.symm); rw [e2] at e3; cases e3; rfl, fun h => absurd (by rw [← c_24]; exact rIn_nI (lvs_gt (by omega) c_19) (by have := lvs_le (R k); omega)) h⟩, htq⟩) (fun q h => by cases h) dX3_placeOfLeaf_28
  exact L4 (60 - 0 + 1) 0 _ (by omega) (fun q h => absurd h (Nat.not_lt_zero q)) (Nat.lt_succ_self _) (lv_sub hl [2, 3, 1, 0] rfl)
