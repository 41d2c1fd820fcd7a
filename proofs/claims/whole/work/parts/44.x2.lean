set_option maxHeartbeats 1000000 in
set_option maxRecDepth 100000 in
/-- World.addAct -/
theorem x_addAct (l : Launch) (dC : Nat → ClassId) (dI : Nat → Nat → Nat) (aC : Nat → ClassId) (ad cap : Nat → Nat) (hI : xI ad) (v : Nat → Int32) (R : Nat → List Int32) (F : Nat → Nat → Int32) (G : Nat → Nat → Int64) (A : Nat) (hA : v 0 = nI A) (hA4 : A ≤ 4) (a : Int32) : Met l yX8_addAct wsX8_addAct ({ frames := 0, cells := 0, slots := 0, locals := 0 } : Room) (va_Pc [.ref (ad 1), .int a] (XB dC dI aC ad cap (v, R, F, G))) (va_Qi (fun (x : Int32) (u : MS) => x = (if A < 4 then nI A else -4) ∧ (if A < 4 then (va_up v 0 (nI (A + 1)), R, va_up F 0 (upd (F 0) A a), G) else (v, R, F, G)) = u) (XB dC dI aC ad cap) (xA ad)) 0 0 (xA ad) := by
  refine Met.ofW (cc := cX8_addAct) (maxL := 2) (ret := (some .int)) (by decide) rfl ?_
  intro p e s m args below meth c s₁ B hml hv
  obtain ⟨rfl, hK, Z, S, hZ, hP⟩ := hv
  have hx := B.exec
  have hb := B.bytes
  have hret := B.returns
  have hts := atoms_spec (ws := wsX8_addAct) B.pre
  have hown : s.vm.findClass RX8 = some m.cls := findClass_of_methodNamed B.named
  have hlocks := B.notSynchronized
  dsimp only at hZ hP
  have lk0 := hts (.fieldLink RX8 22 "LeafTrees$World" "acts" "I") (by decide +kernel)
  have lk1 := hts (.fieldLink RX8 9 "LeafTrees$World" "entries" "[I") (by decide +kernel)
  have hin8 : ∀ w ∈ u_ws RX8 TX8 4, w ∈ wsX8_addAct := by decide +kernel
  have hS : va_S (xA ad) s.heap s.heap [] := va_S.rf
  have hl := lv_entry [.ref (ad 1), .int a] (n := 2) (Nat.le_of_ble_eq_true rfl)
  rw [lg_entry_eq]
  generalize (lg_sl [.ref (ad 1), .int a] ++ List.replicate (2 - (lg_sl [.ref (ad 1), .int a]).length) Slot.unset).toArray = ls at hl ⊢
  have hl : lv_has ls 2 [(0, .ref (ad 1)), (1, .int a)] := hl
  refine nx_Q (R := ({ frames := 0, cells := 0, slots := 0, locals := 0 } : Room)) (fun Q hQ => ?_)
  refine lv_aload_n hx hb dX8_addAct_0 rfl (lv_at hl 0 rfl) ?_
  refine va_get (D := (dC, dI)) (ci := 8) (C := RX8) (T := TX8) (N := 4) hx hb hts hin8 hown hK hP 1 rfl rfl 1 (by decide) lk0 (fun _ h9 => h9) rfl dX8_addAct_1 ?_
  refine nx_ti (y := nI A) (hA) ?_
  refine lv_iconst (v := nI 4) hx hb dX8_addAct_4 (by decide) ?_
  refine nx_icmp_lt (a := A) (b := 4) (tgt := 11) hx hb dX8_addAct_5 (by decide) (by omega) (by omega) (fun c_5 => ?_) (fun c_5 => ?_)
  · skip
    refine lv_aload_n hx hb dX8_addAct_11 rfl (lv_at hl 0 rfl) ?_
    refine va_get (D := (dC, dI)) (ci := 8) (C := RX8) (T := TX8) (N := 4) hx hb hts hin8 hown hK hP 1 rfl rfl 0 (by decide) lk1 (fun _ h9 => h9) rfl dX8_addAct_12 ?_
    refine lv_aload_n hx hb dX8_addAct_15 rfl (lv_at hl 0 rfl) ?_
    refine va_get (D := (dC, dI)) (ci := 8) (C := RX8) (T := TX8) (N := 4) hx hb hts hin8 hown hK hP 1 rfl rfl 1 (by decide) lk0 (fun _ h9 => h9) rfl dX8_addAct_16 ?_
    refine nx_ti (y := nI A) (hA) ?_
    refine lv_iload_n hx hb dX8_addAct_19 rfl (lv_at hl 1 rfl) ?_
    refine nx_iast hx hb hK hP (wsX_D hI) hS 10 0 rfl rfl (i := A) (by omega) (by decide) dX8_addAct_20 (fun H locs hP hS => ?_)
    have hP : va_P (dC, dI) vwCl (wsX aC ad cap v Z S (va_up F 0 (upd (F 0) A a)) G) H := hP
    refine lv_aload_n hx hb dX8_addAct_21 rfl (lv_at hl 0 rfl) ?_
    refine lv_dup hx hb dX8_addAct_22 rfl ?_
    refine va_get (D := (dC, dI)) (ci := 8) (C := RX8) (T := TX8) (N := 4) hx hb hts hin8 hown hK hP 1 rfl rfl 1 (by decide) lk0 (fun _ h9 => h9) rfl dX8_addAct_23 ?_
    refine nx_ti (y := nI A) (hA) ?_
    refine lv_iconst (v := nI 1) hx hb dX8_addAct_26 (by decide) ?_
    refine lv_iadd hx hb dX8_addAct_27 ?_
    refine nx_ti (y := nI (A + 1)) (nI_add _ _) ?_
    refine va_put (D := (dC, dI)) (ci := 8) (v := .int (nI (A + 1))) (ty := .int) (C := RX8) (T := TX8) (N := 4) hx hb hts hin8 tyX8 tyX8_ok nmX8 hown hK hP (wsX_D hI) hS 1 rfl rfl 1 (by decide) lk0 (fun _ h9 => h9) rfl (by decide +kernel) rfl rfl (Nat.le_of_ble_eq_true rfl) dX8_addAct_28 (fun H locs hP _ hS => ?_)
    have hP : va_P (dC, dI) vwCl (wsX aC ad cap (va_up v 0 (nI (A + 1))) Z S (va_up F 0 (upd (F 0) A a)) G) H := hP
    refine lv_aload_n hx hb dX8_addAct_31 rfl (lv_at hl 0 rfl) ?_
    refine va_get (D := (dC, dI)) (ci := 8) (C := RX8) (T := TX8) (N := 4) hx hb hts hin8 hown hK hP 1 rfl rfl 1 (by decide) lk0 (fun _ h9 => h9) rfl dX8_addAct_32 ?_
    refine lv_iconst (v := nI 1) hx hb dX8_addAct_35 (by decide) ?_
    refine lv_isub hx hb dX8_addAct_36 ?_
    refine nx_ti (y := nI ((A + 1) - 1)) (pk_sub (by omega)) ?_
    subst hQ
    exact W.iret (v := nI ((A + 1) - 1)) hx hb hret (fun tq htq hWq => ⟨⟨_, ((va_up v 0 (nI (A + 1))), R, (va_up F 0 (upd (F 0) A a)), G), rfl, ⟨by rw [if_pos c_5]; rfl, by rw [if_pos c_5]⟩, va_K.moved hWq.alike hK, _, _, hZ, by rw [htq]; exact hP⟩, hS.F htq⟩) hS.2.2 dX8_addAct_37
  · skip
    refine lv_bipush (v := (-4)) hx hb dX8_addAct_8 (by decide) ?_
    subst hQ
    exact W.iret (v := (-4)) hx hb hret (fun tq htq hWq => ⟨⟨_, (v, R, F, G), rfl, ⟨by rw [if_neg (by omega)], by rw [if_neg (by omega)]⟩, va_K.moved hWq.alike hK, _, _, hZ, by rw [htq]; exact hP⟩, hS.F htq⟩) hS.2.2 dX8_addAct_10

set_option maxHeartbeats 1000000 in
set_option maxRecDepth 100000 in
/-- World.isSymbol -/
theorem x_isSymbol (l : Launch) (dC : Nat → ClassId) (dI : Nat → Nat → Nat) (aC : Nat → ClassId) (ad cap : Nat → Nat) (v : Nat → Int32) (R : Nat → List Int32) (F : Nat → Nat → Int32) (G : Nat → Nat → Int64) (A : Nat) (hA : v 0 = nI A) (hA4 : A ≤ 4) (z : Int32) : Met l yX8_isSymbol wsX8_isSymbol ({ frames := 0, cells := 0, slots := 0, locals := 0 } : Room) (va_Pc [.ref (ad 1), .int z] (XB dC dI aC ad cap (v, R, F, G))) (vp_Si (fun x => x = bI (vSd A z))) 0 0 (fun _ => False) := by
  refine Met.ofW (cc := cX8_isSymbol) (maxL := 2) (ret := (some .boolean)) (by decide) rfl ?_
  intro p e s m args below meth c s₁ B hml hv
  obtain ⟨rfl, hK, Z, S, hZ, hP⟩ := hv
  have hx := B.exec
  have hb := B.bytes
  have hret := B.returns
  have hts := atoms_spec (ws := wsX8_isSymbol) B.pre
  have hown : s.vm.findClass RX8 = some m.cls := findClass_of_methodNamed B.named
  have hlocks := B.notSynchronized
  dsimp only at hZ hP
  have lk0 := hts (.fieldLink RX8 22 "LeafTrees$World" "acts" "I") (by decide +kernel)
  have hin8 : ∀ w ∈ u_ws RX8 TX8 4, w ∈ wsX8_isSymbol := by decide +kernel
  have hl := lv_entry [.ref (ad 1), .int z] (n := 2) (Nat.le_of_ble_eq_true rfl)
  rw [lg_entry_eq]
  generalize (lg_sl [.ref (ad 1), .int z] ++ List.replicate (2 - (lg_sl [.ref (ad 1), .int z]).length) Slot.unset).toArray = ls at hl ⊢
  have hl : lv_has ls 2 [(0, .ref (ad 1)), (1, .int z)] := hl
  refine nx_Q (R := ({ frames := 0, cells := 0, slots := 0, locals := 0 } : Room)) (fun Q hQ => ?_)
  refine lv_iload_n hx hb dX8_isSymbol_0 rfl (lv_at hl 1 rfl) ?_
  refine lv_iconst (v := (-1)) hx hb dX8_isSymbol_1 (by decide) ?_
  refine lv_icmp_lt (tgt := 17) hx hb dX8_isSymbol_2 (by decide) (fun c_2 => ?_) (fun c_2 => ?_)
  · skip
    refine lv_iconst (v := nI 0) hx hb dX8_isSymbol_17 (by decide) ?_
    subst hQ
    exact W.zret (v := nI 0) hx hb hret (rfl) (fun tq htq hWq => ⟨_, rfl, (bI_f (fun h => ((vSd_c (by omega)).mpr h).1 c_2)).symm, htq⟩) (fun q h => by cases h) dX8_isSymbol_18
  · skip
    refine lv_iload_n hx hb dX8_isSymbol_5 rfl (lv_at hl 1 rfl) ?_
    refine lv_aload_n hx hb dX8_isSymbol_6 rfl (lv_at hl 0 rfl) ?_
    refine va_get (D := (dC, dI)) (ci := 8) (C := RX8) (T := TX8) (N := 4) hx hb hts hin8 hown hK hP 1 rfl rfl 1 (by decide) lk0 (fun _ h9 => h9) rfl dX8_isSymbol_7 ?_
    refine nx_ti (y := nI A) (hA) ?_
    refine lv_icmp_ge (tgt := 17) hx hb dX8_isSymbol_10 (by decide) (fun c_10 => ?_) (fun c_10 => ?_)
    · skip
      refine lv_iconst (v := nI 0) hx hb dX8_isSymbol_17 (by decide) ?_
      subst hQ
      exact W.zret (v := nI 0) hx hb hret (rfl) (fun tq htq hWq => ⟨_, rfl, (bI_f (fun h => ((vSd_c (by omega)).mpr h).2 c_10)).symm, htq⟩) (fun q h => by cases h) dX8_isSymbol_18
    · skip
      refine lv_iconst (v := nI 1) hx hb dX8_isSymbol_13 (by decide) ?_
      refine lv_goto (tgt := 18) hx hb dX8_isSymbol_14 (by decide) ?_
      subst hQ
      exact W.zret (v := nI 1) hx hb hret (rfl) (fun tq htq hWq => ⟨_, rfl, (bI_t ((vSd_c (by omega)).mp ⟨c_2, c_10⟩)).symm, htq⟩) (fun q h => by cases h) dX8_isSymbol_18

set_option maxHeartbeats 1000000 in
set_option maxRecDepth 100000 in
/-- World.isRule -/
theorem x_isRule (l : Launch) (dC : Nat → ClassId) (dI : Nat → Nat → Nat) (aC : Nat → ClassId) (ad cap : Nat → Nat) (v : Nat → Int32) (R : Nat → List Int32) (F : Nat → Nat → Int32) (G : Nat → Nat → Int64) (n : Nat) (hn : v 1 = nI n) (hn8 : n ≤ 8) (z : Int32) : Met l yX8_isRule wsX8_isRule ({ frames := 0, cells := 0, slots := 0, locals := 0 } : Room) (va_Pc [.ref (ad 1), .int z] (XB dC dI aC ad cap (v, R, F, G))) (vp_Si (fun x => x = bI (rIn z n))) 0 0 (fun _ => False) := by
  refine Met.ofW (cc := cX8_isRule) (maxL := 2) (ret := (some .boolean)) (by decide) rfl ?_
  intro p e s m args below meth c s₁ B hml hv
  obtain ⟨rfl, hK, Z, S, hZ, hP⟩ := hv
  have hx := B.exec
  have hb := B.bytes
  have hret := B.returns
  have hts := atoms_spec (ws := wsX8_isRule) B.pre
  have hown : s.vm.findClass RX8 = some m.cls := findClass_of_methodNamed B.named
  have hlocks := B.notSynchronized
  dsimp only at hZ hP
  have lk0 := hts (.fieldLink RX8 26 "LeafTrees$World" "ruleCount" "I") (by decide +kernel)
  have hin8 : ∀ w ∈ u_ws RX8 TX8 4, w ∈ wsX8_isRule := by decide +kernel
  have hl := lv_entry [.ref (ad 1), .int z] (n := 2) (Nat.le_of_ble_eq_true rfl)
  rw [lg_entry_eq]
  generalize (lg_sl [.ref (ad 1), .int z] ++ List.replicate (2 - (lg_sl [.ref (ad 1), .int z]).length) Slot.unset).toArray = ls at hl ⊢
  have hl : lv_has ls 2 [(0, .ref (ad 1)), (1, .int z)] := hl
  refine nx_Q (R := ({ frames := 0, cells := 0, slots := 0, locals := 0 } : Room)) (fun Q hQ => ?_)
  refine lv_iload_n hx hb dX8_isRule_0 rfl (lv_at hl 1 rfl) ?_
  refine lv_if_lt (tgt := 16) hx hb dX8_isRule_1 (by decide) (fun c_1 => ?_) (fun c_1 => ?_)
  · skip
    refine lv_iconst (v := nI 0) hx hb dX8_isRule_16 (by decide) ?_
    subst hQ
    exact W.zret (v := nI 0) hx hb hret (rfl) (fun tq htq hWq => ⟨_, rfl, (bI_f (fun h => ((rIn_c (by omega)).mpr h).1 c_1)).symm, htq⟩) (fun q h => by cases h) dX8_isRule_17
  · skip
    refine lv_iload_n hx hb dX8_isRule_4 rfl (lv_at hl 1 rfl) ?_
    refine lv_aload_n hx hb dX8_isRule_5 rfl (lv_at hl 0 rfl) ?_
    refine va_get (D := (dC, dI)) (ci := 8) (C := RX8) (T := TX8) (N := 4) hx hb hts hin8 hown hK hP 1 rfl rfl 3 (by decide) lk0 (fun _ h9 => h9) rfl dX8_isRule_6 ?_
    refine nx_ti (y := nI n) (hn) ?_
    refine lv_icmp_ge (tgt := 16) hx hb dX8_isRule_9 (by decide) (fun c_9 => ?_) (fun c_9 => ?_)
    · skip
      refine lv_iconst (v := nI 0) hx hb dX8_isRule_16 (by decide) ?_
      subst hQ
      exact W.zret (v := nI 0) hx hb hret (rfl) (fun tq htq hWq => ⟨_, rfl, (bI_f (fun h => ((rIn_c (by omega)).mpr h).2 c_9)).symm, htq⟩) (fun q h => by cases h) dX8_isRule_17
    · skip
      refine lv_iconst (v := nI 1) hx hb dX8_isRule_12 (by decide) ?_
      refine lv_goto (tgt := 17) hx hb dX8_isRule_13 (by decide) ?_
      subst hQ
      exact W.zret (v := nI 1) hx hb hret (rfl) (fun tq htq hWq => ⟨_, rfl, (bI_t ((rIn_c (by omega)).mp ⟨c_1, c_9⟩)).symm, htq⟩) (fun q h => by cases h) dX8_isRule_17

set_option maxHeartbeats 1000000 in
set_option maxRecDepth 100000 in
/-- World.entriesOf -/
theorem x_entriesOf (l : Launch) (dC : Nat → ClassId) (dI : Nat → Nat → Nat) (aC : Nat → ClassId) (ad cap : Nat → Nat) (v : Nat → Int32) (R : Nat → List Int32) (F : Nat → Nat → Int32) (G : Nat → Nat → Int64) (A : Nat) (hE : vE A (F 0)) (hA : v 0 = nI A) (z : Int32) (hs : vS A z) : Met l yX8_entriesOf wsX8_entriesOf ({ frames := 0, cells := 0, slots := 0, locals := 0 } : Room) (va_Pc [.ref (ad 1), .int z] (XB dC dI aC ad cap (v, R, F, G))) (vp_Si (fun x => x = nI (wt (F 0) z))) 0 0 (fun _ => False) := by
  refine Met.ofW (cc := cX8_entriesOf) (maxL := 2) (ret := (some .int)) (by decide) rfl ?_
  intro p e s m args below meth c s₁ B hml hv
  obtain ⟨rfl, hK, Z, S, hZ, hP⟩ := hv
  have hx := B.exec
  have hb := B.bytes
  have hret := B.returns
  have hts := atoms_spec (ws := wsX8_entriesOf) B.pre
  have hown : s.vm.findClass RX8 = some m.cls := findClass_of_methodNamed B.named
  have hlocks := B.notSynchronized
  dsimp only at hZ hP
  have lk0 := hts (.fieldLink RX8 22 "LeafTrees$World" "acts" "I") (by decide +kernel)
  have lk1 := hts (.fieldLink RX8 9 "LeafTrees$World" "entries" "[I") (by decide +kernel)
  have hin8 : ∀ w ∈ u_ws RX8 TX8 4, w ∈ wsX8_entriesOf := by decide +kernel
  have hl := lv_entry [.ref (ad 1), .int z] (n := 2) (Nat.le_of_ble_eq_true rfl)
  rw [lg_entry_eq]
  generalize (lg_sl [.ref (ad 1), .int z] ++ List.replicate (2 - (lg_sl [.ref (ad 1), .int z]).length) Slot.unset).toArray = ls at hl ⊢
  have hl : lv_has ls 2 [(0, .ref (ad 1)), (1, .int z)] := hl
  refine nx_Q (R := ({ frames := 0, cells := 0, slots := 0, locals := 0 } : Room)) (fun Q hQ => ?_)
  have h4 := hE.1
  refine lv_iload_n hx hb dX8_entriesOf_0 rfl (lv_at hl 1 rfl) ?_
  refine lv_if_lt (tgt := 21) hx hb dX8_entriesOf_1 (by decide) (fun c_1 => ?_) (fun c_1 => ?_)
  · skip
    refine lv_iconst (v := nI 0) hx hb dX8_entriesOf_21 (by decide) ?_
    subst hQ
    exact W.iret (v := nI 0) hx hb hret (fun tq htq hWq => ⟨_, rfl, by rw [vS_neg (by omega) hs c_1, wt_m1], htq⟩) (fun q h => by cases h) dX8_entriesOf_22
  · skip
    obtain ⟨a, ha, rfl⟩ := vS_nn hs c_1
    refine lv_iload_n hx hb dX8_entriesOf_4 rfl (lv_at hl 1 rfl) ?_
    refine lv_aload_n hx hb dX8_entriesOf_5 rfl (lv_at hl 0 rfl) ?_
    refine va_get (D := (dC, dI)) (ci := 8) (C := RX8) (T := TX8) (N := 4) hx hb hts hin8 hown hK hP 1 rfl rfl 1 (by decide) lk0 (fun _ h9 => h9) rfl dX8_entriesOf_6 ?_
    refine nx_ti (y := nI A) (hA) ?_
    refine nx_icmp_ge (a := a) (b := A) (tgt := 21) hx hb dX8_entriesOf_9 (by decide) (by omega) (by omega) (fun c_9 => ?_) (fun c_9 => ?_)
    · skip
      exact absurd c_9 (by omega)
    · skip
      refine lv_aload_n hx hb dX8_entriesOf_12 rfl (lv_at hl 0 rfl) ?_
      refine va_get (D := (dC, dI)) (ci := 8) (C := RX8) (T := TX8) (N := 4) hx hb hts hin8 hown hK hP 1 rfl rfl 0 (by decide) lk1 (fun _ h9 => h9) rfl dX8_entriesOf_13 ?_
      refine lv_iload_n hx hb dX8_entriesOf_16 rfl (lv_at hl 1 rfl) ?_
      refine nx_iald hx hb hK hP 10 0 rfl rfl (i := a) (by omega) (by decide) dX8_entriesOf_17 ?_
      refine lv_goto (tgt := 22) hx hb dX8_entriesOf_18 (by decide) ?_
      subst hQ
      exact W.iret (v := F 0 a) hx hb hret (fun tq htq hWq => ⟨_, rfl, (wt_nI hE ha).1.symm, htq⟩) (fun q h => by cases h) dX8_entriesOf_22

set_option maxHeartbeats 1000000 in
set_option maxRecDepth 100000 in
/-- World.endOf -/
theorem x_endOf (l : Launch) (dC : Nat → ClassId) (dI : Nat → Nat → Nat) (aC : Nat → ClassId) (ad cap : Nat → Nat) (v : Nat → Int32) (R : Nat → List Int32) (F : Nat → Nat → Int32) (G : Nat → Nat → Int64) (A : Nat) (hE : vE A (F 0)) (hA : v 0 = nI A) (k : Nat) (hk : k < 31) (hV : vR A (R k)) (fr : Nat) (hfr : fr ≤ 60) : Met l yX8_endOf wsX8_endOf ({ frames := 1, cells := 0, slots := 0, locals := 30 } : Room) (va_Pc [.ref (ad 1), .ref (ad (58 + 2 * k)), .int (nI fr)] (XB dC dI aC ad cap (v, R, F, G))) (vp_Si (fun x => x = eX (R k).length (endL (F 0) (R k) fr))) 0 0 (fun _ => False) := by
  refine Met.ofW (cc := cX8_endOf) (maxL := 5) (ret := (some .int)) (by decide) rfl ?_
  intro p e s m args below meth c s₁ B hml hv
  obtain ⟨rfl, hK, Z, S, hZ, hP⟩ := hv
  have hx := B.exec
  have hb := B.bytes
  have hret := B.returns
  have hts := atoms_spec (ws := wsX8_endOf) B.pre
  have hown : s.vm.findClass RX8 = some m.cls := findClass_of_methodNamed B.named
  have hlocks := B.notSynchronized
  dsimp only at hZ hP
  have lk0 := hts (.methodLink RX8 46 Lib.Math.max.name) (by decide +kernel)
  have lk1 := hts (.static Lib.Math.max.name) (by decide +kernel)
  have lk2 := hts (.initialized "java/lang/Math") (by decide +kernel)
  have lk3 := hts (.code Lib.Math.max.name Lib.Math.max.code 2 (some .int)) (by decide +kernel)
  have lk4 := hts (.fieldLink RX8 52 "LeafTrees$Row" "length" "I") (by decide +kernel)
  have lk5 := hts (.fieldLink RX8 55 "LeafTrees$Row" "symbols" "[I") (by decide +kernel)
  have hin3 : ∀ w ∈ u_ws RX3 TX3 2, w ∈ wsX8_endOf := by decide +kernel
  have hl := lv_entry [.ref (ad 1), .ref (ad (58 + 2 * k)), .int (nI fr)] (n := 5) (Nat.le_of_ble_eq_true rfl)
  rw [lg_entry_eq]
  generalize (lg_sl [.ref (ad 1), .ref (ad (58 + 2 * k)), .int (nI fr)] ++ List.replicate (5 - (lg_sl [.ref (ad 1), .ref (ad (58 + 2 * k)), .int (nI fr)]).length) Slot.unset).toArray = ls at hl ⊢
  have hl : lv_has ls 5 [(0, .ref (ad 1)), (1, .ref (ad (58 + 2 * k))), (2, .int (nI fr))] := hl
  refine nx_Q (R := ({ frames := 1, cells := 0, slots := 0, locals := 30 } : Room)) (fun Q hQ => ?_)
  have hlen := (hZ k hk).1
  have h4 := hE.1
  refine lv_iconst (v := nI 1) hx hb dX8_endOf_0 (by decide) ?_
  refine lv_istore_n (lv' := [(3, .int (nI 1)), (0, .ref (ad 1)), (1, .ref (ad (58 + 2 * k))), (2, .int (nI fr))]) hx hb dX8_endOf_1 rfl hl (by decide) rfl (fun ls hl => ?_)
  refine lv_iload_n hx hb dX8_endOf_2 rfl (lv_at hl 3 rfl) ?_
  refine lv_iconst (v := nI 0) hx hb dX8_endOf_3 (by decide) ?_
  refine va_mmax (rest := []) hx hb (hml.trans hl.1.symm) hown lk0 lk1 lk2 lk3 (Nat.le_of_ble_eq_true rfl) (Nat.le_of_ble_eq_true rfl) (Nat.le_of_ble_eq_true rfl) (Nat.le_of_ble_eq_true rfl) dX8_endOf_4 ?_
  refine nx_ti (y := nI fr) (if_neg (by rw [show nI 0 = (0 : Int32) from rfl]; exact nI_pos (by omega))) ?_
  refine lv_istore (lv' := [(4, .int (nI fr)), (3, .int (nI 1)), (0, .ref (ad 1)), (1, .ref (ad (58 + 2 * k))), (2, .int (nI fr))]) hx hb dX8_endOf_7 hl (by decide) rfl (fun ls hl => ?_)
  have L9 : ∀ (fuel9 : Nat) (q : Nat) (j : Nat) (ls : Array Slot), (j ≤ 60) → (q ≤ 1 + 3 * j) → (0 < q) → (tE (wt (F 0)) (gD (R k)) ((R k).length - j) q j = endL (F 0) (R k) fr) → 60 - j < fuel9 → lv_has ls 5 [(0, .ref (ad 1)), (1, .ref (ad (58 + 2 * k))), (3, .int (nI q)), (4, .int (nI j))] → W p l e ({ frames := 1, cells := 0, slots := 0, locals := 30 } : Room) s m ([.ref (ad 1), .ref (ad (58 + 2 * k)), .int (nI fr)] : List Value).toArray below meth c s.heap [] 0 0 Q (F0 m 9 ls []) := by
    intro fuel9
    induction fuel9 with
    | zero => intro q j ls hj hq hq0 hres hf9 hl; exact absurd hf9 (Nat.not_lt_zero _)
    | succ fuel9 ih9 =>
      intro q j ls hj hq hq0 hres hf9 hl
      refine lv_iload hx hb dX8_endOf_9 (lv_at hl 3 rfl) ?_
      refine lv_aload_n hx hb dX8_endOf_11 rfl (lv_at hl 1 rfl) ?_
      refine va_get (D := (dC, dI)) (ci := 3) (C := RX3) (T := TX3) (N := 2) hx hb hts hin3 hown hK hP (58 + 2 * k) (xw_ro k (by omega)) rfl 1 (by decide) lk4 (fun _ h9 => h9) rfl dX8_endOf_12 ?_
      refine nx_ti (y := nI (R k).length) ((hZ k (by omega)).2.1) ?_
      refine nx_icmp_ge (a := j) (b := (R k).length) (tgt := 49) hx hb dX8_endOf_15 (by decide) (by omega) (by omega) (fun c_15 => ?_) (fun c_15 => ?_)
      · skip
        refine lv_aload_n hx hb dX8_endOf_49 rfl (lv_at hl 1 rfl) ?_
        refine va_get (D := (dC, dI)) (ci := 3) (C := RX3) (T := TX3) (N := 2) hx hb hts hin3 hown hK hP (58 + 2 * k) (xw_ro k (by omega)) rfl 1 (by decide) lk4 (fun _ h9 => h9) rfl dX8_endOf_50 ?_
        refine nx_ti (y := nI (R k).length) ((hZ k (by omega)).2.1) ?_
        refine lv_iconst (v := nI 1) hx hb dX8_endOf_53 (by decide) ?_
        refine lv_iadd hx hb dX8_endOf_54 ?_
        refine nx_ti (y := nI ((R k).length + 1)) (nI_add _ _) ?_
        subst hQ
        exact W.iret (v := nI ((R k).length + 1)) hx hb hret (fun tq htq hWq => ⟨_, rfl, by rw [← hres, show (R k).length - j = 0 by omega, tE_n _ _ hq0]; rfl, htq⟩) (fun q h => by cases h) dX8_endOf_55
      · skip
        refine lv_iload_n hx hb dX8_endOf_18 rfl (lv_at hl 2 rfl) ?_
        refine lv_aload_n hx hb dX8_endOf_19 rfl (lv_at hl 0 rfl) ?_
        refine lv_aload_n hx hb dX8_endOf_20 rfl (lv_at hl 1 rfl) ?_
        refine va_get (D := (dC, dI)) (ci := 3) (C := RX3) (T := TX3) (N := 2) hx hb hts hin3 hown hK hP (58 + 2 * k) (xw_ro k (by omega)) rfl 0 (by decide) lk5 (fun _ h9 => h9) rfl dX8_endOf_21 ?_
        refine lv_iload hx hb dX8_endOf_24 (lv_at hl 3 rfl) ?_
        refine nx_iald hx hb hK hP (59 + 2 * k) 0 (xw_ra k (by omega)) rfl (i := j) (by have := (hZ k (by omega)).1; omega) (by decide) dX8_endOf_26 ?_
        refine nx_ti (y := gD (R k) j) ((hZ k (by omega)).2.2 j (by omega)) ?_
        refine xp_i (b := ad 1) (As := [.int (gD (R k) j)]) (rest := [.int (nI q)]) ⟨hx, hb, hml, hown, hts⟩ (x_entriesOf l dC dI aC ad cap v R F G A hE hA (gD (R k) j) (hV j c_15)) (cwV 1 hts gX8_endOf_X8_entriesOf rfl rfl rfl (by decide +kernel) ⟨Nat.le_of_ble_eq_true rfl, Nat.le_of_ble_eq_true rfl⟩) (xPre (q0 := 1) (ci := 8) rfl rfl hK hZ hP) rfl hl.1 rfl (Nat.le_of_ble_eq_true rfl) dX8_endOf_27 ⟨Nat.le_of_ble_eq_true rfl, Nat.le_of_ble_eq_true rfl⟩ (fun x_27 h_27 => ?_)
        refine nx_ti (y := nI (wt (F 0) (gD (R k) j))) h_27 ?_
        refine lv_iconst (v := nI 1) hx hb dX8_endOf_30 (by decide) ?_
        refine lv_isub hx hb dX8_endOf_31 ?_
        refine lv_iadd hx hb dX8_endOf_32 ?_
        refine nx_ti (y := nI (q + wt (F 0) (gD (R k) j) - 1)) (nI_adj hq0) ?_
        refine lv_istore_n (lv' := [(3, .int (nI (q + wt (F 0) (gD (R k) j) - 1))), (0, .ref (ad 1)), (1, .ref (ad (58 + 2 * k))), (4, .int (nI j))]) hx hb dX8_endOf_33 rfl hl (by decide) rfl (fun ls hl => ?_)
        have hwl := wt_le hE (hV j c_15)
        refine lv_iload_n hx hb dX8_endOf_34 rfl (lv_at hl 0 rfl) ?_
        refine nx_if_ne (tgt := 43) hx hb dX8_endOf_35 (by decide) (by omega) (fun c_35 => ?_) (fun c_35 => ?_)
        · skip
          refine lv_iinc (v := nI (j + 1)) (lv' := [(4, .int (nI (j + 1))), (3, .int (nI (q + wt (F 0) (gD (R k) j) - 1))), (0, .ref (ad 1)), (1, .ref (ad (58 + 2 * k)))]) hx hb dX8_endOf_43 hl (k := 3) rfl (nI_add _ _) (by decide) rfl (fun ls hl => ?_)
          refine lv_goto (tgt := 9) hx hb dX8_endOf_46 (by decide) ?_
          exact ih9 (q + wt (F 0) (gD (R k) j) - 1) (j + 1) _ (by omega) (by have := wt_le hE (hV j c_15); omega) (by omega) ((tE_step _ _ hq0 c_15).symm.trans hres) (by omega) (lv_sub hl [2, 3, 1, 0] rfl)
        · skip
          refine lv_iload hx hb dX8_endOf_38 (lv_at hl 3 rfl) ?_
          refine lv_iconst (v := nI 1) hx hb dX8_endOf_40 (by decide) ?_
          refine lv_iadd hx hb dX8_endOf_41 ?_
          refine nx_ti (y := nI (j + 1)) (nI_add _ _) ?_
          subst hQ
          exact W.iret (v := nI (j + 1)) hx hb hret (fun tq htq hWq => ⟨_, rfl, by rw [← hres, tE_step _ _ hq0 c_15, c_35, tE_0]; rfl, htq⟩) (fun q h => by cases h) dX8_endOf_42
  exact L9 (60 - fr + 1) 1 fr _ (by omega) (by omega) (by omega) rfl (Nat.lt_succ_self _) (lv_sub hl [2, 3, 1, 0] rfl)

set_option maxHeartbeats 1000000 in
set_option maxRecDepth 100000 in
/-- World.isTree -/
theorem x_isTree (l : Launch) (dC : Nat → ClassId) (dI : Nat → Nat → Nat) (aC : Nat → ClassId) (ad cap : Nat → Nat) (v : Nat → Int32) (R : Nat → List Int32) (F : Nat → Nat → Int32) (G : Nat → Nat → Int64) (A : Nat) (hE : vE A (F 0)) (hA : v 0 = nI A) (k : Nat) (hk : k < 31) (hV : vR A (R k)) : Met l yX8_isTree wsX8_isTree ({ frames := 2, cells := 0, slots := 0, locals := 54 } : Room) (va_Pc [.ref (ad 1), .ref (ad (58 + 2 * k))] (XB dC dI aC ad cap (v, R, F, G))) (vp_Si (fun x => x = bI (isT (F 0) (R k)))) 0 0 (fun _ => False) := by
  refine Met.ofW (cc := cX8_isTree) (maxL := 2) (ret := (some .boolean)) (by decide) rfl ?_
  intro p e s m args below meth c s₁ B hml hv
  obtain ⟨rfl, hK, Z, S, hZ, hP⟩ := hv
  have hx := B.exec
  have hb := B.bytes
  have hret := B.returns
  have hts := atoms_spec (ws := wsX8_isTree) B.pre
  have hown : s.vm.findClass RX8 = some m.cls := findClass_of_methodNamed B.named
  have hlocks := B.notSynchronized
  dsimp only at hZ hP
  have lk0 := hts (.fieldLink RX8 52 "LeafTrees$Row" "length" "I") (by decide +kernel)
  have hin3 : ∀ w ∈ u_ws RX3 TX3 2, w ∈ wsX8_isTree := by decide +kernel
  have hl := lv_entry [.ref (ad 1), .ref (ad (58 + 2 * k))] (n := 2) (Nat.le_of_ble_eq_true rfl)
  rw [lg_entry_eq]
  generalize (lg_sl [.ref (ad 1), .ref (ad (58 + 2 * k))] ++ List.replicate (2 - (lg_sl [.ref (ad 1), .ref (ad (58 + 2 * k))]).length) Slot.unset).toArray = ls at hl ⊢
  have hl : lv_has ls 2 [(0, .ref (ad 1)), (1, .ref (ad (58 + 2 * k)))] := hl
  refine nx_Q (R := ({ frames := 2, cells := 0, slots := 0, locals := 54 } : Room)) (fun Q hQ => ?_)
  have hlen := (hZ k hk).1
  have hq : eX (R k).length (endL (F 0) (R k) 0) = nI (R k).length ↔ isT (F 0) (R k) := eX_eq (by omega) (fun q hq => by have := endL_le (Nat.zero_le _) hq; omega)
  refine lv_aload_n hx hb dX8_isTree_0 rfl (lv_at hl 0 rfl) ?_
  refine lv_aload_n hx hb dX8_isTree_1 rfl (lv_at hl 1 rfl) ?_
  refine lv_iconst (v := nI 0) hx hb dX8_isTree_2 (by decide) ?_
  refine xp_i (b := ad 1) (As := [.ref (ad (58 + 2 * k)), .int (nI 0)]) (rest := []) ⟨hx, hb, hml, hown, hts⟩ (x_endOf l dC dI aC ad cap v R F G A hE hA k hk hV 0 (by decide)) (cwV 2 hts gX8_isTree_X8_endOf rfl rfl rfl (by decide +kernel) ⟨Nat.le_of_ble_eq_true rfl, Nat.le_of_ble_eq_true rfl⟩) (xPre (q0 := 1) (ci := 8) rfl rfl hK hZ hP) rfl hl.1 rfl (Nat.le_of_ble_eq_true rfl) dX8_isTree_3 ⟨Nat.le_of_ble_eq_true rfl, Nat.le_of_ble_eq_true rfl⟩ (fun x_3 h_3 => ?_)
  refine nx_ti (y := eX (R k).length (endL (F 0) (R k) 0)) h_3 ?_
  refine lv_aload_n hx hb dX8_isTree_6 rfl (lv_at hl 1 rfl) ?_
  refine va_get (D := (dC, dI)) (ci := 3) (C := RX3) (T := TX3) (N := 2) hx hb hts hin3 hown hK hP (58 + 2 * k) (xw_ro k (by omega)) rfl 1 (by decide) lk0 (fun _ h9 => h9) rfl dX8_isTree_7 ?_
  refine nx_ti (y := nI (R k).length) ((hZ k (by omega)).2.1) ?_
  refine lv_icmp_ne (tgt := 17) hx hb dX8_isTree_10 (by decide) (fun c_10 => ?_) (fun c_10 => ?_)
  · skip
    refine lv_iconst (v := nI 0) hx hb dX8_isTree_17 (by decide) ?_
    subst hQ
    exact W.zret (v := nI 0) hx hb hret (rfl) (fun tq htq hWq => ⟨_, rfl, (bI_f (fun h => c_10 (hq.mpr h))).symm, htq⟩) (fun q h => by cases h) dX8_isTree_18
  · skip
    refine lv_iconst (v := nI 1) hx hb dX8_isTree_13 (by decide) ?_
    refine lv_goto (tgt := 18) hx hb dX8_isTree_14 (by decide) ?_
    subst hQ
    exact W.zret (v := nI 1) hx hb hret (rfl) (fun tq htq hWq => ⟨_, rfl, (bI_t (hq.mp c_10)).symm, htq⟩) (fun q h => by cases h) dX8_isTree_18

set_option maxHeartbeats 1000000 in
set_option maxRecDepth 100000 in
/-- World.rulesToNothing -/
theorem x_rulesToNothing (l : Launch) (dC : Nat → ClassId) (dI : Nat → Nat → Nat) (aC : Nat → ClassId) (ad cap : Nat → Nat) (v : Nat → Int32) (R : Nat → List Int32) (F : Nat → Nat → Int32) (G : Nat → Nat → Int64) (n : Nat) (hn : v 1 = nI n) (hn8 : n ≤ 8) : Met l yX8_rulesToNothing wsX8_rulesToNothing ({ frames := 0, cells := 0, slots := 0, locals := 0 } : Room) (va_Pc [.ref (ad 1)] (XB dC dI aC ad cap (v, R, F, G))) (vp_Si (fun x => x = nI (nzF (tnX v) n))) 0 0 (fun _ => False) := by
  refine Met.ofW (cc := cX8_rulesToNothing) (maxL := 3) (ret := (some .int)) (by decide) rfl ?_
  intro p e s m args below meth c s₁ B hml hv
  obtain ⟨rfl, hK, Z, S, hZ, hP⟩ := hv
  have hx := B.exec
  have hb := B.bytes
  have hret := B.returns
  have hts := atoms_spec (ws := wsX8_rulesToNothing) B.pre
  have hown : s.vm.findClass RX8 = some m.cls := findClass_of_methodNamed B.named
  have hlocks := B.notSynchronized
  dsimp only at hZ hP
  have lk0 := hts (.fieldLink RX8 26 "LeafTrees$World" "ruleCount" "I") (by decide +kernel)
  have lk1 := hts (.fieldLink RX8 17 "LeafTrees$World" "rules" "[LLeafTrees$Rule;") (by decide +kernel)
  have lk2 := hts (.fieldLink RX8 42 "LeafTrees$Rule" "toNothing" "Z") (by decide +kernel)
  have hin4 : ∀ w ∈ u_ws RX4 TX4 3, w ∈ wsX8_rulesToNothing := by decide +kernel
  have hin8 : ∀ w ∈ u_ws RX8 TX8 4, w ∈ wsX8_rulesToNothing := by decide +kernel
  have hl := lv_entry [.ref (ad 1)] (n := 3) (Nat.le_of_ble_eq_true rfl)
  rw [lg_entry_eq]
  generalize (lg_sl [.ref (ad 1)] ++ List.replicate (3 - (lg_sl [.ref (ad 1)]).length) Slot.unset).toArray = ls at hl ⊢
  have hl : lv_has ls 3 [(0, .ref (ad 1))] := hl
  refine nx_Q (R := ({ frames := 0, cells := 0, slots := 0, locals := 0 } : Room)) (fun Q hQ => ?_)
  refine lv_iconst (v := nI 0) hx hb dX8_rulesToNothing_0 (by decide) ?_
  refine lv_istore_n (lv' := [(1, .int (nI 0)), (0, .ref (ad 1))]) hx hb dX8_rulesToNothing_1 rfl hl (by decide) rfl (fun ls hl => ?_)
  refine lv_iconst (v := nI 0) hx hb dX8_rulesToNothing_2 (by decide) ?_
  refine lv_istore_n (lv' := [(2, .int (nI 0)), (1, .int (nI 0)), (0, .ref (ad 1))]) hx hb dX8_rulesToNothing_3 rfl hl (by decide) rfl (fun ls hl => ?_)
  have L4 : ∀ (fuel4 : Nat) (i : Nat) (ls : Array Slot), (i ≤ n) → 8 - i < fuel4 → lv_has ls 3 [(0, .ref (ad 1)), (1, .int (nI (nzF (tnX v) i))), (2, .int (nI i))] → W p l e ({ frames := 0, cells := 0, slots := 0, locals := 0 } : Room) s m ([.ref (ad 1)] : List Value).toArray below meth c s.heap [] 0 0 Q (F0 m 4 ls []) := by
    intro fuel4
    induction fuel4 with
    | zero => intro i ls hi hf4 hl; exact absurd hf4 (Nat.not_lt_zero _)
    | succ fuel4 ih4 =>
      intro i ls hi hf4 hl
      refine lv_iload_n hx hb dX8_rulesToNothing_4 rfl (lv_at hl 2 rfl) ?_
      refine lv_aload_n hx hb dX8_rulesToNothing_5 rfl (lv_at hl 0 rfl) ?_
      refine va_get (D := (dC, dI)) (ci := 8) (C := RX8) (T := TX8) (N := 4) hx hb hts hin8 hown hK hP 1 rfl rfl 3 (by decide) lk0 (fun _ h9 => h9) rfl dX8_rulesToNothing_6 ?_
      refine nx_ti (y := nI n) (hn) ?_
      refine nx_icmp_ge (a := i) (b := n) (tgt := 33) hx hb dX8_rulesToNothing_9 (by decide) (by omega) (by omega) (fun c_9 => ?_) (fun c_9 => ?_)
      · skip
        refine lv_iload_n hx hb dX8_rulesToNothing_33 rfl (lv_at hl 1 rfl) ?_
        subst hQ
        exact W.iret (v := nI (nzF (tnX v) i)) hx hb hret (fun tq htq hWq => ⟨_, rfl, by rw [show i = n by omega], htq⟩) (fun q h => by cases h) dX8_rulesToNothing_34
      · skip
        refine lv_aload_n hx hb dX8_rulesToNothing_12 rfl (lv_at hl 0 rfl) ?_
        refine va_get (D := (dC, dI)) (ci := 8) (C := RX8) (T := TX8) (N := 4) hx hb hts hin8 hown hK hP 1 rfl rfl 2 (by decide) lk1 (fun _ h9 => h9) rfl dX8_rulesToNothing_13 ?_
        refine lv_iload_n hx hb dX8_rulesToNothing_16 rfl (lv_at hl 2 rfl) ?_
        refine nx_aald (C := "LeafTrees$Rule") hx hb hK hP 11 4 rfl rfl (i := i) (by omega) (by decide) (show xRules ad i = some (ad (50 + i)) from if_pos (by omega)) dX8_rulesToNothing_17 ?_
        refine va_get (D := (dC, dI)) (ci := 4) (C := RX4) (T := TX4) (N := 3) hx hb hts hin4 hown hK hP (50 + i) (xw_ru i (by omega)) rfl 2 (by decide) lk2 (fun _ h9 => h9) rfl dX8_rulesToNothing_18 ?_
        refine lv_if_eq (tgt := 27) hx hb dX8_rulesToNothing_21 (by decide) (fun c_21 => ?_) (fun c_21 => ?_)
        · skip
          refine lv_iinc (v := nI (i + 1)) (lv' := [(2, .int (nI (i + 1))), (0, .ref (ad 1)), (1, .int (nI (nzF (tnX v) i)))]) hx hb dX8_rulesToNothing_27 hl (k := 2) rfl (nI_add _ _) (by decide) rfl (fun ls hl => ?_)
          refine lv_goto (tgt := 4) hx hb dX8_rulesToNothing_30 (by decide) ?_
          exact ih4 (i + 1) _ (by omega) (by omega) (by rw [nzF_f (f := tnX v) c_21]; exact lv_sub hl [1, 2, 0] rfl)
        · skip
          refine lv_iinc (v := nI (nzF (tnX v) i + 1)) (lv' := [(1, .int (nI (nzF (tnX v) i + 1))), (0, .ref (ad 1)), (2, .int (nI i))]) hx hb dX8_rulesToNothing_24 hl (k := 1) rfl (nI_add _ _) (by decide) rfl (fun ls hl => ?_)
          refine lv_iinc (v := nI (i + 1)) (lv' := [(2, .int (nI (i + 1))), (1, .int (nI (nzF (tnX v) i + 1))), (0, .ref (ad 1))]) hx hb dX8_rulesToNothing_27 hl (k := 2) rfl (nI_add _ _) (by decide) rfl (fun ls hl => ?_)
          refine lv_goto (tgt := 4) hx hb dX8_rulesToNothing_30 (by decide) ?_
          exact ih4 (i + 1) _ (by omega) (by omega) (by rw [nzF_t (f := tnX v) c_21]; exact lv_sub hl [2, 1, 0] rfl)
  exact L4 (8 - 0 + 1) 0 _ (by omega) (Nat.lt_succ_self _) (lv_sub hl [2, 1, 0] rfl)

set_option maxHeartbeats 1000000 in
set_option maxRecDepth 100000 in
/-- World.hasDual -/
theorem x_hasDual (l : Launch) (dC : Nat → ClassId) (dI : Nat → Nat → Nat) (aC : Nat → ClassId) (ad cap : Nat → Nat) (v : Nat → Int32) (R : Nat → List Int32) (F : Nat → Nat → Int32) (G : Nat → Nat → Int64) (A : Nat) (hE : vE A (F 0)) (hA : v 0 = nI A) (n : Nat) (hn : v 1 = nI n) (hn8 : n ≤ 8) (hTl : ∀ j, j < n → isT (F 0) (R (10 + j))) (hVl : ∀ j, j < n → vR A (R (10 + j))) : Met l yX8_hasDual wsX8_hasDual ({ frames := 2, cells := 0, slots := 0, locals := 42 } : Room) (va_Pc [.ref (ad 1)] (XB dC dI aC ad cap (v, R, F, G))) (vp_Si (fun x => x = bI (isDu A (F 0) R n (tnX v) = true))) 0 0 (fun _ => False) := by
  refine Met.ofW (cc := cX8_hasDual) (maxL := 2) (ret := (some .boolean)) (by decide) rfl ?_
  intro p e s m args below meth c s₁ B hml hv
  obtain ⟨rfl, hK, Z, S, hZ, hP⟩ := hv
  have hx := B.exec
  have hb := B.bytes
  have hret := B.returns
  have hts := atoms_spec (ws := wsX8_hasDual) B.pre
  have hown : s.vm.findClass RX8 = some m.cls := findClass_of_methodNamed B.named
  have hlocks := B.notSynchronized
  dsimp only at hZ hP
  have lk0 := hts (.fieldLink RX8 22 "LeafTrees$World" "acts" "I") (by decide +kernel)
  have lk1 := hts (.fieldLink RX8 26 "LeafTrees$World" "ruleCount" "I") (by decide +kernel)
  have lk2 := hts (.fieldLink RX8 17 "LeafTrees$World" "rules" "[LLeafTrees$Rule;") (by decide +kernel)
  have lk3 := hts (.fieldLink RX8 42 "LeafTrees$Rule" "toNothing" "Z") (by decide +kernel)
  have lk4 := hts (.fieldLink RX8 29 "LeafTrees$Rule" "left" "LLeafTrees$Row;") (by decide +kernel)
  have lk5 := hts (.fieldLink RX8 9 "LeafTrees$World" "entries" "[I") (by decide +kernel)
  have hin4 : ∀ w ∈ u_ws RX4 TX4 3, w ∈ wsX8_hasDual := by decide +kernel
  have hin8 : ∀ w ∈ u_ws RX8 TX8 4, w ∈ wsX8_hasDual := by decide +kernel
  have hl := lv_entry [.ref (ad 1)] (n := 2) (Nat.le_of_ble_eq_true rfl)
  rw [lg_entry_eq]
  generalize (lg_sl [.ref (ad 1)] ++ List.replicate (2 - (lg_sl [.ref (ad 1)]).length) Slot.unset).toArray = ls at hl ⊢
  have hl : lv_has ls 2 [(0, .ref (ad 1))] := hl
  refine nx_Q (R := ({ frames := 2, cells := 0, slots := 0, locals := 42 } : Room)) (fun Q hQ => ?_)
  have h4 := hE.1
  refine lv_iconst (v := nI 0) hx hb dX8_hasDual_0 (by decide) ?_
  refine lv_istore_n (lv' := [(1, .int (nI 0)), (0, .ref (ad 1))]) hx hb dX8_hasDual_1 rfl hl (by decide) rfl (fun ls hl => ?_)
  have L2 : ∀ (fuel2 : Nat) (i : Nat) (ls : Array Slot), (i ≤ A) → (∀ q, q < i → F 0 q = nI 2) → 4 - i < fuel2 → lv_has ls 2 [(0, .ref (ad 1)), (1, .int (nI i))] → W p l e ({ frames := 2, cells := 0, slots := 0, locals := 42 } : Room) s m ([.ref (ad 1)] : List Value).toArray below meth c s.heap [] 0 0 Q (F0 m 2 ls []) := by
    intro fuel2
    induction fuel2 with
    | zero => intro i ls hi ha hf2 hl; exact absurd hf2 (Nat.not_lt_zero _)
    | succ fuel2 ih2 =>
      intro i ls hi ha hf2 hl
      refine lv_iload_n hx hb dX8_hasDual_2 rfl (lv_at hl 1 rfl) ?_
      refine lv_aload_n hx hb dX8_hasDual_3 rfl (lv_at hl 0 rfl) ?_
      refine va_get (D := (dC, dI)) (ci := 8) (C := RX8) (T := TX8) (N := 4) hx hb hts hin8 hown hK hP 1 rfl rfl 1 (by decide) lk0 (fun _ h9 => h9) rfl dX8_hasDual_4 ?_
      refine nx_ti (y := nI A) (hA) ?_
      refine nx_icmp_ge (a := i) (b := A) (tgt := 28) hx hb dX8_hasDual_7 (by decide) (by omega) (by omega) (fun c_7 => ?_) (fun c_7 => ?_)
      · skip
        have h2 : ∀ q, q < A → F 0 q = nI 2 := fun q hq => ha q (by omega)
        refine lv_iconst (v := nI 0) hx hb dX8_hasDual_28 (by decide) ?_
        refine lv_istore_n (lv' := [(1, .int (nI 0)), (0, .ref (ad 1))]) hx hb dX8_hasDual_29 rfl hl (by decide) rfl (fun ls hl => ?_)
        have L30 : ∀ (fuel30 : Nat) (j : Nat) (ls : Array Slot), (j ≤ n) → (∀ q, q < j → ¬ v (17 + q) = 0 ∧ (R (10 + q)).length = 5) → 8 - j < fuel30 → lv_has ls 2 [(0, .ref (ad 1)), (1, .int (nI j))] → W p l e ({ frames := 2, cells := 0, slots := 0, locals := 42 } : Room) s m ([.ref (ad 1)] : List Value).toArray below meth c s.heap [] 0 0 Q (F0 m 30 ls []) := by
          intro fuel30
          induction fuel30 with
          | zero => intro j ls hj hb0 hf30 hl; exact absurd hf30 (Nat.not_lt_zero _)
          | succ fuel30 ih30 =>
            intro j ls hj hb0 hf30 hl
            refine lv_iload_n hx hb dX8_hasDual_30 rfl (lv_at hl 1 rfl) ?_
            refine lv_aload_n hx hb dX8_hasDual_31 rfl (lv_at hl 0 rfl) ?_
            refine va_get (D := (dC, dI)) (ci := 8) (C := RX8) (T := TX8) (N := 4) hx hb hts hin8 hown hK hP 1 rfl rfl 3 (by decide) lk1 (fun _ h9 => h9) rfl dX8_hasDual_32 ?_
            refine nx_ti (y := nI n) (hn) ?_
            refine nx_icmp_ge (a := j) (b := n) (tgt := 74) hx hb dX8_hasDual_35 (by decide) (by omega) (by omega) (fun c_35 => ?_) (fun c_35 => ?_)
            · skip
              refine lv_iconst (v := nI 1) hx hb dX8_hasDual_74 (by decide) ?_
              subst hQ
              exact W.zret (v := nI 1) hx hb hret (rfl) (fun tq htq hWq => ⟨_, rfl, (bI_t (by rw [isDu, daF_t A h2]; exact dbF_t n (fun q hq => hb0 q (by omega)))).symm, htq⟩) (fun q h => by cases h) dX8_hasDual_75
            · skip
              refine lv_aload_n hx hb dX8_hasDual_38 rfl (lv_at hl 0 rfl) ?_
              refine va_get (D := (dC, dI)) (ci := 8) (C := RX8) (T := TX8) (N := 4) hx hb hts hin8 hown hK hP 1 rfl rfl 2 (by decide) lk2 (fun _ h9 => h9) rfl dX8_hasDual_39 ?_
              refine lv_iload_n hx hb dX8_hasDual_42 rfl (lv_at hl 1 rfl) ?_
              refine nx_aald (C := "LeafTrees$Rule") hx hb hK hP 11 4 rfl rfl (i := j) (by omega) (by decide) (show xRules ad j = some (ad (50 + j)) from if_pos (by omega)) dX8_hasDual_43 ?_
              refine va_get (D := (dC, dI)) (ci := 4) (C := RX4) (T := TX4) (N := 3) hx hb hts hin4 hown hK hP (50 + j) (xw_ru j (by omega)) rfl 2 (by decide) lk3 (fun _ h9 => h9) rfl dX8_hasDual_44 ?_
              refine lv_if_eq (tgt := 66) hx hb dX8_hasDual_47 (by decide) (fun c_47 => ?_) (fun c_47 => ?_)
              · skip
                refine lv_iconst (v := nI 0) hx hb dX8_hasDual_66 (by decide) ?_
                subst hQ
                exact W.zret (v := nI 0) hx hb hret (rfl) (fun tq htq hWq => ⟨_, rfl, (bI_f (fun h => ((dbF_all h).2 j c_35).1 c_47)).symm, htq⟩) (fun q h => by cases h) dX8_hasDual_67
              · skip
                have hl60 := (hZ (10 + j) (by omega)).1
                refine lv_aload_n hx hb dX8_hasDual_50 rfl (lv_at hl 0 rfl) ?_
                refine va_get (D := (dC, dI)) (ci := 8) (C := RX8) (T := TX8) (N := 4) hx hb hts hin8 hown hK hP 1 rfl rfl 2 (by decide) lk2 (fun _ h9 => h9) rfl dX8_hasDual_51 ?_
                refine lv_iload_n hx hb dX8_hasDual_54 rfl (lv_at hl 1 rfl) ?_
                refine nx_aald (C := "LeafTrees$Rule") hx hb hK hP 11 4 rfl rfl (i := j) (by omega) (by decide) (show xRules ad j = some (ad (50 + j)) from if_pos (by omega)) dX8_hasDual_55 ?_
                refine va_get (D := (dC, dI)) (ci := 4) (C := RX4) (T := TX4) (N := 3) hx hb hts hin4 hown hK hP (50 + j) (xw_ru j (by omega)) rfl 0 (by decide) lk4 (fun _ h9 => h9) rfl dX8_hasDual_56 ?_
                refine xp_i (b := ad (58 + 2 * (10 + j))) (As := []) (rest := []) ⟨hx, hb, hml, hown, hts⟩ (x_size l dC dI aC ad cap v R F G (10 + j) (by omega)) (cwV 0 hts gX8_hasDual_X3_size rfl rfl rfl (by decide +kernel) ⟨Nat.le_of_ble_eq_true rfl, Nat.le_of_ble_eq_true rfl⟩) (xPre (q0 := (58 + 2 * (10 + j))) (ci := 3) rfl (xw_ro (10 + j) (by omega)) hK hZ hP) rfl hl.1 rfl (Nat.le_of_ble_eq_true rfl) dX8_hasDual_59 ⟨Nat.le_of_ble_eq_true rfl, Nat.le_of_ble_eq_true rfl⟩ (fun x_59 h_59 => ?_)
                refine nx_ti (y := nI ((R (10 + j)).length - lvs (R (10 + j)))) h_59 ?_
                refine lv_iconst (v := nI 2) hx hb dX8_hasDual_62 (by decide) ?_
                refine nx_icmp_eq (a := ((R (10 + j)).length - lvs (R (10 + j)))) (b := 2) (tgt := 68) hx hb dX8_hasDual_63 (by decide) (by omega) (by omega) (fun c_63 => ?_) (fun c_63 => ?_)
                · skip
                  refine lv_iinc (v := nI (j + 1)) (lv' := [(1, .int (nI (j + 1))), (0, .ref (ad 1))]) hx hb dX8_hasDual_68 hl (k := 1) rfl (nI_add _ _) (by decide) rfl (fun ls hl => ?_)
                  refine lv_goto (tgt := 30) hx hb dX8_hasDual_71 (by decide) ?_
                  exact ih30 (j + 1) _ (by omega) (lt_s hb0 ⟨c_47, (dl_sz hE (hVl j c_35) (hTl j c_35) h2).mp c_63⟩) (by omega) (lv_sub hl [1, 0] rfl)
                · skip
                  refine lv_iconst (v := nI 0) hx hb dX8_hasDual_66 (by decide) ?_
                  subst hQ
                  exact W.zret (v := nI 0) hx hb hret (rfl) (fun tq htq hWq => ⟨_, rfl, (bI_f (fun h => c_63 ((dl_sz hE (hVl j c_35) (hTl j c_35) h2).mpr ((dbF_all h).2 j c_35).2))).symm, htq⟩) (fun q h => by cases h) dX8_hasDual_67
        exact L30 (8 - 0 + 1) 0 _ (by omega) (fun q h => absurd h (Nat.not_lt_zero q)) (Nat.lt_succ_self _) (lv_sub hl [1, 0] rfl)
      · skip
        refine lv_aload_n hx hb dX8_hasDual_10 rfl (lv_at hl 0 rfl) ?_
        refine va_get (D := (dC, dI)) (ci := 8) (C := RX8) (T := TX8) (N := 4) hx hb hts hin8 hown hK hP 1 rfl rfl 0 (by decide) lk5 (fun _ h9 => h9) rfl dX8_hasDual_11 ?_
        refine lv_iload_n hx hb dX8_hasDual_14 rfl (lv_at hl 1 rfl) ?_
        refine nx_iald hx hb hK hP 10 0 rfl rfl (i := i) (by omega) (by decide) dX8_hasDual_15 ?_
        refine lv_iconst (v := nI 2) hx hb dX8_hasDual_16 (by decide) ?_
        refine lv_icmp_eq (tgt := 22) hx hb dX8_hasDual_17 (by decide) (fun c_17 => ?_) (fun c_17 => ?_)
        · skip
          refine lv_iinc (v := nI (i + 1)) (lv' := [(1, .int (nI (i + 1))), (0, .ref (ad 1))]) hx hb dX8_hasDual_22 hl (k := 1) rfl (nI_add _ _) (by decide) rfl (fun ls hl => ?_)
          refine lv_goto (tgt := 2) hx hb dX8_hasDual_25 (by decide) ?_
          exact ih2 (i + 1) _ (by omega) (lt_s ha c_17) (by omega) (lv_sub hl [1, 0] rfl)
        · skip
          refine lv_iconst (v := nI 0) hx hb dX8_hasDual_20 (by decide) ?_
          subst hQ
          exact W.zret (v := nI 0) hx hb hret (rfl) (fun tq htq hWq => ⟨_, rfl, (bI_f (fun h => c_17 (daF_all (dbF_all h).1 i c_7))).symm, htq⟩) (fun q h => by cases h) dX8_hasDual_21
  exact L2 (4 - 0 + 1) 0 _ (by omega) (fun q h => absurd h (Nat.not_lt_zero q)) (Nat.lt_succ_self _) (lv_sub hl [1, 0] rfl)
