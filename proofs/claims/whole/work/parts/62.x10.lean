set_option maxHeartbeats 1000000 in
set_option maxRecDepth 100000 in
/-- Tally.clear -/
theorem x_tclear (l : Launch) (dC : Nat → ClassId) (dI : Nat → Nat → Nat) (aC : Nat → ClassId) (ad cap : Nat → Nat) (hI : xI ad) (v : Nat → Int32) (R : Nat → List Int32) (F : Nat → Nat → Int32) (G : Nat → Nat → Int64) (j : Nat) (hj : j < 6) : Met l yX7_clear wsX7_clear ({ frames := 0, cells := 0, slots := 0, locals := 0 } : Room) (va_Pc [.ref (ad (32 + j))] (XB dC dI aC ad cap (v, R, F, G))) (va_Qv (fun (u : MS) => (va_up v (11 + j) (nI 0), R, F, G) = u) (XB dC dI aC ad cap) (xA ad)) 0 0 (xA ad) := by
  refine Met.ofW (cc := cX7_clear) (maxL := 1) (ret := none) (by decide) rfl ?_
  intro p e s m args below meth c s₁ B hml hv
  obtain ⟨rfl, hK, Z, S, hZ, hP⟩ := hv
  have hx := B.exec
  have hb := B.bytes
  have hret := B.returns
  have hts := atoms_spec (ws := wsX7_clear) B.pre
  have hown : s.vm.findClass RX7 = some m.cls := findClass_of_methodNamed B.named
  have hlocks := B.notSynchronized
  dsimp only at hZ hP
  have lk0 := hts (.fieldLink RX7 16 "LeafTrees$Tally" "size" "I") (by decide +kernel)
  have hin7 : ∀ w ∈ u_ws RX7 TX7 3, w ∈ wsX7_clear := by decide +kernel
  have hS : va_S (xA ad) s.heap s.heap [] := va_S.rf
  have hl := lv_entry [.ref (ad (32 + j))] (n := 1) (Nat.le_of_ble_eq_true rfl)
  rw [lg_entry_eq]
  generalize (lg_sl [.ref (ad (32 + j))] ++ List.replicate (1 - (lg_sl [.ref (ad (32 + j))]).length) Slot.unset).toArray = ls at hl ⊢
  have hl : lv_has ls 1 [(0, .ref (ad (32 + j)))] := hl
  refine nx_Q (R := ({ frames := 0, cells := 0, slots := 0, locals := 0 } : Room)) (fun Q hQ => ?_)
  refine lv_aload_n hx hb dX7_clear_0 rfl (lv_at hl 0 rfl) ?_
  refine lv_iconst (v := nI 0) hx hb dX7_clear_1 (by decide) ?_
  refine va_put (D := (dC, dI)) (ci := 7) (v := .int (nI 0)) (ty := .int) (C := RX7) (T := TX7) (N := 3) hx hb hts hin7 tyX7 tyX7_ok nmX7 hown hK hP (wsX_D hI) hS (32 + j) (xw_to j (by omega)) rfl 2 (by decide) lk0 (fun _ h9 => h9) rfl (by decide +kernel) rfl rfl (Nat.le_of_ble_eq_true rfl) dX7_clear_2 (fun H locs hP _ hS => ?_)
  have hP : va_P (dC, dI) vwCl ((wsX aC ad cap v Z S F G).set (32 + j) (ad (32 + j), .inr (7, [.ref (ad (38 + 2 * j)), .ref (ad (39 + 2 * j)), .int (nI 0)]))) H := hP
  rw [xs_tal j (by omega)] at hP
  subst hQ
  exact W.vret hx hb hret (fun tq htq hWq => ⟨⟨((va_up v (11 + j) (nI 0)), R, F, G), rfl, rfl, va_K.moved hWq.alike hK, _, _, hZ, by rw [htq]; exact hP⟩, hS.F htq⟩) hS.2.2 dX7_clear_5

set_option maxHeartbeats 1000000 in
set_option maxRecDepth 100000 in
/-- Tally.add -/
theorem x_tadd (l : Launch) (dC : Nat → ClassId) (dI : Nat → Nat → Nat) (aC : Nat → ClassId) (ad cap : Nat → Nat) (hI : xI ad) (hcb : ∀ j, j < 6 → cap j ≤ 8192) (v : Nat → Int32) (R : Nat → List Int32) (F : Nat → Nat → Int32) (G : Nat → Nat → Int64) (j : Nat) (hj : j < 6) (z : Nat) (hz : v (11 + j) = nI z) (hzc : z ≤ cap j) (hz4 : z ≤ 4095) (h16 : 16 ≤ cap j) (x0 y0 : Int64) : Met l yX7_add wsX7_add ({ frames := 2, cells := 8192, slots := 32768, locals := 82 } : Room) (va_Pc [.ref (ad (32 + j)), .long x0, .long y0] (XB dC dI aC ad cap (v, R, F, G))) (GQv dC dI aC ad cap (fun cap1 u => ∃ v1 G1 z1, (v1, R, F, G1) = u ∧ tRel j v v1 G G1 ∧ v1 (11 + j) = nI z1 ∧ z ≤ z1 ∧ z1 ≤ z + 1 ∧ z1 ≤ cap1 j ∧ (∀ i, i ≠ j → cap1 i = cap i) ∧ ∀ g, SS (G1 (14 + 2 * j)) (G1 (15 + 2 * j)) g z1 = SS (G (14 + 2 * j)) (G (15 + 2 * j)) g z + y0 * g x0)) 8192 32768 (xA ad) := by
  refine Met.ofW (cc := cX7_add) (maxL := 6) (ret := none) (by decide) rfl ?_
  intro p e s m args below meth c s₁ B hml hv
  obtain ⟨rfl, hK, Z, S, hZ, hP⟩ := hv
  have hx := B.exec
  have hb := B.bytes
  have hret := B.returns
  have hts := atoms_spec (ws := wsX7_add) B.pre
  have hown : s.vm.findClass RX7 = some m.cls := findClass_of_methodNamed B.named
  have hlocks := B.notSynchronized
  dsimp only at hZ hP
  have lk0 := hts (.fieldLink RX7 16 "LeafTrees$Tally" "size" "I") (by decide +kernel)
  have lk1 := hts (.fieldLink RX7 7 "LeafTrees$Tally" "kinds" "[J") (by decide +kernel)
  have lk2 := hts (.fieldLink RX7 13 "LeafTrees$Tally" "trees" "[J") (by decide +kernel)
  have hin7 : ∀ w ∈ u_ws RX7 TX7 3, w ∈ wsX7_add := by decide +kernel
  obtain ⟨a0, ha0⟩ : ∃ a0, a0 = ad := ⟨ad, rfl⟩
  obtain ⟨c0, hc0⟩ : ∃ c0, c0 = cap := ⟨cap, rfl⟩
  have hAd : ∀ k, k < 38 ∨ 50 ≤ k → ad k = a0 k := fun k _ => by rw [ha0]
  have hcp : ∀ j, j < 6 → c0 j ≤ cap j := fun j _ => by rw [hc0]; exact Nat.le_refl _
  have hA0 : ∀ q, xA ad q → xG a0 s.heap.size q := fun q h => Or.inl (by rw [ha0]; exact h)
  have hS : va_S (xG a0 s.heap.size) s.heap s.heap [] := va_S.rf
  have hl := lv_entry [.ref (ad (32 + j)), .long x0, .long y0] (n := 6) (Nat.le_of_ble_eq_true rfl)
  rw [lg_entry_eq]
  generalize (lg_sl [.ref (ad (32 + j)), .long x0, .long y0] ++ List.replicate (6 - (lg_sl [.ref (ad (32 + j)), .long x0, .long y0]).length) Slot.unset).toArray = ls at hl ⊢
  have hl : lv_has ls 6 [(0, .ref (ad (32 + j))), (1, .long x0), (3, .long y0)] := hl
  generalize ([.ref (ad (32 + j)), .long x0, .long y0] : List Value).toArray = ag at hts lk0 lk1 lk2 ⊢
  refine nx_Q (R := ({ frames := 2, cells := 8192, slots := 32768, locals := 82 } : Room)) (fun Q hQ => ?_)
  refine xg_more (cells' := cs cap - cs c0) (slots' := 4 * (cs cap - cs c0)) (Nat.zero_le _) (Nat.zero_le _) ?_
  have hcj0 := hcb j hj
  have hcs0 : cs cap = cs c0 := by rw [hc0]
  refine lv_iconst (v := nI 0) hx hb dX7_add_0 (by decide) ?_
  refine lv_istore (lv' := [(5, .int (nI 0)), (0, .ref (ad (32 + j))), (1, .long x0), (3, .long y0)]) hx hb dX7_add_1 hl (by decide) rfl (fun ls hl => ?_)
  have L3 : ∀ (fuel3 : Nat) (i : Nat) (ls : Array Slot), (i ≤ z) → (∀ q, q < i → G (14 + 2 * j) q ≠ x0) → z - i < fuel3 → lv_has ls 6 [(0, .ref (ad (32 + j))), (1, .long x0), (3, .long y0), (5, .int (nI i))] → W p l e ({ frames := 2, cells := 8192, slots := 32768, locals := 82 } : Room) s m ag below meth c s.heap [] (cs cap - cs c0) (4 * (cs cap - cs c0)) Q (F0 m 3 ls []) := by
    intro fuel3
    induction fuel3 with
    | zero => intro i ls hi hno hf3 hl; exact absurd hf3 (Nat.not_lt_zero _)
    | succ fuel3 ih3 =>
      intro i ls hi hno hf3 hl
      refine lv_iload hx hb dX7_add_3 (lv_at hl 3 rfl) ?_
      refine lv_aload_n hx hb dX7_add_5 rfl (lv_at hl 0 rfl) ?_
      refine va_get (D := (dC, dI)) (ci := 7) (C := RX7) (T := TX7) (N := 3) hx hb hts hin7 hown hK hP (32 + j) (xw_to j (by omega)) rfl 2 (by decide) lk0 (fun _ h9 => h9) rfl dX7_add_6 ?_
      refine nx_ti (y := nI z) (hz) ?_
      refine nx_icmp_ge (a := i) (b := z) (tgt := 42) hx hb dX7_add_9 (by decide) (by omega) (by omega) (fun c_9 => ?_) (fun c_9 => ?_)
      · skip
        refine lv_aload_n hx hb dX7_add_42 rfl (lv_at hl 0 rfl) ?_
        refine va_get (D := (dC, dI)) (ci := 7) (C := RX7) (T := TX7) (N := 3) hx hb hts hin7 hown hK hP (32 + j) (xw_to j (by omega)) rfl 2 (by decide) lk0 (fun _ h9 => h9) rfl dX7_add_43 ?_
        refine nx_ti (y := nI z) (hz) ?_
        refine lv_aload_n hx hb dX7_add_46 rfl (lv_at hl 0 rfl) ?_
        refine va_get (D := (dC, dI)) (ci := 7) (C := RX7) (T := TX7) (N := 3) hx hb hts hin7 hown hK hP (32 + j) (xw_to j (by omega)) rfl 0 (by decide) lk1 (fun _ h9 => h9) rfl dX7_add_47 ?_
        refine va_alen hx hb hK hP (38 + 2 * j) 1 (xw_tk j (by omega)) rfl (v := nI (cap j)) rfl dX7_add_50 ?_
        refine nx_icmp_ne (a := z) (b := (cap j)) (tgt := 88) hx hb dX7_add_51 (by decide) (by omega) (by omega) (fun c_51 => ?_) (fun c_51 => ?_)
        · skip
          refine lv_aload_n hx hb dX7_add_88 rfl (lv_at hl 0 rfl) ?_
          refine va_get (D := (dC, dI)) (ci := 7) (C := RX7) (T := TX7) (N := 3) hx hb hts hin7 hown hK hP (32 + j) (xw_to j (by omega)) rfl 0 (by decide) lk1 (fun _ h9 => h9) rfl dX7_add_89 ?_
          refine lv_aload_n hx hb dX7_add_92 rfl (lv_at hl 0 rfl) ?_
          refine va_get (D := (dC, dI)) (ci := 7) (C := RX7) (T := TX7) (N := 3) hx hb hts hin7 hown hK hP (32 + j) (xw_to j (by omega)) rfl 2 (by decide) lk0 (fun _ h9 => h9) rfl dX7_add_93 ?_
          refine nx_ti (y := nI z) (hz) ?_
          refine lv_lload_n hx hb dX7_add_96 rfl (lv_at hl 1 rfl) ?_
          refine nx_last hx hb hK hP ((wsX_D hI).weaken (fun _ _ _ h => hA0 _ h)) hS (38 + 2 * j) 1 (xw_tk j (by omega)) rfl (i := z) (by omega) (by have := hcb j hj; omega) dX7_add_97 (fun H locs hP hS => ?_)
          rw [xs_tk j (by omega)] at hP
          refine lv_aload_n hx hb dX7_add_98 rfl (lv_at hl 0 rfl) ?_
          refine va_get (D := (dC, dI)) (ci := 7) (C := RX7) (T := TX7) (N := 3) hx hb hts hin7 hown hK hP (32 + j) (xw_to j (by omega)) rfl 1 (by decide) lk2 (fun _ h9 => h9) rfl dX7_add_99 ?_
          refine lv_aload_n hx hb dX7_add_102 rfl (lv_at hl 0 rfl) ?_
          refine va_get (D := (dC, dI)) (ci := 7) (C := RX7) (T := TX7) (N := 3) hx hb hts hin7 hown hK hP (32 + j) (xw_to j (by omega)) rfl 2 (by decide) lk0 (fun _ h9 => h9) rfl dX7_add_103 ?_
          refine nx_ti (y := nI z) (hz) ?_
          refine lv_lload_n hx hb dX7_add_106 rfl (lv_at hl 2 rfl) ?_
          refine nx_last hx hb hK hP ((wsX_D hI).weaken (fun _ _ _ h => hA0 _ h)) hS (39 + 2 * j) 1 (xw_tt j (by omega)) rfl (i := z) (by omega) (by have := hcb j hj; omega) dX7_add_107 (fun H locs hP hS => ?_)
          rw [xs_tt j (by omega)] at hP
          refine lv_aload_n hx hb dX7_add_108 rfl (lv_at hl 0 rfl) ?_
          refine lv_dup hx hb dX7_add_109 rfl ?_
          refine va_get (D := (dC, dI)) (ci := 7) (C := RX7) (T := TX7) (N := 3) hx hb hts hin7 hown hK hP (32 + j) (xw_to j (by omega)) rfl 2 (by decide) lk0 (fun _ h9 => h9) rfl dX7_add_110 ?_
          refine nx_ti (y := nI z) (hz) ?_
          refine lv_iconst (v := nI 1) hx hb dX7_add_113 (by decide) ?_
          refine lv_iadd hx hb dX7_add_114 ?_
          refine nx_ti (y := nI (z + 1)) (nI_add _ _) ?_
          refine va_put (D := (dC, dI)) (ci := 7) (v := .int (nI (z + 1))) (ty := .int) (C := RX7) (T := TX7) (N := 3) hx hb hts hin7 tyX7 tyX7_ok nmX7 hown hK hP ((wsX_D hI).weaken (fun _ _ _ h => hA0 _ h)) hS (32 + j) (xw_to j (by omega)) rfl 2 (by decide) lk0 (fun _ h9 => h9) rfl (by decide +kernel) rfl rfl (Nat.le_of_ble_eq_true rfl) dX7_add_115 (fun H locs hP _ hS => ?_)
          have hP : va_P (dC, dI) vwCl ((wsX aC ad cap v Z S F (va_up (va_up G (14 + 2 * j) (vp_updL (G (14 + 2 * j)) z x0)) (15 + 2 * j) (vp_updL ((va_up G (14 + 2 * j) (vp_updL (G (14 + 2 * j)) z x0)) (15 + 2 * j)) z y0))).set (32 + j) (ad (32 + j), .inr (7, [.ref (ad (38 + 2 * j)), .ref (ad (39 + 2 * j)), .int (nI (z + 1))]))) H := hP
          rw [xs_tal j (by omega)] at hP
          have hcs := cs_le hcb
          subst hQ
          exact xg_vret hx hb hret hlocks hK hZ hP hA0 hS ⟨hI, hAd, hcp, hcb⟩ (⟨_, _, z + 1, rfl, ⟨fun k h => upn h, fun k h5 h6 => by rw [upn h6, upn h5]⟩, va_up_self _ _ _, by omega, Nat.le_refl _, by omega, fun _ _ => rfl, fun g => by rw [upn (show 14 + 2 * j ≠ 15 + 2 * j by omega), va_up_self, va_up_self, upn (show 15 + 2 * j ≠ 14 + 2 * j by omega)]; exact SS_new (fun _ _ => ⟨rfl, rfl⟩)⟩) (by omega) (by omega) ha0 hc0 dX7_add_118
        · skip
          have hz0 : cs cap - cs c0 = 0 := by rw [hc0]; exact Nat.sub_self _
          have hc0j : c0 j = z := by rw [hc0]; omega
          rw [hz0]
          refine x_grow2 (i := i) (x := x0) (y := y0) hj (z := z) (by omega) (by omega) (by omega) hz hx hb hml hts hown hK hI hP hA0 hS (lv_sub hl [3, 0, 1, 2] rfl) (Nat.le_of_ble_eq_true rfl) (Nat.le_of_ble_eq_true rfl) (by decide) (by show 4 * z ≤ 32768; omega) (fun ad cap G1 H locs hI hq hcE hGE hGz hP hA0 hS => ?_)
          rw [← hc0] at hcE hcb ⊢
          rw [← hq (32 + j) (by omega)] at hl
          have hAd : ∀ k, k < 38 ∨ 50 ≤ k → ad k = a0 k := fun k h => (hq k h).trans (hAd k h)
          have hcj : cap j = 2 * z := by rw [hcE, va_up_self]
          have hcn : ∀ i, i ≠ j → cap i = c0 i := fun i h => by rw [hcE, up_in h]
          have hcb : ∀ i, i < 6 → cap i ≤ 8192 := fun i h => by by_cases q : i = j <;> first | (rw [q, hcj]; omega) | (rw [hcn i q]; exact hcb i h)
          have hcp : ∀ i, i < 6 → c0 i ≤ cap i := fun i h => by by_cases q : i = j <;> first | (rw [q, hcj]; omega) | (rw [hcn i q]; exact Nat.le_refl _)
          have hcs2 : cs cap + c0 j = cs c0 + 2 * z := by rw [hcE]; exact cs_up hj
          refine lv_aload_n hx hb dX7_add_88 rfl (lv_at hl 0 rfl) ?_
          refine va_get (D := (dC, dI)) (ci := 7) (C := RX7) (T := TX7) (N := 3) hx hb hts hin7 hown hK hP (32 + j) (xw_to j (by omega)) rfl 0 (by decide) lk1 (fun _ h9 => h9) rfl dX7_add_89 ?_
          refine lv_aload_n hx hb dX7_add_92 rfl (lv_at hl 0 rfl) ?_
          refine va_get (D := (dC, dI)) (ci := 7) (C := RX7) (T := TX7) (N := 3) hx hb hts hin7 hown hK hP (32 + j) (xw_to j (by omega)) rfl 2 (by decide) lk0 (fun _ h9 => h9) rfl dX7_add_93 ?_
          refine nx_ti (y := nI z) (hz) ?_
          refine lv_lload_n hx hb dX7_add_96 rfl (lv_at hl 1 rfl) ?_
          refine nx_last hx hb hK hP ((wsX_D hI).weaken (fun _ _ _ h => hA0 _ h)) hS (38 + 2 * j) 1 (xw_tk j (by omega)) rfl (i := z) (by omega) (by have := hcb j hj; omega) dX7_add_97 (fun H locs hP hS => ?_)
          rw [xs_tk j (by omega)] at hP
          refine lv_aload_n hx hb dX7_add_98 rfl (lv_at hl 0 rfl) ?_
          refine va_get (D := (dC, dI)) (ci := 7) (C := RX7) (T := TX7) (N := 3) hx hb hts hin7 hown hK hP (32 + j) (xw_to j (by omega)) rfl 1 (by decide) lk2 (fun _ h9 => h9) rfl dX7_add_99 ?_
          refine lv_aload_n hx hb dX7_add_102 rfl (lv_at hl 0 rfl) ?_
          refine va_get (D := (dC, dI)) (ci := 7) (C := RX7) (T := TX7) (N := 3) hx hb hts hin7 hown hK hP (32 + j) (xw_to j (by omega)) rfl 2 (by decide) lk0 (fun _ h9 => h9) rfl dX7_add_103 ?_
          refine nx_ti (y := nI z) (hz) ?_
          refine lv_lload_n hx hb dX7_add_106 rfl (lv_at hl 2 rfl) ?_
          refine nx_last hx hb hK hP ((wsX_D hI).weaken (fun _ _ _ h => hA0 _ h)) hS (39 + 2 * j) 1 (xw_tt j (by omega)) rfl (i := z) (by omega) (by have := hcb j hj; omega) dX7_add_107 (fun H locs hP hS => ?_)
          rw [xs_tt j (by omega)] at hP
          refine lv_aload_n hx hb dX7_add_108 rfl (lv_at hl 0 rfl) ?_
          refine lv_dup hx hb dX7_add_109 rfl ?_
          refine va_get (D := (dC, dI)) (ci := 7) (C := RX7) (T := TX7) (N := 3) hx hb hts hin7 hown hK hP (32 + j) (xw_to j (by omega)) rfl 2 (by decide) lk0 (fun _ h9 => h9) rfl dX7_add_110 ?_
          refine nx_ti (y := nI z) (hz) ?_
          refine lv_iconst (v := nI 1) hx hb dX7_add_113 (by decide) ?_
          refine lv_iadd hx hb dX7_add_114 ?_
          refine nx_ti (y := nI (z + 1)) (nI_add _ _) ?_
          refine va_put (D := (dC, dI)) (ci := 7) (v := .int (nI (z + 1))) (ty := .int) (C := RX7) (T := TX7) (N := 3) hx hb hts hin7 tyX7 tyX7_ok nmX7 hown hK hP ((wsX_D hI).weaken (fun _ _ _ h => hA0 _ h)) hS (32 + j) (xw_to j (by omega)) rfl 2 (by decide) lk0 (fun _ h9 => h9) rfl (by decide +kernel) rfl rfl (Nat.le_of_ble_eq_true rfl) dX7_add_115 (fun H locs hP _ hS => ?_)
          have hP : va_P (dC, dI) vwCl ((wsX aC ad cap v Z S F (va_up (va_up G1 (14 + 2 * j) (vp_updL (G1 (14 + 2 * j)) z x0)) (15 + 2 * j) (vp_updL ((va_up G1 (14 + 2 * j) (vp_updL (G1 (14 + 2 * j)) z x0)) (15 + 2 * j)) z y0))).set (32 + j) (ad (32 + j), .inr (7, [.ref (ad (38 + 2 * j)), .ref (ad (39 + 2 * j)), .int (nI (z + 1))]))) H := hP
          rw [xs_tal j (by omega)] at hP
          have hcs := cs_le hcb
          subst hQ
          exact xg_vret hx hb hret hlocks hK hZ hP hA0 hS ⟨hI, hAd, hcp, hcb⟩ (⟨_, _, z + 1, rfl, ⟨fun k h => upn h, fun k h5 h6 => by rw [upn h6, upn h5]; exact hGE.2 k h5 h6⟩, va_up_self _ _ _, by omega, Nat.le_refl _, by omega, fun i h => (hcn i h).trans (congrFun hc0 i), fun g => by rw [upn (show 14 + 2 * j ≠ 15 + 2 * j by omega), va_up_self, va_up_self, upn (show 15 + 2 * j ≠ 14 + 2 * j by omega)]; exact SS_new hGz⟩) (by omega) (by omega) ha0 hc0 dX7_add_118
      · skip
        refine lv_aload_n hx hb dX7_add_12 rfl (lv_at hl 0 rfl) ?_
        refine va_get (D := (dC, dI)) (ci := 7) (C := RX7) (T := TX7) (N := 3) hx hb hts hin7 hown hK hP (32 + j) (xw_to j (by omega)) rfl 0 (by decide) lk1 (fun _ h9 => h9) rfl dX7_add_13 ?_
        refine lv_iload hx hb dX7_add_16 (lv_at hl 3 rfl) ?_
        refine nx_lald hx hb hK hP (38 + 2 * j) 1 (xw_tk j (by omega)) rfl (i := i) (by omega) (by have := hcb j hj; omega) dX7_add_18 ?_
        refine lv_lload_n hx hb dX7_add_19 rfl (lv_at hl 1 rfl) ?_
        refine W.lcmp hx hb dX7_add_20 ?_
        refine nx_lne (tgt := 36) hx hb dX7_add_21 (by decide) (fun c_21 => ?_) (fun c_21 => ?_)
        · skip
          refine lv_iinc (v := nI (i + 1)) (lv' := [(5, .int (nI (i + 1))), (0, .ref (ad (32 + j))), (1, .long x0), (3, .long y0)]) hx hb dX7_add_36 hl (k := 3) rfl (nI_add _ _) (by decide) rfl (fun ls hl => ?_)
          refine lv_goto (tgt := 3) hx hb dX7_add_39 (by decide) ?_
          exact ih3 (i + 1) _ (by omega) (fun q hq => by rcases Nat.lt_or_ge q i with h | h <;> first | exact hno q h | (rw [show q = i by omega]; exact c_21)) (by omega) (lv_sub hl [1, 2, 3, 0] rfl)
        · skip
          refine lv_aload_n hx hb dX7_add_24 rfl (lv_at hl 0 rfl) ?_
          refine va_get (D := (dC, dI)) (ci := 7) (C := RX7) (T := TX7) (N := 3) hx hb hts hin7 hown hK hP (32 + j) (xw_to j (by omega)) rfl 1 (by decide) lk2 (fun _ h9 => h9) rfl dX7_add_25 ?_
          refine lv_iload hx hb dX7_add_28 (lv_at hl 3 rfl) ?_
          refine lv_dup2_11 hx hb dX7_add_30 rfl rfl ?_
          refine nx_lald hx hb hK hP (39 + 2 * j) 1 (xw_tt j (by omega)) rfl (i := i) (by omega) (by have := hcb j hj; omega) dX7_add_31 ?_
          refine lv_lload_n hx hb dX7_add_32 rfl (lv_at hl 2 rfl) ?_
          refine lv_ladd hx hb dX7_add_33 ?_
          refine nx_last hx hb hK hP ((wsX_D hI).weaken (fun _ _ _ h => hA0 _ h)) hS (39 + 2 * j) 1 (xw_tt j (by omega)) rfl (i := i) (by omega) (by have := hcb j hj; omega) dX7_add_34 (fun H locs hP hS => ?_)
          rw [xs_tt j (by omega)] at hP
          have hcs := cs_le hcb
          subst hQ
          exact xg_vret hx hb hret hlocks hK hZ hP hA0 hS ⟨hI, hAd, hcp, hcb⟩ (⟨v, _, z, rfl, ⟨fun _ _ => rfl, fun k h5 h6 => upn h6⟩, hz, Nat.le_refl _, by omega, hzc, fun _ _ => rfl, fun g => by rw [upn (show 14 + 2 * j ≠ 15 + 2 * j by omega), va_up_self]; exact SS_put c_21 (by omega)⟩) (by omega) (by omega) ha0 hc0 dX7_add_35
  exact L3 (z - 0 + 1) 0 _ (by omega) (fun q hq => absurd hq (Nat.not_lt_zero q)) (Nat.lt_succ_self _) (lv_sub hl [1, 2, 3, 0] rfl)
