set_option maxHeartbeats 1000000 in
set_option maxRecDepth 100000 in
/-- overlaps -/
theorem k_overlaps (l : Launch) (dC : Nat → ClassId) (dI : Nat → Nat → Nat) (aC : Nat → ClassId) (am : Nat → Nat) (hI : mI am) (v : Nat → Int32) (R : Nat → List Int32) (F : Nat → Nat → Int32) (G : Nat → Nat → Int64) (A : Nat) (hE : vE A (F 1)) (n : Nat) (hn : v 4 = nI n) (hn8 : n ≤ 8) (hTl : ∀ j, j < n → isT (F 1) (R (10 + j))) (hVl : ∀ j, j < n → vR A (R (10 + j))) (hl13 : ∀ j, j < n → (R (10 + j)).length ≤ 13) : Met l yX10_overlaps wsX10_overlaps ({ frames := 4, cells := 0, slots := 0, locals := 103 } : Room) (va_Pc [.ref (am 0)] (MB dC dI aC am (v, R, F, G))) (va_Qi (fun (x : Int32) (u : MS) => ∃ M, (v, va_up R 27 M, F, G) = u ∧ x = nI (ovL (F 1) R n).length) (MB dC dI aC am) (mA am)) 0 0 (mA am) := by
  refine Met.ofW (cc := cX10_overlaps) (maxL := 1) (ret := (some .int)) (by decide) rfl ?_
  intro p e s m args below meth c s₁ B hml hv
  obtain ⟨rfl, hK, S, Z, hZ, hP⟩ := hv
  have hx := B.exec
  have hb := B.bytes
  have hret := B.returns
  have hts := atoms_spec (ws := wsX10_overlaps) B.pre
  have hown : s.vm.findClass RX10 = some m.cls := findClass_of_methodNamed B.named
  have hlocks := B.notSynchronized
  dsimp only at hZ hP
  have lk0 := hts (.constant RX10 168 (100000)) (by decide +kernel)
  have hS : va_S (mA am) s.heap s.heap [] := va_S.rf
  have hl := lv_entry [.ref (am 0)] (n := 1) (Nat.le_of_ble_eq_true rfl)
  rw [lg_entry_eq]
  generalize (lg_sl [.ref (am 0)] ++ List.replicate (1 - (lg_sl [.ref (am 0)]).length) Slot.unset).toArray = ls at hl ⊢
  have hl : lv_has ls 1 [(0, .ref (am 0))] := hl
  refine nx_Q (R := ({ frames := 4, cells := 0, slots := 0, locals := 103 } : Room)) (fun Q hQ => ?_)
  skip
  refine lv_aload_n hx hb dX10_overlaps_0 rfl (lv_at hl 0 rfl) ?_
  refine lv_ldc hx hb hown lk0 dX10_overlaps_1 ?_
  refine nx_ti (y := nI 100000) (by decide) ?_
  refine mc_i (As := [.int (nI 100000)]) (rest := []) ⟨hx, hb, hml, hown, hts⟩ (k_goesTo l dC dI aC am hI v R F G A hE n hn hn8 hTl hVl hl13 100000 (by decide)) (cwV 1 hts gX10_overlaps_X10_goesTo rfl rfl rfl (by decide +kernel) ⟨Nat.le_of_ble_eq_true rfl, Nat.le_of_ble_eq_true rfl⟩) hK hZ hP hS rfl hl.1 rfl (Nat.le_of_ble_eq_true rfl) dX10_overlaps_3 ⟨Nat.le_of_ble_eq_true rfl, Nat.le_of_ble_eq_true rfl⟩ (fun x_3 v1 R1 F1 G1 S Z H locs h_3 hZ hP hS => ?_)
  obtain ⟨-, Mq, hq⟩ := h_3
  obtain ⟨hxq, huq⟩ := hq (by have := ovS_len (F 1) R n 832; show (ovS (F 1) R n 832).length ≤ 100000; omega)
  subst hxq
  subst hQ
  exact W.iret (v := nI (ovL (F 1) R n).length) hx hb hret (fun tq htq hWq => ⟨⟨_, (v1, R1, F1, G1), rfl, ⟨Mq, huq, rfl⟩, va_K.moved hWq.alike hK, _, _, hZ, by rw [htq]; exact hP⟩, hS.F htq⟩) hS.2.2 dX10_overlaps_6

set_option maxHeartbeats 1000000 in
set_option maxRecDepth 100000 in
/-- hasOverlap -/
theorem k_hasOverlap (l : Launch) (dC : Nat → ClassId) (dI : Nat → Nat → Nat) (aC : Nat → ClassId) (am : Nat → Nat) (hI : mI am) (v : Nat → Int32) (R : Nat → List Int32) (F : Nat → Nat → Int32) (G : Nat → Nat → Int64) (A : Nat) (hE : vE A (F 1)) (n : Nat) (hn : v 4 = nI n) (hn8 : n ≤ 8) (hTl : ∀ j, j < n → isT (F 1) (R (10 + j))) (hVl : ∀ j, j < n → vR A (R (10 + j))) (hl13 : ∀ j, j < n → (R (10 + j)).length ≤ 13) (i : Nat) (hi : i < 2 ^ 31) : Met l yX10_hasOverlap wsX10_hasOverlap ({ frames := 4, cells := 0, slots := 0, locals := 103 } : Room) (va_Pc [.ref (am 0), .int (nI i)] (MB dC dI aC am (v, R, F, G))) (va_Qi (fun (x : Int32) (u : MS) => x = bI (i < (ovL (F 1) R n).length) ∧ (∀ s M, (ovL (F 1) R n)[i]? = some (s, M) → (va_up (va_up (va_up v 13 (nI (s / 104))) 14 (nI (s / 13 % 8))) 15 (nI (s % 13)), va_up R 27 M, F, G) = u) ∧ (∃ M, (ovL (F 1) R n).length ≤ i → (va_up v 13 (-1), va_up R 27 M, F, G) = u)) (MB dC dI aC am) (mA am)) 0 0 (mA am) := by
  refine Met.ofW (cc := cX10_hasOverlap) (maxL := 2) (ret := (some .boolean)) (by decide) rfl ?_
  intro p e s m args below meth c s₁ B hml hv
  obtain ⟨rfl, hK, S, Z, hZ, hP⟩ := hv
  have hx := B.exec
  have hb := B.bytes
  have hret := B.returns
  have hts := atoms_spec (ws := wsX10_hasOverlap) B.pre
  have hown : s.vm.findClass RX10 = some m.cls := findClass_of_methodNamed B.named
  have hlocks := B.notSynchronized
  dsimp only at hZ hP
  have lk0 := hts (.fieldLink RX10 159 "LeafTreesModel" "overlapP" "I") (by decide +kernel)
  have hin10 : ∀ w ∈ u_ws RX10 TX10 22, w ∈ wsX10_hasOverlap := by decide +kernel
  have hS : va_S (mA am) s.heap s.heap [] := va_S.rf
  have hl := lv_entry [.ref (am 0), .int (nI i)] (n := 2) (Nat.le_of_ble_eq_true rfl)
  rw [lg_entry_eq]
  generalize (lg_sl [.ref (am 0), .int (nI i)] ++ List.replicate (2 - (lg_sl [.ref (am 0), .int (nI i)]).length) Slot.unset).toArray = ls at hl ⊢
  have hl : lv_has ls 2 [(0, .ref (am 0)), (1, .int (nI i))] := hl
  refine nx_Q (R := ({ frames := 4, cells := 0, slots := 0, locals := 103 } : Room)) (fun Q hQ => ?_)
  skip
  refine lv_aload_n hx hb dX10_hasOverlap_0 rfl (lv_at hl 0 rfl) ?_
  refine lv_iconst (v := (-1)) hx hb dX10_hasOverlap_1 (by decide) ?_
  refine va_put (D := (dC, dI)) (ci := 10) (v := .int (-1)) (ty := .int) (C := RX10) (T := TX10) (N := 22) hx hb hts hin10 tyX10 tyX10_ok nmX10 hown hK hP (wsM_D hI) hS 0 rfl rfl 13 (by decide) lk0 (fun _ h9 => h9) rfl (by decide +kernel) rfl rfl (Nat.le_of_ble_eq_true rfl) dX10_hasOverlap_2 (fun H locs hP _ hS => ?_)
  have hP : va_P (dC, dI) vwCl (wsM aC am (va_up v 13 (-1)) S Z F G) H := hP
  refine lv_aload_n hx hb dX10_hasOverlap_5 rfl (lv_at hl 0 rfl) ?_
  refine lv_iload_n hx hb dX10_hasOverlap_6 rfl (lv_at hl 1 rfl) ?_
  refine mc_i (As := [.int (nI i)]) (rest := []) ⟨hx, hb, hml, hown, hts⟩ (k_goesTo l dC dI aC am hI (va_up v 13 (-1)) R F G A hE n hn hn8 hTl hVl hl13 i hi) (cwV 1 hts gX10_hasOverlap_X10_goesTo rfl rfl rfl (by decide +kernel) ⟨Nat.le_of_ble_eq_true rfl, Nat.le_of_ble_eq_true rfl⟩) hK hZ hP hS rfl hl.1 rfl (Nat.le_of_ble_eq_true rfl) dX10_hasOverlap_7 ⟨Nat.le_of_ble_eq_true rfl, Nat.le_of_ble_eq_true rfl⟩ (fun x_7 v1 R1 F1 G1 S Z H locs h_7 hZ hP hS => ?_)
  obtain ⟨hy, Mq, hz⟩ := h_7
  have hy : ∀ s M, (ovL (F 1) R n)[i]? = some (s, M) → (va_up (va_up (va_up v 13 (nI (s / 104))) 14 (nI (s / 13 % 8))) 15 (nI (s % 13)), va_up R 27 M, F, G) = (v1, R1, F1, G1) := fun s M h => by have := (hy s M h).2; rwa [up_up] at this
  refine lv_pop hx hb dX10_hasOverlap_10 rfl ?_
  refine lv_aload_n hx hb dX10_hasOverlap_11 rfl (lv_at hl 0 rfl) ?_
  refine va_get (D := (dC, dI)) (ci := 10) (C := RX10) (T := TX10) (N := 22) hx hb hts hin10 hown hK hP 0 rfl rfl 13 (by decide) lk0 (fun _ h9 => h9) rfl dX10_hasOverlap_12 ?_
  refine lv_iconst (v := (-1)) hx hb dX10_hasOverlap_15 (by decide) ?_
  refine lv_icmp_eq (tgt := 23) hx hb dX10_hasOverlap_16 (by decide) (fun c_16 => ?_) (fun c_16 => ?_)
  · skip
    have hlt : ¬ i < (ovL (F 1) R n).length := fun h => by obtain ⟨⟨s0, M0⟩, hs0⟩ : ∃ o, (ovL (F 1) R n)[i]? = some o := ⟨_, List.getElem?_eq_getElem h⟩; have := hy s0 M0 hs0; cases this; exact nI_neM1 (by have := (ovS_mem (List.mem_of_getElem? hs0)).1; dsimp only at this; omega) c_16
    refine lv_iconst (v := nI 0) hx hb dX10_hasOverlap_23 (by decide) ?_
    subst hQ
    exact W.zret (v := nI 0) hx hb hret (rfl) (fun tq htq hWq => ⟨⟨_, (v1, R1, F1, G1), rfl, ⟨(bI_f hlt).symm, hy, Mq, fun h => (hz h).2⟩, va_K.moved hWq.alike hK, _, _, hZ, by rw [htq]; exact hP⟩, hS.F htq⟩) hS.2.2 dX10_hasOverlap_24
  · skip
    have hlt : i < (ovL (F 1) R n).length := Classical.byContradiction (fun h => by have := (hz (by omega)).2; cases this; exact c_16 rfl)
    refine lv_iconst (v := nI 1) hx hb dX10_hasOverlap_19 (by decide) ?_
    refine lv_goto (tgt := 24) hx hb dX10_hasOverlap_20 (by decide) ?_
    subst hQ
    exact W.zret (v := nI 1) hx hb hret (rfl) (fun tq htq hWq => ⟨⟨_, (v1, R1, F1, G1), rfl, ⟨(bI_t hlt).symm, hy, Mq, fun h => (hz h).2⟩, va_K.moved hWq.alike hK, _, _, hZ, by rw [htq]; exact hP⟩, hS.F htq⟩) hS.2.2 dX10_hasOverlap_24

set_option maxHeartbeats 1000000 in
set_option maxRecDepth 100000 in
/-- overlap -/
theorem k_overlap (l : Launch) (dC : Nat → ClassId) (dI : Nat → Nat → Nat) (aC : Nat → ClassId) (am : Nat → Nat) (hI : mI am) (v : Nat → Int32) (R : Nat → List Int32) (F : Nat → Nat → Int32) (G : Nat → Nat → Int64) (A : Nat) (hE : vE A (F 1)) (n : Nat) (hn : v 4 = nI n) (hn8 : n ≤ 8) (hTl : ∀ j, j < n → isT (F 1) (R (10 + j))) (hVl : ∀ j, j < n → vR A (R (10 + j))) (hl13 : ∀ j, j < n → (R (10 + j)).length ≤ 13) (a to : Int32) : Met l yX10_overlap wsX10_overlap ({ frames := 5, cells := 0, slots := 0, locals := 124 } : Room) (va_Pc [.ref (am 0), .int a, .int to] (MB dC dI aC am (v, R, F, G))) (va_Qi (fun (x : Int32) (u : MS) => ∃ a0 b c R1, (va_up (va_up (va_up v 13 a0) 14 b) 15 c, R1, F, G) = u ∧ (∀ k, k < 26 → R1 k = uOverlap (F 1) R n a to k) ∧ x = pOverlap (F 1) R n a to) (MB dC dI aC am) (mA am)) 0 0 (mA am) := by
  refine Met.ofW (cc := cX10_overlap) (maxL := 3) (ret := (some .int)) (by decide) rfl ?_
  intro p e s m args below meth c s₁ B hml hv
  obtain ⟨rfl, hK, S, Z, hZ, hP⟩ := hv
  have hx := B.exec
  have hb := B.bytes
  have hret := B.returns
  have hts := atoms_spec (ws := wsX10_overlap) B.pre
  have hown : s.vm.findClass RX10 = some m.cls := findClass_of_methodNamed B.named
  have hlocks := B.notSynchronized
  dsimp only at hZ hP
  have lk0 := hts (.fieldLink RX10 159 "LeafTreesModel" "overlapP" "I") (by decide +kernel)
  have lk1 := hts (.fieldLink RX10 162 "LeafTreesModel" "overlapQ" "I") (by decide +kernel)
  have lk2 := hts (.fieldLink RX10 165 "LeafTreesModel" "overlapU" "I") (by decide +kernel)
  have hin10 : ∀ w ∈ u_ws RX10 TX10 22, w ∈ wsX10_overlap := by decide +kernel
  have hS : va_S (mA am) s.heap s.heap [] := va_S.rf
  have hl := lv_entry [.ref (am 0), .int a, .int to] (n := 3) (Nat.le_of_ble_eq_true rfl)
  rw [lg_entry_eq]
  generalize (lg_sl [.ref (am 0), .int a, .int to] ++ List.replicate (3 - (lg_sl [.ref (am 0), .int a, .int to]).length) Slot.unset).toArray = ls at hl ⊢
  have hl : lv_has ls 3 [(0, .ref (am 0)), (1, .int a), (2, .int to)] := hl
  refine nx_Q (R := ({ frames := 5, cells := 0, slots := 0, locals := 124 } : Room)) (fun Q hQ => ?_)
  skip
  refine lv_iload_n hx hb dX10_overlap_0 rfl (lv_at hl 1 rfl) ?_
  refine lv_if_lt (tgt := 11) hx hb dX10_overlap_1 (by decide) (fun c_1 => ?_) (fun c_1 => ?_)
  · skip
    refine lv_bipush (v := (-2)) hx hb dX10_overlap_11 (by decide) ?_
    subst hQ
    exact W.iret (v := (-2)) hx hb hret (fun tq htq hWq => ⟨⟨_, (v, R, F, G), rfl, ⟨v 13, v 14, v 15, R, by rw [up_eta, up_eta, up_eta], fun k _ => by rw [uOverlap, if_neg (fun h => h.1 c_1)], by rw [pOverlap, if_neg (fun h => h.1 c_1)]⟩, va_K.moved hWq.alike hK, _, _, hZ, by rw [htq]; exact hP⟩, hS.F htq⟩) hS.2.2 dX10_overlap_13
  · skip
    refine lv_iload_n hx hb dX10_overlap_4 rfl (lv_at hl 2 rfl) ?_
    refine ms_i (As := [.int to]) (rest := []) ⟨hx, hb, hml, hown, hts⟩ (k_isRow l to) (va_cwS 1 hts gX10_overlap_X10_isRow rfl rfl rfl (by decide +kernel) ⟨Nat.le_of_ble_eq_true rfl, Nat.le_of_ble_eq_true rfl⟩) rfl hl.1 rfl (Nat.le_of_ble_eq_true rfl) dX10_overlap_5 ⟨Nat.le_of_ble_eq_true rfl, Nat.le_of_ble_eq_true rfl⟩ (fun x_5 h_5 => ?_)
    subst h_5
    refine nx_bn (tgt := 14) hx hb dX10_overlap_8 (by decide) (fun c_8 => ?_) (fun c_8 => ?_)
    · skip
      obtain ⟨i, hi, rfl⟩ := nI_of c_1
      obtain ⟨r, hr, rfl⟩ := rIn_of c_8 (by decide)
      have hci := nI_clamp hi
      have hcr := nI_clamp (n := r) (by omega)
      refine lv_aload_n hx hb dX10_overlap_14 rfl (lv_at hl 0 rfl) ?_
      refine lv_iload_n hx hb dX10_overlap_15 rfl (lv_at hl 1 rfl) ?_
      refine mc_i (As := [.int (nI i)]) (rest := []) ⟨hx, hb, hml, hown, hts⟩ (k_hasOverlap l dC dI aC am hI v R F G A hE n hn hn8 hTl hVl hl13 i hi) (cwV 1 hts gX10_overlap_X10_hasOverlap rfl rfl rfl (by decide +kernel) ⟨Nat.le_of_ble_eq_true rfl, Nat.le_of_ble_eq_true rfl⟩) hK hZ hP hS rfl hl.1 rfl (Nat.le_of_ble_eq_true rfl) dX10_overlap_16 ⟨Nat.le_of_ble_eq_true rfl, Nat.le_of_ble_eq_true rfl⟩ (fun x_16 v1 R1 F1 G1 S Z H locs h_16 hZ hP hS => ?_)
      obtain ⟨hx16, hy16, M16, hz16⟩ := h_16
      refine nx_ti hx16 ?_
      refine nx_bn (tgt := 24) hx hb dX10_overlap_19 (by decide) (fun c_19 => ?_) (fun c_19 => ?_)
      · skip
        obtain ⟨⟨s0, M0⟩, hs0⟩ : ∃ o, (ovL (F 1) R n)[i]? = some o := ⟨_, List.getElem?_eq_getElem c_19⟩
        have hu16 := hy16 s0 M0 hs0
        cases hu16
        have hsl := (ovS_mem (List.mem_of_getElem? hs0)).1
        dsimp only at hsl
        refine lv_aload_n hx hb dX10_overlap_24 rfl (lv_at hl 0 rfl) ?_
        refine lv_bipush (v := nI 27) hx hb dX10_overlap_25 (by decide) ?_
        refine lv_iload_n hx hb dX10_overlap_27 rfl (lv_at hl 2 rfl) ?_
        refine mc_v (As := [.int (nI 27), .int (nI r)]) (rest := []) ⟨hx, hb, hml, hown, hts⟩ (k_copy l dC dI aC am hI (va_up (va_up (va_up v 13 (nI (s0 / 104))) 14 (nI (s0 / 13 % 8))) 15 (nI (s0 % 13))) (va_up R 27 M0) F G 27 (by decide) r (by omega) (by omega)) (cwV 2 hts gX10_overlap_X10_copy rfl rfl rfl (by decide +kernel) ⟨Nat.le_of_ble_eq_true rfl, Nat.le_of_ble_eq_true rfl⟩) hK hZ hP hS rfl hl.1 rfl (Nat.le_of_ble_eq_true rfl) dX10_overlap_28 ⟨Nat.le_of_ble_eq_true rfl, Nat.le_of_ble_eq_true rfl⟩ (fun v2 R2 F2 G2 S Z H locs h_28 hZ hP hS => ?_)
        cases h_28
        refine lv_sipush (v := nI 1000) hx hb dX10_overlap_31 (by decide) ?_
        refine lv_aload_n hx hb dX10_overlap_34 rfl (lv_at hl 0 rfl) ?_
        refine va_get (D := (dC, dI)) (ci := 10) (C := RX10) (T := TX10) (N := 22) hx hb hts hin10 hown hK hP 0 rfl rfl 13 (by decide) lk0 (fun _ h9 => h9) rfl dX10_overlap_35 ?_
        refine lv_imul hx hb dX10_overlap_38 ?_
        refine nx_ti (y := nI (1000 * (s0 / 104))) (pk_mul _ _) ?_
        refine lv_bipush (v := nI 100) hx hb dX10_overlap_39 (by decide) ?_
        refine lv_aload_n hx hb dX10_overlap_41 rfl (lv_at hl 0 rfl) ?_
        refine va_get (D := (dC, dI)) (ci := 10) (C := RX10) (T := TX10) (N := 22) hx hb hts hin10 hown hK hP 0 rfl rfl 14 (by decide) lk1 (fun _ h9 => h9) rfl dX10_overlap_42 ?_
        refine lv_imul hx hb dX10_overlap_45 ?_
        refine nx_ti (y := nI (100 * (s0 / 13 % 8))) (pk_mul _ _) ?_
        refine lv_iadd hx hb dX10_overlap_46 ?_
        refine nx_ti (y := nI ((1000 * (s0 / 104)) + (100 * (s0 / 13 % 8)))) (nI_add _ _) ?_
        refine lv_aload_n hx hb dX10_overlap_47 rfl (lv_at hl 0 rfl) ?_
        refine va_get (D := (dC, dI)) (ci := 10) (C := RX10) (T := TX10) (N := 22) hx hb hts hin10 hown hK hP 0 rfl rfl 15 (by decide) lk2 (fun _ h9 => h9) rfl dX10_overlap_48 ?_
        refine lv_iadd hx hb dX10_overlap_51 ?_
        refine nx_ti (y := nI (((1000 * (s0 / 104)) + (100 * (s0 / 13 % 8))) + (s0 % 13))) (nI_add _ _) ?_
        subst hQ
        exact W.iret (v := nI (((1000 * (s0 / 104)) + (100 * (s0 / 13 % 8))) + (s0 % 13))) hx hb hret (fun tq htq hWq => ⟨⟨_, ((va_up (va_up (va_up v 13 (nI (s0 / 104))) 14 (nI (s0 / 13 % 8))) 15 (nI (s0 % 13))), va_up (va_up R 27 M0) r (va_up R 27 M0 27), F, G), rfl, ⟨_, _, _, _, rfl, fun k hk => by rw [uOverlap, if_pos ⟨c_1, c_8⟩, hci, hs0, hcr, va_up_self, up_swap (show (27 : Nat) ≠ r by omega), upn (show k ≠ 27 by omega)], by rw [pOverlap, if_pos ⟨c_1, c_8⟩, hci, hs0]⟩, va_K.moved hWq.alike hK, _, _, hZ, by rw [htq]; exact hP⟩, hS.F htq⟩) hS.2.2 dX10_overlap_52
      · skip
        have hu16 := hz16 (by omega)
        refine lv_iconst (v := (-1)) hx hb dX10_overlap_22 (by decide) ?_
        subst hQ
        exact W.iret (v := (-1)) hx hb hret (fun tq htq hWq => ⟨⟨_, (v1, R1, F1, G1), rfl, ⟨-1, v 14, v 15, va_up R 27 M16, by rw [up_eta13, ← hu16], fun k hk => by rw [uOverlap, if_pos ⟨c_1, c_8⟩, hci, List.getElem?_eq_none (by omega), upn (show k ≠ 27 by omega)], by rw [pOverlap, if_pos ⟨c_1, c_8⟩, hci, List.getElem?_eq_none (by omega)]⟩, va_K.moved hWq.alike hK, _, _, hZ, by rw [htq]; exact hP⟩, hS.F htq⟩) hS.2.2 dX10_overlap_23
    · skip
      refine lv_bipush (v := (-2)) hx hb dX10_overlap_11 (by decide) ?_
      subst hQ
      exact W.iret (v := (-2)) hx hb hret (fun tq htq hWq => ⟨⟨_, (v, R, F, G), rfl, ⟨v 13, v 14, v 15, R, by rw [up_eta, up_eta, up_eta], fun k _ => by rw [uOverlap, if_neg (fun h => c_8 h.2)], by rw [pOverlap, if_neg (fun h => c_8 h.2)]⟩, va_K.moved hWq.alike hK, _, _, hZ, by rw [htq]; exact hP⟩, hS.F htq⟩) hS.2.2 dX10_overlap_13

set_option maxHeartbeats 1000000 in
set_option maxRecDepth 100000 in
/-- comesOf -/
theorem k_comesOf (l : Launch) (dC : Nat → ClassId) (dI : Nat → Nat → Nat) (aC : Nat → ClassId) (am : Nat → Nat) (hI : mI am) (v : Nat → Int32) (R : Nat → List Int32) (F : Nat → Nat → Int32) (G : Nat → Nat → Int64) (A : Nat) (hE : vE A (F 1)) (n : Nat) (hn : v 4 = nI n) (hn8 : n ≤ 8) (hL : ∀ j, j < n → lvs (R (10 + j)) ≤ 13) (hQ0 : ∀ j, j < n → F 4 j = 0 → lvs (R (10 + j)) = lvs (R (18 + j))) (hVr : ∀ j, j < n → vR A (R (18 + j))) (k : Nat) (hkn : k < n) (u0 : Nat) (hV27 : vR A (R 27)) (q : Nat) (ac : List (Nat × Nat)) (hmt : mt (F 1) (R (10 + k)) (R 27) u0 = some (q, ac)) (hu0 : u0 ≤ (R 27).length) : Met l yX10_comesOf wsX10_comesOf ({ frames := 5, cells := 0, slots := 0, locals := 120 } : Room) (va_Pc [.ref (am 0), .int (nI k), .int (nI u0), .int (nI 26)] (MB dC dI aC am (v, R, F, G))) (va_Qi (fun (x : Int32) (u : MS) => ∃ a b c d M, (va_up (va_up v 11 a) 12 b, va_up (va_up R 28 M) 26 (goL (F 1) R n (F 4) (R 27) k u0).2, va_up (va_up F 7 c) 8 d, G) = u ∧ x = (goL (F 1) R n (F 4) (R 27) k u0).1) (MB dC dI aC am) (mA am)) 0 0 (mA am) := by
  refine Met.ofW (cc := cX10_comesOf) (maxL := 6) (ret := (some .int)) (by decide) rfl ?_
  intro p e s m args below meth c s₁ B hml hv
  obtain ⟨rfl, hK, S, Z, hZ, hP⟩ := hv
  have hx := B.exec
  have hb := B.bytes
  have hret := B.returns
  have hts := atoms_spec (ws := wsX10_comesOf) B.pre
  have hown : s.vm.findClass RX10 = some m.cls := findClass_of_methodNamed B.named
  have hlocks := B.notSynchronized
  dsimp only at hZ hP
  have hS : va_S (mA am) s.heap s.heap [] := va_S.rf
  have hl := lv_entry [.ref (am 0), .int (nI k), .int (nI u0), .int (nI 26)] (n := 6) (Nat.le_of_ble_eq_true rfl)
  rw [lg_entry_eq]
  generalize (lg_sl [.ref (am 0), .int (nI k), .int (nI u0), .int (nI 26)] ++ List.replicate (6 - (lg_sl [.ref (am 0), .int (nI k), .int (nI u0), .int (nI 26)]).length) Slot.unset).toArray = ls at hl ⊢
  have hl : lv_has ls 6 [(0, .ref (am 0)), (1, .int (nI k)), (2, .int (nI u0)), (3, .int (nI 26))] := hl
  refine nx_Q (R := ({ frames := 5, cells := 0, slots := 0, locals := 120 } : Room)) (fun Q hQ => ?_)
  skip
  have hl27 := (hZ 27 (by decide)).1
  have hok := mt_ok hu0 hmt
  refine lv_aload_n hx hb dX10_comesOf_0 rfl (lv_at hl 0 rfl) ?_
  refine lv_bipush (v := nI 27) hx hb dX10_comesOf_1 (by decide) ?_
  refine lv_iload_n hx hb dX10_comesOf_3 rfl (lv_at hl 3 rfl) ?_
  refine mc_v (As := [.int (nI 27), .int (nI 26)]) (rest := []) ⟨hx, hb, hml, hown, hts⟩ (k_copy l dC dI aC am hI v R F G 27 (by decide) 26 (by decide) (by decide)) (cwV 2 hts gX10_comesOf_X10_copy rfl rfl rfl (by decide +kernel) ⟨Nat.le_of_ble_eq_true rfl, Nat.le_of_ble_eq_true rfl⟩) hK hZ hP hS rfl hl.1 rfl (Nat.le_of_ble_eq_true rfl) dX10_comesOf_4 ⟨Nat.le_of_ble_eq_true rfl, Nat.le_of_ble_eq_true rfl⟩ (fun v1 R1 F1 G1 S Z H locs h_4 hZ hP hS => ?_)
  cases h_4
  refine lv_aload_n hx hb dX10_comesOf_7 rfl (lv_at hl 0 rfl) ?_
  refine lv_iload_n hx hb dX10_comesOf_8 rfl (lv_at hl 1 rfl) ?_
  refine lv_iload_n hx hb dX10_comesOf_9 rfl (lv_at hl 3 rfl) ?_
  refine lv_iload_n hx hb dX10_comesOf_10 rfl (lv_at hl 2 rfl) ?_
  refine mc_i (As := [.int (nI k), .int (nI 26), .int (nI u0)]) (rest := []) ⟨hx, hb, hml, hown, hts⟩ (k_lies l dC dI aC am hI v (va_up R 26 (R 27)) F G A hE k (by omega) 26 (by decide) (by rw [va_up_self]; exact hV27) (by rw [upn (show 10 + k ≠ 26 by omega)]; exact hL k hkn) u0 (by omega)) (cwV 3 hts gX10_comesOf_X10_lies rfl rfl rfl (by decide +kernel) ⟨Nat.le_of_ble_eq_true rfl, Nat.le_of_ble_eq_true rfl⟩) hK hZ hP hS rfl hl.1 rfl (Nat.le_of_ble_eq_true rfl) dX10_comesOf_11 ⟨Nat.le_of_ble_eq_true rfl, Nat.le_of_ble_eq_true rfl⟩ (fun x_11 v2 R2 F2 G2 S Z H locs h_11 hZ hP hS => ?_)
  obtain ⟨la3, lb3, lc3, ld3, hu_11, hx_11, hm_11⟩ := h_11
  subst hx_11
  have hP : va_P (dC, dI) vwCl (wsM aC am (va_up (va_up v 11 la3) 12 lb3) S Z (va_up (va_up F 7 lc3) 8 ld3) G) H := by cases hu_11; exact hP
  have hZ : mOK S Z (va_up R 26 (R 27)) := by cases hu_11; exact hZ
  have hm_11 := hm_11 q ac (by rw [upn (show 10 + k ≠ 26 by omega), va_up_self]; exact hmt)
  refine lv_pop hx hb dX10_comesOf_14 rfl ?_
  refine lv_aload_n hx hb dX10_comesOf_15 rfl (lv_at hl 0 rfl) ?_
  refine lv_iload_n hx hb dX10_comesOf_16 rfl (lv_at hl 1 rfl) ?_
  refine lv_iload_n hx hb dX10_comesOf_17 rfl (lv_at hl 3 rfl) ?_
  refine lv_iload_n hx hb dX10_comesOf_18 rfl (lv_at hl 2 rfl) ?_
  refine mc_i (As := [.int (nI k), .int (nI 26), .int (nI u0)]) (rest := []) ⟨hx, hb, hml, hown, hts⟩ (k_uses l dC dI aC am hI (va_up (va_up v 11 la3) 12 lb3) (va_up R 26 (R 27)) (va_up (va_up F 7 lc3) 8 ld3) G k (by omega) 26 (by decide) (by decide) u0 q (by rw [va_up_self]; exact hu0) hm_11.1 (by rw [va_up_self]; exact hok.1) ac (by rw [va_up_self]; exact hok.2.2.1) hm_11.2 (fun h => by rw [upn (show 18 + k ≠ 26 by omega), hok.2.2.2]; exact hQ0 k hkn h) (by rw [hok.2.2.2]; exact hL k hkn)) (cwV 3 hts gX10_comesOf_X10_uses rfl rfl rfl (by decide +kernel) ⟨Nat.le_of_ble_eq_true rfl, Nat.le_of_ble_eq_true rfl⟩) hK hZ hP hS rfl hl.1 rfl (Nat.le_of_ble_eq_true rfl) dX10_comesOf_19 ⟨Nat.le_of_ble_eq_true rfl, Nat.le_of_ble_eq_true rfl⟩ (fun x_19 v4 R4 F4 G4 S Z H locs h_19 hZ hP hS => ?_)
  obtain ⟨M1, hu_19, hx_19⟩ := h_19
  have hul : useL (va_up R 26 (R 27)) (F 4) (va_up R 26 (R 27) 26) u0 k q ac = (useL R (F 4) (R 27) u0 k q ac) := by rw [va_up_self]; exact useL_congr (upn (show 18 + k ≠ 26 by omega))
  have hx_19 : x_19 = (useL (va_up R 26 (R 27)) (F 4) (va_up R 26 (R 27) 26) u0 k q ac).1 := hx_19
  rw [hul] at hx_19
  subst hx_19
  have hu_19 : (_, va_up (va_up (va_up R 26 (R 27)) 28 M1) 26 (useL (va_up R 26 (R 27)) (F 4) (va_up R 26 (R 27) 26) u0 k q ac).2, _, _) = _ := hu_19
  rw [hul, rx_a] at hu_19
  cases hu_19
  refine lv_istore (lv' := [(4, .int (useL R (F 4) (R 27) u0 k q ac).1), (0, .ref (am 0)), (1, .int (nI k)), (2, .int (nI u0)), (3, .int (nI 26))]) hx hb dX10_comesOf_22 hl (by decide) rfl (fun ls hl => ?_)
  refine lv_iload hx hb dX10_comesOf_24 (lv_at hl 0 rfl) ?_
  refine lv_iconst (v := nI 1) hx hb dX10_comesOf_26 (by decide) ?_
  refine lv_icmp_ne (tgt := 60) hx hb dX10_comesOf_27 (by decide) (fun c_27 => ?_) (fun c_27 => ?_)
  · skip
    have c_27 : ¬ (useL R (F 4) (R 27) u0 k q ac).1 = 1 := c_27
    refine lv_iload hx hb dX10_comesOf_60 (lv_at hl 0 rfl) ?_
    refine lv_iconst (v := nI 2) hx hb dX10_comesOf_62 (by decide) ?_
    refine lv_icmp_ne (tgt := 70) hx hb dX10_comesOf_63 (by decide) (fun c_63 => ?_) (fun c_63 => ?_)
    · skip
      have c_63 : ¬ (useL R (F 4) (R 27) u0 k q ac).1 = 2 := c_63
      refine lv_bipush (v := (-5)) hx hb dX10_comesOf_70 (by decide) ?_
      subst hQ
      exact W.iret (v := (-5)) hx hb hret (fun tq htq hWq => ⟨⟨_, ((va_up (va_up v 11 la3) 12 lb3), va_up (va_up R 28 M1) 26 (useL R (F 4) (R 27) u0 k q ac).2, (va_up (va_up F 7 lc3) 8 ld3), G), rfl, ⟨_, _, _, _, _, by rw [goL_2 hmt c_27], by rw [goL_2 hmt c_27, if_neg c_63]⟩, va_K.moved hWq.alike hK, _, _, hZ, by rw [htq]; exact hP⟩, hS.F htq⟩) hS.2.2 dX10_comesOf_72
    · skip
      have c_63 : (useL R (F 4) (R 27) u0 k q ac).1 = 2 := c_63
      refine lv_iconst (v := nI 0) hx hb dX10_comesOf_66 (by decide) ?_
      refine lv_goto (tgt := 72) hx hb dX10_comesOf_67 (by decide) ?_
      subst hQ
      exact W.iret (v := nI 0) hx hb hret (fun tq htq hWq => ⟨⟨_, ((va_up (va_up v 11 la3) 12 lb3), va_up (va_up R 28 M1) 26 (useL R (F 4) (R 27) u0 k q ac).2, (va_up (va_up F 7 lc3) 8 ld3), G), rfl, ⟨_, _, _, _, _, by rw [goL_2 hmt c_27], by rw [goL_2 hmt c_27, if_pos c_63]; rfl⟩, va_K.moved hWq.alike hK, _, _, hZ, by rw [htq]; exact hP⟩, hS.F htq⟩) hS.2.2 dX10_comesOf_72
  · skip
    have c_27 : (useL R (F 4) (R 27) u0 k q ac).1 = 1 := c_27
    refine lv_aload_n hx hb dX10_comesOf_30 rfl (lv_at hl 1 rfl) ?_
    refine lv_iload_n hx hb dX10_comesOf_31 rfl (lv_at hl 4 rfl) ?_
    refine mc_i (As := [.int (nI 26)]) (rest := []) ⟨hx, hb, hml, hown, hts⟩ (k_normals l dC dI aC am hI (va_up (va_up v 11 la3) 12 lb3) (va_up (va_up R 28 M1) 26 (useL R (F 4) (R 27) u0 k q ac).2) (va_up (va_up F 7 lc3) 8 ld3) G A hE n hn hn8 (fun j hj => by rw [upn (show 10 + j ≠ 26 by omega), upn (show 10 + j ≠ 28 by omega)]; exact hL j hj) (fun j hj h => by rw [upn (show 10 + j ≠ 26 by omega), upn (show 10 + j ≠ 28 by omega), upn (show 18 + j ≠ 26 by omega), upn (show 18 + j ≠ 28 by omega)]; exact hQ0 j hj h) 26 (by decide) (by decide) (by decide) (by rw [va_up_self]; exact vR_use hV27 (hVr k hkn)) (fun j hj => by rw [upn (show 18 + j ≠ 26 by omega), upn (show 18 + j ≠ 28 by omega)]; exact hVr j hj)) (cwV 1 hts gX10_comesOf_X10_normals rfl rfl rfl (by decide +kernel) ⟨Nat.le_of_ble_eq_true rfl, Nat.le_of_ble_eq_true rfl⟩) hK hZ hP hS rfl hl.1 rfl (Nat.le_of_ble_eq_true rfl) dX10_comesOf_32 ⟨Nat.le_of_ble_eq_true rfl, Nat.le_of_ble_eq_true rfl⟩ (fun x_32 v5 R5 F5 G5 S Z H locs h_32 hZ hP hS => ?_)
    obtain ⟨ma, mb, mc, md, M2, hu_32, hx_32⟩ := h_32
    have hnf : nfL (F 1) (va_up (va_up R 28 M1) 26 (useL R (F 4) (R 27) u0 k q ac).2) n (F 4) ((va_up (va_up R 28 M1) 26 (useL R (F 4) (R 27) u0 k q ac).2) 26) = (nfL (F 1) R n (F 4) (useL R (F 4) (R 27) u0 k q ac).2) := by rw [va_up_self]; exact nfL_congr (fun j hj => by rw [upn (show 10 + j ≠ 26 by omega), upn (show 10 + j ≠ 28 by omega)]) (fun j hj => by rw [upn (show 18 + j ≠ 26 by omega), upn (show 18 + j ≠ 28 by omega)])
    have hx_32 : x_32 = (nfL (F 1) (va_up (va_up R 28 M1) 26 (useL R (F 4) (R 27) u0 k q ac).2) n (F 4) ((va_up (va_up R 28 M1) 26 (useL R (F 4) (R 27) u0 k q ac).2) 26)).1 := hx_32
    rw [hnf] at hx_32
    subst hx_32
    have hu_32 : (_, va_up (va_up (va_up (va_up R 28 M1) 26 (useL R (F 4) (R 27) u0 k q ac).2) 28 M2) 26 (nfL (F 1) (va_up (va_up R 28 M1) 26 (useL R (F 4) (R 27) u0 k q ac).2) n (F 4) ((va_up (va_up R 28 M1) 26 (useL R (F 4) (R 27) u0 k q ac).2) 26)).2, _, _) = _ := hu_32
    rw [hnf, rx_b] at hu_32
    have hP : va_P (dC, dI) vwCl (wsM aC am (va_up (va_up v 11 ma) 12 mb) S Z (va_up (va_up F 7 mc) 8 md) G) H := by cases hu_32; exact hP
    have hZ : mOK S Z (va_up (va_up R 28 M2) 26 (nfL (F 1) R n (F 4) (useL R (F 4) (R 27) u0 k q ac).2).2) := by cases hu_32; exact hZ
    refine lv_istore (lv' := [(5, .int (nfL (F 1) R n (F 4) (useL R (F 4) (R 27) u0 k q ac).2).1), (4, .int (useL R (F 4) (R 27) u0 k q ac).1), (0, .ref (am 0)), (1, .int (nI k)), (2, .int (nI u0)), (3, .int (nI 26))]) hx hb dX10_comesOf_35 hl (by decide) rfl (fun ls hl => ?_)
    refine lv_iload hx hb dX10_comesOf_37 (lv_at hl 0 rfl) ?_
    refine lv_bipush (v := (-5)) hx hb dX10_comesOf_39 (by decide) ?_
    refine lv_icmp_ne (tgt := 49) hx hb dX10_comesOf_41 (by decide) (fun c_41 => ?_) (fun c_41 => ?_)
    · skip
      refine lv_iload hx hb dX10_comesOf_49 (lv_at hl 0 rfl) ?_
      refine lv_if_ge (tgt := 58) hx hb dX10_comesOf_51 (by decide) (fun c_51 => ?_) (fun c_51 => ?_)
      · skip
        refine lv_iconst (v := nI 1) hx hb dX10_comesOf_58 (by decide) ?_
        subst hQ
        exact W.iret (v := nI 1) hx hb hret (fun tq htq hWq => ⟨⟨_, ((va_up (va_up v 11 ma) 12 mb), va_up (va_up R 28 M2) 26 (nfL (F 1) R n (F 4) (useL R (F 4) (R 27) u0 k q ac).2).2, (va_up (va_up F 7 mc) 8 md), G), rfl, ⟨_, _, _, _, _, by rw [goL_1 hmt c_27], by rw [goL_1 hmt c_27, if_neg c_41, if_neg (Int32.not_lt.mpr c_51)]; rfl⟩, va_K.moved hWq.alike hK, _, _, hZ, by rw [htq]; exact hP⟩, hS.F htq⟩) hS.2.2 dX10_comesOf_59
      · skip
        refine lv_iconst (v := nI 0) hx hb dX10_comesOf_54 (by decide) ?_
        refine lv_goto (tgt := 59) hx hb dX10_comesOf_55 (by decide) ?_
        subst hQ
        exact W.iret (v := nI 0) hx hb hret (fun tq htq hWq => ⟨⟨_, ((va_up (va_up v 11 ma) 12 mb), va_up (va_up R 28 M2) 26 (nfL (F 1) R n (F 4) (useL R (F 4) (R 27) u0 k q ac).2).2, (va_up (va_up F 7 mc) 8 md), G), rfl, ⟨_, _, _, _, _, by rw [goL_1 hmt c_27], by rw [goL_1 hmt c_27, if_neg c_41, if_pos (Int32.not_le.mp c_51)]; rfl⟩, va_K.moved hWq.alike hK, _, _, hZ, by rw [htq]; exact hP⟩, hS.F htq⟩) hS.2.2 dX10_comesOf_59
    · skip
      refine lv_bipush (v := (-5)) hx hb dX10_comesOf_44 (by decide) ?_
      refine lv_goto (tgt := 59) hx hb dX10_comesOf_46 (by decide) ?_
      subst hQ
      exact W.iret (v := (-5)) hx hb hret (fun tq htq hWq => ⟨⟨_, ((va_up (va_up v 11 ma) 12 mb), va_up (va_up R 28 M2) 26 (nfL (F 1) R n (F 4) (useL R (F 4) (R 27) u0 k q ac).2).2, (va_up (va_up F 7 mc) 8 md), G), rfl, ⟨_, _, _, _, _, by rw [goL_1 hmt c_27], by rw [goL_1 hmt c_27, if_pos c_41]⟩, va_K.moved hWq.alike hK, _, _, hZ, by rw [htq]; exact hP⟩, hS.F htq⟩) hS.2.2 dX10_comesOf_59
