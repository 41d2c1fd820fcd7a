set_option maxHeartbeats 1000000 in
set_option maxRecDepth 100000 in
/-- Census.keep -/
theorem x_keep (l : Launch) (dC : Nat → ClassId) (dI : Nat → Nat → Nat) (aC : Nat → ClassId) (ad cap : Nat → Nat) (hI : xI ad) (hcb : ∀ j, j < 6 → cap j ≤ 8192) (v : Nat → Int32) (R : Nat → List Int32) (F : Nat → Nat → Int32) (G : Nat → Nat → Int64) (n : Nat) (hn : n ≤ 6) (z : Nat) (hz : n < 6 → tsOK n z v cap) (hz4 : n < 6 → z ≤ 4095) (x0 y0 : Int64) : Met l yX0_keep wsX0_keep ({ frames := 3, cells := 57344, slots := 229376, locals := 107 } : Room) (va_Pc [.ref (ad 6), .int (nI n), .long x0, .long y0] (XB dC dI aC ad cap (v, R, F, G))) (GQv dC dI aC ad cap (fun cap1 u => ∃ v1 G1 z1, (v1, R, F, G1) = u ∧ kRel n v v1 G G1 ∧ (n < 6 → tsOK n z1 v1 cap1 ∧ ∀ g, SS (G1 (14 + 2 * n)) (G1 (15 + 2 * n)) g z1 = SS (G (14 + 2 * n)) (G (15 + 2 * n)) g z + y0 * g x0) ∧ z ≤ z1 ∧ z1 ≤ z + 1 ∧ ∀ i, i ≠ n → cap1 i = cap i)) 57344 229376 (xA ad) := by
  refine Met.ofW (cc := cX0_keep) (maxL := 6) (ret := none) (by decide) rfl ?_
  intro p e s m args below meth c s₁ B hml hv
  obtain ⟨rfl, hK, Z, S, hZ, hP⟩ := hv
  have hx := B.exec
  have hb := B.bytes
  have hret := B.returns
  have hts := atoms_spec (ws := wsX0_keep) B.pre
  have hown : s.vm.findClass RX0 = some m.cls := findClass_of_methodNamed B.named
  have hlocks := B.notSynchronized
  dsimp only at hZ hP
  have lk0 := hts (.fieldLink RX0 26 "LeafTrees$Census" "tallies" "[LLeafTrees$Tally;") (by decide +kernel)
  have hin0 : ∀ w ∈ u_ws RX0 TX0 6, w ∈ wsX0_keep := by decide +kernel
  obtain ⟨a0, ha0⟩ : ∃ a0, a0 = ad := ⟨ad, rfl⟩
  obtain ⟨c0, hc0⟩ : ∃ c0, c0 = cap := ⟨cap, rfl⟩
  have hAd : ∀ k, k < 38 ∨ 50 ≤ k → ad k = a0 k := fun k _ => by rw [ha0]
  have hcp : ∀ j, j < 6 → c0 j ≤ cap j := fun j _ => by rw [hc0]; exact Nat.le_refl _
  have hA0 : ∀ q, xA ad q → xG a0 s.heap.size q := fun q h => Or.inl (by rw [ha0]; exact h)
  have hS : va_S (xG a0 s.heap.size) s.heap s.heap [] := va_S.rf
  have hl := lv_entry [.ref (ad 6), .int (nI n), .long x0, .long y0] (n := 6) (Nat.le_of_ble_eq_true rfl)
  rw [lg_entry_eq]
  generalize (lg_sl [.ref (ad 6), .int (nI n), .long x0, .long y0] ++ List.replicate (6 - (lg_sl [.ref (ad 6), .int (nI n), .long x0, .long y0]).length) Slot.unset).toArray = ls at hl ⊢
  have hl : lv_has ls 6 [(0, .ref (ad 6)), (1, .int (nI n)), (2, .long x0), (4, .long y0)] := hl
  generalize ([.ref (ad 6), .int (nI n), .long x0, .long y0] : List Value).toArray = ag at hts lk0 ⊢
  refine nx_Q (R := ({ frames := 3, cells := 57344, slots := 229376, locals := 107 } : Room)) (fun Q hQ => ?_)
  refine xg_more (cells' := cs cap - cs c0) (slots' := 4 * (cs cap - cs c0)) (Nat.zero_le _) (Nat.zero_le _) ?_
  have h16 : n < 6 → 16 ≤ c0 n := fun h => by rw [hc0]; exact (hz h).2.2
  refine lv_iload_n hx hb dX0_keep_0 rfl (lv_at hl 1 rfl) ?_
  refine nx_if_lt (tgt := 22) hx hb dX0_keep_1 (by decide) (by omega) ?_
  refine lv_iload_n hx hb dX0_keep_4 rfl (lv_at hl 1 rfl) ?_
  refine lv_bipush (v := nI 6) hx hb dX0_keep_5 (by decide) ?_
  refine nx_icmp_ge (a := n) (b := 6) (tgt := 22) hx hb dX0_keep_7 (by decide) (by omega) (by omega) (fun c_7 => ?_) (fun c_7 => ?_)
  · skip
    have hcs := cs_le hcb
    subst hQ
    exact xg_vret hx hb hret hlocks hK hZ hP hA0 hS ⟨hI, hAd, hcp, hcb⟩ (⟨v, G, z, rfl, kRel_rf, fun h => absurd h (by omega), Nat.le_refl _, Nat.le_succ _, fun _ _ => rfl⟩) (by omega) (by omega) ha0 hc0 dX0_keep_22
  · skip
    refine lv_aload_n hx hb dX0_keep_10 rfl (lv_at hl 0 rfl) ?_
    refine va_get (D := (dC, dI)) (ci := 0) (C := RX0) (T := TX0) (N := 6) hx hb hts hin0 hown hK hP 6 rfl rfl 5 (by decide) lk0 (fun _ h9 => h9) rfl dX0_keep_11 ?_
    refine lv_iload_n hx hb dX0_keep_14 rfl (lv_at hl 1 rfl) ?_
    refine nx_aald (C := "LeafTrees$Tally") hx hb hK hP 21 5 rfl rfl (i := n) (by omega) (by decide) (show xTals ad n = some (ad (32 + n)) from if_pos (by omega)) dX0_keep_15 ?_
    refine lv_lload_n hx hb dX0_keep_16 rfl (lv_at hl 2 rfl) ?_
    refine lv_lload hx hb dX0_keep_17 (lv_at hl 3 rfl) ?_
    refine xg_v (b := ad (32 + n)) (As := [.long x0, .long y0]) (rest := []) ⟨hx, hb, hml, hown, hts⟩ (x_tadd l dC dI aC ad cap hI hcb v R F G n c_7 z (hz c_7).1 (hz c_7).2.1 (hz4 c_7) (hz c_7).2.2 x0 y0) (cwV 2 hts gX0_keep_X7_add rfl rfl rfl (by decide +kernel) ⟨Nat.le_of_ble_eq_true rfl, Nat.le_of_ble_eq_true rfl⟩) (xPre (q0 := (32 + n)) (ci := 7) rfl (xw_to n (by omega)) hK hZ hP) hS hA0 (cs_mono hcp) rfl hl.1 rfl (Nat.le_of_ble_eq_true rfl) dX0_keep_19 (xg_le hcb (by decide) (by decide)) (fun ad cap v1 R1 F1 G1 Z S H locs h_19 hgr hZ hP hA0 hS => ?_)
    obtain ⟨hI, hq, hcp2, hcb⟩ := hgr
    rw [← hq 6 (by omega)] at hl
    have hAd : ∀ k, k < 38 ∨ 50 ≤ k → ad k = a0 k := fun k h => (hq k h).trans (hAd k h)
    have hcp : ∀ j, j < 6 → c0 j ≤ cap j := fun j h => Nat.le_trans (hcp j h) (hcp2 j h)
    obtain ⟨vx, Gx, z1, hu_19, hr, hs1, hs2, hs3, hs4, hs5, hs6⟩ := h_19
    have hP : va_P (dC, dI) vwCl (wsX aC ad cap vx Z S F Gx) H := by cases hu_19; exact hP
    have hZ : xOK Z S R := by cases hu_19; exact hZ
    have hcs := cs_le hcb
    subst hQ
    exact xg_vret hx hb hret hlocks hK hZ hP hA0 hS ⟨hI, hAd, hcp, hcb⟩ (⟨vx, Gx, z1, rfl, ⟨fun k h => hr.1 k (h c_7), fun k h => hr.2 k (h c_7).1 (h c_7).2⟩, fun h => ⟨⟨hs1, hs4, Nat.le_trans (h16 c_7) (hcp n c_7)⟩, hs6⟩, hs2, hs3, hs5⟩) (by omega) (by omega) ha0 hc0 dX0_keep_22

set_option maxHeartbeats 1000000 in
set_option maxRecDepth 100000 in
/-- Census.startTallies -/
theorem x_startTallies (l : Launch) (dC : Nat → ClassId) (dI : Nat → Nat → Nat) (aC : Nat → ClassId) (ad cap : Nat → Nat) (hI : xI ad) (hcb : ∀ j, j < 6 → cap j ≤ 8192) (v : Nat → Int32) (R : Nat → List Int32) (F : Nat → Nat → Int32) (G : Nat → Nat → Int64) (h16 : ∀ j, j < 6 → 16 ≤ cap j) : Met l yX0_startTallies wsX0_startTallies ({ frames := 3, cells := 57344, slots := 229376, locals := 107 } : Room) (va_Pc [.ref (ad 6)] (XB dC dI aC ad cap (v, R, F, G))) (GQv dC dI aC ad cap (fun cap1 u => ∃ v1 G1 z0 z1, (v1, R, F, G1) = u ∧ z0 ≤ 1 ∧ z1 ≤ 1 ∧ tsOK 0 z0 v1 cap1 ∧ tsOK 1 z1 v1 cap1 ∧ (∀ j, 2 ≤ j → j < 6 → v1 (11 + j) = nI 0) ∧ (∀ g, SS (G1 14) (G1 15) g z0 = g 0) ∧ (∀ g, SS (G1 16) (G1 17) g z1 = g 0) ∧ (∀ k, k < 11 ∨ 17 ≤ k → v1 k = v k) ∧ (∀ k, k < 14 ∨ 18 ≤ k → G1 k = G k) ∧ ∀ j, 2 ≤ j → cap1 j = cap j)) 57344 229376 (xA ad) := by
  refine Met.ofW (cc := cX0_startTallies) (maxL := 2) (ret := none) (by decide) rfl ?_
  intro p e s m args below meth c s₁ B hml hv
  obtain ⟨rfl, hK, Z, S, hZ, hP⟩ := hv
  have hx := B.exec
  have hb := B.bytes
  have hret := B.returns
  have hts := atoms_spec (ws := wsX0_startTallies) B.pre
  have hown : s.vm.findClass RX0 = some m.cls := findClass_of_methodNamed B.named
  have hlocks := B.notSynchronized
  dsimp only at hZ hP
  have lk0 := hts (.fieldLink RX0 26 "LeafTrees$Census" "tallies" "[LLeafTrees$Tally;") (by decide +kernel)
  have hin0 : ∀ w ∈ u_ws RX0 TX0 6, w ∈ wsX0_startTallies := by decide +kernel
  obtain ⟨a0, ha0⟩ : ∃ a0, a0 = ad := ⟨ad, rfl⟩
  obtain ⟨c0, hc0⟩ : ∃ c0, c0 = cap := ⟨cap, rfl⟩
  have hAd : ∀ k, k < 38 ∨ 50 ≤ k → ad k = a0 k := fun k _ => by rw [ha0]
  have hcp : ∀ j, j < 6 → c0 j ≤ cap j := fun j _ => by rw [hc0]; exact Nat.le_refl _
  have hA0 : ∀ q, xA ad q → xG a0 s.heap.size q := fun q h => Or.inl (by rw [ha0]; exact h)
  have hS : va_S (xG a0 s.heap.size) s.heap s.heap [] := va_S.rf
  have hl := lv_entry [.ref (ad 6)] (n := 2) (Nat.le_of_ble_eq_true rfl)
  rw [lg_entry_eq]
  generalize (lg_sl [.ref (ad 6)] ++ List.replicate (2 - (lg_sl [.ref (ad 6)]).length) Slot.unset).toArray = ls at hl ⊢
  have hl : lv_has ls 2 [(0, .ref (ad 6))] := hl
  generalize ([.ref (ad 6)] : List Value).toArray = ag at hts lk0 ⊢
  refine nx_Q (R := ({ frames := 3, cells := 57344, slots := 229376, locals := 107 } : Room)) (fun Q hQ => ?_)
  refine xg_more (cells' := cs cap - cs c0) (slots' := 4 * (cs cap - cs c0)) (Nat.zero_le _) (Nat.zero_le _) ?_
  have h16c : ∀ j, j < 6 → 16 ≤ c0 j := fun j h => by rw [hc0]; exact h16 j h
  refine lv_iconst (v := nI 0) hx hb dX0_startTallies_0 (by decide) ?_
  refine lv_istore_n (lv' := [(1, .int (nI 0)), (0, .ref (ad 6))]) hx hb dX0_startTallies_1 rfl hl (by decide) rfl (fun ls hl => ?_)
  have L2 : ∀ (fuel2 : Nat) (i : Nat) (va : Nat → Int32) (ad : Nat → Nat) (cap : Nat → Nat) (Z : Nat → Int32) (S : Nat → Nat → Int32) (H : Heap) (locs : List Loc) (ls : Array Slot), (i ≤ 6) → (∀ j, j < i → va (11 + j) = nI 0) → (∀ k, k < 11 ∨ 17 ≤ k → va k = v k) → (cap = c0) → xI ad → (∀ k, k < 38 ∨ 50 ≤ k → ad k = a0 k) → (∀ j, j < 6 → c0 j ≤ cap j) → (∀ j, j < 6 → cap j ≤ 8192) → (∀ q, xA ad q → xG a0 s.heap.size q) → xOK Z S R → va_P (dC, dI) vwCl (wsX aC ad cap va Z S F G) H → va_S (xG a0 s.heap.size) s.heap H locs → 6 - i < fuel2 → lv_has ls 2 [(0, .ref (ad 6)), (1, .int (nI i))] → W p l e ({ frames := 3, cells := 57344, slots := 229376, locals := 107 } : Room) s m ag below meth c H locs (cs cap - cs c0) (4 * (cs cap - cs c0)) Q (F0 m 2 ls []) := by
    intro fuel2
    induction fuel2 with
    | zero => intro i va ad cap Z S H locs ls hi hv0 hvr hce hI hAd hcp hcb hA0 hZ hP hS hf2 hl; exact absurd hf2 (Nat.not_lt_zero _)
    | succ fuel2 ih2 =>
      intro i va ad cap Z S H locs ls hi hv0 hvr hce hI hAd hcp hcb hA0 hZ hP hS hf2 hl
      refine lv_iload_n hx hb dX0_startTallies_2 rfl (lv_at hl 1 rfl) ?_
      refine lv_bipush (v := nI 6) hx hb dX0_startTallies_3 (by decide) ?_
      refine nx_icmp_ge (a := i) (b := 6) (tgt := 23) hx hb dX0_startTallies_5 (by decide) (by omega) (by omega) (fun c_5 => ?_) (fun c_5 => ?_)
      · skip
        refine lv_aload_n hx hb dX0_startTallies_23 rfl (lv_at hl 0 rfl) ?_
        refine va_get (D := (dC, dI)) (ci := 0) (C := RX0) (T := TX0) (N := 6) hx hb hts hin0 hown hK hP 6 rfl rfl 5 (by decide) lk0 (fun _ h9 => h9) rfl dX0_startTallies_24 ?_
        refine lv_iconst (v := nI 0) hx hb dX0_startTallies_27 (by decide) ?_
        refine nx_aald (C := "LeafTrees$Tally") hx hb hK hP 21 5 rfl rfl (i := 0) (by omega) (by decide) (show xTals ad 0 = some (ad 32) from if_pos (by omega)) dX0_startTallies_28 ?_
        refine lv_lconst (v := 0) hx hb dX0_startTallies_29 (by decide) ?_
        refine lv_lconst (v := 1) hx hb dX0_startTallies_30 (by decide) ?_
        refine xg_v (b := ad 32) (As := [.long 0, .long 1]) (rest := []) ⟨hx, hb, hml, hown, hts⟩ (x_tadd l dC dI aC ad cap hI hcb va R F G 0 (by decide) 0 (hv0 0 (by omega)) (Nat.zero_le _) (by decide) (by rw [hce]; exact h16c 0 (by decide)) 0 1) (cwV 2 hts gX0_startTallies_X7_add rfl rfl rfl (by decide +kernel) ⟨Nat.le_of_ble_eq_true rfl, Nat.le_of_ble_eq_true rfl⟩) (xPre (q0 := 32) (ci := 7) rfl rfl hK hZ hP) hS hA0 (cs_mono hcp) rfl hl.1 rfl (Nat.le_of_ble_eq_true rfl) dX0_startTallies_31 (xg_le hcb (by decide) (by decide)) (fun ad cap v1 R1 F1 G1 Z S H locs h_31 hgr hZ hP hA0 hS => ?_)
        obtain ⟨hI, hq, hcp2, hcb⟩ := hgr
        rw [← hq 6 (by omega)] at hl
        have hAd : ∀ k, k < 38 ∨ 50 ≤ k → ad k = a0 k := fun k h => (hq k h).trans (hAd k h)
        have hcp : ∀ j, j < 6 → c0 j ≤ cap j := fun j h => Nat.le_trans (hcp j h) (hcp2 j h)
        obtain ⟨vx, Gx, z0, hu_31, hr, hs1, hs2, hs3, hs4, hs5, hs6⟩ := h_31
        have hP : va_P (dC, dI) vwCl (wsX aC ad cap vx Z S F Gx) H := by cases hu_31; exact hP
        have hZ : xOK Z S R := by cases hu_31; exact hZ
        refine lv_aload_n hx hb dX0_startTallies_34 rfl (lv_at hl 0 rfl) ?_
        refine va_get (D := (dC, dI)) (ci := 0) (C := RX0) (T := TX0) (N := 6) hx hb hts hin0 hown hK hP 6 rfl rfl 5 (by decide) lk0 (fun _ h9 => h9) rfl dX0_startTallies_35 ?_
        refine lv_iconst (v := nI 1) hx hb dX0_startTallies_38 (by decide) ?_
        refine nx_aald (C := "LeafTrees$Tally") hx hb hK hP 21 5 rfl rfl (i := 1) (by omega) (by decide) (show xTals ad 1 = some (ad 33) from if_pos (by omega)) dX0_startTallies_39 ?_
        refine lv_lconst (v := 0) hx hb dX0_startTallies_40 (by decide) ?_
        refine lv_lconst (v := 1) hx hb dX0_startTallies_41 (by decide) ?_
        refine xg_v (b := ad 33) (As := [.long 0, .long 1]) (rest := []) ⟨hx, hb, hml, hown, hts⟩ (x_tadd l dC dI aC ad cap hI hcb vx R F Gx 1 (by decide) 0 ((hr.1 12 (by decide)).trans (hv0 1 (by omega))) (Nat.zero_le _) (by decide) (by rw [hs5 1 (by decide), hce]; exact h16c 1 (by decide)) 0 1) (cwV 2 hts gX0_startTallies_X7_add rfl rfl rfl (by decide +kernel) ⟨Nat.le_of_ble_eq_true rfl, Nat.le_of_ble_eq_true rfl⟩) (xPre (q0 := 33) (ci := 7) rfl rfl hK hZ hP) hS hA0 (cs_mono hcp) rfl hl.1 rfl (Nat.le_of_ble_eq_true rfl) dX0_startTallies_42 (xg_le hcb (by decide) (by decide)) (fun ad cap v2 R2 F2 G2 Z S H locs h_42 hgr hZ hP hA0 hS => ?_)
        obtain ⟨hI, hq, hcp2, hcb⟩ := hgr
        rw [← hq 6 (by omega)] at hl
        have hAd : ∀ k, k < 38 ∨ 50 ≤ k → ad k = a0 k := fun k h => (hq k h).trans (hAd k h)
        have hcp : ∀ j, j < 6 → c0 j ≤ cap j := fun j h => Nat.le_trans (hcp j h) (hcp2 j h)
        obtain ⟨vy, Gy, z1, hu_42, hr2, hq1, hq2, hq3, hq4, hq5, hq6⟩ := h_42
        have hP : va_P (dC, dI) vwCl (wsX aC ad cap vy Z S F Gy) H := by cases hu_42; exact hP
        have hZ : xOK Z S R := by cases hu_42; exact hZ
        have hcs := cs_le hcb
        subst hQ
        exact xg_vret hx hb hret hlocks hK hZ hP hA0 hS ⟨hI, hAd, hcp, hcb⟩ (⟨vy, Gy, z0, z1, rfl, by omega, by omega, ⟨(hr2.1 11 (by decide)).trans hs1, by rw [hq5 0 (by decide)]; exact hs4, Nat.le_trans (h16c 0 (by decide)) (hcp 0 (by decide))⟩, ⟨hq1, hq4, Nat.le_trans (h16c 1 (by decide)) (hcp 1 (by decide))⟩, fun j h1 h2 => (hr2.1 _ (by omega)).trans ((hr.1 _ (by omega)).trans (hv0 j (by omega))), fun g => by rw [hr2.2 14 (by decide) (by decide), hr2.2 15 (by decide) (by decide)]; exact (hs6 g).trans (by rw [SS, Int64.zero_add, Int64.one_mul]), fun g => (hq6 g).trans (by rw [SS, Int64.zero_add, Int64.one_mul]), fun k hk => (hr2.1 k (by omega)).trans ((hr.1 k (by omega)).trans (hvr k hk)), fun k hk => (hr2.2 k (by omega) (by omega)).trans (hr.2 k (by omega) (by omega)), fun j hj => (hq5 j (by omega)).trans ((hs5 j (by omega)).trans (congrFun (hce.trans hc0) j))⟩) (by omega) (by omega) ha0 hc0 dX0_startTallies_45
      · skip
        refine lv_aload_n hx hb dX0_startTallies_8 rfl (lv_at hl 0 rfl) ?_
        refine va_get (D := (dC, dI)) (ci := 0) (C := RX0) (T := TX0) (N := 6) hx hb hts hin0 hown hK hP 6 rfl rfl 5 (by decide) lk0 (fun _ h9 => h9) rfl dX0_startTallies_9 ?_
        refine lv_iload_n hx hb dX0_startTallies_12 rfl (lv_at hl 1 rfl) ?_
        refine nx_aald (C := "LeafTrees$Tally") hx hb hK hP 21 5 rfl rfl (i := i) (by omega) (by decide) (show xTals ad i = some (ad (32 + i)) from if_pos (by omega)) dX0_startTallies_13 ?_
        refine xh_v (b := ad (32 + i)) (As := []) (rest := []) ⟨hx, hb, hml, hown, hts⟩ (x_tclear l dC dI aC ad cap hI va R F G i (by omega)) (cwV 0 hts gX0_startTallies_X7_clear rfl rfl rfl (by decide +kernel) ⟨Nat.le_of_ble_eq_true rfl, Nat.le_of_ble_eq_true rfl⟩) (xPre (q0 := (32 + i)) (ci := 7) rfl (xw_to i (by omega)) hK hZ hP) hS hA0 rfl hl.1 rfl (Nat.le_of_ble_eq_true rfl) dX0_startTallies_14 (xg_le (mc := 0) (ms := 0) hcb (by decide) (by decide)) (fun v3 R3 F3 G3 Z S H locs h_14 hZ hP hS => ?_)
        cases h_14
        refine lv_iinc (v := nI (i + 1)) (lv' := [(1, .int (nI (i + 1))), (0, .ref (ad 6))]) hx hb dX0_startTallies_17 hl (k := 1) rfl (nI_add _ _) (by decide) rfl (fun ls hl => ?_)
        refine lv_goto (tgt := 2) hx hb dX0_startTallies_20 (by decide) ?_
        exact ih2 (i + 1) (va_up va (11 + i) (nI 0)) ad cap _ _ _ _ _ (by omega) (fun j hj => by by_cases q : j = i <;> first | (rw [q, va_up_self]) | (rw [upn (by omega)]; exact hv0 j (by omega))) (fun k hk => by rw [upn (by omega)]; exact hvr k hk) hce hI hAd hcp hcb hA0 hZ hP hS (by omega) (lv_sub hl [1, 0] rfl)
  exact L2 (6 - 0 + 1) 0 v ad cap _ _ _ _ _ (by omega) (fun j hj => absurd hj (Nat.not_lt_zero j)) (fun _ _ => rfl) hc0.symm hI hAd hcp hcb hA0 hZ hP hS (Nat.lt_succ_self _) (lv_sub hl [1, 0] rfl)

set_option maxHeartbeats 1000000 in
set_option maxRecDepth 100000 in
/-- Census.join -/
theorem x_join (l : Launch) (dC : Nat → ClassId) (dI : Nat → Nat → Nat) (aC : Nat → ClassId) (ad cap : Nat → Nat) (hI : xI ad) (hcb : ∀ j, j < 6 → cap j ≤ 8192) (v : Nat → Int32) (R : Nat → List Int32) (F : Nat → Nat → Int32) (G : Nat → Nat → Int64) (n : Nat) (hn : n ≤ 6) (t1 t2 t3 : Nat) (hp1 : t1 < n) (hp2 : t2 < n) (hp3 : t3 < n) (z0 z1 z2 z3 : Nat) (hz : n < 6 → tsOK n z0 v cap) (hz4 : n < 6 → z0 + z1 * (z2 * z3) ≤ 4095) (h1 : v (11 + t1) = nI z1 ∧ z1 ≤ cap t1) (h2 : v (11 + t2) = nI z2 ∧ z2 ≤ cap t2) (h3 : v (11 + t3) = nI z3 ∧ z3 ≤ cap t3) (nd : Nat) (hnd : v 10 = nI nd) (hn36 : nd ≤ 36) (a : Int32) : Met l yX0_join wsX0_join ({ frames := 4, cells := 106496, slots := 425984, locals := 132 } : Room) (va_Pc [.ref (ad 6), .int a, .int (nI n), .ref (ad (32 + t1)), .ref (ad (32 + t2)), .ref (ad (32 + t3))] (XB dC dI aC ad cap (v, R, F, G))) (GQl dC dI aC ad cap (fun x cap1 u => x = sI (j1 (fun x y w => kdF (F 4) (G 3) (G 4) (G 5) a x y w nd) (G 26 0) (G (14 + 2 * t1)) (G (15 + 2 * t1)) (G (14 + 2 * t2)) (G (15 + 2 * t2)) (G (14 + 2 * t3)) (G (15 + 2 * t3)) z2 z3 (fun _ => 1)) z1 ∧ ∃ v1 G1 zz, (v1, R, F, G1) = u ∧ kRel n v v1 G G1 ∧ (n < 6 → tsOK n zz v1 cap1 ∧ ∀ g, SS (G1 (14 + 2 * n)) (G1 (15 + 2 * n)) g zz = SS (G (14 + 2 * n)) (G (15 + 2 * n)) g z0 + sI (j1 (fun x y w => kdF (F 4) (G 3) (G 4) (G 5) a x y w nd) (G 26 0) (G (14 + 2 * t1)) (G (15 + 2 * t1)) (G (14 + 2 * t2)) (G (15 + 2 * t2)) (G (14 + 2 * t3)) (G (15 + 2 * t3)) z2 z3 g) z1) ∧ zz ≤ z0 + z1 * (z2 * z3) ∧ ∀ i, i ≠ n → cap1 i = cap i)) 106496 425984 (xA ad) := by
  refine Met.ofW (cc := cX0_join) (maxL := 15) (ret := (some .long)) (by decide) rfl ?_
  intro p e s m args below meth c s₁ B hml hv
  obtain ⟨rfl, hK, Z, S, hZ, hP⟩ := hv
  have hx := B.exec
  have hb := B.bytes
  have hret := B.returns
  have hts := atoms_spec (ws := wsX0_join) B.pre
  have hown : s.vm.findClass RX0 = some m.cls := findClass_of_methodNamed B.named
  have hlocks := B.notSynchronized
  dsimp only at hZ hP
  have lk0 := hts (.fieldLink RX0 118 "LeafTrees$Tally" "size" "I") (by decide +kernel)
  have lk1 := hts (.fieldLink RX0 121 "LeafTrees$Tally" "kinds" "[J") (by decide +kernel)
  have lk2 := hts (.fieldLink RX0 79 "LeafTrees$Census" "forbidden" "J") (by decide +kernel)
  have lk3 := hts (.fieldLink RX0 128 "LeafTrees$Tally" "trees" "[J") (by decide +kernel)
  have hin0 : ∀ w ∈ u_ws RX0 TX0 6, w ∈ wsX0_join := by decide +kernel
  have hin7 : ∀ w ∈ u_ws RX7 TX7 3, w ∈ wsX0_join := by decide +kernel
  obtain ⟨a0, ha0⟩ : ∃ a0, a0 = ad := ⟨ad, rfl⟩
  obtain ⟨c0, hc0⟩ : ∃ c0, c0 = cap := ⟨cap, rfl⟩
  have hAd : ∀ k, k < 38 ∨ 50 ≤ k → ad k = a0 k := fun k _ => by rw [ha0]
  have hcp : ∀ j, j < 6 → c0 j ≤ cap j := fun j _ => by rw [hc0]; exact Nat.le_refl _
  have hA0 : ∀ q, xA ad q → xG a0 s.heap.size q := fun q h => Or.inl (by rw [ha0]; exact h)
  have hS : va_S (xG a0 s.heap.size) s.heap s.heap [] := va_S.rf
  have hl := lv_entry [.ref (ad 6), .int a, .int (nI n), .ref (ad (32 + t1)), .ref (ad (32 + t2)), .ref (ad (32 + t3))] (n := 15) (Nat.le_of_ble_eq_true rfl)
  rw [lg_entry_eq]
  generalize (lg_sl [.ref (ad 6), .int a, .int (nI n), .ref (ad (32 + t1)), .ref (ad (32 + t2)), .ref (ad (32 + t3))] ++ List.replicate (15 - (lg_sl [.ref (ad 6), .int a, .int (nI n), .ref (ad (32 + t1)), .ref (ad (32 + t2)), .ref (ad (32 + t3))]).length) Slot.unset).toArray = ls at hl ⊢
  have hl : lv_has ls 15 [(0, .ref (ad 6)), (1, .int a), (2, .int (nI n)), (3, .ref (ad (32 + t1))), (4, .ref (ad (32 + t2))), (5, .ref (ad (32 + t3)))] := hl
  generalize ([.ref (ad 6), .int a, .int (nI n), .ref (ad (32 + t1)), .ref (ad (32 + t2)), .ref (ad (32 + t3))] : List Value).toArray = ag at hts lk0 lk1 lk2 lk3 ⊢
  refine nx_Q (R := ({ frames := 4, cells := 106496, slots := 425984, locals := 132 } : Room)) (fun Q hQ => ?_)
  refine xg_more (cells' := cs cap - cs c0) (slots' := 4 * (cs cap - cs c0)) (Nat.zero_le _) (Nat.zero_le _) ?_
  have hjn : ∀ g i j k, ¬ kdF (F 4) (G 3) (G 4) (G 5) a (G (14 + 2 * t1) i) (G (14 + 2 * t2) j) (G (14 + 2 * t3) k) nd &&& G 26 0 = 0 → jt (fun x y w => kdF (F 4) (G 3) (G 4) (G 5) a x y w nd) (G 26 0) (G (14 + 2 * t1)) (G (15 + 2 * t1)) (G (14 + 2 * t2)) (G (15 + 2 * t2)) (G (14 + 2 * t3)) (G (15 + 2 * t3)) g i j k = 0 := fun g i j k h => jt_n h
  have hjy : ∀ g i j k, kdF (F 4) (G 3) (G 4) (G 5) a (G (14 + 2 * t1) i) (G (14 + 2 * t2) j) (G (14 + 2 * t3) k) nd &&& G 26 0 = 0 → jt (fun x y w => kdF (F 4) (G 3) (G 4) (G 5) a x y w nd) (G 26 0) (G (14 + 2 * t1)) (G (15 + 2 * t1)) (G (14 + 2 * t2)) (G (15 + 2 * t2)) (G (14 + 2 * t3)) (G (15 + 2 * t3)) g i j k = G (15 + 2 * t1) i * G (15 + 2 * t2) j * G (15 + 2 * t3) k * g (kdF (F 4) (G 3) (G 4) (G 5) a (G (14 + 2 * t1) i) (G (14 + 2 * t2) j) (G (14 + 2 * t3) k) nd) := fun g i j k h => jt_y h
  have hq1 : z1 ≤ c0 t1 := by rw [hc0]; exact h1.2
  have hq2 : z2 ≤ c0 t2 := by rw [hc0]; exact h2.2
  have hq3 : z3 ≤ c0 t3 := by rw [hc0]; exact h3.2
  have hm1 := hcb t1 (by omega)
  have hm2 := hcb t2 (by omega)
  have hm3 := hcb t3 (by omega)
  have h1c := h1.2
  have h2c := h2.2
  have h3c := h3.2
  refine lv_lconst (v := 0) hx hb dX0_join_0 (by decide) ?_
  refine lv_lstore (lv' := [(6, .long 0), (0, .ref (ad 6)), (1, .int a), (2, .int (nI n)), (3, .ref (ad (32 + t1))), (4, .ref (ad (32 + t2))), (5, .ref (ad (32 + t3)))]) hx hb dX0_join_1 hl (by decide) rfl (fun ls hl => ?_)
  refine lv_iconst (v := nI 0) hx hb dX0_join_3 (by decide) ?_
  refine lv_istore (lv' := [(8, .int (nI 0)), (6, .long 0), (0, .ref (ad 6)), (1, .int a), (2, .int (nI n)), (3, .ref (ad (32 + t1))), (4, .ref (ad (32 + t2))), (5, .ref (ad (32 + t3)))]) hx hb dX0_join_4 hl (by decide) rfl (fun ls hl => ?_)
  have L6 : ∀ (fuel6 : Nat) (i : Nat) (zz : Nat) (va : Nat → Int32) (Ga : Nat → Nat → Int64) (ad : Nat → Nat) (cap : Nat → Nat) (Z : Nat → Int32) (S : Nat → Nat → Int32) (H : Heap) (locs : List Loc) (ls : Array Slot), (i ≤ z1) → (kRel n v va G Ga) → (n < 6 → tsOK n zz va cap ∧ ∀ g, SS (Ga (14 + 2 * n)) (Ga (15 + 2 * n)) g zz = SS (G (14 + 2 * n)) (G (15 + 2 * n)) g z0 + (sI (j1 (fun x y w => kdF (F 4) (G 3) (G 4) (G 5) a x y w nd) (G 26 0) (G (14 + 2 * t1)) (G (15 + 2 * t1)) (G (14 + 2 * t2)) (G (15 + 2 * t2)) (G (14 + 2 * t3)) (G (15 + 2 * t3)) z2 z3 g) i)) → (zz ≤ z0 + i * (z2 * z3)) → (∀ t, t ≠ n → cap t = c0 t) → xI ad → (∀ k, k < 38 ∨ 50 ≤ k → ad k = a0 k) → (∀ j, j < 6 → c0 j ≤ cap j) → (∀ j, j < 6 → cap j ≤ 8192) → (∀ q, xA ad q → xG a0 s.heap.size q) → xOK Z S R → va_P (dC, dI) vwCl (wsX aC ad cap va Z S F Ga) H → va_S (xG a0 s.heap.size) s.heap H locs → z1 - i < fuel6 → lv_has ls 15 [(0, .ref (ad 6)), (1, .int a), (2, .int (nI n)), (3, .ref (ad (32 + t1))), (4, .ref (ad (32 + t2))), (5, .ref (ad (32 + t3))), (6, .long (sI (j1 (fun x y w => kdF (F 4) (G 3) (G 4) (G 5) a x y w nd) (G 26 0) (G (14 + 2 * t1)) (G (15 + 2 * t1)) (G (14 + 2 * t2)) (G (15 + 2 * t2)) (G (14 + 2 * t3)) (G (15 + 2 * t3)) z2 z3 (fun _ => 1)) i)), (8, .int (nI i))] → W p l e ({ frames := 4, cells := 106496, slots := 425984, locals := 132 } : Room) s m ag below meth c H locs (cs cap - cs c0) (4 * (cs cap - cs c0)) Q (F0 m 6 ls []) := by
    intro fuel6
    induction fuel6 with
    | zero => intro i zz va Ga ad cap Z S H locs ls hi hk ht hzb hce hI hAd hcp hcb hA0 hZ hP hS hf6 hl; exact absurd hf6 (Nat.not_lt_zero _)
    | succ fuel6 ih6 =>
      intro i zz va Ga ad cap Z S H locs ls hi hk ht hzb hce hI hAd hcp hcb hA0 hZ hP hS hf6 hl
      refine lv_iload hx hb dX0_join_6 (lv_at hl 7 rfl) ?_
      refine lv_aload_n hx hb dX0_join_8 rfl (lv_at hl 3 rfl) ?_
      refine va_get (D := (dC, dI)) (ci := 7) (C := RX7) (T := TX7) (N := 3) hx hb hts hin7 hown hK hP (32 + t1) (xw_to t1 (by omega)) rfl 2 (by decide) lk0 (fun _ h9 => h9) rfl dX0_join_9 ?_
      refine nx_ti (y := nI z1) ((hk.1 (11 + t1) (fun _ => by omega)).trans h1.1) ?_
      refine nx_icmp_ge (a := i) (b := z1) (tgt := 144) hx hb dX0_join_12 (by decide) (by omega) (by omega) (fun c_12 => ?_) (fun c_12 => ?_)
      · skip
        refine lv_lload hx hb dX0_join_144 (lv_at hl 6 rfl) ?_
        have hcs := cs_le hcb
        subst hQ
        exact xg_lret (r := sI (j1 (fun x y w => kdF (F 4) (G 3) (G 4) (G 5) a x y w nd) (G 26 0) (G (14 + 2 * t1)) (G (15 + 2 * t1)) (G (14 + 2 * t2)) (G (15 + 2 * t2)) (G (14 + 2 * t3)) (G (15 + 2 * t3)) z2 z3 (fun _ => 1)) i) hx hb hret hlocks hK hZ hP hA0 hS ⟨hI, hAd, hcp, hcb⟩ (⟨by rw [show i = z1 by omega], va, Ga, zz, rfl, hk, fun h => ⟨(ht h).1, fun g => by rw [(ht h).2 g, show i = z1 by omega]⟩, by rw [show i = z1 by omega] at hzb; exact hzb, fun t h => (hce t h).trans (congrFun hc0 t)⟩) (by omega) (by omega) ha0 hc0 dX0_join_146
      · skip
        refine lv_iconst (v := nI 0) hx hb dX0_join_15 (by decide) ?_
        refine lv_istore (lv' := [(9, .int (nI 0)), (0, .ref (ad 6)), (1, .int a), (2, .int (nI n)), (3, .ref (ad (32 + t1))), (4, .ref (ad (32 + t2))), (5, .ref (ad (32 + t3))), (6, .long (sI (j1 (fun x y w => kdF (F 4) (G 3) (G 4) (G 5) a x y w nd) (G 26 0) (G (14 + 2 * t1)) (G (15 + 2 * t1)) (G (14 + 2 * t2)) (G (15 + 2 * t2)) (G (14 + 2 * t3)) (G (15 + 2 * t3)) z2 z3 (fun _ => 1)) i)), (8, .int (nI i))]) hx hb dX0_join_16 hl (by decide) rfl (fun ls hl => ?_)
        have L18 : ∀ (fuel18 : Nat) (j : Nat) (zz : Nat) (va : Nat → Int32) (Ga : Nat → Nat → Int64) (ad : Nat → Nat) (cap : Nat → Nat) (Z : Nat → Int32) (S : Nat → Nat → Int32) (H : Heap) (locs : List Loc) (ls : Array Slot), (j ≤ z2) → (kRel n v va G Ga) → (n < 6 → tsOK n zz va cap ∧ ∀ g, SS (Ga (14 + 2 * n)) (Ga (15 + 2 * n)) g zz = SS (G (14 + 2 * n)) (G (15 + 2 * n)) g z0 + (sI (j1 (fun x y w => kdF (F 4) (G 3) (G 4) (G 5) a x y w nd) (G 26 0) (G (14 + 2 * t1)) (G (15 + 2 * t1)) (G (14 + 2 * t2)) (G (15 + 2 * t2)) (G (14 + 2 * t3)) (G (15 + 2 * t3)) z2 z3 g) i + sI (j2 (fun x y w => kdF (F 4) (G 3) (G 4) (G 5) a x y w nd) (G 26 0) (G (14 + 2 * t1)) (G (15 + 2 * t1)) (G (14 + 2 * t2)) (G (15 + 2 * t2)) (G (14 + 2 * t3)) (G (15 + 2 * t3)) z3 g i) j)) → (zz ≤ z0 + i * (z2 * z3) + j * z3) → (∀ t, t ≠ n → cap t = c0 t) → xI ad → (∀ k, k < 38 ∨ 50 ≤ k → ad k = a0 k) → (∀ j, j < 6 → c0 j ≤ cap j) → (∀ j, j < 6 → cap j ≤ 8192) → (∀ q, xA ad q → xG a0 s.heap.size q) → xOK Z S R → va_P (dC, dI) vwCl (wsX aC ad cap va Z S F Ga) H → va_S (xG a0 s.heap.size) s.heap H locs → z2 - j < fuel18 → lv_has ls 15 [(0, .ref (ad 6)), (1, .int a), (2, .int (nI n)), (3, .ref (ad (32 + t1))), (4, .ref (ad (32 + t2))), (5, .ref (ad (32 + t3))), (6, .long (sI (j1 (fun x y w => kdF (F 4) (G 3) (G 4) (G 5) a x y w nd) (G 26 0) (G (14 + 2 * t1)) (G (15 + 2 * t1)) (G (14 + 2 * t2)) (G (15 + 2 * t2)) (G (14 + 2 * t3)) (G (15 + 2 * t3)) z2 z3 (fun _ => 1)) i + sI (j2 (fun x y w => kdF (F 4) (G 3) (G 4) (G 5) a x y w nd) (G 26 0) (G (14 + 2 * t1)) (G (15 + 2 * t1)) (G (14 + 2 * t2)) (G (15 + 2 * t2)) (G (14 + 2 * t3)) (G (15 + 2 * t3)) z3 (fun _ => 1) i) j)), (8, .int (nI i)), (9, .int (nI j))] → W p l e ({ frames := 4, cells := 106496, slots := 425984, locals := 132 } : Room) s m ag below meth c H locs (cs cap - cs c0) (4 * (cs cap - cs c0)) Q (F0 m 18 ls []) := by
          intro fuel18
          induction fuel18 with
          | zero => intro j zz va Ga ad cap Z S H locs ls hj hk ht hzb hce hI hAd hcp hcb hA0 hZ hP hS hf18 hl; exact absurd hf18 (Nat.not_lt_zero _)
          | succ fuel18 ih18 =>
            intro j zz va Ga ad cap Z S H locs ls hj hk ht hzb hce hI hAd hcp hcb hA0 hZ hP hS hf18 hl
            refine lv_iload hx hb dX0_join_18 (lv_at hl 8 rfl) ?_
            refine lv_aload hx hb dX0_join_20 (lv_at hl 4 rfl) ?_
            refine va_get (D := (dC, dI)) (ci := 7) (C := RX7) (T := TX7) (N := 3) hx hb hts hin7 hown hK hP (32 + t2) (xw_to t2 (by omega)) rfl 2 (by decide) lk0 (fun _ h9 => h9) rfl dX0_join_22 ?_
            refine nx_ti (y := nI z2) ((hk.1 (11 + t2) (fun _ => by omega)).trans h2.1) ?_
            refine nx_icmp_ge (a := j) (b := z2) (tgt := 138) hx hb dX0_join_25 (by decide) (by omega) (by omega) (fun c_25 => ?_) (fun c_25 => ?_)
            · skip
              refine lv_iinc (v := nI (i + 1)) (lv' := [(8, .int (nI (i + 1))), (0, .ref (ad 6)), (1, .int a), (2, .int (nI n)), (3, .ref (ad (32 + t1))), (4, .ref (ad (32 + t2))), (5, .ref (ad (32 + t3))), (6, .long (sI (j1 (fun x y w => kdF (F 4) (G 3) (G 4) (G 5) a x y w nd) (G 26 0) (G (14 + 2 * t1)) (G (15 + 2 * t1)) (G (14 + 2 * t2)) (G (15 + 2 * t2)) (G (14 + 2 * t3)) (G (15 + 2 * t3)) z2 z3 (fun _ => 1)) i + sI (j2 (fun x y w => kdF (F 4) (G 3) (G 4) (G 5) a x y w nd) (G 26 0) (G (14 + 2 * t1)) (G (15 + 2 * t1)) (G (14 + 2 * t2)) (G (15 + 2 * t2)) (G (14 + 2 * t3)) (G (15 + 2 * t3)) z3 (fun _ => 1) i) j)), (9, .int (nI j))]) hx hb dX0_join_138 hl (k := 7) rfl (nI_add _ _) (by decide) rfl (fun ls hl => ?_)
              refine lv_goto (tgt := 6) hx hb dX0_join_141 (by decide) ?_
              exact ih6 (i + 1) zz va Ga ad cap _ _ _ _ _ (by omega) (by omega) (fun h => ⟨(ht h).1, fun g => by rw [(ht h).2 g, show j = z2 by omega]; rfl⟩) (by rw [up_j]; rw [show j = z2 by omega] at hzb; omega) (by omega) hI hAd hcp hcb hA0 hZ hP hS (by omega) (by rw [show j = z2 by omega] at hl; exact lv_sub hl [1, 2, 3, 4, 5, 6, 7, 0] rfl)
            · skip
              refine lv_iconst (v := nI 0) hx hb dX0_join_28 (by decide) ?_
              refine lv_istore (lv' := [(10, .int (nI 0)), (0, .ref (ad 6)), (1, .int a), (2, .int (nI n)), (3, .ref (ad (32 + t1))), (4, .ref (ad (32 + t2))), (5, .ref (ad (32 + t3))), (6, .long (sI (j1 (fun x y w => kdF (F 4) (G 3) (G 4) (G 5) a x y w nd) (G 26 0) (G (14 + 2 * t1)) (G (15 + 2 * t1)) (G (14 + 2 * t2)) (G (15 + 2 * t2)) (G (14 + 2 * t3)) (G (15 + 2 * t3)) z2 z3 (fun _ => 1)) i + sI (j2 (fun x y w => kdF (F 4) (G 3) (G 4) (G 5) a x y w nd) (G 26 0) (G (14 + 2 * t1)) (G (15 + 2 * t1)) (G (14 + 2 * t2)) (G (15 + 2 * t2)) (G (14 + 2 * t3)) (G (15 + 2 * t3)) z3 (fun _ => 1) i) j)), (8, .int (nI i)), (9, .int (nI j))]) hx hb dX0_join_29 hl (by decide) rfl (fun ls hl => ?_)
              have L31 : ∀ (fuel31 : Nat) (k : Nat) (zz : Nat) (va : Nat → Int32) (Ga : Nat → Nat → Int64) (ad : Nat → Nat) (cap : Nat → Nat) (Z : Nat → Int32) (S : Nat → Nat → Int32) (H : Heap) (locs : List Loc) (ls : Array Slot), (k ≤ z3) → (kRel n v va G Ga) → (n < 6 → tsOK n zz va cap ∧ ∀ g, SS (Ga (14 + 2 * n)) (Ga (15 + 2 * n)) g zz = SS (G (14 + 2 * n)) (G (15 + 2 * n)) g z0 + (sI (j1 (fun x y w => kdF (F 4) (G 3) (G 4) (G 5) a x y w nd) (G 26 0) (G (14 + 2 * t1)) (G (15 + 2 * t1)) (G (14 + 2 * t2)) (G (15 + 2 * t2)) (G (14 + 2 * t3)) (G (15 + 2 * t3)) z2 z3 g) i + sI (j2 (fun x y w => kdF (F 4) (G 3) (G 4) (G 5) a x y w nd) (G 26 0) (G (14 + 2 * t1)) (G (15 + 2 * t1)) (G (14 + 2 * t2)) (G (15 + 2 * t2)) (G (14 + 2 * t3)) (G (15 + 2 * t3)) z3 g i) j + sI (jt (fun x y w => kdF (F 4) (G 3) (G 4) (G 5) a x y w nd) (G 26 0) (G (14 + 2 * t1)) (G (15 + 2 * t1)) (G (14 + 2 * t2)) (G (15 + 2 * t2)) (G (14 + 2 * t3)) (G (15 + 2 * t3)) g i j) k)) → (zz ≤ z0 + i * (z2 * z3) + j * z3 + k) → (∀ t, t ≠ n → cap t = c0 t) → xI ad → (∀ k, k < 38 ∨ 50 ≤ k → ad k = a0 k) → (∀ j, j < 6 → c0 j ≤ cap j) → (∀ j, j < 6 → cap j ≤ 8192) → (∀ q, xA ad q → xG a0 s.heap.size q) → xOK Z S R → va_P (dC, dI) vwCl (wsX aC ad cap va Z S F Ga) H → va_S (xG a0 s.heap.size) s.heap H locs → z3 - k < fuel31 → lv_has ls 15 [(0, .ref (ad 6)), (1, .int a), (2, .int (nI n)), (3, .ref (ad (32 + t1))), (4, .ref (ad (32 + t2))), (5, .ref (ad (32 + t3))), (6, .long (sI (j1 (fun x y w => kdF (F 4) (G 3) (G 4) (G 5) a x y w nd) (G 26 0) (G (14 + 2 * t1)) (G (15 + 2 * t1)) (G (14 + 2 * t2)) (G (15 + 2 * t2)) (G (14 + 2 * t3)) (G (15 + 2 * t3)) z2 z3 (fun _ => 1)) i + sI (j2 (fun x y w => kdF (F 4) (G 3) (G 4) (G 5) a x y w nd) (G 26 0) (G (14 + 2 * t1)) (G (15 + 2 * t1)) (G (14 + 2 * t2)) (G (15 + 2 * t2)) (G (14 + 2 * t3)) (G (15 + 2 * t3)) z3 (fun _ => 1) i) j + sI (jt (fun x y w => kdF (F 4) (G 3) (G 4) (G 5) a x y w nd) (G 26 0) (G (14 + 2 * t1)) (G (15 + 2 * t1)) (G (14 + 2 * t2)) (G (15 + 2 * t2)) (G (14 + 2 * t3)) (G (15 + 2 * t3)) (fun _ => 1) i j) k)), (8, .int (nI i)), (9, .int (nI j)), (10, .int (nI k))] → W p l e ({ frames := 4, cells := 106496, slots := 425984, locals := 132 } : Room) s m ag below meth c H locs (cs cap - cs c0) (4 * (cs cap - cs c0)) Q (F0 m 31 ls []) := by
                intro fuel31
                induction fuel31 with
                | zero => intro k zz va Ga ad cap Z S H locs ls hk3 hk ht hzb hce hI hAd hcp hcb hA0 hZ hP hS hf31 hl; exact absurd hf31 (Nat.not_lt_zero _)
                | succ fuel31 ih31 =>
                  intro k zz va Ga ad cap Z S H locs ls hk3 hk ht hzb hce hI hAd hcp hcb hA0 hZ hP hS hf31 hl
                  refine lv_iload hx hb dX0_join_31 (lv_at hl 9 rfl) ?_
                  refine lv_aload hx hb dX0_join_33 (lv_at hl 5 rfl) ?_
                  refine va_get (D := (dC, dI)) (ci := 7) (C := RX7) (T := TX7) (N := 3) hx hb hts hin7 hown hK hP (32 + t3) (xw_to t3 (by omega)) rfl 2 (by decide) lk0 (fun _ h9 => h9) rfl dX0_join_35 ?_
                  refine nx_ti (y := nI z3) ((hk.1 (11 + t3) (fun _ => by omega)).trans h3.1) ?_
                  refine nx_icmp_ge (a := k) (b := z3) (tgt := 132) hx hb dX0_join_38 (by decide) (by omega) (by omega) (fun c_38 => ?_) (fun c_38 => ?_)
                  · skip
                    refine lv_iinc (v := nI (j + 1)) (lv' := [(9, .int (nI (j + 1))), (0, .ref (ad 6)), (1, .int a), (2, .int (nI n)), (3, .ref (ad (32 + t1))), (4, .ref (ad (32 + t2))), (5, .ref (ad (32 + t3))), (6, .long (sI (j1 (fun x y w => kdF (F 4) (G 3) (G 4) (G 5) a x y w nd) (G 26 0) (G (14 + 2 * t1)) (G (15 + 2 * t1)) (G (14 + 2 * t2)) (G (15 + 2 * t2)) (G (14 + 2 * t3)) (G (15 + 2 * t3)) z2 z3 (fun _ => 1)) i + sI (j2 (fun x y w => kdF (F 4) (G 3) (G 4) (G 5) a x y w nd) (G 26 0) (G (14 + 2 * t1)) (G (15 + 2 * t1)) (G (14 + 2 * t2)) (G (15 + 2 * t2)) (G (14 + 2 * t3)) (G (15 + 2 * t3)) z3 (fun _ => 1) i) j + sI (jt (fun x y w => kdF (F 4) (G 3) (G 4) (G 5) a x y w nd) (G 26 0) (G (14 + 2 * t1)) (G (15 + 2 * t1)) (G (14 + 2 * t2)) (G (15 + 2 * t2)) (G (14 + 2 * t3)) (G (15 + 2 * t3)) (fun _ => 1) i j) k)), (8, .int (nI i)), (10, .int (nI k))]) hx hb dX0_join_132 hl (k := 8) rfl (nI_add _ _) (by decide) rfl (fun ls hl => ?_)
                    refine lv_goto (tgt := 18) hx hb dX0_join_135 (by decide) ?_
                    exact ih18 (j + 1) zz va Ga ad cap _ _ _ _ _ (by omega) (by omega) (fun h => ⟨(ht h).1, fun g => by rw [(ht h).2 g, show k = z3 by omega, sI_s]; rfl⟩) (by rw [up_j]; omega) (by omega) hI hAd hcp hcb hA0 hZ hP hS (by omega) (by rw [show k = z3 by omega] at hl; rw [sI_s]; exact lv_sub hl [1, 2, 3, 4, 5, 6, 7, 8, 0] rfl)
                  · skip
                    refine lv_aload_n hx hb dX0_join_41 rfl (lv_at hl 0 rfl) ?_
                    refine lv_iload_n hx hb dX0_join_42 rfl (lv_at hl 1 rfl) ?_
                    refine lv_aload_n hx hb dX0_join_43 rfl (lv_at hl 3 rfl) ?_
                    refine va_get (D := (dC, dI)) (ci := 7) (C := RX7) (T := TX7) (N := 3) hx hb hts hin7 hown hK hP (32 + t1) (xw_to t1 (by omega)) rfl 0 (by decide) lk1 (fun _ h9 => h9) rfl dX0_join_44 ?_
                    refine lv_iload hx hb dX0_join_47 (lv_at hl 7 rfl) ?_
                    refine nx_lald hx hb hK hP (38 + 2 * t1) 1 (xw_tk t1 (by omega)) rfl (i := i) (by rw [hce t1 (by omega)]; omega) (by have := hcb t1 (by omega); omega) dX0_join_49 ?_
                    refine nx_tl (y := G (14 + 2 * t1) i) (congrFun (hk.2 (14 + 2 * t1) (fun _ => by omega)) i) ?_
                    refine lv_aload hx hb dX0_join_50 (lv_at hl 4 rfl) ?_
                    refine va_get (D := (dC, dI)) (ci := 7) (C := RX7) (T := TX7) (N := 3) hx hb hts hin7 hown hK hP (32 + t2) (xw_to t2 (by omega)) rfl 0 (by decide) lk1 (fun _ h9 => h9) rfl dX0_join_52 ?_
                    refine lv_iload hx hb dX0_join_55 (lv_at hl 8 rfl) ?_
                    refine nx_lald hx hb hK hP (38 + 2 * t2) 1 (xw_tk t2 (by omega)) rfl (i := j) (by rw [hce t2 (by omega)]; omega) (by have := hcb t2 (by omega); omega) dX0_join_57 ?_
                    refine nx_tl (y := G (14 + 2 * t2) j) (congrFun (hk.2 (14 + 2 * t2) (fun _ => by omega)) j) ?_
                    refine lv_aload hx hb dX0_join_58 (lv_at hl 5 rfl) ?_
                    refine va_get (D := (dC, dI)) (ci := 7) (C := RX7) (T := TX7) (N := 3) hx hb hts hin7 hown hK hP (32 + t3) (xw_to t3 (by omega)) rfl 0 (by decide) lk1 (fun _ h9 => h9) rfl dX0_join_60 ?_
                    refine lv_iload hx hb dX0_join_63 (lv_at hl 9 rfl) ?_
                    refine nx_lald hx hb hK hP (38 + 2 * t3) 1 (xw_tk t3 (by omega)) rfl (i := k) (by rw [hce t3 (by omega)]; omega) (by have := hcb t3 (by omega); omega) dX0_join_65 ?_
                    refine nx_tl (y := G (14 + 2 * t3) k) (congrFun (hk.2 (14 + 2 * t3) (fun _ => by omega)) k) ?_
                    refine xp_l (b := ad 6) (As := [.int a, .long (G (14 + 2 * t1) i), .long (G (14 + 2 * t2) j), .long (G (14 + 2 * t3) k)]) (rest := []) ⟨hx, hb, hml, hown, hts⟩ (x_kindOf l dC dI aC ad cap va R F Ga nd ((hk.1 10 (fun _ => by omega)).trans hnd) hn36 a (G (14 + 2 * t1) i) (G (14 + 2 * t2) j) (G (14 + 2 * t3) k)) (cwV 4 hts gX0_join_X0_kindOf rfl rfl rfl (by decide +kernel) ⟨Nat.le_of_ble_eq_true rfl, Nat.le_of_ble_eq_true rfl⟩) (xPre (q0 := 6) (ci := 0) rfl rfl hK hZ hP) rfl hl.1 rfl (Nat.le_of_ble_eq_true rfl) dX0_join_66 (xg_le (mc := 0) (ms := 0) hcb (by decide) (by decide)) (fun x_66 h_66 => ?_)
                    refine nx_tl (y := kdF (F 4) (Ga 3) (Ga 4) (Ga 5) a (G (14 + 2 * t1) i) (G (14 + 2 * t2) j) (G (14 + 2 * t3) k) nd) h_66 ?_
                    refine nx_tl (y := kdF (F 4) (G 3) (G 4) (G 5) a (G (14 + 2 * t1) i) (G (14 + 2 * t2) j) (G (14 + 2 * t3) k) nd) (by rw [hk.2 3 (fun _ => by omega), hk.2 4 (fun _ => by omega), hk.2 5 (fun _ => by omega)]) ?_
                    refine lv_lstore (lv' := [(11, .long (kdF (F 4) (G 3) (G 4) (G 5) a (G (14 + 2 * t1) i) (G (14 + 2 * t2) j) (G (14 + 2 * t3) k) nd)), (0, .ref (ad 6)), (1, .int a), (2, .int (nI n)), (3, .ref (ad (32 + t1))), (4, .ref (ad (32 + t2))), (5, .ref (ad (32 + t3))), (6, .long (sI (j1 (fun x y w => kdF (F 4) (G 3) (G 4) (G 5) a x y w nd) (G 26 0) (G (14 + 2 * t1)) (G (15 + 2 * t1)) (G (14 + 2 * t2)) (G (15 + 2 * t2)) (G (14 + 2 * t3)) (G (15 + 2 * t3)) z2 z3 (fun _ => 1)) i + sI (j2 (fun x y w => kdF (F 4) (G 3) (G 4) (G 5) a x y w nd) (G 26 0) (G (14 + 2 * t1)) (G (15 + 2 * t1)) (G (14 + 2 * t2)) (G (15 + 2 * t2)) (G (14 + 2 * t3)) (G (15 + 2 * t3)) z3 (fun _ => 1) i) j + sI (jt (fun x y w => kdF (F 4) (G 3) (G 4) (G 5) a x y w nd) (G 26 0) (G (14 + 2 * t1)) (G (15 + 2 * t1)) (G (14 + 2 * t2)) (G (15 + 2 * t2)) (G (14 + 2 * t3)) (G (15 + 2 * t3)) (fun _ => 1) i j) k)), (8, .int (nI i)), (9, .int (nI j)), (10, .int (nI k))]) hx hb dX0_join_69 hl (by decide) rfl (fun ls hl => ?_)
                    refine lv_lload hx hb dX0_join_71 (lv_at hl 0 rfl) ?_
                    refine lv_aload_n hx hb dX0_join_73 rfl (lv_at hl 1 rfl) ?_
                    refine va_get (D := (dC, dI)) (ci := 0) (C := RX0) (T := TX0) (N := 6) hx hb hts hin0 hown hK hP 6 rfl rfl 3 (by decide) lk2 (fun _ h9 => h9) rfl dX0_join_74 ?_
                    refine nx_tl (y := G 26 0) (congrFun (hk.2 26 (fun _ => by omega)) 0) ?_
                    refine lv_land hx hb dX0_join_77 ?_
                    refine lv_lconst (v := 0) hx hb dX0_join_78 (by decide) ?_
                    refine W.lcmp hx hb dX0_join_79 ?_
                    refine nx_lne (tgt := 126) hx hb dX0_join_80 (by decide) (fun c_80 => ?_) (fun c_80 => ?_)
                    · skip
                      refine lv_iinc (v := nI (k + 1)) (lv' := [(10, .int (nI (k + 1))), (11, .long (kdF (F 4) (G 3) (G 4) (G 5) a (G (14 + 2 * t1) i) (G (14 + 2 * t2) j) (G (14 + 2 * t3) k) nd)), (0, .ref (ad 6)), (1, .int a), (2, .int (nI n)), (3, .ref (ad (32 + t1))), (4, .ref (ad (32 + t2))), (5, .ref (ad (32 + t3))), (6, .long (sI (j1 (fun x y w => kdF (F 4) (G 3) (G 4) (G 5) a x y w nd) (G 26 0) (G (14 + 2 * t1)) (G (15 + 2 * t1)) (G (14 + 2 * t2)) (G (15 + 2 * t2)) (G (14 + 2 * t3)) (G (15 + 2 * t3)) z2 z3 (fun _ => 1)) i + sI (j2 (fun x y w => kdF (F 4) (G 3) (G 4) (G 5) a x y w nd) (G 26 0) (G (14 + 2 * t1)) (G (15 + 2 * t1)) (G (14 + 2 * t2)) (G (15 + 2 * t2)) (G (14 + 2 * t3)) (G (15 + 2 * t3)) z3 (fun _ => 1) i) j + sI (jt (fun x y w => kdF (F 4) (G 3) (G 4) (G 5) a x y w nd) (G 26 0) (G (14 + 2 * t1)) (G (15 + 2 * t1)) (G (14 + 2 * t2)) (G (15 + 2 * t2)) (G (14 + 2 * t3)) (G (15 + 2 * t3)) (fun _ => 1) i j) k)), (8, .int (nI i)), (9, .int (nI j))]) hx hb dX0_join_126 hl (k := 10) rfl (nI_add _ _) (by decide) rfl (fun ls hl => ?_)
                      refine lv_goto (tgt := 31) hx hb dX0_join_129 (by decide) ?_
                      exact ih31 (k + 1) zz va Ga ad cap _ _ _ _ _ (by omega) (by omega) (fun h => ⟨(ht h).1, fun g => by rw [(ht h).2 g, sI_s, hjn _ _ _ _ c_80, Int64.add_zero]⟩) (by omega) (by omega) hI hAd hcp hcb hA0 hZ hP hS (by omega) (by rw [sI_s, hjn _ _ _ _ c_80, Int64.add_zero]; exact lv_sub hl [2, 3, 4, 5, 6, 7, 8, 9, 10, 0] rfl)
                    · skip
                      refine lv_aload_n hx hb dX0_join_83 rfl (lv_at hl 4 rfl) ?_
                      refine va_get (D := (dC, dI)) (ci := 7) (C := RX7) (T := TX7) (N := 3) hx hb hts hin7 hown hK hP (32 + t1) (xw_to t1 (by omega)) rfl 1 (by decide) lk3 (fun _ h9 => h9) rfl dX0_join_84 ?_
                      refine lv_iload hx hb dX0_join_87 (lv_at hl 8 rfl) ?_
                      refine nx_lald hx hb hK hP (39 + 2 * t1) 1 (xw_tt t1 (by omega)) rfl (i := i) (by rw [hce t1 (by omega)]; omega) (by have := hcb t1 (by omega); omega) dX0_join_89 ?_
                      refine nx_tl (y := G (15 + 2 * t1) i) (congrFun (hk.2 (15 + 2 * t1) (fun _ => by omega)) i) ?_
                      refine lv_aload hx hb dX0_join_90 (lv_at hl 5 rfl) ?_
                      refine va_get (D := (dC, dI)) (ci := 7) (C := RX7) (T := TX7) (N := 3) hx hb hts hin7 hown hK hP (32 + t2) (xw_to t2 (by omega)) rfl 1 (by decide) lk3 (fun _ h9 => h9) rfl dX0_join_92 ?_
                      refine lv_iload hx hb dX0_join_95 (lv_at hl 9 rfl) ?_
                      refine nx_lald hx hb hK hP (39 + 2 * t2) 1 (xw_tt t2 (by omega)) rfl (i := j) (by rw [hce t2 (by omega)]; omega) (by have := hcb t2 (by omega); omega) dX0_join_97 ?_
                      refine nx_tl (y := G (15 + 2 * t2) j) (congrFun (hk.2 (15 + 2 * t2) (fun _ => by omega)) j) ?_
                      refine lv_lmul hx hb dX0_join_98 ?_
                      refine lv_aload hx hb dX0_join_99 (lv_at hl 6 rfl) ?_
                      refine va_get (D := (dC, dI)) (ci := 7) (C := RX7) (T := TX7) (N := 3) hx hb hts hin7 hown hK hP (32 + t3) (xw_to t3 (by omega)) rfl 1 (by decide) lk3 (fun _ h9 => h9) rfl dX0_join_101 ?_
                      refine lv_iload hx hb dX0_join_104 (lv_at hl 10 rfl) ?_
                      refine nx_lald hx hb hK hP (39 + 2 * t3) 1 (xw_tt t3 (by omega)) rfl (i := k) (by rw [hce t3 (by omega)]; omega) (by have := hcb t3 (by omega); omega) dX0_join_106 ?_
                      refine nx_tl (y := G (15 + 2 * t3) k) (congrFun (hk.2 (15 + 2 * t3) (fun _ => by omega)) k) ?_
                      refine lv_lmul hx hb dX0_join_107 ?_
                      refine lv_lstore (lv' := [(13, .long (((G (15 + 2 * t1) i) * (G (15 + 2 * t2) j)) * (G (15 + 2 * t3) k))), (11, .long (kdF (F 4) (G 3) (G 4) (G 5) a (G (14 + 2 * t1) i) (G (14 + 2 * t2) j) (G (14 + 2 * t3) k) nd)), (0, .ref (ad 6)), (1, .int a), (2, .int (nI n)), (3, .ref (ad (32 + t1))), (4, .ref (ad (32 + t2))), (5, .ref (ad (32 + t3))), (6, .long (sI (j1 (fun x y w => kdF (F 4) (G 3) (G 4) (G 5) a x y w nd) (G 26 0) (G (14 + 2 * t1)) (G (15 + 2 * t1)) (G (14 + 2 * t2)) (G (15 + 2 * t2)) (G (14 + 2 * t3)) (G (15 + 2 * t3)) z2 z3 (fun _ => 1)) i + sI (j2 (fun x y w => kdF (F 4) (G 3) (G 4) (G 5) a x y w nd) (G 26 0) (G (14 + 2 * t1)) (G (15 + 2 * t1)) (G (14 + 2 * t2)) (G (15 + 2 * t2)) (G (14 + 2 * t3)) (G (15 + 2 * t3)) z3 (fun _ => 1) i) j + sI (jt (fun x y w => kdF (F 4) (G 3) (G 4) (G 5) a x y w nd) (G 26 0) (G (14 + 2 * t1)) (G (15 + 2 * t1)) (G (14 + 2 * t2)) (G (15 + 2 * t2)) (G (14 + 2 * t3)) (G (15 + 2 * t3)) (fun _ => 1) i j) k)), (8, .int (nI i)), (9, .int (nI j)), (10, .int (nI k))]) hx hb dX0_join_108 hl (by decide) rfl (fun ls hl => ?_)
                      refine lv_lload hx hb dX0_join_110 (lv_at hl 8 rfl) ?_
                      refine lv_lload hx hb dX0_join_112 (lv_at hl 0 rfl) ?_
                      refine lv_ladd hx hb dX0_join_114 ?_
                      refine lv_lstore (lv' := [(6, .long ((sI (j1 (fun x y w => kdF (F 4) (G 3) (G 4) (G 5) a x y w nd) (G 26 0) (G (14 + 2 * t1)) (G (15 + 2 * t1)) (G (14 + 2 * t2)) (G (15 + 2 * t2)) (G (14 + 2 * t3)) (G (15 + 2 * t3)) z2 z3 (fun _ => 1)) i + sI (j2 (fun x y w => kdF (F 4) (G 3) (G 4) (G 5) a x y w nd) (G 26 0) (G (14 + 2 * t1)) (G (15 + 2 * t1)) (G (14 + 2 * t2)) (G (15 + 2 * t2)) (G (14 + 2 * t3)) (G (15 + 2 * t3)) z3 (fun _ => 1) i) j + sI (jt (fun x y w => kdF (F 4) (G 3) (G 4) (G 5) a x y w nd) (G 26 0) (G (14 + 2 * t1)) (G (15 + 2 * t1)) (G (14 + 2 * t2)) (G (15 + 2 * t2)) (G (14 + 2 * t3)) (G (15 + 2 * t3)) (fun _ => 1) i j) k) + (((G (15 + 2 * t1) i) * (G (15 + 2 * t2) j)) * (G (15 + 2 * t3) k)))), (13, .long (((G (15 + 2 * t1) i) * (G (15 + 2 * t2) j)) * (G (15 + 2 * t3) k))), (11, .long (kdF (F 4) (G 3) (G 4) (G 5) a (G (14 + 2 * t1) i) (G (14 + 2 * t2) j) (G (14 + 2 * t3) k) nd)), (0, .ref (ad 6)), (1, .int a), (2, .int (nI n)), (3, .ref (ad (32 + t1))), (4, .ref (ad (32 + t2))), (5, .ref (ad (32 + t3))), (8, .int (nI i)), (9, .int (nI j)), (10, .int (nI k))]) hx hb dX0_join_115 hl (by decide) rfl (fun ls hl => ?_)
                      refine lv_aload_n hx hb dX0_join_117 rfl (lv_at hl 3 rfl) ?_
                      refine lv_iload_n hx hb dX0_join_118 rfl (lv_at hl 5 rfl) ?_
                      refine lv_lload hx hb dX0_join_119 (lv_at hl 2 rfl) ?_
                      refine lv_lload hx hb dX0_join_121 (lv_at hl 1 rfl) ?_
                      refine xg_v (b := ad 6) (As := [.int (nI n), .long (kdF (F 4) (G 3) (G 4) (G 5) a (G (14 + 2 * t1) i) (G (14 + 2 * t2) j) (G (14 + 2 * t3) k) nd), .long (((G (15 + 2 * t1) i) * (G (15 + 2 * t2) j)) * (G (15 + 2 * t3) k))]) (rest := []) ⟨hx, hb, hml, hown, hts⟩ (x_keep l dC dI aC ad cap hI hcb va R F Ga n hn zz (fun h => (ht h).1) (fun h => by have q1 := idx3 c_12 c_25 c_38; have q2 := hz4 h; omega) (kdF (F 4) (G 3) (G 4) (G 5) a (G (14 + 2 * t1) i) (G (14 + 2 * t2) j) (G (14 + 2 * t3) k) nd) (G (15 + 2 * t1) i * G (15 + 2 * t2) j * G (15 + 2 * t3) k)) (cwV 3 hts gX0_join_X0_keep rfl rfl rfl (by decide +kernel) ⟨Nat.le_of_ble_eq_true rfl, Nat.le_of_ble_eq_true rfl⟩) (xPre (q0 := 6) (ci := 0) rfl rfl hK hZ hP) hS hA0 (cs_mono hcp) rfl hl.1 rfl (Nat.le_of_ble_eq_true rfl) dX0_join_123 (xg_le hcb (by decide) (by decide)) (fun ad cap v1 R1 F1 G1 Z S H locs h_123 hgr hZ hP hA0 hS => ?_)
                      obtain ⟨hI, hq, hcp2, hcb⟩ := hgr
                      rw [← hq 6 (by omega), ← hq (32 + t1) (by omega), ← hq (32 + t2) (by omega), ← hq (32 + t3) (by omega)] at hl
                      have hAd : ∀ k, k < 38 ∨ 50 ≤ k → ad k = a0 k := fun k h => (hq k h).trans (hAd k h)
                      have hcp : ∀ j, j < 6 → c0 j ≤ cap j := fun j h => Nat.le_trans (hcp j h) (hcp2 j h)
                      obtain ⟨vy, Gy, zy, hu_123, hr, hs1, hs2, hs3, hs4⟩ := h_123
                      have hP : va_P (dC, dI) vwCl (wsX aC ad cap vy Z S F Gy) H := by cases hu_123; exact hP
                      have hZ : xOK Z S R := by cases hu_123; exact hZ
                      refine lv_iinc (v := nI (k + 1)) (lv' := [(10, .int (nI (k + 1))), (6, .long ((sI (j1 (fun x y w => kdF (F 4) (G 3) (G 4) (G 5) a x y w nd) (G 26 0) (G (14 + 2 * t1)) (G (15 + 2 * t1)) (G (14 + 2 * t2)) (G (15 + 2 * t2)) (G (14 + 2 * t3)) (G (15 + 2 * t3)) z2 z3 (fun _ => 1)) i + sI (j2 (fun x y w => kdF (F 4) (G 3) (G 4) (G 5) a x y w nd) (G 26 0) (G (14 + 2 * t1)) (G (15 + 2 * t1)) (G (14 + 2 * t2)) (G (15 + 2 * t2)) (G (14 + 2 * t3)) (G (15 + 2 * t3)) z3 (fun _ => 1) i) j + sI (jt (fun x y w => kdF (F 4) (G 3) (G 4) (G 5) a x y w nd) (G 26 0) (G (14 + 2 * t1)) (G (15 + 2 * t1)) (G (14 + 2 * t2)) (G (15 + 2 * t2)) (G (14 + 2 * t3)) (G (15 + 2 * t3)) (fun _ => 1) i j) k) + (((G (15 + 2 * t1) i) * (G (15 + 2 * t2) j)) * (G (15 + 2 * t3) k)))), (13, .long (((G (15 + 2 * t1) i) * (G (15 + 2 * t2) j)) * (G (15 + 2 * t3) k))), (11, .long (kdF (F 4) (G 3) (G 4) (G 5) a (G (14 + 2 * t1) i) (G (14 + 2 * t2) j) (G (14 + 2 * t3) k) nd)), (0, .ref (ad 6)), (1, .int a), (2, .int (nI n)), (3, .ref (ad (32 + t1))), (4, .ref (ad (32 + t2))), (5, .ref (ad (32 + t3))), (8, .int (nI i)), (9, .int (nI j))]) hx hb dX0_join_126 hl (k := 11) rfl (nI_add _ _) (by decide) rfl (fun ls hl => ?_)
                      refine lv_goto (tgt := 31) hx hb dX0_join_129 (by decide) ?_
                      exact ih31 (k + 1) zy vy Gy ad cap _ _ _ _ _ (by omega) (kRel_tr hk hr) (fun h => ⟨(hs1 h).1, fun g => by rw [(hs1 h).2 g, (ht h).2 g, sI_s, hjy _ _ _ _ c_80]; exact Int64.add_assoc _ _ _⟩) (by omega) (fun t h => (hs4 t h).trans (hce t h)) hI hAd hcp hcb hA0 hZ hP hS (by omega) (by rw [sI_s, hjy _ _ _ _ c_80, Int64.mul_one]; exact lv_sub hl [4, 5, 6, 7, 8, 9, 1, 10, 11, 0] rfl)
              exact L31 (z3 - 0 + 1) 0 zz va Ga ad cap _ _ _ _ _ (by omega) (by omega) (fun h => ⟨(ht h).1, fun g => by rw [(ht h).2 g, sI_z]⟩) (by omega) (by omega) hI hAd hcp hcb hA0 hZ hP hS (Nat.lt_succ_self _) (by rw [sI_z]; exact lv_sub hl [1, 2, 3, 4, 5, 6, 7, 8, 9, 0] rfl)
        exact L18 (z2 - 0 + 1) 0 zz va Ga ad cap _ _ _ _ _ (by omega) (by omega) (fun h => ⟨(ht h).1, fun g => by rw [(ht h).2 g, sI_z]⟩) (by omega) (by omega) hI hAd hcp hcb hA0 hZ hP hS (Nat.lt_succ_self _) (by rw [sI_z]; exact lv_sub hl [1, 2, 3, 4, 5, 6, 7, 8, 0] rfl)
  exact L6 (z1 - 0 + 1) 0 z0 v G ad cap _ _ _ _ _ (by omega) kRel_rf (fun h => ⟨hz h, fun g => sI_z.symm⟩) (by omega) (fun t _ => by rw [hc0]) hI hAd hcp hcb hA0 hZ hP hS (Nat.lt_succ_self _) (lv_sub hl [2, 3, 4, 5, 6, 7, 1, 0] rfl)
