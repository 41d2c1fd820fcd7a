set_option maxHeartbeats 1000000 in
set_option maxRecDepth 100000 in
/-- normal -/
theorem k_normal (l : Launch) (dC : Nat → ClassId) (dI : Nat → Nat → Nat) (aC : Nat → ClassId) (am : Nat → Nat) (hI : mI am) (v : Nat → Int32) (R : Nat → List Int32) (F : Nat → Nat → Int32) (G : Nat → Nat → Int64) (A : Nat) (hE : vE A (F 1)) (n : Nat) (hn : v 4 = nI n) (hn8 : n ≤ 8) (hL : ∀ j, j < n → lvs (R (10 + j)) ≤ 13) (hQ0 : ∀ j, j < n → F 4 j = 0 → lvs (R (10 + j)) = lvs (R (18 + j))) (hV : ∀ r, r < 26 → vR A (R r)) (a : Int32) : Met l yX10_normal wsX10_normal ({ frames := 5, cells := 0, slots := 0, locals := 120 } : Room) (va_Pc [.ref (am 0), .int a] (MB dC dI aC am (v, R, F, G))) (va_Qi (fun (x : Int32) (u : MS) => ∃ a0 b c d R1, (va_up (va_up v 11 a0) 12 b, R1, va_up (va_up F 7 c) 8 d, G) = u ∧ (∀ k, k < 26 → R1 k = uNormal (F 1) R n (F 4) a k) ∧ x = pNormal (F 1) R n (F 4) a) (MB dC dI aC am) (mA am)) 0 0 (mA am) := by
  refine Met.ofW (cc := cX10_normal) (maxL := 3) (ret := (some .int)) (by decide) rfl ?_
  intro p e s m args below meth c s₁ B hml hv
  obtain ⟨rfl, hK, S, Z, hZ, hP⟩ := hv
  have hx := B.exec
  have hb := B.bytes
  have hret := B.returns
  have hts := atoms_spec (ws := wsX10_normal) B.pre
  have hown : s.vm.findClass RX10 = some m.cls := findClass_of_methodNamed B.named
  have hlocks := B.notSynchronized
  dsimp only at hZ hP
  have hS : va_S (mA am) s.heap s.heap [] := va_S.rf
  have hl := lv_entry [.ref (am 0), .int a] (n := 3) (Nat.le_of_ble_eq_true rfl)
  rw [lg_entry_eq]
  generalize (lg_sl [.ref (am 0), .int a] ++ List.replicate (3 - (lg_sl [.ref (am 0), .int a]).length) Slot.unset).toArray = ls at hl ⊢
  have hl : lv_has ls 3 [(0, .ref (am 0)), (1, .int a)] := hl
  refine nx_Q (R := ({ frames := 5, cells := 0, slots := 0, locals := 120 } : Room)) (fun Q hQ => ?_)
  skip
  refine lv_aload_n hx hb dX10_normal_0 rfl (lv_at hl 0 rfl) ?_
  refine lv_iload_n hx hb dX10_normal_1 rfl (lv_at hl 1 rfl) ?_
  refine mp_i (As := [.int a]) (rest := []) ⟨hx, hb, hml, hown, hts⟩ (k_isTreeRow l dC dI aC am v R F G A hE a (fun r h => hV r (by omega))) (cwV 1 hts gX10_normal_X10_isTreeRow rfl rfl rfl (by decide +kernel) ⟨Nat.le_of_ble_eq_true rfl, Nat.le_of_ble_eq_true rfl⟩) hK hZ hP rfl hl.1 rfl (Nat.le_of_ble_eq_true rfl) dX10_normal_2 ⟨Nat.le_of_ble_eq_true rfl, Nat.le_of_ble_eq_true rfl⟩ (fun x_2 h_2 => ?_)
  subst h_2
  refine nx_bn (tgt := 11) hx hb dX10_normal_5 (by decide) (fun c_5 => ?_) (fun c_5 => ?_)
  · skip
    obtain ⟨r, hr, rfl⟩ := rIn_of c_5.1 (by decide)
    have hcr := nI_clamp (n := r) (by omega)
    refine lv_aload_n hx hb dX10_normal_11 rfl (lv_at hl 0 rfl) ?_
    refine lv_iload_n hx hb dX10_normal_12 rfl (lv_at hl 1 rfl) ?_
    refine lv_bipush (v := nI 26) hx hb dX10_normal_13 (by decide) ?_
    refine mc_v (As := [.int (nI r), .int (nI 26)]) (rest := []) ⟨hx, hb, hml, hown, hts⟩ (k_copy l dC dI aC am hI v R F G r (by omega) 26 (by decide) (by omega)) (cwV 2 hts gX10_normal_X10_copy rfl rfl rfl (by decide +kernel) ⟨Nat.le_of_ble_eq_true rfl, Nat.le_of_ble_eq_true rfl⟩) hK hZ hP hS rfl hl.1 rfl (Nat.le_of_ble_eq_true rfl) dX10_normal_15 ⟨Nat.le_of_ble_eq_true rfl, Nat.le_of_ble_eq_true rfl⟩ (fun v1 R1 F1 G1 S Z H locs h_15 hZ hP hS => ?_)
    cases h_15
    refine lv_aload_n hx hb dX10_normal_18 rfl (lv_at hl 0 rfl) ?_
    refine lv_bipush (v := nI 26) hx hb dX10_normal_19 (by decide) ?_
    refine mc_i (As := [.int (nI 26)]) (rest := []) ⟨hx, hb, hml, hown, hts⟩ (k_normals l dC dI aC am hI v (va_up R 26 (R r)) F G A hE n hn hn8 (fun k hk => by rw [upn (show 10 + k ≠ 26 by omega)]; exact hL k hk) (fun k hk h => by rw [upn (show 10 + k ≠ 26 by omega), upn (show 18 + k ≠ 26 by omega)]; exact hQ0 k hk h) 26 (by decide) (by decide) (by decide) (by rw [va_up_self]; exact hV r (by omega)) (fun j hj => by rw [upn (show 18 + j ≠ 26 by omega)]; exact hV _ (by omega))) (cwV 1 hts gX10_normal_X10_normals rfl rfl rfl (by decide +kernel) ⟨Nat.le_of_ble_eq_true rfl, Nat.le_of_ble_eq_true rfl⟩) hK hZ hP hS rfl hl.1 rfl (Nat.le_of_ble_eq_true rfl) dX10_normal_21 ⟨Nat.le_of_ble_eq_true rfl, Nat.le_of_ble_eq_true rfl⟩ (fun x_21 v2 R2 F2 G2 S Z H locs h_21 hZ hP hS => ?_)
    obtain ⟨la, lb, lc, ld, Mq, hu_21, hx_21⟩ := h_21
    rw [va_up_self] at hu_21 hx_21
    have hsc : nfL (F 1) (va_up R 26 (R r)) n (F 4) (R r) = nfL (F 1) R n (F 4) (R r) := by
      rw [nfL, nfL, show stepL (F 1) (va_up R 26 (R r)) n (F 4) = stepL (F 1) R n (F 4) from funext (fun tt => stepL_congr (fun k hk => upn (by omega)) (fun k hk => upn (by omega)))]
    rw [hsc] at hu_21 hx_21
    subst hx_21
    cases hu_21
    refine lv_istore_n (lv' := [(2, .int (nfL (F 1) R n (F 4) (R r)).1), (0, .ref (am 0)), (1, .int (nI r))]) hx hb dX10_normal_24 rfl hl (by decide) rfl (fun ls hl => ?_)
    refine lv_iload_n hx hb dX10_normal_25 rfl (lv_at hl 0 rfl) ?_
    refine lv_bipush (v := (-5)) hx hb dX10_normal_26 (by decide) ?_
    refine lv_icmp_eq (tgt := 38) hx hb dX10_normal_28 (by decide) (fun c_28 => ?_) (fun c_28 => ?_)
    · skip
      refine lv_iload_n hx hb dX10_normal_38 rfl (lv_at hl 0 rfl) ?_
      subst hQ
      exact W.iret (v := (nfL (F 1) R n (F 4) (R r)).1) hx hb hret (fun tq htq hWq => ⟨⟨_, ((va_up (va_up v 11 la) 12 lb), va_up (va_up (va_up R 26 (R r)) 28 Mq) 26 (nfL (F 1) R n (F 4) (R r)).2, (va_up (va_up F 7 lc) 8 ld), G), rfl, ⟨_, _, _, _, _, rfl, fun k hk => by rw [uNormal, if_pos c_5, hcr, uNormal2, if_pos c_28, upn (show k ≠ 26 by omega), upn (show k ≠ 28 by omega), upn (show k ≠ 26 by omega)], by rw [pNormal, if_pos c_5, hcr]⟩, va_K.moved hWq.alike hK, _, _, hZ, by rw [htq]; exact hP⟩, hS.F htq⟩) hS.2.2 dX10_normal_39
    · skip
      refine lv_aload_n hx hb dX10_normal_31 rfl (lv_at hl 1 rfl) ?_
      refine lv_bipush (v := nI 26) hx hb dX10_normal_32 (by decide) ?_
      refine lv_iload_n hx hb dX10_normal_34 rfl (lv_at hl 2 rfl) ?_
      refine mc_v (As := [.int (nI 26), .int (nI r)]) (rest := []) ⟨hx, hb, hml, hown, hts⟩ (k_copy l dC dI aC am hI (va_up (va_up v 11 la) 12 lb) (va_up (va_up (va_up R 26 (R r)) 28 Mq) 26 (nfL (F 1) R n (F 4) (R r)).2) (va_up (va_up F 7 lc) 8 ld) G 26 (by decide) r (by omega) (by omega)) (cwV 2 hts gX10_normal_X10_copy rfl rfl rfl (by decide +kernel) ⟨Nat.le_of_ble_eq_true rfl, Nat.le_of_ble_eq_true rfl⟩) hK hZ hP hS rfl hl.1 rfl (Nat.le_of_ble_eq_true rfl) dX10_normal_35 ⟨Nat.le_of_ble_eq_true rfl, Nat.le_of_ble_eq_true rfl⟩ (fun v3 R3 F3 G3 S Z H locs h_35 hZ hP hS => ?_)
      cases h_35
      refine lv_iload_n hx hb dX10_normal_38 rfl (lv_at hl 0 rfl) ?_
      subst hQ
      exact W.iret (v := (nfL (F 1) R n (F 4) (R r)).1) hx hb hret (fun tq htq hWq => ⟨⟨_, ((va_up (va_up v 11 la) 12 lb), va_up (va_up (va_up (va_up R 26 (R r)) 28 Mq) 26 (nfL (F 1) R n (F 4) (R r)).2) r ((va_up (va_up (va_up R 26 (R r)) 28 Mq) 26 (nfL (F 1) R n (F 4) (R r)).2) 26), (va_up (va_up F 7 lc) 8 ld), G), rfl, ⟨_, _, _, _, _, rfl, fun k hk => by rw [uNormal, if_pos c_5, hcr, uNormal2, if_neg c_28, va_up_self]; exact nrm_row hk hr, by rw [pNormal, if_pos c_5, hcr]⟩, va_K.moved hWq.alike hK, _, _, hZ, by rw [htq]; exact hP⟩, hS.F htq⟩) hS.2.2 dX10_normal_39
  · skip
    refine lv_bipush (v := (-2)) hx hb dX10_normal_8 (by decide) ?_
    subst hQ
    exact W.iret (v := (-2)) hx hb hret (fun tq htq hWq => ⟨⟨_, (v, R, F, G), rfl, ⟨v 11, v 12, F 7, F 8, R, by rw [up_eta2, up_eta2], fun k _ => by rw [uNormal, if_neg c_5], by rw [pNormal, if_neg c_5]⟩, va_K.moved hWq.alike hK, _, _, hZ, by rw [htq]; exact hP⟩, hS.F htq⟩) hS.2.2 dX10_normal_10

set_option maxHeartbeats 1000000 in
set_option maxRecDepth 100000 in
/-- side -/
theorem k_side (l : Launch) (dC : Nat → ClassId) (dI : Nat → Nat → Nat) (aC : Nat → ClassId) (am : Nat → Nat) (hI : mI am) (v : Nat → Int32) (R : Nat → List Int32) (F : Nat → Nat → Int32) (G : Nat → Nat → Int64) (n : Nat) (hn : v 4 = nI n) (hn8 : n ≤ 8) (k w to : Int32) : Met l yX10_side wsX10_side ({ frames := 2, cells := 0, slots := 0, locals := 43 } : Room) (va_Pc [.ref (am 0), .int k, .int w, .int to] (MB dC dI aC am (v, R, F, G))) (va_Qi (fun (x : Int32) (u : MS) => x = (pSide n R k w to).1 ∧ (v, (pSide n R k w to).2, F, G) = u) (MB dC dI aC am) (mA am)) 0 0 (mA am) := by
  refine Met.ofW (cc := cX10_side) (maxL := 4) (ret := (some .int)) (by decide) rfl ?_
  intro p e s m args below meth c s₁ B hml hv
  obtain ⟨rfl, hK, S, Z, hZ, hP⟩ := hv
  have hx := B.exec
  have hb := B.bytes
  have hret := B.returns
  have hts := atoms_spec (ws := wsX10_side) B.pre
  have hown : s.vm.findClass RX10 = some m.cls := findClass_of_methodNamed B.named
  have hlocks := B.notSynchronized
  dsimp only at hZ hP
  have lk0 := hts (.fieldLink RX10 16 "LeafTreesModel" "size" "[I") (by decide +kernel)
  have hin10 : ∀ w ∈ u_ws RX10 TX10 22, w ∈ wsX10_side := by decide +kernel
  have hS : va_S (mA am) s.heap s.heap [] := va_S.rf
  have hl := lv_entry [.ref (am 0), .int k, .int w, .int to] (n := 4) (Nat.le_of_ble_eq_true rfl)
  rw [lg_entry_eq]
  generalize (lg_sl [.ref (am 0), .int k, .int w, .int to] ++ List.replicate (4 - (lg_sl [.ref (am 0), .int k, .int w, .int to]).length) Slot.unset).toArray = ls at hl ⊢
  have hl : lv_has ls 4 [(0, .ref (am 0)), (1, .int k), (2, .int w), (3, .int to)] := hl
  refine nx_Q (R := ({ frames := 2, cells := 0, slots := 0, locals := 43 } : Room)) (fun Q hQ => ?_)
  skip
  refine lv_aload_n hx hb dX10_side_0 rfl (lv_at hl 0 rfl) ?_
  refine lv_iload_n hx hb dX10_side_1 rfl (lv_at hl 1 rfl) ?_
  refine mp_i (As := [.int k]) (rest := []) ⟨hx, hb, hml, hown, hts⟩ (k_isRule l dC dI aC am v R F G n hn hn8 k) (cwV 1 hts gX10_side_X10_isRule rfl rfl rfl (by decide +kernel) ⟨Nat.le_of_ble_eq_true rfl, Nat.le_of_ble_eq_true rfl⟩) hK hZ hP rfl hl.1 rfl (Nat.le_of_ble_eq_true rfl) dX10_side_2 ⟨Nat.le_of_ble_eq_true rfl, Nat.le_of_ble_eq_true rfl⟩ (fun x_2 h_2 => ?_)
  subst h_2
  refine nx_bz (tgt := 24) hx hb dX10_side_5 (by decide) (fun c_5 => ?_) (fun c_5 => ?_)
  · skip
    refine lv_bipush (v := (-2)) hx hb dX10_side_24 (by decide) ?_
    subst hQ
    exact W.iret (v := (-2)) hx hb hret (fun tq htq hWq => ⟨⟨_, (v, R, F, G), rfl, by rw [pSide, if_neg (fun h => c_5 h.1)]; exact ⟨rfl, rfl⟩, va_K.moved hWq.alike hK, _, _, hZ, by rw [htq]; exact hP⟩, hS.F htq⟩) hS.2.2 dX10_side_26
  · skip
    refine lv_iload_n hx hb dX10_side_8 rfl (lv_at hl 2 rfl) ?_
    refine lv_iconst (v := nI 0) hx hb dX10_side_9 (by decide) ?_
    refine lv_iconst (v := nI 1) hx hb dX10_side_10 (by decide) ?_
    refine ms_i (As := [.int w, .int (nI 0), .int (nI 1)]) (rest := []) ⟨hx, hb, hml, hown, hts⟩ (k_in l w (nI 0) (nI 1)) (va_cwS 3 hts gX10_side_X10_in rfl rfl rfl (by decide +kernel) ⟨Nat.le_of_ble_eq_true rfl, Nat.le_of_ble_eq_true rfl⟩) rfl hl.1 rfl (Nat.le_of_ble_eq_true rfl) dX10_side_11 ⟨Nat.le_of_ble_eq_true rfl, Nat.le_of_ble_eq_true rfl⟩ (fun x_11 h_11 => ?_)
    subst h_11
    refine nx_ti (y := bI (rIn w 2)) (bI_iff (rIn_in (by decide))) ?_
    refine nx_bz (tgt := 24) hx hb dX10_side_14 (by decide) (fun c_14 => ?_) (fun c_14 => ?_)
    · skip
      refine lv_bipush (v := (-2)) hx hb dX10_side_24 (by decide) ?_
      subst hQ
      exact W.iret (v := (-2)) hx hb hret (fun tq htq hWq => ⟨⟨_, (v, R, F, G), rfl, by rw [pSide, if_neg (fun h => c_14 h.2.1)]; exact ⟨rfl, rfl⟩, va_K.moved hWq.alike hK, _, _, hZ, by rw [htq]; exact hP⟩, hS.F htq⟩) hS.2.2 dX10_side_26
    · skip
      refine lv_iload_n hx hb dX10_side_17 rfl (lv_at hl 3 rfl) ?_
      refine ms_i (As := [.int to]) (rest := []) ⟨hx, hb, hml, hown, hts⟩ (k_isRow l to) (va_cwS 1 hts gX10_side_X10_isRow rfl rfl rfl (by decide +kernel) ⟨Nat.le_of_ble_eq_true rfl, Nat.le_of_ble_eq_true rfl⟩) rfl hl.1 rfl (Nat.le_of_ble_eq_true rfl) dX10_side_18 ⟨Nat.le_of_ble_eq_true rfl, Nat.le_of_ble_eq_true rfl⟩ (fun x_18 h_18 => ?_)
      subst h_18
      refine nx_bn (tgt := 27) hx hb dX10_side_21 (by decide) (fun c_21 => ?_) (fun c_21 => ?_)
      · skip
        obtain ⟨j, hj, rfl⟩ := rIn_of c_5 (by omega)
        obtain ⟨i, hi, rfl⟩ := rIn_of c_14 (by decide)
        obtain ⟨r, hr, rfl⟩ := rIn_of c_21 (by decide)
        have hcj := nI_clamp (n := j) (by omega)
        have hcr := nI_clamp (n := r) (by omega)
        refine lv_aload_n hx hb dX10_side_27 rfl (lv_at hl 0 rfl) ?_
        refine lv_iload_n hx hb dX10_side_28 rfl (lv_at hl 2 rfl) ?_
        refine nx_if_ne (tgt := 37) hx hb dX10_side_29 (by decide) (by omega) (fun c_29 => ?_) (fun c_29 => ?_)
        · skip
          refine lv_bipush (v := nI 18) hx hb dX10_side_37 (by decide) ?_
          refine lv_iload_n hx hb dX10_side_39 rfl (lv_at hl 1 rfl) ?_
          refine lv_iadd hx hb dX10_side_40 ?_
          refine nx_ti (y := nI (18 + j)) (nI_add _ _) ?_
          refine lv_iload_n hx hb dX10_side_41 rfl (lv_at hl 3 rfl) ?_
          refine mc_v (As := [.int (nI (18 + j)), .int (nI r)]) (rest := []) ⟨hx, hb, hml, hown, hts⟩ (k_copy l dC dI aC am hI v R F G (18 + j) (by omega) r (by omega) (by omega)) (cwV 2 hts gX10_side_X10_copy rfl rfl rfl (by decide +kernel) ⟨Nat.le_of_ble_eq_true rfl, Nat.le_of_ble_eq_true rfl⟩) hK hZ hP hS rfl hl.1 rfl (Nat.le_of_ble_eq_true rfl) dX10_side_42 ⟨Nat.le_of_ble_eq_true rfl, Nat.le_of_ble_eq_true rfl⟩ (fun v1 R1 F1 G1 S Z H locs h_42 hZ hP hS => ?_)
          cases h_42
          refine lv_aload_n hx hb dX10_side_45 rfl (lv_at hl 0 rfl) ?_
          refine va_get (D := (dC, dI)) (ci := 10) (C := RX10) (T := TX10) (N := 22) hx hb hts hin10 hown hK hP 0 rfl rfl 3 (by decide) lk0 (fun _ h9 => h9) rfl dX10_side_46 ?_
          refine lv_iload_n hx hb dX10_side_49 rfl (lv_at hl 3 rfl) ?_
          refine nx_iald hx hb hK hP 3 0 rfl rfl (i := r) (by omega) (by decide) dX10_side_50 ?_
          refine nx_ti (y := nI ((va_up R r (R (18 + j))) r).length) ((hZ r (by omega)).2.1) ?_
          subst hQ
          exact W.iret (v := nI ((va_up R r (R (18 + j))) r).length) hx hb hret (fun tq htq hWq => ⟨⟨_, (v, va_up R r (R (18 + j)), F, G), rfl, by rw [pSide, if_pos ⟨c_5, c_14, c_21⟩, hcj, hcr, va_up_self, if_neg (fun h => c_29 ((nz_eq (by omega)).mp h))]; exact ⟨rfl, rfl⟩, va_K.moved hWq.alike hK, _, _, hZ, by rw [htq]; exact hP⟩, hS.F htq⟩) hS.2.2 dX10_side_51
        · skip
          refine lv_bipush (v := nI 10) hx hb dX10_side_32 (by decide) ?_
          refine lv_goto (tgt := 39) hx hb dX10_side_34 (by decide) ?_
          refine lv_iload_n hx hb dX10_side_39 rfl (lv_at hl 1 rfl) ?_
          refine lv_iadd hx hb dX10_side_40 ?_
          refine nx_ti (y := nI (10 + j)) (nI_add _ _) ?_
          refine lv_iload_n hx hb dX10_side_41 rfl (lv_at hl 3 rfl) ?_
          refine mc_v (As := [.int (nI (10 + j)), .int (nI r)]) (rest := []) ⟨hx, hb, hml, hown, hts⟩ (k_copy l dC dI aC am hI v R F G (10 + j) (by omega) r (by omega) (by omega)) (cwV 2 hts gX10_side_X10_copy rfl rfl rfl (by decide +kernel) ⟨Nat.le_of_ble_eq_true rfl, Nat.le_of_ble_eq_true rfl⟩) hK hZ hP hS rfl hl.1 rfl (Nat.le_of_ble_eq_true rfl) dX10_side_42 ⟨Nat.le_of_ble_eq_true rfl, Nat.le_of_ble_eq_true rfl⟩ (fun v2 R2 F2 G2 S Z H locs h_42 hZ hP hS => ?_)
          cases h_42
          refine lv_aload_n hx hb dX10_side_45 rfl (lv_at hl 0 rfl) ?_
          refine va_get (D := (dC, dI)) (ci := 10) (C := RX10) (T := TX10) (N := 22) hx hb hts hin10 hown hK hP 0 rfl rfl 3 (by decide) lk0 (fun _ h9 => h9) rfl dX10_side_46 ?_
          refine lv_iload_n hx hb dX10_side_49 rfl (lv_at hl 3 rfl) ?_
          refine nx_iald hx hb hK hP 3 0 rfl rfl (i := r) (by omega) (by decide) dX10_side_50 ?_
          refine nx_ti (y := nI ((va_up R r (R (10 + j))) r).length) ((hZ r (by omega)).2.1) ?_
          subst hQ
          exact W.iret (v := nI ((va_up R r (R (10 + j))) r).length) hx hb hret (fun tq htq hWq => ⟨⟨_, (v, va_up R r (R (10 + j)), F, G), rfl, by rw [pSide, if_pos ⟨c_5, c_14, c_21⟩, hcj, hcr, va_up_self, if_pos ((nz_eq (by omega)).mpr c_29)]; exact ⟨rfl, rfl⟩, va_K.moved hWq.alike hK, _, _, hZ, by rw [htq]; exact hP⟩, hS.F htq⟩) hS.2.2 dX10_side_51
      · skip
        refine lv_bipush (v := (-2)) hx hb dX10_side_24 (by decide) ?_
        subst hQ
        exact W.iret (v := (-2)) hx hb hret (fun tq htq hWq => ⟨⟨_, (v, R, F, G), rfl, by rw [pSide, if_neg (fun h => c_21 h.2.2)]; exact ⟨rfl, rfl⟩, va_K.moved hWq.alike hK, _, _, hZ, by rw [htq]; exact hP⟩, hS.F htq⟩) hS.2.2 dX10_side_26

set_option maxHeartbeats 1000000 in
set_option maxRecDepth 100000 in
/-- digestRow -/
theorem k_digestRow (l : Launch) (dC : Nat → ClassId) (dI : Nat → Nat → Nat) (aC : Nat → ClassId) (am : Nat → Nat) (v : Nat → Int32) (R : Nat → List Int32) (F : Nat → Nat → Int32) (G : Nat → Nat → Int64) (h : Int64) (r : Nat) (hr : r < 30) : Met l yX10_digestRow wsX10_digestRow ({ frames := 0, cells := 0, slots := 0, locals := 0 } : Room) (va_Pc [.ref (am 0), .long h, .int (nI r)] (MB dC dI aC am (v, R, F, G))) (vp_Sl (fun x => x = dgR h (R r))) 0 0 (fun _ => False) := by
  refine Met.ofW (cc := cX10_digestRow) (maxL := 7) (ret := (some .long)) (by decide) rfl ?_
  intro p e s m args below meth c s₁ B hml hv
  obtain ⟨rfl, hK, S, Z, hZ, hP⟩ := hv
  have hx := B.exec
  have hb := B.bytes
  have hret := B.returns
  have hts := atoms_spec (ws := wsX10_digestRow) B.pre
  have hown : s.vm.findClass RX10 = some m.cls := findClass_of_methodNamed B.named
  have hlocks := B.notSynchronized
  dsimp only at hZ hP
  have lk0 := hts (.fieldLink RX10 16 "LeafTreesModel" "size" "[I") (by decide +kernel)
  have lk1 := hts (.constantLong RX10 196 (31)) (by decide +kernel)
  have lk2 := hts (.constantLong RX10 198 (9)) (by decide +kernel)
  have lk3 := hts (.fieldLink RX10 13 "LeafTreesModel" "symbol" "[I") (by decide +kernel)
  have hin10 : ∀ w ∈ u_ws RX10 TX10 22, w ∈ wsX10_digestRow := by decide +kernel
  have hl := lv_entry [.ref (am 0), .long h, .int (nI r)] (n := 7) (Nat.le_of_ble_eq_true rfl)
  rw [lg_entry_eq]
  generalize (lg_sl [.ref (am 0), .long h, .int (nI r)] ++ List.replicate (7 - (lg_sl [.ref (am 0), .long h, .int (nI r)]).length) Slot.unset).toArray = ls at hl ⊢
  have hl : lv_has ls 7 [(0, .ref (am 0)), (1, .long h), (3, .int (nI r))] := hl
  refine nx_Q (R := ({ frames := 0, cells := 0, slots := 0, locals := 0 } : Room)) (fun Q hQ => ?_)
  have hlen := (hZ r hr).1
  refine lv_lload_n hx hb dX10_digestRow_0 rfl (lv_at hl 1 rfl) ?_
  refine lv_lstore (lv' := [(4, .long h), (0, .ref (am 0)), (1, .long h), (3, .int (nI r))]) hx hb dX10_digestRow_1 hl (by decide) rfl (fun ls hl => ?_)
  refine lv_iconst (v := nI 0) hx hb dX10_digestRow_3 (by decide) ?_
  refine lv_istore (lv' := [(6, .int (nI 0)), (4, .long h), (0, .ref (am 0)), (1, .long h), (3, .int (nI r))]) hx hb dX10_digestRow_4 hl (by decide) rfl (fun ls hl => ?_)
  have L6 : ∀ (fuel6 : Nat) (i : Nat) (ls : Array Slot), (i ≤ (R r).length) → 60 - i < fuel6 → lv_has ls 7 [(0, .ref (am 0)), (3, .int (nI r)), (4, .long (dgF h (gD (R r)) i)), (6, .int (nI i))] → W p l e ({ frames := 0, cells := 0, slots := 0, locals := 0 } : Room) s m ([.ref (am 0), .long h, .int (nI r)] : List Value).toArray below meth c s.heap [] 0 0 Q (F0 m 6 ls []) := by
    intro fuel6
    induction fuel6 with
    | zero => intro i ls hi hf6 hl; exact absurd hf6 (Nat.not_lt_zero _)
    | succ fuel6 ih6 =>
      intro i ls hi hf6 hl
      refine lv_iload hx hb dX10_digestRow_6 (lv_at hl 3 rfl) ?_
      refine lv_aload_n hx hb dX10_digestRow_8 rfl (lv_at hl 0 rfl) ?_
      refine va_get (D := (dC, dI)) (ci := 10) (C := RX10) (T := TX10) (N := 22) hx hb hts hin10 hown hK hP 0 rfl rfl 3 (by decide) lk0 (fun _ h9 => h9) rfl dX10_digestRow_9 ?_
      refine lv_iload_n hx hb dX10_digestRow_12 rfl (lv_at hl 1 rfl) ?_
      refine nx_iald hx hb hK hP 3 0 rfl rfl (i := r) (by omega) (by decide) dX10_digestRow_13 ?_
      refine nx_ti (y := nI (R r).length) ((hZ r (by omega)).2.1) ?_
      refine nx_icmp_ge (a := i) (b := (R r).length) (tgt := 45) hx hb dX10_digestRow_14 (by decide) (by omega) (by omega) (fun c_14 => ?_) (fun c_14 => ?_)
      · skip
        refine lv_ldc2 hx hb hown lk1 dX10_digestRow_45 ?_
        refine lv_lload hx hb dX10_digestRow_48 (lv_at hl 2 rfl) ?_
        refine lv_lmul hx hb dX10_digestRow_50 ?_
        refine lv_ldc2 hx hb hown lk2 dX10_digestRow_51 ?_
        refine lv_ladd hx hb dX10_digestRow_54 ?_
        subst hQ
        exact W.lret (v := ((31) * (dgF h (gD (R r)) i)) + (9)) hx hb hret (fun tq htq hWq => ⟨_, rfl, by rw [dgR, show (R r).length = i by omega], htq⟩) (fun q h => by cases h) dX10_digestRow_55
      · skip
        refine lv_ldc2 hx hb hown lk1 dX10_digestRow_17 ?_
        refine lv_lload hx hb dX10_digestRow_20 (lv_at hl 2 rfl) ?_
        refine lv_lmul hx hb dX10_digestRow_22 ?_
        refine lv_aload_n hx hb dX10_digestRow_23 rfl (lv_at hl 0 rfl) ?_
        refine va_get (D := (dC, dI)) (ci := 10) (C := RX10) (T := TX10) (N := 22) hx hb hts hin10 hown hK hP 0 rfl rfl 2 (by decide) lk3 (fun _ h9 => h9) rfl dX10_digestRow_24 ?_
        refine lv_bipush (v := nI 60) hx hb dX10_digestRow_27 (by decide) ?_
        refine lv_iload_n hx hb dX10_digestRow_29 rfl (lv_at hl 1 rfl) ?_
        refine lv_imul hx hb dX10_digestRow_30 ?_
        refine nx_ti (y := nI (60 * r)) (pk_mul _ _) ?_
        refine lv_iload hx hb dX10_digestRow_31 (lv_at hl 3 rfl) ?_
        refine lv_iadd hx hb dX10_digestRow_33 ?_
        refine nx_ti (y := nI (60 * r + i)) (nI_add _ _) ?_
        refine nx_iald hx hb hK hP 2 0 rfl rfl (i := 60 * r + i) (by have := (hZ r (by omega)).1; omega) (by decide) dX10_digestRow_34 ?_
        refine nx_ti (y := gD (R r) i) ((hZ r (by omega)).2.2 i (by omega)) ?_
        refine lv_i2l hx hb dX10_digestRow_35 rfl ?_
        refine lv_ladd hx hb dX10_digestRow_36 ?_
        refine lv_lstore (lv' := [(4, .long (((31) * (dgF h (gD (R r)) i)) + (gD (R r) i).toInt64)), (0, .ref (am 0)), (3, .int (nI r)), (6, .int (nI i))]) hx hb dX10_digestRow_37 hl (by decide) rfl (fun ls hl => ?_)
        refine lv_iinc (v := nI (i + 1)) (lv' := [(6, .int (nI (i + 1))), (4, .long (((31) * (dgF h (gD (R r)) i)) + (gD (R r) i).toInt64)), (0, .ref (am 0)), (3, .int (nI r))]) hx hb dX10_digestRow_39 hl (k := 3) rfl (nI_add _ _) (by decide) rfl (fun ls hl => ?_)
        refine lv_goto (tgt := 6) hx hb dX10_digestRow_42 (by decide) ?_
        exact ih6 (i + 1) _ (by omega) (by omega) (lv_sub hl [2, 3, 1, 0] rfl)
  exact L6 (60 - 0 + 1) 0 _ (by omega) (Nat.lt_succ_self _) (lv_sub hl [2, 4, 1, 0] rfl)

set_option maxHeartbeats 1000000 in
set_option maxRecDepth 100000 in
/-- count -/
theorem k_count (l : Launch) (dC : Nat → ClassId) (dI : Nat → Nat → Nat) (aC : Nat → ClassId) (am : Nat → Nat) (v : Nat → Int32) (R : Nat → List Int32) (F : Nat → Nat → Int32) (G : Nat → Nat → Int64) (A : Nat) (hE : vE A (F 1)) (hA : v 0 = nI A) (hV : ∀ r, r < 10 → vR A (R r)) (n : Nat) (hn : v 4 = nI n) (hn8 : n ≤ 8) (w : Int32) : Met l yX10_count wsX10_count ({ frames := 3, cells := 0, slots := 0, locals := 66 } : Room) (va_Pc [.ref (am 0), .int w] (MB dC dI aC am (v, R, F, G))) (vp_Si (fun x => x = pCount A (F 1) R n (F 4) w)) 0 0 (fun _ => False) := by
  refine Met.ofW (cc := cX10_count) (maxL := 4) (ret := (some .int)) (by decide) rfl ?_
  intro p e s m args below meth c s₁ B hml hv
  obtain ⟨rfl, hK, S, Z, hZ, hP⟩ := hv
  have hx := B.exec
  have hb := B.bytes
  have hret := B.returns
  have hts := atoms_spec (ws := wsX10_count) B.pre
  have hown : s.vm.findClass RX10 = some m.cls := findClass_of_methodNamed B.named
  have hlocks := B.notSynchronized
  dsimp only at hZ hP
  have lk0 := hts (.fieldLink RX10 55 "LeafTreesModel" "acts" "I") (by decide +kernel)
  have lk1 := hts (.fieldLink RX10 102 "LeafTreesModel" "rules" "I") (by decide +kernel)
  have lk2 := hts (.fieldLink RX10 19 "LeafTreesModel" "isNought" "[Z") (by decide +kernel)
  have hin10 : ∀ w ∈ u_ws RX10 TX10 22, w ∈ wsX10_count := by decide +kernel
  have hl := lv_entry [.ref (am 0), .int w] (n := 4) (Nat.le_of_ble_eq_true rfl)
  rw [lg_entry_eq]
  generalize (lg_sl [.ref (am 0), .int w] ++ List.replicate (4 - (lg_sl [.ref (am 0), .int w]).length) Slot.unset).toArray = ls at hl ⊢
  have hl : lv_has ls 4 [(0, .ref (am 0)), (1, .int w)] := hl
  refine nx_Q (R := ({ frames := 3, cells := 0, slots := 0, locals := 66 } : Room)) (fun Q hQ => ?_)
  refine lv_iconst (v := nI 0) hx hb dX10_count_0 (by decide) ?_
  refine lv_istore_n (lv' := [(2, .int (nI 0)), (0, .ref (am 0)), (1, .int w)]) hx hb dX10_count_1 rfl hl (by decide) rfl (fun ls hl => ?_)
  refine lv_iload_n hx hb dX10_count_2 rfl (lv_at hl 2 rfl) ?_
  by_cases hsw0 : w = nI 0
  · subst hsw0
    refine lv_tableIn (tgt := 32) hx hb dX10_count_3 (by decide) (by decide) rfl (by decide) ?_
    refine lv_aload_n hx hb dX10_count_32 rfl (lv_at hl 1 rfl) ?_
    refine va_get (D := (dC, dI)) (ci := 10) (C := RX10) (T := TX10) (N := 22) hx hb hts hin10 hown hK hP 0 rfl rfl 0 (by decide) lk0 (fun _ h9 => h9) rfl dX10_count_33 ?_
    refine nx_ti (y := nI A) (hA) ?_
    subst hQ
    exact W.iret (v := nI A) hx hb hret (fun tq htq hWq => ⟨_, rfl, by rw [pCount, if_pos rfl], htq⟩) (fun q h => by cases h) dX10_count_36
  by_cases hsw1 : w = nI 1
  · subst hsw1
    refine lv_tableIn (tgt := 37) hx hb dX10_count_3 (by decide) (by decide) rfl (by decide) ?_
    refine lv_aload_n hx hb dX10_count_37 rfl (lv_at hl 1 rfl) ?_
    refine va_get (D := (dC, dI)) (ci := 10) (C := RX10) (T := TX10) (N := 22) hx hb hts hin10 hown hK hP 0 rfl rfl 4 (by decide) lk1 (fun _ h9 => h9) rfl dX10_count_38 ?_
    refine nx_ti (y := nI n) (hn) ?_
    subst hQ
    exact W.iret (v := nI n) hx hb hret (fun tq htq hWq => ⟨_, rfl, by rw [pCount, if_neg (by decide), if_pos rfl], htq⟩) (fun q h => by cases h) dX10_count_41
  by_cases hsw2 : w = nI 2
  · subst hsw2
    refine lv_tableIn (tgt := 42) hx hb dX10_count_3 (by decide) (by decide) rfl (by decide) ?_
    refine lv_iconst (v := nI 0) hx hb dX10_count_42 (by decide) ?_
    refine lv_istore_n (lv' := [(3, .int (nI 0)), (2, .int (nI 0)), (0, .ref (am 0)), (1, .int (nI 2))]) hx hb dX10_count_43 rfl hl (by decide) rfl (fun ls hl => ?_)
    have L44 : ∀ (fuel44 : Nat) (i : Nat) (ls : Array Slot), (i ≤ 10) → 10 - i < fuel44 → lv_has ls 4 [(0, .ref (am 0)), (2, .int (nI (tcF (F 1) R i))), (3, .int (nI i))] → W p l e ({ frames := 3, cells := 0, slots := 0, locals := 66 } : Room) s m ([.ref (am 0), .int (nI 2)] : List Value).toArray below meth c s.heap [] 0 0 Q (F0 m 44 ls []) := by
      intro fuel44
      induction fuel44 with
      | zero => intro i ls hi hf44 hl; exact absurd hf44 (Nat.not_lt_zero _)
      | succ fuel44 ih44 =>
        intro i ls hi hf44 hl
        refine lv_iload_n hx hb dX10_count_44 rfl (lv_at hl 2 rfl) ?_
        refine lv_bipush (v := nI 10) hx hb dX10_count_45 (by decide) ?_
        refine nx_icmp_ge (a := i) (b := 10) (tgt := 72) hx hb dX10_count_47 (by decide) (by omega) (by omega) (fun c_47 => ?_) (fun c_47 => ?_)
        · skip
          refine lv_iload_n hx hb dX10_count_72 rfl (lv_at hl 1 rfl) ?_
          subst hQ
          exact W.iret (v := nI (tcF (F 1) R i)) hx hb hret (fun tq htq hWq => ⟨_, rfl, by rw [pCount, if_neg (by decide), if_neg (by decide), if_pos rfl, show i = 10 by omega], htq⟩) (fun q h => by cases h) dX10_count_73
        · skip
          refine lv_iload_n hx hb dX10_count_50 rfl (lv_at hl 1 rfl) ?_
          refine lv_aload_n hx hb dX10_count_51 rfl (lv_at hl 0 rfl) ?_
          refine lv_iload_n hx hb dX10_count_52 rfl (lv_at hl 2 rfl) ?_
          refine mp_i (As := [.int (nI i)]) (rest := [.int (nI (tcF (F 1) R i))]) ⟨hx, hb, hml, hown, hts⟩ (k_isTree l dC dI aC am v R F G A hE i (by omega) (hV i (by omega))) (cwV 1 hts gX10_count_X10_isTree rfl rfl rfl (by decide +kernel) ⟨Nat.le_of_ble_eq_true rfl, Nat.le_of_ble_eq_true rfl⟩) hK hZ hP rfl hl.1 rfl (Nat.le_of_ble_eq_true rfl) dX10_count_53 ⟨Nat.le_of_ble_eq_true rfl, Nat.le_of_ble_eq_true rfl⟩ (fun x_53 h_53 => ?_)
          subst h_53
          refine nx_bz (tgt := 63) hx hb dX10_count_56 (by decide) (fun c_56 => ?_) (fun c_56 => ?_)
          · skip
            refine lv_iconst (v := nI 0) hx hb dX10_count_63 (by decide) ?_
            refine lv_iadd hx hb dX10_count_64 ?_
            refine nx_ti (y := nI (tcF (F 1) R i + 0)) (nI_add _ _) ?_
            refine nx_ti (y := nI (tcF (F 1) R (i + 1))) (by rw [tcF_f c_56]) ?_
            refine lv_istore_n (lv' := [(2, .int (nI (tcF (F 1) R (i + 1)))), (0, .ref (am 0)), (3, .int (nI i))]) hx hb dX10_count_65 rfl hl (by decide) rfl (fun ls hl => ?_)
            refine lv_iinc (v := nI (i + 1)) (lv' := [(3, .int (nI (i + 1))), (2, .int (nI (tcF (F 1) R (i + 1)))), (0, .ref (am 0))]) hx hb dX10_count_66 hl (k := 2) rfl (nI_add _ _) (by decide) rfl (fun ls hl => ?_)
            refine lv_goto (tgt := 44) hx hb dX10_count_69 (by decide) ?_
            exact ih44 (i + 1) _ (by omega) (by omega) (lv_sub hl [2, 1, 0] rfl)
          · skip
            refine lv_iconst (v := nI 1) hx hb dX10_count_59 (by decide) ?_
            refine lv_goto (tgt := 64) hx hb dX10_count_60 (by decide) ?_
            refine lv_iadd hx hb dX10_count_64 ?_
            refine nx_ti (y := nI (tcF (F 1) R i + 1)) (nI_add _ _) ?_
            refine nx_ti (y := nI (tcF (F 1) R (i + 1))) (by rw [tcF_t c_56]) ?_
            refine lv_istore_n (lv' := [(2, .int (nI (tcF (F 1) R (i + 1)))), (0, .ref (am 0)), (3, .int (nI i))]) hx hb dX10_count_65 rfl hl (by decide) rfl (fun ls hl => ?_)
            refine lv_iinc (v := nI (i + 1)) (lv' := [(3, .int (nI (i + 1))), (2, .int (nI (tcF (F 1) R (i + 1)))), (0, .ref (am 0))]) hx hb dX10_count_66 hl (k := 2) rfl (nI_add _ _) (by decide) rfl (fun ls hl => ?_)
            refine lv_goto (tgt := 44) hx hb dX10_count_69 (by decide) ?_
            exact ih44 (i + 1) _ (by omega) (by omega) (lv_sub hl [2, 1, 0] rfl)
    exact L44 (10 - 0 + 1) 0 _ (by omega) (Nat.lt_succ_self _) (lv_sub hl [2, 1, 0] rfl)
  by_cases hsw3 : w = nI 3
  · subst hsw3
    refine lv_tableIn (tgt := 74) hx hb dX10_count_3 (by decide) (by decide) rfl (by decide) ?_
    refine lv_iconst (v := nI 0) hx hb dX10_count_74 (by decide) ?_
    refine lv_istore_n (lv' := [(3, .int (nI 0)), (2, .int (nI 0)), (0, .ref (am 0)), (1, .int (nI 3))]) hx hb dX10_count_75 rfl hl (by decide) rfl (fun ls hl => ?_)
    have L76 : ∀ (fuel76 : Nat) (i : Nat) (ls : Array Slot), (i ≤ n) → 8 - i < fuel76 → lv_has ls 4 [(0, .ref (am 0)), (2, .int (nI (nzF (F 4) i))), (3, .int (nI i))] → W p l e ({ frames := 3, cells := 0, slots := 0, locals := 66 } : Room) s m ([.ref (am 0), .int (nI 3)] : List Value).toArray below meth c s.heap [] 0 0 Q (F0 m 76 ls []) := by
      intro fuel76
      induction fuel76 with
      | zero => intro i ls hi hf76 hl; exact absurd hf76 (Nat.not_lt_zero _)
      | succ fuel76 ih76 =>
        intro i ls hi hf76 hl
        refine lv_iload_n hx hb dX10_count_76 rfl (lv_at hl 2 rfl) ?_
        refine lv_aload_n hx hb dX10_count_77 rfl (lv_at hl 0 rfl) ?_
        refine va_get (D := (dC, dI)) (ci := 10) (C := RX10) (T := TX10) (N := 22) hx hb hts hin10 hown hK hP 0 rfl rfl 4 (by decide) lk1 (fun _ h9 => h9) rfl dX10_count_78 ?_
        refine nx_ti (y := nI n) (hn) ?_
        refine nx_icmp_ge (a := i) (b := n) (tgt := 107) hx hb dX10_count_81 (by decide) (by omega) (by omega) (fun c_81 => ?_) (fun c_81 => ?_)
        · skip
          refine lv_iload_n hx hb dX10_count_107 rfl (lv_at hl 1 rfl) ?_
          subst hQ
          exact W.iret (v := nI (nzF (F 4) i)) hx hb hret (fun tq htq hWq => ⟨_, rfl, by rw [pCount, if_neg (by decide), if_neg (by decide), if_neg (by decide), if_pos rfl, show i = n by omega], htq⟩) (fun q h => by cases h) dX10_count_108
        · skip
          refine lv_iload_n hx hb dX10_count_84 rfl (lv_at hl 1 rfl) ?_
          refine lv_aload_n hx hb dX10_count_85 rfl (lv_at hl 0 rfl) ?_
          refine va_get (D := (dC, dI)) (ci := 10) (C := RX10) (T := TX10) (N := 22) hx hb hts hin10 hown hK hP 0 rfl rfl 5 (by decide) lk2 (fun _ h9 => h9) rfl dX10_count_86 ?_
          refine lv_iload_n hx hb dX10_count_89 rfl (lv_at hl 2 rfl) ?_
          refine nx_zald hx hb hK hP 4 2 rfl rfl (i := i) (by omega) (by decide) dX10_count_90 ?_
          refine lv_if_eq (tgt := 98) hx hb dX10_count_91 (by decide) (fun c_91 => ?_) (fun c_91 => ?_)
          · skip
            refine lv_iconst (v := nI 0) hx hb dX10_count_98 (by decide) ?_
            refine lv_iadd hx hb dX10_count_99 ?_
            refine nx_ti (y := nI (nzF (F 4) i + 0)) (nI_add _ _) ?_
            refine nx_ti (y := nI (nzF (F 4) (i + 1))) (by rw [nzF_f c_91]) ?_
            refine lv_istore_n (lv' := [(2, .int (nI (nzF (F 4) (i + 1)))), (0, .ref (am 0)), (3, .int (nI i))]) hx hb dX10_count_100 rfl hl (by decide) rfl (fun ls hl => ?_)
            refine lv_iinc (v := nI (i + 1)) (lv' := [(3, .int (nI (i + 1))), (2, .int (nI (nzF (F 4) (i + 1)))), (0, .ref (am 0))]) hx hb dX10_count_101 hl (k := 2) rfl (nI_add _ _) (by decide) rfl (fun ls hl => ?_)
            refine lv_goto (tgt := 76) hx hb dX10_count_104 (by decide) ?_
            exact ih76 (i + 1) _ (by omega) (by omega) (lv_sub hl [2, 1, 0] rfl)
          · skip
            refine lv_iconst (v := nI 1) hx hb dX10_count_94 (by decide) ?_
            refine lv_goto (tgt := 99) hx hb dX10_count_95 (by decide) ?_
            refine lv_iadd hx hb dX10_count_99 ?_
            refine nx_ti (y := nI (nzF (F 4) i + 1)) (nI_add _ _) ?_
            refine nx_ti (y := nI (nzF (F 4) (i + 1))) (by rw [nzF_t c_91]) ?_
            refine lv_istore_n (lv' := [(2, .int (nI (nzF (F 4) (i + 1)))), (0, .ref (am 0)), (3, .int (nI i))]) hx hb dX10_count_100 rfl hl (by decide) rfl (fun ls hl => ?_)
            refine lv_iinc (v := nI (i + 1)) (lv' := [(3, .int (nI (i + 1))), (2, .int (nI (nzF (F 4) (i + 1)))), (0, .ref (am 0))]) hx hb dX10_count_101 hl (k := 2) rfl (nI_add _ _) (by decide) rfl (fun ls hl => ?_)
            refine lv_goto (tgt := 76) hx hb dX10_count_104 (by decide) ?_
            exact ih76 (i + 1) _ (by omega) (by omega) (lv_sub hl [2, 1, 0] rfl)
    exact L76 (8 - 0 + 1) 0 _ (by omega) (Nat.lt_succ_self _) (lv_sub hl [2, 1, 0] rfl)
  have hsw : w.toInt < 0 ∨ 3 < w.toInt := by
    have hq0 := lv_neT hsw0 (show (nI 0).toInt = 0 by decide)
    have hq1 := lv_neT hsw1 (show (nI 1).toInt = 1 by decide)
    have hq2 := lv_neT hsw2 (show (nI 2).toInt = 2 by decide)
    have hq3 := lv_neT hsw3 (show (nI 3).toInt = 3 by decide)
    omega
  refine lv_tableOut (tgt := 109) hx hb dX10_count_3 hsw (by decide) ?_
  refine lv_bipush (v := (-2)) hx hb dX10_count_109 (by decide) ?_
  subst hQ
  exact W.iret (v := (-2)) hx hb hret (fun tq htq hWq => ⟨_, rfl, by rw [pCount, if_neg hsw0, if_neg hsw1, if_neg hsw2, if_neg hsw3], htq⟩) (fun q h => by cases h) dX10_count_111

set_option maxHeartbeats 1000000 in
set_option maxRecDepth 100000 in
/-- digest -/
theorem k_digest (l : Launch) (dC : Nat → ClassId) (dI : Nat → Nat → Nat) (aC : Nat → ClassId) (am : Nat → Nat) (v : Nat → Int32) (R : Nat → List Int32) (F : Nat → Nat → Int32) (G : Nat → Nat → Int64) (A : Nat) (hE : vE A (F 1)) (hA : v 0 = nI A) (hV : ∀ r, r < 10 → vR A (R r)) (n : Nat) (hn : v 4 = nI n) (hn8 : n ≤ 8) : Met l yX10_digest wsX10_digest ({ frames := 4, cells := 0, slots := 0, locals := 89 } : Room) (va_Pc [.ref (am 0)] (MB dC dI aC am (v, R, F, G))) (vp_Sl (fun x => x = pDigest A (F 1) R n (F 4))) 0 0 (fun _ => False) := by
  refine Met.ofW (cc := cX10_digest) (maxL := 4) (ret := (some .long)) (by decide) rfl ?_
  intro p e s m args below meth c s₁ B hml hv
  obtain ⟨rfl, hK, S, Z, hZ, hP⟩ := hv
  have hx := B.exec
  have hb := B.bytes
  have hret := B.returns
  have hts := atoms_spec (ws := wsX10_digest) B.pre
  have hown : s.vm.findClass RX10 = some m.cls := findClass_of_methodNamed B.named
  have hlocks := B.notSynchronized
  dsimp only at hZ hP
  have lk0 := hts (.constantLong RX10 200 (227)) (by decide +kernel)
  have lk1 := hts (.fieldLink RX10 55 "LeafTreesModel" "acts" "I") (by decide +kernel)
  have lk2 := hts (.fieldLink RX10 102 "LeafTreesModel" "rules" "I") (by decide +kernel)
  have lk3 := hts (.constantLong RX10 196 (31)) (by decide +kernel)
  have lk4 := hts (.fieldLink RX10 7 "LeafTreesModel" "entries" "[I") (by decide +kernel)
  have hin10 : ∀ w ∈ u_ws RX10 TX10 22, w ∈ wsX10_digest := by decide +kernel
  have hl := lv_entry [.ref (am 0)] (n := 4) (Nat.le_of_ble_eq_true rfl)
  rw [lg_entry_eq]
  generalize (lg_sl [.ref (am 0)] ++ List.replicate (4 - (lg_sl [.ref (am 0)]).length) Slot.unset).toArray = ls at hl ⊢
  have hl : lv_has ls 4 [(0, .ref (am 0))] := hl
  refine nx_Q (R := ({ frames := 4, cells := 0, slots := 0, locals := 89 } : Room)) (fun Q hQ => ?_)
  have h4 := hE.1
  refine lv_ldc2 hx hb hown lk0 dX10_digest_0 ?_
  refine lv_lstore_n (lv' := [(1, .long (227)), (0, .ref (am 0))]) hx hb dX10_digest_3 rfl hl (by decide) rfl (fun ls hl => ?_)
  refine lv_iconst (v := nI 0) hx hb dX10_digest_4 (by decide) ?_
  refine lv_istore_n (lv' := [(3, .int (nI 0)), (1, .long (227)), (0, .ref (am 0))]) hx hb dX10_digest_5 rfl hl (by decide) rfl (fun ls hl => ?_)
  have L6 : ∀ (fuel6 : Nat) (i : Nat) (ls : Array Slot), (i ≤ 4) → 4 - i < fuel6 → lv_has ls 4 [(0, .ref (am 0)), (1, .long (dg1 A (F 1) R n (F 4) i)), (3, .int (nI i))] → W p l e ({ frames := 4, cells := 0, slots := 0, locals := 89 } : Room) s m ([.ref (am 0)] : List Value).toArray below meth c s.heap [] 0 0 Q (F0 m 6 ls []) := by
    intro fuel6
    induction fuel6 with
    | zero => intro i ls hi hf6 hl; exact absurd hf6 (Nat.not_lt_zero _)
    | succ fuel6 ih6 =>
      intro i ls hi hf6 hl
      refine lv_iload_n hx hb dX10_digest_6 rfl (lv_at hl 2 rfl) ?_
      refine lv_iconst (v := nI 4) hx hb dX10_digest_7 (by decide) ?_
      refine nx_icmp_ge (a := i) (b := 4) (tgt := 30) hx hb dX10_digest_8 (by decide) (by omega) (by omega) (fun c_8 => ?_) (fun c_8 => ?_)
      · skip
        refine lv_iconst (v := nI 0) hx hb dX10_digest_30 (by decide) ?_
        refine lv_istore_n (lv' := [(3, .int (nI 0)), (0, .ref (am 0)), (1, .long (dg1 A (F 1) R n (F 4) i))]) hx hb dX10_digest_31 rfl hl (by decide) rfl (fun ls hl => ?_)
        have L32 : ∀ (fuel32 : Nat) (i : Nat) (ls : Array Slot), (i ≤ A) → 4 - i < fuel32 → lv_has ls 4 [(0, .ref (am 0)), (1, .long (dg2 (F 1) (dg1 A (F 1) R n (F 4) 4) i)), (3, .int (nI i))] → W p l e ({ frames := 4, cells := 0, slots := 0, locals := 89 } : Room) s m ([.ref (am 0)] : List Value).toArray below meth c s.heap [] 0 0 Q (F0 m 32 ls []) := by
          intro fuel32
          induction fuel32 with
          | zero => intro i ls hi hf32 hl; exact absurd hf32 (Nat.not_lt_zero _)
          | succ fuel32 ih32 =>
            intro i ls hi hf32 hl
            refine lv_iload_n hx hb dX10_digest_32 rfl (lv_at hl 2 rfl) ?_
            refine lv_aload_n hx hb dX10_digest_33 rfl (lv_at hl 0 rfl) ?_
            refine va_get (D := (dC, dI)) (ci := 10) (C := RX10) (T := TX10) (N := 22) hx hb hts hin10 hown hK hP 0 rfl rfl 0 (by decide) lk1 (fun _ h9 => h9) rfl dX10_digest_34 ?_
            refine nx_ti (y := nI A) (hA) ?_
            refine nx_icmp_ge (a := i) (b := A) (tgt := 60) hx hb dX10_digest_37 (by decide) (by omega) (by omega) (fun c_37 => ?_) (fun c_37 => ?_)
            · skip
              refine lv_iconst (v := nI 0) hx hb dX10_digest_60 (by decide) ?_
              refine lv_istore_n (lv' := [(3, .int (nI 0)), (0, .ref (am 0)), (1, .long (dg2 (F 1) (dg1 A (F 1) R n (F 4) 4) i))]) hx hb dX10_digest_61 rfl hl (by decide) rfl (fun ls hl => ?_)
              have L62 : ∀ (fuel62 : Nat) (i : Nat) (ls : Array Slot), (i ≤ 10) → 10 - i < fuel62 → lv_has ls 4 [(0, .ref (am 0)), (1, .long (dg3 R (dg2 (F 1) (dg1 A (F 1) R n (F 4) 4) A) i)), (3, .int (nI i))] → W p l e ({ frames := 4, cells := 0, slots := 0, locals := 89 } : Room) s m ([.ref (am 0)] : List Value).toArray below meth c s.heap [] 0 0 Q (F0 m 62 ls []) := by
                intro fuel62
                induction fuel62 with
                | zero => intro i ls hi hf62 hl; exact absurd hf62 (Nat.not_lt_zero _)
                | succ fuel62 ih62 =>
                  intro i ls hi hf62 hl
                  refine lv_iload_n hx hb dX10_digest_62 rfl (lv_at hl 2 rfl) ?_
                  refine lv_bipush (v := nI 10) hx hb dX10_digest_63 (by decide) ?_
                  refine nx_icmp_ge (a := i) (b := 10) (tgt := 81) hx hb dX10_digest_65 (by decide) (by omega) (by omega) (fun c_65 => ?_) (fun c_65 => ?_)
                  · skip
                    refine lv_iconst (v := nI 0) hx hb dX10_digest_81 (by decide) ?_
                    refine lv_istore_n (lv' := [(3, .int (nI 0)), (0, .ref (am 0)), (1, .long (dg3 R (dg2 (F 1) (dg1 A (F 1) R n (F 4) 4) A) i))]) hx hb dX10_digest_82 rfl hl (by decide) rfl (fun ls hl => ?_)
                    have L83 : ∀ (fuel83 : Nat) (i : Nat) (ls : Array Slot), (i ≤ n) → 8 - i < fuel83 → lv_has ls 4 [(0, .ref (am 0)), (1, .long (dg4 R (dg3 R (dg2 (F 1) (dg1 A (F 1) R n (F 4) 4) A) 10) i)), (3, .int (nI i))] → W p l e ({ frames := 4, cells := 0, slots := 0, locals := 89 } : Room) s m ([.ref (am 0)] : List Value).toArray below meth c s.heap [] 0 0 Q (F0 m 83 ls []) := by
                      intro fuel83
                      induction fuel83 with
                      | zero => intro i ls hi hf83 hl; exact absurd hf83 (Nat.not_lt_zero _)
                      | succ fuel83 ih83 =>
                        intro i ls hi hf83 hl
                        refine lv_iload_n hx hb dX10_digest_83 rfl (lv_at hl 2 rfl) ?_
                        refine lv_aload_n hx hb dX10_digest_84 rfl (lv_at hl 0 rfl) ?_
                        refine va_get (D := (dC, dI)) (ci := 10) (C := RX10) (T := TX10) (N := 22) hx hb hts hin10 hown hK hP 0 rfl rfl 4 (by decide) lk2 (fun _ h9 => h9) rfl dX10_digest_85 ?_
                        refine nx_ti (y := nI n) (hn) ?_
                        refine nx_icmp_ge (a := i) (b := n) (tgt := 115) hx hb dX10_digest_88 (by decide) (by omega) (by omega) (fun c_88 => ?_) (fun c_88 => ?_)
                        · skip
                          refine lv_lload_n hx hb dX10_digest_115 rfl (lv_at hl 1 rfl) ?_
                          subst hQ
                          exact W.lret (v := dg4 R (dg3 R (dg2 (F 1) (dg1 A (F 1) R n (F 4) 4) A) 10) i) hx hb hret (fun tq htq hWq => ⟨_, rfl, by rw [pDigest, show i = n by omega], htq⟩) (fun q h => by cases h) dX10_digest_116
                        · skip
                          refine lv_aload_n hx hb dX10_digest_91 rfl (lv_at hl 0 rfl) ?_
                          refine lv_aload_n hx hb dX10_digest_92 rfl (lv_at hl 0 rfl) ?_
                          refine lv_lload_n hx hb dX10_digest_93 rfl (lv_at hl 1 rfl) ?_
                          refine lv_bipush (v := nI 10) hx hb dX10_digest_94 (by decide) ?_
                          refine lv_iload_n hx hb dX10_digest_96 rfl (lv_at hl 2 rfl) ?_
                          refine lv_iadd hx hb dX10_digest_97 ?_
                          refine nx_ti (y := nI (10 + i)) (nI_add _ _) ?_
                          refine mp_l (As := [.long (dg4 R (dg3 R (dg2 (F 1) (dg1 A (F 1) R n (F 4) 4) A) 10) i), .int (nI (10 + i))]) (rest := [.ref (am 0)]) ⟨hx, hb, hml, hown, hts⟩ (k_digestRow l dC dI aC am v R F G (dg4 R (dg3 R (dg2 (F 1) (dg1 A (F 1) R n (F 4) 4) A) 10) i) (10 + i) (by omega)) (cwV 2 hts gX10_digest_X10_digestRow rfl rfl rfl (by decide +kernel) ⟨Nat.le_of_ble_eq_true rfl, Nat.le_of_ble_eq_true rfl⟩) hK hZ hP rfl hl.1 rfl (Nat.le_of_ble_eq_true rfl) dX10_digest_98 ⟨Nat.le_of_ble_eq_true rfl, Nat.le_of_ble_eq_true rfl⟩ (fun x_98 h_98 => ?_)
                          subst h_98
                          refine lv_bipush (v := nI 18) hx hb dX10_digest_101 (by decide) ?_
                          refine lv_iload_n hx hb dX10_digest_103 rfl (lv_at hl 2 rfl) ?_
                          refine lv_iadd hx hb dX10_digest_104 ?_
                          refine nx_ti (y := nI (18 + i)) (nI_add _ _) ?_
                          refine mp_l (As := [.long (dgR (dg4 R (dg3 R (dg2 (F 1) (dg1 A (F 1) R n (F 4) 4) A) 10) i) (R (10 + i))), .int (nI (18 + i))]) (rest := []) ⟨hx, hb, hml, hown, hts⟩ (k_digestRow l dC dI aC am v R F G (dgR (dg4 R (dg3 R (dg2 (F 1) (dg1 A (F 1) R n (F 4) 4) A) 10) i) (R (10 + i))) (18 + i) (by omega)) (cwV 2 hts gX10_digest_X10_digestRow rfl rfl rfl (by decide +kernel) ⟨Nat.le_of_ble_eq_true rfl, Nat.le_of_ble_eq_true rfl⟩) hK hZ hP rfl hl.1 rfl (Nat.le_of_ble_eq_true rfl) dX10_digest_105 ⟨Nat.le_of_ble_eq_true rfl, Nat.le_of_ble_eq_true rfl⟩ (fun x_105 h_105 => ?_)
                          subst h_105
                          refine lv_lstore_n (lv' := [(1, .long (dgR (dgR (dg4 R (dg3 R (dg2 (F 1) (dg1 A (F 1) R n (F 4) 4) A) 10) i) (R (10 + i))) (R (18 + i)))), (0, .ref (am 0)), (3, .int (nI i))]) hx hb dX10_digest_108 rfl hl (by decide) rfl (fun ls hl => ?_)
                          refine lv_iinc (v := nI (i + 1)) (lv' := [(3, .int (nI (i + 1))), (1, .long (dgR (dgR (dg4 R (dg3 R (dg2 (F 1) (dg1 A (F 1) R n (F 4) 4) A) 10) i) (R (10 + i))) (R (18 + i)))), (0, .ref (am 0))]) hx hb dX10_digest_109 hl (k := 2) rfl (nI_add _ _) (by decide) rfl (fun ls hl => ?_)
                          refine lv_goto (tgt := 83) hx hb dX10_digest_112 (by decide) ?_
                          exact ih83 (i + 1) _ (by omega) (by omega) (lv_sub hl [2, 1, 0] rfl)
                    exact L83 (8 - 0 + 1) 0 _ (by omega) (Nat.lt_succ_self _) (by rw [show i = 10 by omega] at hl; exact lv_sub hl [1, 2, 0] rfl)
                  · skip
                    refine lv_aload_n hx hb dX10_digest_68 rfl (lv_at hl 0 rfl) ?_
                    refine lv_lload_n hx hb dX10_digest_69 rfl (lv_at hl 1 rfl) ?_
                    refine lv_iload_n hx hb dX10_digest_70 rfl (lv_at hl 2 rfl) ?_
                    refine mp_l (As := [.long (dg3 R (dg2 (F 1) (dg1 A (F 1) R n (F 4) 4) A) i), .int (nI i)]) (rest := []) ⟨hx, hb, hml, hown, hts⟩ (k_digestRow l dC dI aC am v R F G (dg3 R (dg2 (F 1) (dg1 A (F 1) R n (F 4) 4) A) i) i (by omega)) (cwV 2 hts gX10_digest_X10_digestRow rfl rfl rfl (by decide +kernel) ⟨Nat.le_of_ble_eq_true rfl, Nat.le_of_ble_eq_true rfl⟩) hK hZ hP rfl hl.1 rfl (Nat.le_of_ble_eq_true rfl) dX10_digest_71 ⟨Nat.le_of_ble_eq_true rfl, Nat.le_of_ble_eq_true rfl⟩ (fun x_71 h_71 => ?_)
                    subst h_71
                    refine lv_lstore_n (lv' := [(1, .long (dgR (dg3 R (dg2 (F 1) (dg1 A (F 1) R n (F 4) 4) A) i) (R i))), (0, .ref (am 0)), (3, .int (nI i))]) hx hb dX10_digest_74 rfl hl (by decide) rfl (fun ls hl => ?_)
                    refine lv_iinc (v := nI (i + 1)) (lv' := [(3, .int (nI (i + 1))), (1, .long (dgR (dg3 R (dg2 (F 1) (dg1 A (F 1) R n (F 4) 4) A) i) (R i))), (0, .ref (am 0))]) hx hb dX10_digest_75 hl (k := 2) rfl (nI_add _ _) (by decide) rfl (fun ls hl => ?_)
                    refine lv_goto (tgt := 62) hx hb dX10_digest_78 (by decide) ?_
                    exact ih62 (i + 1) _ (by omega) (by omega) (lv_sub hl [2, 1, 0] rfl)
              exact L62 (10 - 0 + 1) 0 _ (by omega) (Nat.lt_succ_self _) (by rw [show i = A by omega] at hl; exact lv_sub hl [1, 2, 0] rfl)
            · skip
              refine lv_ldc2 hx hb hown lk3 dX10_digest_40 ?_
              refine lv_lload_n hx hb dX10_digest_43 rfl (lv_at hl 1 rfl) ?_
              refine lv_lmul hx hb dX10_digest_44 ?_
              refine lv_aload_n hx hb dX10_digest_45 rfl (lv_at hl 0 rfl) ?_
              refine va_get (D := (dC, dI)) (ci := 10) (C := RX10) (T := TX10) (N := 22) hx hb hts hin10 hown hK hP 0 rfl rfl 1 (by decide) lk4 (fun _ h9 => h9) rfl dX10_digest_46 ?_
              refine lv_iload_n hx hb dX10_digest_49 rfl (lv_at hl 2 rfl) ?_
              refine nx_iald hx hb hK hP 1 0 rfl rfl (i := i) (by omega) (by decide) dX10_digest_50 ?_
              refine lv_i2l hx hb dX10_digest_51 rfl ?_
              refine lv_ladd hx hb dX10_digest_52 ?_
              refine lv_lstore_n (lv' := [(1, .long (((31) * (dg2 (F 1) (dg1 A (F 1) R n (F 4) 4) i)) + (F 1 i).toInt64)), (0, .ref (am 0)), (3, .int (nI i))]) hx hb dX10_digest_53 rfl hl (by decide) rfl (fun ls hl => ?_)
              refine lv_iinc (v := nI (i + 1)) (lv' := [(3, .int (nI (i + 1))), (1, .long (((31) * (dg2 (F 1) (dg1 A (F 1) R n (F 4) 4) i)) + (F 1 i).toInt64)), (0, .ref (am 0))]) hx hb dX10_digest_54 hl (k := 2) rfl (nI_add _ _) (by decide) rfl (fun ls hl => ?_)
              refine lv_goto (tgt := 32) hx hb dX10_digest_57 (by decide) ?_
              exact ih32 (i + 1) _ (by omega) (by omega) (lv_sub hl [2, 1, 0] rfl)
        exact L32 (4 - 0 + 1) 0 _ (by omega) (Nat.lt_succ_self _) (by rw [show i = 4 by omega] at hl; exact lv_sub hl [1, 2, 0] rfl)
      · skip
        refine lv_ldc2 hx hb hown lk3 dX10_digest_11 ?_
        refine lv_lload_n hx hb dX10_digest_14 rfl (lv_at hl 1 rfl) ?_
        refine lv_lmul hx hb dX10_digest_15 ?_
        refine lv_aload_n hx hb dX10_digest_16 rfl (lv_at hl 0 rfl) ?_
        refine lv_iload_n hx hb dX10_digest_17 rfl (lv_at hl 2 rfl) ?_
        refine mp_i (As := [.int (nI i)]) (rest := [.long ((31) * (dg1 A (F 1) R n (F 4) i))]) ⟨hx, hb, hml, hown, hts⟩ (k_count l dC dI aC am v R F G A hE hA hV n hn hn8 (nI i)) (cwV 1 hts gX10_digest_X10_count rfl rfl rfl (by decide +kernel) ⟨Nat.le_of_ble_eq_true rfl, Nat.le_of_ble_eq_true rfl⟩) hK hZ hP rfl hl.1 rfl (Nat.le_of_ble_eq_true rfl) dX10_digest_18 ⟨Nat.le_of_ble_eq_true rfl, Nat.le_of_ble_eq_true rfl⟩ (fun x_18 h_18 => ?_)
        subst h_18
        refine lv_i2l hx hb dX10_digest_21 rfl ?_
        refine lv_ladd hx hb dX10_digest_22 ?_
        refine lv_lstore_n (lv' := [(1, .long (((31) * (dg1 A (F 1) R n (F 4) i)) + (pCount A (F 1) R n (F 4) (nI i)).toInt64)), (0, .ref (am 0)), (3, .int (nI i))]) hx hb dX10_digest_23 rfl hl (by decide) rfl (fun ls hl => ?_)
        refine lv_iinc (v := nI (i + 1)) (lv' := [(3, .int (nI (i + 1))), (1, .long (((31) * (dg1 A (F 1) R n (F 4) i)) + (pCount A (F 1) R n (F 4) (nI i)).toInt64)), (0, .ref (am 0))]) hx hb dX10_digest_24 hl (k := 2) rfl (nI_add _ _) (by decide) rfl (fun ls hl => ?_)
        refine lv_goto (tgt := 6) hx hb dX10_digest_27 (by decide) ?_
        exact ih6 (i + 1) _ (by omega) (by omega) (lv_sub hl [2, 1, 0] rfl)
  exact L6 (4 - 0 + 1) 0 _ (by omega) (Nat.lt_succ_self _) (lv_sub hl [2, 1, 0] rfl)
