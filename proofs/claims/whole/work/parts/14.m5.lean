set_option maxHeartbeats 1000000 in
set_option maxRecDepth 100000 in
/-- matches -/
theorem k_matches (l : Launch) (dC : Nat → ClassId) (dI : Nat → Nat → Nat) (aC : Nat → ClassId) (am : Nat → Nat) (hI : mI am) (v : Nat → Int32) (R : Nat → List Int32) (F : Nat → Nat → Int32) (G : Nat → Nat → Int64) (A : Nat) (hE : vE A (F 1)) (hV : ∀ r, r < 30 → vR A (R r)) (n : Nat) (hn : v 4 = nI n) (hn8 : n ≤ 8) (hL : ∀ j, j < n → lvs (R (10 + j)) ≤ 13) (k a : Int32) : Met l yX10_matches wsX10_matches ({ frames := 4, cells := 0, slots := 0, locals := 96 } : Room) (va_Pc [.ref (am 0), .int k, .int a] (MB dC dI aC am (v, R, F, G))) (va_Qi (fun (x : Int32) (u : MS) => ∃ a0 b c d, (va_up (va_up v 11 a0) 12 b, R, va_up (va_up F 7 c) 8 d, G) = u ∧ x = pMatches (F 1) R n k a) (MB dC dI aC am) (mA am)) 0 0 (mA am) := by
  refine Met.ofW (cc := cX10_matches) (maxL := 3) (ret := (some .int)) (by decide) rfl ?_
  intro p e s m args below meth c s₁ B hml hv
  obtain ⟨rfl, hK, S, Z, hZ, hP⟩ := hv
  have hx := B.exec
  have hb := B.bytes
  have hret := B.returns
  have hts := atoms_spec (ws := wsX10_matches) B.pre
  have hown : s.vm.findClass RX10 = some m.cls := findClass_of_methodNamed B.named
  have hlocks := B.notSynchronized
  dsimp only at hZ hP
  have hS : va_S (mA am) s.heap s.heap [] := va_S.rf
  have hl := lv_entry [.ref (am 0), .int k, .int a] (n := 3) (Nat.le_of_ble_eq_true rfl)
  rw [lg_entry_eq]
  generalize (lg_sl [.ref (am 0), .int k, .int a] ++ List.replicate (3 - (lg_sl [.ref (am 0), .int k, .int a]).length) Slot.unset).toArray = ls at hl ⊢
  have hl : lv_has ls 3 [(0, .ref (am 0)), (1, .int k), (2, .int a)] := hl
  refine nx_Q (R := ({ frames := 4, cells := 0, slots := 0, locals := 96 } : Room)) (fun Q hQ => ?_)
  skip
  refine lv_aload_n hx hb dX10_matches_0 rfl (lv_at hl 0 rfl) ?_
  refine lv_iload_n hx hb dX10_matches_1 rfl (lv_at hl 1 rfl) ?_
  refine mp_i (As := [.int k]) (rest := []) ⟨hx, hb, hml, hown, hts⟩ (k_isRule l dC dI aC am v R F G n hn hn8 k) (cwV 1 hts gX10_matches_X10_isRule rfl rfl rfl (by decide +kernel) ⟨Nat.le_of_ble_eq_true rfl, Nat.le_of_ble_eq_true rfl⟩) hK hZ hP rfl hl.1 rfl (Nat.le_of_ble_eq_true rfl) dX10_matches_2 ⟨Nat.le_of_ble_eq_true rfl, Nat.le_of_ble_eq_true rfl⟩ (fun x_2 h_2 => ?_)
  subst h_2
  refine nx_bz (tgt := 25) hx hb dX10_matches_5 (by decide) (fun c_5 => ?_) (fun c_5 => ?_)
  · skip
    refine lv_bipush (v := (-2)) hx hb dX10_matches_25 (by decide) ?_
    subst hQ
    exact W.iret (v := (-2)) hx hb hret (fun tq htq hWq => ⟨⟨_, (v, R, F, G), rfl, ⟨v 11, v 12, F 7, F 8, by rw [up_eta2, up_eta2], by rw [pMatches, if_neg (fun h => c_5 h.1)]⟩, va_K.moved hWq.alike hK, _, _, hZ, by rw [htq]; exact hP⟩, hS.F htq⟩) hS.2.2 dX10_matches_27
  · skip
    refine lv_aload_n hx hb dX10_matches_8 rfl (lv_at hl 0 rfl) ?_
    refine lv_iload_n hx hb dX10_matches_9 rfl (lv_at hl 2 rfl) ?_
    refine mp_i (As := [.int a]) (rest := []) ⟨hx, hb, hml, hown, hts⟩ (k_isTreeRow l dC dI aC am v R F G A hE a (fun r h => hV r (by omega))) (cwV 1 hts gX10_matches_X10_isTreeRow rfl rfl rfl (by decide +kernel) ⟨Nat.le_of_ble_eq_true rfl, Nat.le_of_ble_eq_true rfl⟩) hK hZ hP rfl hl.1 rfl (Nat.le_of_ble_eq_true rfl) dX10_matches_10 ⟨Nat.le_of_ble_eq_true rfl, Nat.le_of_ble_eq_true rfl⟩ (fun x_10 h_10 => ?_)
    subst h_10
    refine nx_bz (tgt := 25) hx hb dX10_matches_13 (by decide) (fun c_13 => ?_) (fun c_13 => ?_)
    · skip
      refine lv_bipush (v := (-2)) hx hb dX10_matches_25 (by decide) ?_
      subst hQ
      exact W.iret (v := (-2)) hx hb hret (fun tq htq hWq => ⟨⟨_, (v, R, F, G), rfl, ⟨v 11, v 12, F 7, F 8, by rw [up_eta2, up_eta2], by rw [pMatches, if_neg (fun h => c_13 h.2)]⟩, va_K.moved hWq.alike hK, _, _, hZ, by rw [htq]; exact hP⟩, hS.F htq⟩) hS.2.2 dX10_matches_27
    · skip
      obtain ⟨j, hj, rfl⟩ := rIn_of c_5 (by omega)
      obtain ⟨r, hr, rfl⟩ := rIn_of c_13.1 (by decide)
      have hcj := nI_clamp (n := j) (by omega)
      have hcr := nI_clamp (n := r) (by omega)
      refine lv_aload_n hx hb dX10_matches_16 rfl (lv_at hl 0 rfl) ?_
      refine lv_iload_n hx hb dX10_matches_17 rfl (lv_at hl 1 rfl) ?_
      refine lv_iload_n hx hb dX10_matches_18 rfl (lv_at hl 2 rfl) ?_
      refine mc_i (As := [.int (nI j), .int (nI r)]) (rest := []) ⟨hx, hb, hml, hown, hts⟩ (k_firstPlace l dC dI aC am hI v R F G A hE j (by omega) r (by omega) (hV r (by omega)) (hL j hj)) (cwV 2 hts gX10_matches_X10_firstPlace rfl rfl rfl (by decide +kernel) ⟨Nat.le_of_ble_eq_true rfl, Nat.le_of_ble_eq_true rfl⟩) hK hZ hP hS rfl hl.1 rfl (Nat.le_of_ble_eq_true rfl) dX10_matches_19 ⟨Nat.le_of_ble_eq_true rfl, Nat.le_of_ble_eq_true rfl⟩ (fun x_19 v1 R1 F1 G1 S Z H locs h_19 hZ hP hS => ?_)
      obtain ⟨la, lb, lc, ld, hu, hxx⟩ := h_19
      subst hxx
      refine lv_goto (tgt := 27) hx hb dX10_matches_22 (by decide) ?_
      subst hQ
      exact W.iret (v := fpR (F 1) (R (10 + j)) (R r)) hx hb hret (fun tq htq hWq => ⟨⟨_, (v1, R1, F1, G1), rfl, ⟨la, lb, lc, ld, hu, by rw [pMatches, if_pos ⟨c_5, c_13⟩, hcj, hcr]⟩, va_K.moved hWq.alike hK, _, _, hZ, by rw [htq]; exact hP⟩, hS.F htq⟩) hS.2.2 dX10_matches_27

set_option maxHeartbeats 1000000 in
set_option maxRecDepth 100000 in
/-- uses -/
theorem k_uses (l : Launch) (dC : Nat → ClassId) (dI : Nat → Nat → Nat) (aC : Nat → ClassId) (am : Nat → Nat) (hI : mI am) (v : Nat → Int32) (R : Nat → List Int32) (F : Nat → Nat → Int32) (G : Nat → Nat → Int64) (k : Nat) (hk : k < 8) (r : Nat) (hr : r < 30) (hne : r ≠ 28) (pl me : Nat) (hpl : pl ≤ (R r).length) (hme : v 12 = nI me) (hme2 : me ≤ (R r).length) (ac : List (Nat × Nat)) (hac : acOK (R r).length ac) (hm : mH (F 7) (F 8) ac) (hn0 : F 4 k = 0 → ac.length = lvs (R (18 + k))) (hac13 : ac.length ≤ 13) : Met l yX10_uses wsX10_uses ({ frames := 2, cells := 0, slots := 0, locals := 47 } : Room) (va_Pc [.ref (am 0), .int (nI k), .int (nI r), .int (nI pl)] (MB dC dI aC am (v, R, F, G))) (va_Qi (fun (x : Int32) (u : MS) => ∃ M, (v, va_up (va_up R 28 M) r (useL R (F 4) (R r) pl k me ac).2, F, G) = u ∧ x = (useL R (F 4) (R r) pl k me ac).1) (MB dC dI aC am) (mA am)) 0 0 (mA am) := by
  refine Met.ofW (cc := cX10_uses) (maxL := 8) (ret := (some .int)) (by decide) rfl ?_
  intro p e s m args below meth c s₁ B hml hv
  obtain ⟨rfl, hK, S, Z, hZ, hP⟩ := hv
  have hx := B.exec
  have hb := B.bytes
  have hret := B.returns
  have hts := atoms_spec (ws := wsX10_uses) B.pre
  have hown : s.vm.findClass RX10 = some m.cls := findClass_of_methodNamed B.named
  have hlocks := B.notSynchronized
  dsimp only at hZ hP
  have lk0 := hts (.fieldLink RX10 19 "LeafTreesModel" "isNought" "[Z") (by decide +kernel)
  have lk1 := hts (.fieldLink RX10 16 "LeafTreesModel" "size" "[I") (by decide +kernel)
  have lk2 := hts (.fieldLink RX10 117 "LeafTreesModel" "matchEnd" "I") (by decide +kernel)
  have lk3 := hts (.fieldLink RX10 13 "LeafTreesModel" "symbol" "[I") (by decide +kernel)
  have lk4 := hts (.fieldLink RX10 30 "LeafTreesModel" "matchFrom" "[I") (by decide +kernel)
  have lk5 := hts (.fieldLink RX10 33 "LeafTreesModel" "matchTo" "[I") (by decide +kernel)
  have hin10 : ∀ w ∈ u_ws RX10 TX10 22, w ∈ wsX10_uses := by decide +kernel
  have hS : va_S (mA am) s.heap s.heap [] := va_S.rf
  have hl := lv_entry [.ref (am 0), .int (nI k), .int (nI r), .int (nI pl)] (n := 8) (Nat.le_of_ble_eq_true rfl)
  rw [lg_entry_eq]
  generalize (lg_sl [.ref (am 0), .int (nI k), .int (nI r), .int (nI pl)] ++ List.replicate (8 - (lg_sl [.ref (am 0), .int (nI k), .int (nI r), .int (nI pl)]).length) Slot.unset).toArray = ls at hl ⊢
  have hl : lv_has ls 8 [(0, .ref (am 0)), (1, .int (nI k)), (2, .int (nI r)), (3, .int (nI pl))] := hl
  refine nx_Q (R := ({ frames := 2, cells := 0, slots := 0, locals := 47 } : Room)) (fun Q hQ => ?_)
  skip
  have hl1 := (hZ (18 + k) (by omega)).1
  have hl2 := (hZ r hr).1
  refine lv_aload_n hx hb dX10_uses_0 rfl (lv_at hl 0 rfl) ?_
  refine va_get (D := (dC, dI)) (ci := 10) (C := RX10) (T := TX10) (N := 22) hx hb hts hin10 hown hK hP 0 rfl rfl 5 (by decide) lk0 (fun _ h9 => h9) rfl dX10_uses_1 ?_
  refine lv_iload_n hx hb dX10_uses_4 rfl (lv_at hl 1 rfl) ?_
  refine nx_zald hx hb hK hP 4 2 rfl rfl (i := k) (by omega) (by decide) dX10_uses_5 ?_
  refine nx_ti (y := F 4 k) (rfl) ?_
  refine lv_if_eq (tgt := 18) hx hb dX10_uses_6 (by decide) (fun c_6 => ?_) (fun c_6 => ?_)
  · skip
    refine lv_bipush (v := nI 18) hx hb dX10_uses_18 (by decide) ?_
    refine lv_iload_n hx hb dX10_uses_20 rfl (lv_at hl 1 rfl) ?_
    refine lv_iadd hx hb dX10_uses_21 ?_
    refine nx_ti (y := nI (18 + k)) (nI_add _ _) ?_
    refine lv_istore (lv' := [(4, .int (nI (18 + k))), (0, .ref (am 0)), (1, .int (nI k)), (2, .int (nI r)), (3, .int (nI pl))]) hx hb dX10_uses_22 hl (by decide) rfl (fun ls hl => ?_)
    refine lv_aload_n hx hb dX10_uses_24 rfl (lv_at hl 1 rfl) ?_
    refine va_get (D := (dC, dI)) (ci := 10) (C := RX10) (T := TX10) (N := 22) hx hb hts hin10 hown hK hP 0 rfl rfl 3 (by decide) lk1 (fun _ h9 => h9) rfl dX10_uses_25 ?_
    refine lv_bipush (v := nI 28) hx hb dX10_uses_28 (by decide) ?_
    refine lv_iconst (v := nI 0) hx hb dX10_uses_30 (by decide) ?_
    refine nx_iast hx hb hK hP (wsM_D hI) hS 3 0 rfl rfl (i := 28) (by omega) (by decide) dX10_uses_31 (fun H locs hP hS => ?_)
    have hP : va_P (dC, dI) vwCl (wsM aC am v S (upd Z 28 (nI 0)) F G) H := hP
    have hZ := mOK_clear hZ 28
    refine lv_aload_n hx hb dX10_uses_32 rfl (lv_at hl 1 rfl) ?_
    refine lv_bipush (v := nI 28) hx hb dX10_uses_33 (by decide) ?_
    refine lv_iload_n hx hb dX10_uses_35 rfl (lv_at hl 3 rfl) ?_
    refine lv_iconst (v := nI 0) hx hb dX10_uses_36 (by decide) ?_
    refine lv_iload_n hx hb dX10_uses_37 rfl (lv_at hl 4 rfl) ?_
    refine mc_i (As := [.int (nI 28), .int (nI r), .int (nI 0), .int (nI pl)]) (rest := []) ⟨hx, hb, hml, hown, hts⟩ (k_adds l dC dI aC am hI v (va_up R 28 []) F G 28 (by decide) r hr hne 0 pl (by omega) (by rw [upn hne]; omega)) (cwV 4 hts gX10_uses_X10_adds rfl rfl rfl (by decide +kernel) ⟨Nat.le_of_ble_eq_true rfl, Nat.le_of_ble_eq_true rfl⟩) hK hZ hP hS rfl hl.1 rfl (Nat.le_of_ble_eq_true rfl) dX10_uses_38 ⟨Nat.le_of_ble_eq_true rfl, Nat.le_of_ble_eq_true rfl⟩ (fun x_38 v1 R1 F1 G1 S Z H locs h_38 hZ hP hS => ?_)
    obtain ⟨M_2, hu_38, hx_38, hM_38⟩ := adds_u (R0 := R) (M := []) (to := 28) (fr := r) hne h_38
    subst hx_38
    cases hu_38
    refine nx_ti (y := bI ((preF (R r) pl ac (gD (R (18 + k))) 0).length ≤ 60)) (bI_iff (by rw [preF, exF, List.append_nil, slc_len (by omega)]; show 0 + _ ≤ 60 ↔ _; omega)) ?_
    refine lv_istore (lv' := [(5, .int (bI ((preF (R r) pl ac (gD (R (18 + k))) 0).length ≤ 60))), (4, .int (nI (18 + k))), (0, .ref (am 0)), (1, .int (nI k)), (2, .int (nI r)), (3, .int (nI pl))]) hx hb dX10_uses_41 hl (by decide) rfl (fun ls hl => ?_)
    refine lv_iconst (v := nI 0) hx hb dX10_uses_43 (by decide) ?_
    refine lv_istore (lv' := [(6, .int (nI 0)), (5, .int (bI ((preF (R r) pl ac (gD (R (18 + k))) 0).length ≤ 60))), (4, .int (nI (18 + k))), (0, .ref (am 0)), (1, .int (nI k)), (2, .int (nI r)), (3, .int (nI pl))]) hx hb dX10_uses_44 hl (by decide) rfl (fun ls hl => ?_)
    refine lv_iconst (v := nI 0) hx hb dX10_uses_46 (by decide) ?_
    refine lv_istore (lv' := [(7, .int (nI 0)), (6, .int (nI 0)), (5, .int (bI ((preF (R r) pl ac (gD (R (18 + k))) 0).length ≤ 60))), (4, .int (nI (18 + k))), (0, .ref (am 0)), (1, .int (nI k)), (2, .int (nI r)), (3, .int (nI pl))]) hx hb dX10_uses_47 hl (by decide) rfl (fun ls hl => ?_)
    have L49 : ∀ (fuel49 : Nat) (i : Nat) (M : List Int32) (S Z : Nat → Int32) (H : Heap) (locs : List Loc) (ls : Array Slot), (i ≤ (R (18 + k)).length) → ((preF (R r) pl ac (gD (R (18 + k))) i).length ≤ 60 → M = (preF (R r) pl ac (gD (R (18 + k))) i)) → mOK S Z (va_up R 28 M) → va_P (dC, dI) vwCl (wsM aC am v S Z F G) H → va_S (mA am) s.heap H locs → 60 - i < fuel49 → lv_has ls 8 [(0, .ref (am 0)), (2, .int (nI r)), (4, .int (nI (18 + k))), (5, .int (bI ((preF (R r) pl ac (gD (R (18 + k))) i).length ≤ 60))), (6, .int (nI (cF (gD (R (18 + k))) i))), (7, .int (nI i))] → W p l e ({ frames := 2, cells := 0, slots := 0, locals := 47 } : Room) s m ([.ref (am 0), .int (nI k), .int (nI r), .int (nI pl)] : List Value).toArray below meth c H locs 0 0 Q (F0 m 49 ls []) := by
      intro fuel49
      induction fuel49 with
      | zero => intro i M S Z H locs ls hi hM hZ hP hS hf49 hl; exact absurd hf49 (Nat.not_lt_zero _)
      | succ fuel49 ih49 =>
        intro i M S Z H locs ls hi hM hZ hP hS hf49 hl
        refine lv_iload hx hb dX10_uses_49 (lv_at hl 5 rfl) ?_
        refine lv_aload_n hx hb dX10_uses_51 rfl (lv_at hl 0 rfl) ?_
        refine va_get (D := (dC, dI)) (ci := 10) (C := RX10) (T := TX10) (N := 22) hx hb hts hin10 hown hK hP 0 rfl rfl 3 (by decide) lk1 (fun _ h9 => h9) rfl dX10_uses_52 ?_
        refine lv_iload hx hb dX10_uses_55 (lv_at hl 2 rfl) ?_
        refine nx_iald hx hb hK hP 3 0 rfl rfl (i := 18 + k) (by omega) (by decide) dX10_uses_57 ?_
        refine nx_ti (y := nI ((va_up R 28 M) (18 + k)).length) ((hZ (18 + k) (by omega)).2.1) ?_
        refine nx_ti (y := nI (R (18 + k)).length) (by rw [upn (show 18 + k ≠ 28 by omega)]) ?_
        refine nx_icmp_ge (a := i) (b := (R (18 + k)).length) (tgt := 134) hx hb dX10_uses_58 (by decide) (by omega) (by omega) (fun c_58 => ?_) (fun c_58 => ?_)
        · skip
          refine lv_iload hx hb dX10_uses_134 (lv_at hl 3 rfl) ?_
          refine nx_bz (tgt := 163) hx hb dX10_uses_136 (by decide) (fun c_136 => ?_) (fun c_136 => ?_)
          · skip
            refine lv_iconst (v := nI 0) hx hb dX10_uses_163 (by decide) ?_
            refine lv_istore (lv' := [(5, .int (nI 0)), (0, .ref (am 0)), (2, .int (nI r)), (4, .int (nI (18 + k))), (6, .int (nI (cF (gD (R (18 + k))) i))), (7, .int (nI i))]) hx hb dX10_uses_164 hl (by decide) rfl (fun ls hl => ?_)
            refine lv_iload hx hb dX10_uses_166 (lv_at hl 0 rfl) ?_
            refine nx_if_ne (tgt := 174) hx hb dX10_uses_168 (by decide) (by omega) (fun c_168 => ?_) (fun c_168 => ?_)
            · skip
              exact absurd rfl c_168
            · skip
              refine lv_bipush (v := (-5)) hx hb dX10_uses_171 (by decide) ?_
              subst hQ
              exact W.iret (v := (-5)) hx hb hret (fun tq htq hWq => ⟨⟨_, (v, va_up R 28 M, F, G), rfl, ⟨_, by rw [useL, if_neg (fun h => h c_6), if_neg (by have := preF_mono (t := R r) (p := pl) (ac := ac) (g := gD (R (18 + k))) i ((R (18 + k)).length - i); rw [show i + ((R (18 + k)).length - i) = (R (18 + k)).length by omega] at this; rw [rplL, List.length_append]; omega), up_back hne], by rw [useL, if_neg (fun h => h c_6), if_neg (by have := preF_mono (t := R r) (p := pl) (ac := ac) (g := gD (R (18 + k))) i ((R (18 + k)).length - i); rw [show i + ((R (18 + k)).length - i) = (R (18 + k)).length by omega] at this; rw [rplL, List.length_append]; omega)]⟩, va_K.moved hWq.alike hK, _, _, hZ, by rw [htq]; exact hP⟩, hS.F htq⟩) hS.2.2 dX10_uses_173
          · skip
            have hMM := hM c_136
            have hii : i = (R (18 + k)).length := by omega
            have hM60 : (preF (R r) pl ac (gD (R (18 + k))) i).length ≤ 60 := c_136
            refine lv_aload_n hx hb dX10_uses_139 rfl (lv_at hl 0 rfl) ?_
            refine lv_bipush (v := nI 28) hx hb dX10_uses_140 (by decide) ?_
            refine lv_iload_n hx hb dX10_uses_142 rfl (lv_at hl 1 rfl) ?_
            refine lv_aload_n hx hb dX10_uses_143 rfl (lv_at hl 0 rfl) ?_
            refine va_get (D := (dC, dI)) (ci := 10) (C := RX10) (T := TX10) (N := 22) hx hb hts hin10 hown hK hP 0 rfl rfl 12 (by decide) lk2 (fun _ h9 => h9) rfl dX10_uses_144 ?_
            refine nx_ti (y := nI me) (hme) ?_
            refine lv_aload_n hx hb dX10_uses_147 rfl (lv_at hl 0 rfl) ?_
            refine va_get (D := (dC, dI)) (ci := 10) (C := RX10) (T := TX10) (N := 22) hx hb hts hin10 hown hK hP 0 rfl rfl 3 (by decide) lk1 (fun _ h9 => h9) rfl dX10_uses_148 ?_
            refine lv_iload_n hx hb dX10_uses_151 rfl (lv_at hl 1 rfl) ?_
            refine nx_iald hx hb hK hP 3 0 rfl rfl (i := r) (by omega) (by decide) dX10_uses_152 ?_
            refine nx_ti (y := nI ((va_up R 28 M) r).length) ((hZ r (by omega)).2.1) ?_
            refine nx_ti (y := nI (R r).length) (by rw [upn hne]) ?_
            refine mc_i (As := [.int (nI 28), .int (nI r), .int (nI me), .int (nI (R r).length)]) (rest := []) ⟨hx, hb, hml, hown, hts⟩ (k_adds l dC dI aC am hI v (va_up R 28 M) F G 28 (by decide) r hr hne me (R r).length (by omega) (by rw [upn hne]; omega)) (cwV 4 hts gX10_uses_X10_adds rfl rfl rfl (by decide +kernel) ⟨Nat.le_of_ble_eq_true rfl, Nat.le_of_ble_eq_true rfl⟩) hK hZ hP hS rfl hl.1 rfl (Nat.le_of_ble_eq_true rfl) dX10_uses_153 ⟨Nat.le_of_ble_eq_true rfl, Nat.le_of_ble_eq_true rfl⟩ (fun x_153 v3 R3 F3 G3 S Z H locs h_153 hZ hP hS => ?_)
            obtain ⟨M_4, hu_153, hx_153, hM_153⟩ := adds_u (R0 := R) (M := M) (to := 28) (fr := r) hne h_153
            subst hx_153
            cases hu_153
            refine nx_bz (tgt := 163) hx hb dX10_uses_156 (by decide) (fun c_156 => ?_) (fun c_156 => ?_)
            · skip
              refine lv_iconst (v := nI 0) hx hb dX10_uses_163 (by decide) ?_
              refine lv_istore (lv' := [(5, .int (nI 0)), (0, .ref (am 0)), (2, .int (nI r)), (4, .int (nI (18 + k))), (6, .int (nI (cF (gD (R (18 + k))) i))), (7, .int (nI i))]) hx hb dX10_uses_164 hl (by decide) rfl (fun ls hl => ?_)
              refine lv_iload hx hb dX10_uses_166 (lv_at hl 0 rfl) ?_
              refine nx_if_ne (tgt := 174) hx hb dX10_uses_168 (by decide) (by omega) (fun c_168 => ?_) (fun c_168 => ?_)
              · skip
                exact absurd rfl c_168
              · skip
                refine lv_bipush (v := (-5)) hx hb dX10_uses_171 (by decide) ?_
                subst hQ
                exact W.iret (v := (-5)) hx hb hret (fun tq htq hWq => ⟨⟨_, (v, va_up R 28 M_4, F, G), rfl, ⟨_, by rw [useL, if_neg (fun h => h c_6), if_neg (by rw [rplL, List.length_append, ← hii, slc_len (Nat.le_refl _), ← hMM]; exact c_156), up_back hne], by rw [useL, if_neg (fun h => h c_6), if_neg (by rw [rplL, List.length_append, ← hii, slc_len (Nat.le_refl _), ← hMM]; exact c_156)]⟩, va_K.moved hWq.alike hK, _, _, hZ, by rw [htq]; exact hP⟩, hS.F htq⟩) hS.2.2 dX10_uses_173
            · skip
              refine lv_iconst (v := nI 1) hx hb dX10_uses_159 (by decide) ?_
              refine lv_goto (tgt := 164) hx hb dX10_uses_160 (by decide) ?_
              refine lv_istore (lv' := [(5, .int (nI 1)), (0, .ref (am 0)), (2, .int (nI r)), (4, .int (nI (18 + k))), (6, .int (nI (cF (gD (R (18 + k))) i))), (7, .int (nI i))]) hx hb dX10_uses_164 hl (by decide) rfl (fun ls hl => ?_)
              refine lv_iload hx hb dX10_uses_166 (lv_at hl 0 rfl) ?_
              refine nx_if_ne (tgt := 174) hx hb dX10_uses_168 (by decide) (by omega) (fun c_168 => ?_) (fun c_168 => ?_)
              · skip
                refine lv_aload_n hx hb dX10_uses_174 rfl (lv_at hl 1 rfl) ?_
                refine lv_bipush (v := nI 28) hx hb dX10_uses_175 (by decide) ?_
                refine lv_iload_n hx hb dX10_uses_177 rfl (lv_at hl 2 rfl) ?_
                refine mc_v (As := [.int (nI 28), .int (nI r)]) (rest := []) ⟨hx, hb, hml, hown, hts⟩ (k_copy l dC dI aC am hI v (va_up R 28 M_4) F G 28 (by decide) r hr (Ne.symm hne)) (cwV 2 hts gX10_uses_X10_copy rfl rfl rfl (by decide +kernel) ⟨Nat.le_of_ble_eq_true rfl, Nat.le_of_ble_eq_true rfl⟩) hK hZ hP hS rfl hl.1 rfl (Nat.le_of_ble_eq_true rfl) dX10_uses_178 ⟨Nat.le_of_ble_eq_true rfl, Nat.le_of_ble_eq_true rfl⟩ (fun v5 R5 F5 G5 S Z H locs h_178 hZ hP hS => ?_)
                cases h_178
                refine lv_iconst (v := nI 1) hx hb dX10_uses_181 (by decide) ?_
                subst hQ
                exact W.iret (v := nI 1) hx hb hret (fun tq htq hWq => ⟨⟨_, (v, va_up (va_up R 28 M_4) r ((va_up R 28 M_4) 28), F, G), rfl, ⟨_, by rw [va_up_self, hM_153 c_156, useL, if_neg (fun h => h c_6), if_pos (by rw [rplL, List.length_append, ← hii, slc_len (Nat.le_refl _), ← hMM]; exact c_156), hMM, hii]; rfl, by rw [useL, if_neg (fun h => h c_6), if_pos (by rw [rplL, List.length_append, ← hii, slc_len (Nat.le_refl _), ← hMM]; exact c_156)]; rfl⟩, va_K.moved hWq.alike hK, _, _, hZ, by rw [htq]; exact hP⟩, hS.F htq⟩) hS.2.2 dX10_uses_182
              · skip
                exact absurd c_168 (by decide)
        · skip
          refine lv_iload hx hb dX10_uses_61 (lv_at hl 3 rfl) ?_
          refine nx_bz (tgt := 134) hx hb dX10_uses_63 (by decide) (fun c_63 => ?_) (fun c_63 => ?_)
          · skip
            refine lv_iload hx hb dX10_uses_134 (lv_at hl 3 rfl) ?_
            refine nx_bz (tgt := 163) hx hb dX10_uses_136 (by decide) (fun c_136 => ?_) (fun c_136 => ?_)
            · skip
              refine lv_iconst (v := nI 0) hx hb dX10_uses_163 (by decide) ?_
              refine lv_istore (lv' := [(5, .int (nI 0)), (0, .ref (am 0)), (2, .int (nI r)), (4, .int (nI (18 + k))), (6, .int (nI (cF (gD (R (18 + k))) i))), (7, .int (nI i))]) hx hb dX10_uses_164 hl (by decide) rfl (fun ls hl => ?_)
              refine lv_iload hx hb dX10_uses_166 (lv_at hl 0 rfl) ?_
              refine nx_if_ne (tgt := 174) hx hb dX10_uses_168 (by decide) (by omega) (fun c_168 => ?_) (fun c_168 => ?_)
              · skip
                exact absurd rfl c_168
              · skip
                refine lv_bipush (v := (-5)) hx hb dX10_uses_171 (by decide) ?_
                subst hQ
                exact W.iret (v := (-5)) hx hb hret (fun tq htq hWq => ⟨⟨_, (v, va_up R 28 M, F, G), rfl, ⟨_, by rw [useL, if_neg (fun h => h c_6), if_neg (by have := preF_mono (t := R r) (p := pl) (ac := ac) (g := gD (R (18 + k))) i ((R (18 + k)).length - i); rw [show i + ((R (18 + k)).length - i) = (R (18 + k)).length by omega] at this; rw [rplL, List.length_append]; omega), up_back hne], by rw [useL, if_neg (fun h => h c_6), if_neg (by have := preF_mono (t := R r) (p := pl) (ac := ac) (g := gD (R (18 + k))) i ((R (18 + k)).length - i); rw [show i + ((R (18 + k)).length - i) = (R (18 + k)).length by omega] at this; rw [rplL, List.length_append]; omega)]⟩, va_K.moved hWq.alike hK, _, _, hZ, by rw [htq]; exact hP⟩, hS.F htq⟩) hS.2.2 dX10_uses_173
            · skip
              exact absurd c_136 c_63
          · skip
            refine lv_aload_n hx hb dX10_uses_66 rfl (lv_at hl 0 rfl) ?_
            refine va_get (D := (dC, dI)) (ci := 10) (C := RX10) (T := TX10) (N := 22) hx hb hts hin10 hown hK hP 0 rfl rfl 2 (by decide) lk3 (fun _ h9 => h9) rfl dX10_uses_67 ?_
            refine lv_bipush (v := nI 60) hx hb dX10_uses_70 (by decide) ?_
            refine lv_iload hx hb dX10_uses_72 (lv_at hl 2 rfl) ?_
            refine lv_imul hx hb dX10_uses_74 ?_
            refine nx_ti (y := nI (60 * (18 + k))) (pk_mul _ _) ?_
            refine lv_iload hx hb dX10_uses_75 (lv_at hl 5 rfl) ?_
            refine lv_iadd hx hb dX10_uses_77 ?_
            refine nx_ti (y := nI (60 * (18 + k) + i)) (nI_add _ _) ?_
            refine nx_iald hx hb hK hP 2 0 rfl rfl (i := 60 * (18 + k) + i) (by omega) (by decide) dX10_uses_78 ?_
            refine nx_ti (y := gD ((va_up R 28 M) (18 + k)) i) ((hZ (18 + k) (by omega)).2.2 i (by rw [upn (show 18 + k ≠ 28 by omega)]; omega)) ?_
            refine nx_ti (y := gD (R (18 + k)) i) (by rw [upn (show 18 + k ≠ 28 by omega)]) ?_
            refine lv_iconst (v := (-1)) hx hb dX10_uses_79 (by decide) ?_
            refine lv_icmp_ne (tgt := 112) hx hb dX10_uses_80 (by decide) (fun c_80 => ?_) (fun c_80 => ?_)
            · skip
              refine lv_aload_n hx hb dX10_uses_112 rfl (lv_at hl 0 rfl) ?_
              refine lv_bipush (v := nI 28) hx hb dX10_uses_113 (by decide) ?_
              refine lv_iload hx hb dX10_uses_115 (lv_at hl 2 rfl) ?_
              refine lv_iload hx hb dX10_uses_117 (lv_at hl 5 rfl) ?_
              refine lv_iload hx hb dX10_uses_119 (lv_at hl 5 rfl) ?_
              refine lv_iconst (v := nI 1) hx hb dX10_uses_121 (by decide) ?_
              refine lv_iadd hx hb dX10_uses_122 ?_
              refine nx_ti (y := nI (i + 1)) (nI_add _ _) ?_
              refine mc_i (As := [.int (nI 28), .int (nI (18 + k)), .int (nI i), .int (nI (i + 1))]) (rest := []) ⟨hx, hb, hml, hown, hts⟩ (k_adds l dC dI aC am hI v (va_up R 28 M) F G 28 (by decide) (18 + k) (by omega) (by omega) i (i + 1) (by omega) (by rw [upn (show 18 + k ≠ 28 by omega)]; omega)) (cwV 4 hts gX10_uses_X10_adds rfl rfl rfl (by decide +kernel) ⟨Nat.le_of_ble_eq_true rfl, Nat.le_of_ble_eq_true rfl⟩) hK hZ hP hS rfl hl.1 rfl (Nat.le_of_ble_eq_true rfl) dX10_uses_123 ⟨Nat.le_of_ble_eq_true rfl, Nat.le_of_ble_eq_true rfl⟩ (fun x_123 v6 R6 F6 G6 S Z H locs h_123 hZ hP hS => ?_)
              obtain ⟨M_7, hu_123, hx_123, hM_123⟩ := adds_u (R0 := R) (M := M) (to := 28) (fr := 18 + k) (show 18 + k ≠ 28 by omega) h_123
              subst hx_123
              cases hu_123
              refine nx_ti (y := bI ((preF (R r) pl ac (gD (R (18 + k))) (i + 1)).length ≤ 60)) (bI_iff (by rw [preF_f c_80, List.length_append, hM c_63, Nat.add_sub_cancel_left]; rfl)) ?_
              refine lv_istore (lv' := [(5, .int (bI ((preF (R r) pl ac (gD (R (18 + k))) (i + 1)).length ≤ 60))), (0, .ref (am 0)), (2, .int (nI r)), (4, .int (nI (18 + k))), (6, .int (nI (cF (gD (R (18 + k))) i))), (7, .int (nI i))]) hx hb dX10_uses_126 hl (by decide) rfl (fun ls hl => ?_)
              refine lv_iinc (v := nI (i + 1)) (lv' := [(7, .int (nI (i + 1))), (5, .int (bI ((preF (R r) pl ac (gD (R (18 + k))) (i + 1)).length ≤ 60))), (0, .ref (am 0)), (2, .int (nI r)), (4, .int (nI (18 + k))), (6, .int (nI (cF (gD (R (18 + k))) i)))]) hx hb dX10_uses_128 hl (k := 5) rfl (nI_add _ _) (by decide) rfl (fun ls hl => ?_)
              refine lv_goto (tgt := 49) hx hb dX10_uses_131 (by decide) ?_
              exact ih49 (i + 1) M_7 _ _ _ _ _ (by omega) (fun h => by rw [preF_f c_80, List.length_append] at h; rw [hM_123 (by rw [hM c_63, Nat.add_sub_cancel_left]; exact h), hM c_63, preF_f c_80, slc_one (by omega)]) hZ hP hS (by omega) (by rw [cF_f c_80]; exact lv_sub hl [2, 3, 4, 1, 5, 0] rfl)
            · skip
              have hlt : cF (gD (R (18 + k))) i < ac.length := by have h1 : cF (gD (R (18 + k))) (i + 1) ≤ lvs (R (18 + k)) := cF_mono _ (by omega); rw [cF_t c_80, ← hn0 c_6] at h1; exact h1
              have hbb := acOK_at hac hlt
              refine lv_aload_n hx hb dX10_uses_83 rfl (lv_at hl 0 rfl) ?_
              refine lv_bipush (v := nI 28) hx hb dX10_uses_84 (by decide) ?_
              refine lv_iload_n hx hb dX10_uses_86 rfl (lv_at hl 1 rfl) ?_
              refine lv_aload_n hx hb dX10_uses_87 rfl (lv_at hl 0 rfl) ?_
              refine va_get (D := (dC, dI)) (ci := 10) (C := RX10) (T := TX10) (N := 22) hx hb hts hin10 hown hK hP 0 rfl rfl 9 (by decide) lk4 (fun _ h9 => h9) rfl dX10_uses_88 ?_
              refine lv_iload hx hb dX10_uses_91 (lv_at hl 4 rfl) ?_
              refine nx_iald hx hb hK hP 7 0 rfl rfl (i := cF (gD (R (18 + k))) i) (by omega) (by decide) dX10_uses_93 ?_
              refine nx_ti (y := nI (aD ac (cF (gD (R (18 + k))) i)).1) ((hm _ hlt).1) ?_
              refine lv_aload_n hx hb dX10_uses_94 rfl (lv_at hl 0 rfl) ?_
              refine va_get (D := (dC, dI)) (ci := 10) (C := RX10) (T := TX10) (N := 22) hx hb hts hin10 hown hK hP 0 rfl rfl 10 (by decide) lk5 (fun _ h9 => h9) rfl dX10_uses_95 ?_
              refine lv_iload hx hb dX10_uses_98 (lv_at hl 4 rfl) ?_
              refine nx_iald hx hb hK hP 8 0 rfl rfl (i := cF (gD (R (18 + k))) i) (by omega) (by decide) dX10_uses_100 ?_
              refine nx_ti (y := nI (aD ac (cF (gD (R (18 + k))) i)).2) ((hm _ hlt).2) ?_
              refine mc_i (As := [.int (nI 28), .int (nI r), .int (nI (aD ac (cF (gD (R (18 + k))) i)).1), .int (nI (aD ac (cF (gD (R (18 + k))) i)).2)]) (rest := []) ⟨hx, hb, hml, hown, hts⟩ (k_adds l dC dI aC am hI v (va_up R 28 M) F G 28 (by decide) r hr hne (aD ac (cF (gD (R (18 + k))) i)).1 (aD ac (cF (gD (R (18 + k))) i)).2 hbb.1 (by rw [upn hne]; exact hbb.2)) (cwV 4 hts gX10_uses_X10_adds rfl rfl rfl (by decide +kernel) ⟨Nat.le_of_ble_eq_true rfl, Nat.le_of_ble_eq_true rfl⟩) hK hZ hP hS rfl hl.1 rfl (Nat.le_of_ble_eq_true rfl) dX10_uses_101 ⟨Nat.le_of_ble_eq_true rfl, Nat.le_of_ble_eq_true rfl⟩ (fun x_101 v8 R8 F8 G8 S Z H locs h_101 hZ hP hS => ?_)
              obtain ⟨M_9, hu_101, hx_101, hM_101⟩ := adds_u (R0 := R) (M := M) (to := 28) (fr := r) hne h_101
              subst hx_101
              cases hu_101
              refine nx_ti (y := bI ((preF (R r) pl ac (gD (R (18 + k))) (i + 1)).length ≤ 60)) (bI_iff (by rw [preF_t c_80, List.length_append, slc_len hbb.2, hM c_63])) ?_
              refine lv_istore (lv' := [(5, .int (bI ((preF (R r) pl ac (gD (R (18 + k))) (i + 1)).length ≤ 60))), (0, .ref (am 0)), (2, .int (nI r)), (4, .int (nI (18 + k))), (6, .int (nI (cF (gD (R (18 + k))) i))), (7, .int (nI i))]) hx hb dX10_uses_104 hl (by decide) rfl (fun ls hl => ?_)
              refine lv_iinc (v := nI (cF (gD (R (18 + k))) i + 1)) (lv' := [(6, .int (nI (cF (gD (R (18 + k))) i + 1))), (5, .int (bI ((preF (R r) pl ac (gD (R (18 + k))) (i + 1)).length ≤ 60))), (0, .ref (am 0)), (2, .int (nI r)), (4, .int (nI (18 + k))), (7, .int (nI i))]) hx hb dX10_uses_106 hl (k := 4) rfl (nI_add _ _) (by decide) rfl (fun ls hl => ?_)
              refine lv_goto (tgt := 128) hx hb dX10_uses_109 (by decide) ?_
              refine lv_iinc (v := nI (i + 1)) (lv' := [(7, .int (nI (i + 1))), (6, .int (nI (cF (gD (R (18 + k))) i + 1))), (5, .int (bI ((preF (R r) pl ac (gD (R (18 + k))) (i + 1)).length ≤ 60))), (0, .ref (am 0)), (2, .int (nI r)), (4, .int (nI (18 + k)))]) hx hb dX10_uses_128 hl (k := 5) rfl (nI_add _ _) (by decide) rfl (fun ls hl => ?_)
              refine lv_goto (tgt := 49) hx hb dX10_uses_131 (by decide) ?_
              exact ih49 (i + 1) M_9 _ _ _ _ _ (by omega) (fun h => by rw [preF_t c_80, List.length_append, slc_len hbb.2] at h; rw [hM_101 (by rw [hM c_63]; exact h), hM c_63, preF_t c_80]) hZ hP hS (by omega) (by rw [cF_t c_80]; exact lv_sub hl [3, 4, 5, 2, 1, 0] rfl)
    exact L49 (60 - 0 + 1) 0 M_2 _ _ _ _ _ (by omega) (fun _ => by rw [hM_38 (by show 0 + _ ≤ 60; omega), preF, exF, List.append_nil]; rfl) hZ hP hS (Nat.lt_succ_self _) (lv_sub hl [4, 6, 3, 2, 1, 0] rfl)
  · skip
    refine lv_aload_n hx hb dX10_uses_9 rfl (lv_at hl 0 rfl) ?_
    refine va_get (D := (dC, dI)) (ci := 10) (C := RX10) (T := TX10) (N := 22) hx hb hts hin10 hown hK hP 0 rfl rfl 3 (by decide) lk1 (fun _ h9 => h9) rfl dX10_uses_10 ?_
    refine lv_iload_n hx hb dX10_uses_13 rfl (lv_at hl 2 rfl) ?_
    refine lv_iconst (v := nI 0) hx hb dX10_uses_14 (by decide) ?_
    refine nx_iast hx hb hK hP (wsM_D hI) hS 3 0 rfl rfl (i := r) (by omega) (by decide) dX10_uses_15 (fun H locs hP hS => ?_)
    have hP : va_P (dC, dI) vwCl (wsM aC am v S (upd Z r (nI 0)) F G) H := hP
    have hZ := mOK_clear hZ r
    refine lv_iconst (v := nI 2) hx hb dX10_uses_16 (by decide) ?_
    subst hQ
    exact W.iret (v := nI 2) hx hb hret (fun tq htq hWq => ⟨⟨_, (v, va_up R r [], F, G), rfl, ⟨R 28, by rw [useL, if_pos c_6, up_eta], by rw [useL, if_pos c_6]; rfl⟩, va_K.moved hWq.alike hK, _, _, hZ, by rw [htq]; exact hP⟩, hS.F htq⟩) hS.2.2 dX10_uses_17
