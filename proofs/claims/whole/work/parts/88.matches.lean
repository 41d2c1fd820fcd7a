set_option maxHeartbeats 1000000 in
set_option maxRecDepth 100000 in
/-- matches -/
theorem k_matchesV (l : Launch) (dC : Nat → ClassId) (dI : Nat → Nat → Nat) (aC : Nat → ClassId) (am : Nat → Nat) (hI : mI am) (v : Nat → Int32) (R : Nat → List Int32) (F : Nat → Nat → Int32) (G : Nat → Nat → Int64) (A : Nat) (hE : vE A (F 1)) (hV : ∀ r, r < 10 → vR A (R r)) (n : Nat) (hn : v 4 = nI n) (hn8 : n ≤ 8) (hL : ∀ j, j < n → lvs (R (10 + j)) ≤ 13) (k a : Int32) : Met l yX10_matches wsX10_matches ({ frames := 4, cells := 0, slots := 0, locals := 96 } : Room) (va_Pc [.ref (am 0), .int k, .int a] (MB dC dI aC am (v, R, F, G))) (va_Qi (fun (x : Int32) (u : MS) => ∃ a0 b c d, (va_up (va_up v 11 a0) 12 b, R, va_up (va_up F 7 c) 8 d, G) = u ∧ x = pMatches (F 1) R n k a) (MB dC dI aC am) (mA am)) 0 0 (mA am) := by
  refine Met.ofW (cc := cX10_matches) (maxL := 3) (ret := (some .int)) (by decide) rfl ?_
  intro p e s m args below meth c s₁ B hml hv
  obtain ⟨rfl, hK, S, Z, hZ, hP⟩ := hv
  have hx := B.exec
  have hb := B.bytes
  have hret := B.returns
  have hts := atoms_spec (ws := wsX10_matches) B.pre
  have hown : s.vm.findClass RX10 = some m.cls := findClass_of_methodNamed B.named
  have hlocks := B.notSynchronized
  dsimp only at hZ hP
  have hS : va_S (mA am) s.heap s.heap [] := va_S.rf
  have hl := lv_entry [.ref (am 0), .int k, .int a] (n := 3) (Nat.le_of_ble_eq_true rfl)
  rw [lg_entry_eq]
  generalize (lg_sl [.ref (am 0), .int k, .int a] ++ List.replicate (3 - (lg_sl [.ref (am 0), .int k, .int a]).length) Slot.unset).toArray = ls at hl ⊢
  have hl : lv_has ls 3 [(0, .ref (am 0)), (1, .int k), (2, .int a)] := hl
  refine nx_Q (R := ({ frames := 4, cells := 0, slots := 0, locals := 96 } : Room)) (fun Q hQ => ?_)
  skip
  refine lv_aload_n hx hb dX10_matches_0 rfl (lv_at hl 0 rfl) ?_
  refine lv_iload_n hx hb dX10_matches_1 rfl (lv_at hl 1 rfl) ?_
  refine mp_i (As := [.int k]) (rest := []) ⟨hx, hb, hml, hown, hts⟩ (k_isRule l dC dI aC am v R F G n hn hn8 k) (cwV 1 hts gX10_matches_X10_isRule rfl rfl rfl (by decide +kernel) ⟨Nat.le_of_ble_eq_true rfl, Nat.le_of_ble_eq_true rfl⟩) hK hZ hP rfl hl.1 rfl (Nat.le_of_ble_eq_true rfl) dX10_matches_2 ⟨Nat.le_of_ble_eq_true rfl, Nat.le_of_ble_eq_true rfl⟩ (fun x_2 h_2 => ?_)
  subst h_2
  refine nx_bz (tgt := 25) hx hb dX10_matches_5 (by decide) (fun c_5 => ?_) (fun c_5 => ?_)
  · skip
    refine lv_bipush (v := (-2)) hx hb dX10_matches_25 (by decide) ?_
    subst hQ
    exact W.iret (v := (-2)) hx hb hret (fun tq htq hWq => ⟨⟨_, (v, R, F, G), rfl, ⟨v 11, v 12, F 7, F 8, by rw [up_eta2, up_eta2], by rw [pMatches, if_neg (fun h => c_5 h.1)]⟩, va_K.moved hWq.alike hK, _, _, hZ, by rw [htq]; exact hP⟩, hS.F htq⟩) hS.2.2 dX10_matches_27
  · skip
    refine lv_aload_n hx hb dX10_matches_8 rfl (lv_at hl 0 rfl) ?_
    refine lv_iload_n hx hb dX10_matches_9 rfl (lv_at hl 2 rfl) ?_
    refine mp_i (As := [.int a]) (rest := []) ⟨hx, hb, hml, hown, hts⟩ (k_isTreeRow l dC dI aC am v R F G A hE a hV) (cwV 1 hts gX10_matches_X10_isTreeRow rfl rfl rfl (by decide +kernel) ⟨Nat.le_of_ble_eq_true rfl, Nat.le_of_ble_eq_true rfl⟩) hK hZ hP rfl hl.1 rfl (Nat.le_of_ble_eq_true rfl) dX10_matches_10 ⟨Nat.le_of_ble_eq_true rfl, Nat.le_of_ble_eq_true rfl⟩ (fun x_10 h_10 => ?_)
    subst h_10
    refine nx_bz (tgt := 25) hx hb dX10_matches_13 (by decide) (fun c_13 => ?_) (fun c_13 => ?_)
    · skip
      refine lv_bipush (v := (-2)) hx hb dX10_matches_25 (by decide) ?_
      subst hQ
      exact W.iret (v := (-2)) hx hb hret (fun tq htq hWq => ⟨⟨_, (v, R, F, G), rfl, ⟨v 11, v 12, F 7, F 8, by rw [up_eta2, up_eta2], by rw [pMatches, if_neg (fun h => c_13 h.2)]⟩, va_K.moved hWq.alike hK, _, _, hZ, by rw [htq]; exact hP⟩, hS.F htq⟩) hS.2.2 dX10_matches_27
    · skip
      obtain ⟨j, hj, rfl⟩ := rIn_of c_5 (by omega)
      obtain ⟨r, hr, rfl⟩ := rIn_of c_13.1 (by decide)
      have hcj := nI_clamp (n := j) (by omega)
      have hcr := nI_clamp (n := r) (by omega)
      refine lv_aload_n hx hb dX10_matches_16 rfl (lv_at hl 0 rfl) ?_
      refine lv_iload_n hx hb dX10_matches_17 rfl (lv_at hl 1 rfl) ?_
      refine lv_iload_n hx hb dX10_matches_18 rfl (lv_at hl 2 rfl) ?_
      refine mc_i (As := [.int (nI j), .int (nI r)]) (rest := []) ⟨hx, hb, hml, hown, hts⟩ (k_firstPlace l dC dI aC am hI v R F G A hE j (by omega) r (by omega) (hV r (by omega)) (hL j hj)) (cwV 2 hts gX10_matches_X10_firstPlace rfl rfl rfl (by decide +kernel) ⟨Nat.le_of_ble_eq_true rfl, Nat.le_of_ble_eq_true rfl⟩) hK hZ hP hS rfl hl.1 rfl (Nat.le_of_ble_eq_true rfl) dX10_matches_19 ⟨Nat.le_of_ble_eq_true rfl, Nat.le_of_ble_eq_true rfl⟩ (fun x_19 v1 R1 F1 G1 S Z H locs h_19 hZ hP hS => ?_)
      obtain ⟨la, lb, lc, ld, hu, hxx⟩ := h_19
      subst hxx
      refine lv_goto (tgt := 27) hx hb dX10_matches_22 (by decide) ?_
      subst hQ
      exact W.iret (v := fpR (F 1) (R (10 + j)) (R r)) hx hb hret (fun tq htq hWq => ⟨⟨_, (v1, R1, F1, G1), rfl, ⟨la, lb, lc, ld, hu, by rw [pMatches, if_pos ⟨c_5, c_13⟩, hcj, hcr]⟩, va_K.moved hWq.alike hK, _, _, hZ, by rw [htq]; exact hP⟩, hS.F htq⟩) hS.2.2 dX10_matches_27
