set_option maxHeartbeats 1000000 in
set_option maxRecDepth 100000 in
/-- step -/
theorem k_step (l : Launch) (dC : Nat → ClassId) (dI : Nat → Nat → Nat) (aC : Nat → ClassId) (am : Nat → Nat) (hI : mI am) (v : Nat → Int32) (R : Nat → List Int32) (F : Nat → Nat → Int32) (G : Nat → Nat → Int64) (A : Nat) (hE : vE A (F 1)) (n : Nat) (hn : v 4 = nI n) (hn8 : n ≤ 8) (hL : ∀ j, j < n → lvs (R (10 + j)) ≤ 13) (hQ0 : ∀ j, j < n → F 4 j = 0 → lvs (R (10 + j)) = lvs (R (18 + j))) (hV : ∀ r, r < 10 → vR A (R r)) (a : Int32) : Met l yX10_step wsX10_step ({ frames := 4, cells := 0, slots := 0, locals := 97 } : Room) (va_Pc [.ref (am 0), .int a] (MB dC dI aC am (v, R, F, G))) (va_Qi (fun (x : Int32) (u : MS) => ∃ a0 b c d R1, (va_up (va_up v 11 a0) 12 b, R1, va_up (va_up F 7 c) 8 d, G) = u ∧ (∀ k, k < 26 → R1 k = uStep (F 1) R n (F 4) a k) ∧ x = pStep (F 1) R n (F 4) a) (MB dC dI aC am) (mA am)) 0 0 (mA am) := by
  refine Met.ofW (cc := cX10_step) (maxL := 2) (ret := (some .int)) (by decide) rfl ?_
  intro p e s m args below meth c s₁ B hml hv
  obtain ⟨rfl, hK, S, Z, hZ, hP⟩ := hv
  have hx := B.exec
  have hb := B.bytes
  have hret := B.returns
  have hts := atoms_spec (ws := wsX10_step) B.pre
  have hown : s.vm.findClass RX10 = some m.cls := findClass_of_methodNamed B.named
  have hlocks := B.notSynchronized
  dsimp only at hZ hP
  have hS : va_S (mA am) s.heap s.heap [] := va_S.rf
  have hl := lv_entry [.ref (am 0), .int a] (n := 2) (Nat.le_of_ble_eq_true rfl)
  rw [lg_entry_eq]
  generalize (lg_sl [.ref (am 0), .int a] ++ List.replicate (2 - (lg_sl [.ref (am 0), .int a]).length) Slot.unset).toArray = ls at hl ⊢
  have hl : lv_has ls 2 [(0, .ref (am 0)), (1, .int a)] := hl
  refine nx_Q (R := ({ frames := 4, cells := 0, slots := 0, locals := 97 } : Room)) (fun Q hQ => ?_)
  skip
  refine lv_aload_n hx hb dX10_step_0 rfl (lv_at hl 0 rfl) ?_
  refine lv_iload_n hx hb dX10_step_1 rfl (lv_at hl 1 rfl) ?_
  refine mp_i (As := [.int a]) (rest := []) ⟨hx, hb, hml, hown, hts⟩ (k_isTreeRow l dC dI aC am v R F G A hE a hV) (cwV 1 hts gX10_step_X10_isTreeRow rfl rfl rfl (by decide +kernel) ⟨Nat.le_of_ble_eq_true rfl, Nat.le_of_ble_eq_true rfl⟩) hK hZ hP rfl hl.1 rfl (Nat.le_of_ble_eq_true rfl) dX10_step_2 ⟨Nat.le_of_ble_eq_true rfl, Nat.le_of_ble_eq_true rfl⟩ (fun x_2 h_2 => ?_)
  subst h_2
  refine nx_bz (tgt := 16) hx hb dX10_step_5 (by decide) (fun c_5 => ?_) (fun c_5 => ?_)
  · skip
    refine lv_bipush (v := (-2)) hx hb dX10_step_16 (by decide) ?_
    subst hQ
    exact W.iret (v := (-2)) hx hb hret (fun tq htq hWq => ⟨⟨_, (v, R, F, G), rfl, ⟨v 11, v 12, F 7, F 8, R, by rw [up_eta2, up_eta2], fun k _ => by rw [uStep, if_neg c_5], by rw [pStep, if_neg c_5]⟩, va_K.moved hWq.alike hK, _, _, hZ, by rw [htq]; exact hP⟩, hS.F htq⟩) hS.2.2 dX10_step_18
  · skip
    obtain ⟨r, hr, rfl⟩ := rIn_of c_5.1 (by decide)
    have hcr := nI_clamp (n := r) (by omega)
    refine lv_aload_n hx hb dX10_step_8 rfl (lv_at hl 0 rfl) ?_
    refine lv_iload_n hx hb dX10_step_9 rfl (lv_at hl 1 rfl) ?_
    refine mc_i (As := [.int (nI r)]) (rest := []) ⟨hx, hb, hml, hown, hts⟩ (k_steps l dC dI aC am hI v R F G A hE n hn hn8 hL hQ0 r (by omega) (by omega) (hV r hr)) (cwV 1 hts gX10_step_X10_steps rfl rfl rfl (by decide +kernel) ⟨Nat.le_of_ble_eq_true rfl, Nat.le_of_ble_eq_true rfl⟩) hK hZ hP hS rfl hl.1 rfl (Nat.le_of_ble_eq_true rfl) dX10_step_10 ⟨Nat.le_of_ble_eq_true rfl, Nat.le_of_ble_eq_true rfl⟩ (fun x_10 v1 R1 F1 G1 S Z H locs h_10 hZ hP hS => ?_)
    obtain ⟨la, lb, lc, ld, M0, hu10, hx10⟩ := h_10
    subst hx10
    refine lv_goto (tgt := 18) hx hb dX10_step_13 (by decide) ?_
    subst hQ
    exact W.iret (v := (stepL (F 1) R n (F 4) (R r)).1) hx hb hret (fun tq htq hWq => ⟨⟨_, (v1, R1, F1, G1), rfl, ⟨la, lb, lc, ld, _, hu10, fun k hk => by rw [uStep, if_pos c_5, hcr, up_swap (show 28 ≠ r by omega), upn (show k ≠ 28 by omega)], by rw [pStep, if_pos c_5, hcr]⟩, va_K.moved hWq.alike hK, _, _, hZ, by rw [htq]; exact hP⟩, hS.F htq⟩) hS.2.2 dX10_step_18

set_option maxHeartbeats 1000000 in
set_option maxRecDepth 100000 in
/-- normals -/
theorem k_normals (l : Launch) (dC : Nat → ClassId) (dI : Nat → Nat → Nat) (aC : Nat → ClassId) (am : Nat → Nat) (hI : mI am) (v : Nat → Int32) (R : Nat → List Int32) (F : Nat → Nat → Int32) (G : Nat → Nat → Int64) (A : Nat) (hE : vE A (F 1)) (n : Nat) (hn : v 4 = nI n) (hn8 : n ≤ 8) (hL : ∀ j, j < n → lvs (R (10 + j)) ≤ 13) (hQ0 : ∀ j, j < n → F 4 j = 0 → lvs (R (10 + j)) = lvs (R (18 + j))) (r : Nat) (hr : r < 30) (hr2 : 26 ≤ r) (hne : r ≠ 28) (hV : vR A (R r)) (hV2 : ∀ j, j < n → vR A (R (18 + j))) : Met l yX10_normals wsX10_normals ({ frames := 4, cells := 0, slots := 0, locals := 97 } : Room) (va_Pc [.ref (am 0), .int (nI r)] (MB dC dI aC am (v, R, F, G))) (va_Qi (fun (x : Int32) (u : MS) => ∃ a b c d M, (va_up (va_up v 11 a) 12 b, va_up (va_up R 28 M) r (nfL (F 1) R n (F 4) (R r)).2, va_up (va_up F 7 c) 8 d, G) = u ∧ x = (nfL (F 1) R n (F 4) (R r)).1) (MB dC dI aC am) (mA am)) 0 0 (mA am) := by
  refine Met.ofW (cc := cX10_normals) (maxL := 4) (ret := (some .int)) (by decide) rfl ?_
  intro p e s m args below meth c s₁ B hml hv
  obtain ⟨rfl, hK, S, Z, hZ, hP⟩ := hv
  have hx := B.exec
  have hb := B.bytes
  have hret := B.returns
  have hts := atoms_spec (ws := wsX10_normals) B.pre
  have hown : s.vm.findClass RX10 = some m.cls := findClass_of_methodNamed B.named
  have hlocks := B.notSynchronized
  dsimp only at hZ hP
  have hS : va_S (mA am) s.heap s.heap [] := va_S.rf
  have hl := lv_entry [.ref (am 0), .int (nI r)] (n := 4) (Nat.le_of_ble_eq_true rfl)
  rw [lg_entry_eq]
  generalize (lg_sl [.ref (am 0), .int (nI r)] ++ List.replicate (4 - (lg_sl [.ref (am 0), .int (nI r)]).length) Slot.unset).toArray = ls at hl ⊢
  have hl : lv_has ls 4 [(0, .ref (am 0)), (1, .int (nI r))] := hl
  refine nx_Q (R := ({ frames := 4, cells := 0, slots := 0, locals := 97 } : Room)) (fun Q hQ => ?_)
  skip
  refine lv_iconst (v := nI 0) hx hb dX10_normals_0 (by decide) ?_
  refine lv_istore_n (lv' := [(2, .int (nI 0)), (0, .ref (am 0)), (1, .int (nI r))]) hx hb dX10_normals_1 rfl hl (by decide) rfl (fun ls hl => ?_)
  have L2 : ∀ (fuel2 : Nat) (j : Nat) (t : List Int32) (M : List Int32) (wa : Int32) (wb : Int32) (wc : Nat → Int32) (wd : Nat → Int32) (S Z : Nat → Int32) (H : Heap) (locs : List Loc) (ls : Array Slot), (j ≤ 200) → (vR A t) → (nrmL (stepL (F 1) R n (F 4)) (201 - j) j t = nfL (F 1) R n (F 4) (R r)) → mOK S Z (va_up (va_up R 28 M) r t) → va_P (dC, dI) vwCl (wsM aC am (va_up (va_up v 11 wa) 12 wb) S Z (va_up (va_up F 7 wc) 8 wd) G) H → va_S (mA am) s.heap H locs → 200 - j < fuel2 → lv_has ls 4 [(0, .ref (am 0)), (1, .int (nI r)), (2, .int (nI j))] → W p l e ({ frames := 4, cells := 0, slots := 0, locals := 97 } : Room) s m ([.ref (am 0), .int (nI r)] : List Value).toArray below meth c H locs 0 0 Q (F0 m 2 ls []) := by
    intro fuel2
    induction fuel2 with
    | zero => intro j t M wa wb wc wd S Z H locs ls hj hvt hres hZ hP hS hf2 hl; exact absurd hf2 (Nat.not_lt_zero _)
    | succ fuel2 ih2 =>
      intro j t M wa wb wc wd S Z H locs ls hj hvt hres hZ hP hS hf2 hl
      refine lv_aload_n hx hb dX10_normals_2 rfl (lv_at hl 0 rfl) ?_
      refine lv_iload_n hx hb dX10_normals_3 rfl (lv_at hl 1 rfl) ?_
      refine mc_i (As := [.int (nI r)]) (rest := []) ⟨hx, hb, hml, hown, hts⟩ (k_steps l dC dI aC am hI (va_up (va_up v 11 wa) 12 wb) (va_up (va_up R 28 M) r t) (va_up (va_up F 7 wc) 8 wd) G A hE n hn hn8 (fun k hk => by rw [upn (show 10 + k ≠ r by omega), upn (show 10 + k ≠ 28 by omega)]; exact hL k hk) (fun k hk h => by rw [upn (show 10 + k ≠ r by omega), upn (show 10 + k ≠ 28 by omega), upn (show 18 + k ≠ r by omega), upn (show 18 + k ≠ 28 by omega)]; exact hQ0 k hk h) r hr hne (by rw [va_up_self]; exact hvt)) (cwV 1 hts gX10_normals_X10_steps rfl rfl rfl (by decide +kernel) ⟨Nat.le_of_ble_eq_true rfl, Nat.le_of_ble_eq_true rfl⟩) hK hZ hP hS rfl hl.1 rfl (Nat.le_of_ble_eq_true rfl) dX10_normals_4 ⟨Nat.le_of_ble_eq_true rfl, Nat.le_of_ble_eq_true rfl⟩ (fun x_4 v1 R1 F1 G1 S Z H locs h_4 hZ hP hS => ?_)
      obtain ⟨la2, lb2, lc2, ld2, Mq2, hu_4, hx_4⟩ := h_4
      rw [va_up_self] at hu_4 hx_4
      have hsc : ∀ tt, stepL (F 1) (va_up (va_up R 28 M) r t) n (F 4) tt = stepL (F 1) R n (F 4) tt := fun tt => stepL_congr (fun k hk => by rw [upn (show 10 + k ≠ r by omega), upn (show 10 + k ≠ 28 by omega)]) (fun k hk => by rw [upn (show 18 + k ≠ r by omega), upn (show 18 + k ≠ 28 by omega)])
      have hx_4 : x_4 = (stepL (F 1) (va_up (va_up R 28 M) r t) n (F 4) t).1 := hx_4
      rw [hsc] at hx_4
      subst hx_4
      have hu_4 : (_, va_up (va_up (va_up (va_up R 28 M) r t) 28 Mq2) r (stepL (F 1) (va_up (va_up R 28 M) r t) n (F 4) t).2, _, _) = _ := hu_4
      rw [hsc, nrm_up hne] at hu_4
      have hP : va_P (dC, dI) vwCl (wsM aC am (va_up (va_up v 11 la2) 12 lb2) S Z (va_up (va_up F 7 lc2) 8 ld2) G) H := by cases hu_4; exact hP
      have hZ : mOK S Z (va_up (va_up R 28 Mq2) r (stepL (F 1) R n (F 4) t).2) := by cases hu_4; exact hZ
      refine lv_istore_n (lv' := [(3, .int (stepL (F 1) R n (F 4) t).1), (0, .ref (am 0)), (1, .int (nI r)), (2, .int (nI j))]) hx hb dX10_normals_7 rfl hl (by decide) rfl (fun ls hl => ?_)
      refine lv_iload_n hx hb dX10_normals_8 rfl (lv_at hl 0 rfl) ?_
      refine lv_if_ne (tgt := 14) hx hb dX10_normals_9 (by decide) (fun c_9 => ?_) (fun c_9 => ?_)
      · skip
        refine lv_iinc (v := nI (j + 1)) (lv' := [(2, .int (nI (j + 1))), (3, .int (stepL (F 1) R n (F 4) t).1), (0, .ref (am 0)), (1, .int (nI r))]) hx hb dX10_normals_14 hl (k := 3) rfl (nI_add _ _) (by decide) rfl (fun ls hl => ?_)
        refine lv_iload_n hx hb dX10_normals_17 rfl (lv_at hl 1 rfl) ?_
        refine lv_bipush (v := (-5)) hx hb dX10_normals_18 (by decide) ?_
        refine lv_icmp_eq (tgt := 30) hx hb dX10_normals_20 (by decide) (fun c_20 => ?_) (fun c_20 => ?_)
        · skip
          refine lv_bipush (v := (-5)) hx hb dX10_normals_30 (by decide) ?_
          subst hQ
          exact W.iret (v := (-5)) hx hb hret (fun tq htq hWq => ⟨⟨_, ((va_up (va_up v 11 la2) 12 lb2), va_up (va_up R 28 Mq2) r (stepL (F 1) R n (F 4) t).2, (va_up (va_up F 7 lc2) 8 ld2), G), rfl, ⟨_, _, _, _, _, by rw [← hres, nrm_step hj, if_neg c_9, if_pos (Or.inl c_20)], by rw [← hres, nrm_step hj, if_neg c_9, if_pos (Or.inl c_20)]⟩, va_K.moved hWq.alike hK, _, _, hZ, by rw [htq]; exact hP⟩, hS.F htq⟩) hS.2.2 dX10_normals_32
        · skip
          refine lv_iload_n hx hb dX10_normals_23 rfl (lv_at hl 0 rfl) ?_
          refine lv_sipush (v := nI 200) hx hb dX10_normals_24 (by decide) ?_
          refine nx_icmp_le (a := (j + 1)) (b := 200) (tgt := 33) hx hb dX10_normals_27 (by decide) (by omega) (by omega) (fun c_27 => ?_) (fun c_27 => ?_)
          · skip
            refine lv_iload_n hx hb dX10_normals_33 rfl (lv_at hl 1 rfl) ?_
            refine lv_iconst (v := nI 2) hx hb dX10_normals_34 (by decide) ?_
            refine lv_icmp_ne (tgt := 43) hx hb dX10_normals_35 (by decide) (fun c_35 => ?_) (fun c_35 => ?_)
            · skip
              have c_35 : ¬ (stepL (F 1) R n (F 4) t).1 = 2 := c_35
              refine lv_goto (tgt := 2) hx hb dX10_normals_43 (by decide) ?_
              exact ih2 (j + 1) (stepL (F 1) R n (F 4) t).2 Mq2 la2 lb2 lc2 ld2 _ _ _ _ _ (by omega) (vR_step hvt hV2) (by rw [nrm_step hj, if_neg c_9, if_neg (fun h => h.elim c_20 (by omega)), if_neg c_35] at hres; exact hres) hZ hP hS (by omega) (lv_sub hl [2, 3, 0] rfl)
            · skip
              have c_35 : (stepL (F 1) R n (F 4) t).1 = 2 := c_35
              refine lv_bipush (v := (-10)) hx hb dX10_normals_38 (by decide) ?_
              refine lv_iload_n hx hb dX10_normals_40 rfl (lv_at hl 0 rfl) ?_
              refine lv_isub hx hb dX10_normals_41 ?_
              subst hQ
              exact W.iret (v := (-10) - (nI (j + 1))) hx hb hret (fun tq htq hWq => ⟨⟨_, ((va_up (va_up v 11 la2) 12 lb2), va_up (va_up R 28 Mq2) r (stepL (F 1) R n (F 4) t).2, (va_up (va_up F 7 lc2) 8 ld2), G), rfl, ⟨_, _, _, _, _, by rw [← hres, nrm_step hj, if_neg c_9, if_neg (fun h => h.elim c_20 (by omega)), if_pos c_35], by rw [← hres, nrm_step hj, if_neg c_9, if_neg (fun h => h.elim c_20 (by omega)), if_pos c_35]⟩, va_K.moved hWq.alike hK, _, _, hZ, by rw [htq]; exact hP⟩, hS.F htq⟩) hS.2.2 dX10_normals_42
          · skip
            refine lv_bipush (v := (-5)) hx hb dX10_normals_30 (by decide) ?_
            subst hQ
            exact W.iret (v := (-5)) hx hb hret (fun tq htq hWq => ⟨⟨_, ((va_up (va_up v 11 la2) 12 lb2), va_up (va_up R 28 Mq2) r (stepL (F 1) R n (F 4) t).2, (va_up (va_up F 7 lc2) 8 ld2), G), rfl, ⟨_, _, _, _, _, by rw [← hres, nrm_step hj, if_neg c_9, if_pos (Or.inr c_27)], by rw [← hres, nrm_step hj, if_neg c_9, if_pos (Or.inr c_27)]⟩, va_K.moved hWq.alike hK, _, _, hZ, by rw [htq]; exact hP⟩, hS.F htq⟩) hS.2.2 dX10_normals_32
      · skip
        refine lv_iload_n hx hb dX10_normals_12 rfl (lv_at hl 3 rfl) ?_
        subst hQ
        exact W.iret (v := nI j) hx hb hret (fun tq htq hWq => ⟨⟨_, ((va_up (va_up v 11 la2) 12 lb2), va_up (va_up R 28 Mq2) r (stepL (F 1) R n (F 4) t).2, (va_up (va_up F 7 lc2) 8 ld2), G), rfl, ⟨_, _, _, _, _, by rw [← hres, nrm_step hj, if_pos c_9], by rw [← hres, nrm_step hj, if_pos c_9]⟩, va_K.moved hWq.alike hK, _, _, hZ, by rw [htq]; exact hP⟩, hS.F htq⟩) hS.2.2 dX10_normals_13
  exact L2 (200 - 0 + 1) 0 (R r) (R 28) (v 11) (v 12) (F 7) (F 8) _ _ _ _ _ (by omega) hV rfl (by rw [up_same2]; exact hZ) hP hS (Nat.lt_succ_self _) (lv_sub hl [1, 2, 0] rfl)
