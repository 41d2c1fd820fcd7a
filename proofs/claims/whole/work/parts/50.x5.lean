set_option maxHeartbeats 1000000 in
set_option maxRecDepth 100000 in
/-- Rewriter.firstPlace -/
theorem x_firstPlace (l : Launch) (dC : Nat → ClassId) (dI : Nat → Nat → Nat) (aC : Nat → ClassId) (ad cap : Nat → Nat) (hI : xI ad) (v : Nat → Int32) (R : Nat → List Int32) (F : Nat → Nat → Int32) (G : Nat → Nat → Int64) (A : Nat) (hE : vE A (F 0)) (hA : v 0 = nI A) (k : Nat) (hk : k < 8) (r : Nat) (hr : r < 31) (hV : vR A (R r)) (hT : isT (F 0) (R r)) : Met l yX2_firstPlace wsX2_firstPlace ({ frames := 2, cells := 0, slots := 0, locals := 47 } : Room) (va_Pc [.ref (ad 4), .ref (ad 1), .ref (ad (50 + k)), .ref (ad (58 + 2 * r))] (XB dC dI aC ad cap (v, R, F, G))) (va_Qi (fun (x : Int32) (u : MS) => ∃ f c1, (v, R, va_up (va_up F 2 f) 3 c1, G) = u ∧ x = fpR (F 0) (R (10 + k)) (R r)) (XB dC dI aC ad cap) (xA ad)) 0 0 (xA ad) := by
  refine Met.ofW (cc := cX2_firstPlace) (maxL := 5) (ret := (some .int)) (by decide) rfl ?_
  intro p e s m args below meth c s₁ B hml hv
  obtain ⟨rfl, hK, Z, S, hZ, hP⟩ := hv
  have hx := B.exec
  have hb := B.bytes
  have hret := B.returns
  have hts := atoms_spec (ws := wsX2_firstPlace) B.pre
  have hown : s.vm.findClass RX2 = some m.cls := findClass_of_methodNamed B.named
  have hlocks := B.notSynchronized
  dsimp only at hZ hP
  have lk0 := hts (.fieldLink RX2 12 "LeafTrees$Rewriter" "shape" "LLeafTrees$Shape;") (by decide +kernel)
  have lk1 := hts (.fieldLink RX2 39 "LeafTrees$Row" "length" "I") (by decide +kernel)
  have lk2 := hts (.fieldLink RX2 43 "LeafTrees$Rule" "left" "LLeafTrees$Row;") (by decide +kernel)
  have hin2 : ∀ w ∈ u_ws RX2 TX2 5, w ∈ wsX2_firstPlace := by decide +kernel
  have hin3 : ∀ w ∈ u_ws RX3 TX3 2, w ∈ wsX2_firstPlace := by decide +kernel
  have hin4 : ∀ w ∈ u_ws RX4 TX4 3, w ∈ wsX2_firstPlace := by decide +kernel
  have hS : va_S (xA ad) s.heap s.heap [] := va_S.rf
  have hl := lv_entry [.ref (ad 4), .ref (ad 1), .ref (ad (50 + k)), .ref (ad (58 + 2 * r))] (n := 5) (Nat.le_of_ble_eq_true rfl)
  rw [lg_entry_eq]
  generalize (lg_sl [.ref (ad 4), .ref (ad 1), .ref (ad (50 + k)), .ref (ad (58 + 2 * r))] ++ List.replicate (5 - (lg_sl [.ref (ad 4), .ref (ad 1), .ref (ad (50 + k)), .ref (ad (58 + 2 * r))]).length) Slot.unset).toArray = ls at hl ⊢
  have hl : lv_has ls 5 [(0, .ref (ad 4)), (1, .ref (ad 1)), (2, .ref (ad (50 + k))), (3, .ref (ad (58 + 2 * r)))] := hl
  refine nx_Q (R := ({ frames := 2, cells := 0, slots := 0, locals := 47 } : Room)) (fun Q hQ => ?_)
  have hl2 := (hZ r hr).1
  refine lv_aload_n hx hb dX2_firstPlace_0 rfl (lv_at hl 0 rfl) ?_
  refine va_get (D := (dC, dI)) (ci := 2) (C := RX2) (T := TX2) (N := 5) hx hb hts hin2 hown hK hP 4 rfl rfl 0 (by decide) lk0 (fun _ h9 => h9) rfl dX2_firstPlace_1 ?_
  refine lv_aload_n hx hb dX2_firstPlace_4 rfl (lv_at hl 1 rfl) ?_
  refine lv_aload_n hx hb dX2_firstPlace_5 rfl (lv_at hl 3 rfl) ?_
  refine xc_v (b := ad 13) (As := [.ref (ad 1), .ref (ad (58 + 2 * r))]) (rest := []) ⟨hx, hb, hml, hown, hts⟩ (x_measure1 l dC dI aC ad cap hI v R F G A hE hA r hr hV hT) (cwV 2 hts gX2_firstPlace_X6_measure rfl rfl rfl (by decide +kernel) ⟨Nat.le_of_ble_eq_true rfl, Nat.le_of_ble_eq_true rfl⟩) (xPre (q0 := 13) (ci := 6) rfl rfl hK hZ hP) hS rfl hl.1 rfl (Nat.le_of_ble_eq_true rfl) dX2_firstPlace_6 ⟨Nat.le_of_ble_eq_true rfl, Nat.le_of_ble_eq_true rfl⟩ (fun v1 R1 F1 G1 Z S H locs h_6 hZ hP hS => ?_)
  obtain ⟨f0, hu_6, hf0⟩ := h_6
  have hP : va_P (dC, dI) vwCl (wsX aC ad cap v Z S (va_up F 2 f0) G) H := by cases hu_6; exact hP
  have hZ : xOK Z S R := by cases hu_6; exact hZ
  refine lv_iconst (v := nI 0) hx hb dX2_firstPlace_9 (by decide) ?_
  refine lv_istore (lv' := [(4, .int (nI 0)), (0, .ref (ad 4)), (1, .ref (ad 1)), (2, .ref (ad (50 + k))), (3, .ref (ad (58 + 2 * r)))]) hx hb dX2_firstPlace_10 hl (by decide) rfl (fun ls hl => ?_)
  have L12 : ∀ (fuel12 : Nat) (i : Nat) (wc : Nat → Int32) (Z : Nat → Int32) (S : Nat → Nat → Int32) (H : Heap) (locs : List Loc) (ls : Array Slot), (i ≤ (R r).length) → (fnd (fun q => mt (F 0) (R (10 + k)) (R r) q) ((R r).length - i) i = fnd (fun q => mt (F 0) (R (10 + k)) (R r) q) (R r).length 0) → xOK Z S R → va_P (dC, dI) vwCl (wsX aC ad cap v Z S (va_up (va_up F 2 f0) 3 wc) G) H → va_S (xA ad) s.heap H locs → 60 - i < fuel12 → lv_has ls 5 [(0, .ref (ad 4)), (2, .ref (ad (50 + k))), (3, .ref (ad (58 + 2 * r))), (4, .int (nI i))] → W p l e ({ frames := 2, cells := 0, slots := 0, locals := 47 } : Room) s m ([.ref (ad 4), .ref (ad 1), .ref (ad (50 + k)), .ref (ad (58 + 2 * r))] : List Value).toArray below meth c H locs 0 0 Q (F0 m 12 ls []) := by
    intro fuel12
    induction fuel12 with
    | zero => intro i wc Z S H locs ls hi hres hZ hP hS hf12 hl; exact absurd hf12 (Nat.not_lt_zero _)
    | succ fuel12 ih12 =>
      intro i wc Z S H locs ls hi hres hZ hP hS hf12 hl
      refine lv_iload hx hb dX2_firstPlace_12 (lv_at hl 3 rfl) ?_
      refine lv_aload_n hx hb dX2_firstPlace_14 rfl (lv_at hl 2 rfl) ?_
      refine va_get (D := (dC, dI)) (ci := 3) (C := RX3) (T := TX3) (N := 2) hx hb hts hin3 hown hK hP (58 + 2 * r) (xw_ro r (by omega)) rfl 1 (by decide) lk1 (fun _ h9 => h9) rfl dX2_firstPlace_15 ?_
      refine nx_ti (y := nI (R r).length) ((hZ r (by omega)).2.1) ?_
      refine nx_icmp_ge (a := i) (b := (R r).length) (tgt := 44) hx hb dX2_firstPlace_18 (by decide) (by omega) (by omega) (fun c_18 => ?_) (fun c_18 => ?_)
      · skip
        refine lv_iconst (v := (-1)) hx hb dX2_firstPlace_44 (by decide) ?_
        subst hQ
        exact W.iret (v := (-1)) hx hb hret (fun tq htq hWq => ⟨⟨_, (v, R, (va_up (va_up F 2 f0) 3 wc), G), rfl, ⟨_, _, rfl, by rw [fpR, ← hres, fnd_0 c_18]⟩, va_K.moved hWq.alike hK, _, _, hZ, by rw [htq]; exact hP⟩, hS.F htq⟩) hS.2.2 dX2_firstPlace_45
      · skip
        refine lv_aload_n hx hb dX2_firstPlace_21 rfl (lv_at hl 0 rfl) ?_
        refine lv_aload_n hx hb dX2_firstPlace_22 rfl (lv_at hl 1 rfl) ?_
        refine va_get (D := (dC, dI)) (ci := 4) (C := RX4) (T := TX4) (N := 3) hx hb hts hin4 hown hK hP (50 + k) (xw_ru k (by omega)) rfl 0 (by decide) lk2 (fun _ h9 => h9) rfl dX2_firstPlace_23 ?_
        refine lv_aload_n hx hb dX2_firstPlace_26 rfl (lv_at hl 2 rfl) ?_
        refine lv_iload hx hb dX2_firstPlace_27 (lv_at hl 3 rfl) ?_
        refine xc_i (b := ad 4) (As := [.ref (ad (58 + 2 * (10 + k))), .ref (ad (58 + 2 * r)), .int (nI i)]) (rest := []) ⟨hx, hb, hml, hown, hts⟩ (x_fits l dC dI aC ad cap hI v R (va_up (va_up F 2 f0) 3 wc) G (10 + k) (by omega) r hr i (by omega) hT hf0) (cwV 3 hts gX2_firstPlace_X2_fits rfl rfl rfl (by decide +kernel) ⟨Nat.le_of_ble_eq_true rfl, Nat.le_of_ble_eq_true rfl⟩) (xPre (q0 := 4) (ci := 2) rfl rfl hK hZ hP) hS rfl hl.1 rfl (Nat.le_of_ble_eq_true rfl) dX2_firstPlace_29 ⟨Nat.le_of_ble_eq_true rfl, Nat.le_of_ble_eq_true rfl⟩ (fun x_29 v2 R2 F2 G2 Z S H locs h_29 hZ hP hS => ?_)
        obtain ⟨cc_3, hu_29, hx_29, hm_29⟩ := h_29
        subst hx_29
        have hP : va_P (dC, dI) vwCl (wsX aC ad cap v Z S (va_up (va_up F 2 f0) 3 cc_3) G) H := by cases hu_29; exact hP
        have hZ : xOK Z S R := by cases hu_29; exact hZ
        refine nx_bz (tgt := 38) hx hb dX2_firstPlace_32 (by decide) (fun c_32 => ?_) (fun c_32 => ?_)
        · skip
          have c_32 : ¬ (mt (F 0) (R (10 + k)) (R r) i).isSome = true := c_32
          refine lv_iinc (v := nI (i + 1)) (lv' := [(4, .int (nI (i + 1))), (0, .ref (ad 4)), (2, .ref (ad (50 + k))), (3, .ref (ad (58 + 2 * r)))]) hx hb dX2_firstPlace_38 hl (k := 3) rfl (nI_add _ _) (by decide) rfl (fun ls hl => ?_)
          refine lv_goto (tgt := 12) hx hb dX2_firstPlace_41 (by decide) ?_
          exact ih12 (i + 1) cc_3 _ _ _ _ _ (by omega) ((fnd_n c_18 (by simpa using c_32)).symm.trans hres) hZ hP hS (by omega) (lv_sub hl [1, 2, 3, 0] rfl)
        · skip
          have c_32 : (mt (F 0) (R (10 + k)) (R r) i).isSome = true := c_32
          obtain ⟨z, hz⟩ := Option.isSome_iff_exists.mp c_32
          refine lv_iload hx hb dX2_firstPlace_35 (lv_at hl 3 rfl) ?_
          subst hQ
          exact W.iret (v := nI i) hx hb hret (fun tq htq hWq => ⟨⟨_, (v, R, (va_up (va_up F 2 f0) 3 cc_3), G), rfl, ⟨_, _, rfl, by rw [fpR, ← hres, fnd_y c_18 hz]⟩, va_K.moved hWq.alike hK, _, _, hZ, by rw [htq]; exact hP⟩, hS.F htq⟩) hS.2.2 dX2_firstPlace_37
  exact L12 (60 - 0 + 1) 0 (F 3) _ _ _ _ _ (by omega) rfl hZ (by rw [show va_up (va_up F 2 f0) 3 (F 3) = va_up F 2 f0 from up_eta (va_up F 2 f0) 3]; exact hP) hS (Nat.lt_succ_self _) (lv_sub hl [1, 3, 4, 0] rfl)

set_option maxHeartbeats 1000000 in
set_option maxRecDepth 100000 in
/-- Rewriter.advance -/
theorem x_advance (l : Launch) (dC : Nat → ClassId) (dI : Nat → Nat → Nat) (aC : Nat → ClassId) (ad cap : Nat → Nat) (hI : xI ad) (v : Nat → Int32) (R : Nat → List Int32) (F : Nat → Nat → Int32) (G : Nat → Nat → Int64) (A : Nat) (hE : vE A (F 0)) (hA : v 0 = nI A) (n : Nat) (hn : v 1 = nI n) (hn8 : n ≤ 8) (hrl : rlT (F 0) R n (tnX v)) (hl0 : ∀ j, j < n → ¬ gD (R (10 + j)) 0 = -1) (r : Nat) (hr : r < 31) (hne : r ≠ 28) (hV : vR A (R r)) (hT : isT (F 0) (R r)) : Met l yX2_advance wsX2_advance ({ frames := 3, cells := 0, slots := 0, locals := 90 } : Room) (va_Pc [.ref (ad 4), .ref (ad 1), .ref (ad (58 + 2 * r))] (XB dC dI aC ad cap (v, R, F, G))) (va_Qi (fun (x : Int32) (u : MS) => ∃ f c1 M, (v, va_up (va_up R 28 M) r (stepL (F 0) R n (tnX v) (R r)).2, va_up (va_up F 2 f) 3 c1, G) = u ∧ x = (stepL (F 0) R n (tnX v) (R r)).1) (XB dC dI aC ad cap) (xA ad)) 0 0 (xA ad) := by
  refine Met.ofW (cc := cX2_advance) (maxL := 5) (ret := (some .int)) (by decide) rfl ?_
  intro p e s m args below meth c s₁ B hml hv
  obtain ⟨rfl, hK, Z, S, hZ, hP⟩ := hv
  have hx := B.exec
  have hb := B.bytes
  have hret := B.returns
  have hts := atoms_spec (ws := wsX2_advance) B.pre
  have hown : s.vm.findClass RX2 = some m.cls := findClass_of_methodNamed B.named
  have hlocks := B.notSynchronized
  dsimp only at hZ hP
  have lk0 := hts (.fieldLink RX2 12 "LeafTrees$Rewriter" "shape" "LLeafTrees$Shape;") (by decide +kernel)
  have lk1 := hts (.fieldLink RX2 39 "LeafTrees$Row" "length" "I") (by decide +kernel)
  have lk2 := hts (.fieldLink RX2 52 "LeafTrees$World" "ruleCount" "I") (by decide +kernel)
  have lk3 := hts (.fieldLink RX2 57 "LeafTrees$Row" "symbols" "[I") (by decide +kernel)
  have lk4 := hts (.fieldLink RX2 60 "LeafTrees$World" "rules" "[LLeafTrees$Rule;") (by decide +kernel)
  have lk5 := hts (.fieldLink RX2 43 "LeafTrees$Rule" "left" "LLeafTrees$Row;") (by decide +kernel)
  have hin2 : ∀ w ∈ u_ws RX2 TX2 5, w ∈ wsX2_advance := by decide +kernel
  have hin3 : ∀ w ∈ u_ws RX3 TX3 2, w ∈ wsX2_advance := by decide +kernel
  have hin4 : ∀ w ∈ u_ws RX4 TX4 3, w ∈ wsX2_advance := by decide +kernel
  have hin8 : ∀ w ∈ u_ws RX8 TX8 4, w ∈ wsX2_advance := by decide +kernel
  have hS : va_S (xA ad) s.heap s.heap [] := va_S.rf
  have hl := lv_entry [.ref (ad 4), .ref (ad 1), .ref (ad (58 + 2 * r))] (n := 5) (Nat.le_of_ble_eq_true rfl)
  rw [lg_entry_eq]
  generalize (lg_sl [.ref (ad 4), .ref (ad 1), .ref (ad (58 + 2 * r))] ++ List.replicate (5 - (lg_sl [.ref (ad 4), .ref (ad 1), .ref (ad (58 + 2 * r))]).length) Slot.unset).toArray = ls at hl ⊢
  have hl : lv_has ls 5 [(0, .ref (ad 4)), (1, .ref (ad 1)), (2, .ref (ad (58 + 2 * r)))] := hl
  refine nx_Q (R := ({ frames := 3, cells := 0, slots := 0, locals := 90 } : Room)) (fun Q hQ => ?_)
  have hl2 := (hZ r hr).1
  refine lv_aload_n hx hb dX2_advance_0 rfl (lv_at hl 0 rfl) ?_
  refine va_get (D := (dC, dI)) (ci := 2) (C := RX2) (T := TX2) (N := 5) hx hb hts hin2 hown hK hP 4 rfl rfl 0 (by decide) lk0 (fun _ h9 => h9) rfl dX2_advance_1 ?_
  refine lv_aload_n hx hb dX2_advance_4 rfl (lv_at hl 1 rfl) ?_
  refine lv_aload_n hx hb dX2_advance_5 rfl (lv_at hl 2 rfl) ?_
  refine xc_v (b := ad 13) (As := [.ref (ad 1), .ref (ad (58 + 2 * r))]) (rest := []) ⟨hx, hb, hml, hown, hts⟩ (x_measure1 l dC dI aC ad cap hI v R F G A hE hA r hr hV hT) (cwV 2 hts gX2_advance_X6_measure rfl rfl rfl (by decide +kernel) ⟨Nat.le_of_ble_eq_true rfl, Nat.le_of_ble_eq_true rfl⟩) (xPre (q0 := 13) (ci := 6) rfl rfl hK hZ hP) hS rfl hl.1 rfl (Nat.le_of_ble_eq_true rfl) dX2_advance_6 ⟨Nat.le_of_ble_eq_true rfl, Nat.le_of_ble_eq_true rfl⟩ (fun v1 R1 F1 G1 Z S H locs h_6 hZ hP hS => ?_)
  obtain ⟨f0, hu_6, hf0⟩ := h_6
  have hP : va_P (dC, dI) vwCl (wsX aC ad cap v Z S (va_up F 2 f0) G) H := by cases hu_6; exact hP
  have hZ : xOK Z S R := by cases hu_6; exact hZ
  refine lv_iconst (v := nI 0) hx hb dX2_advance_9 (by decide) ?_
  refine lv_istore_n (lv' := [(3, .int (nI 0)), (0, .ref (ad 4)), (1, .ref (ad 1)), (2, .ref (ad (58 + 2 * r)))]) hx hb dX2_advance_10 rfl hl (by decide) rfl (fun ls hl => ?_)
  have L11 : ∀ (fuel11 : Nat) (i : Nat) (wc : Nat → Int32) (Z : Nat → Int32) (S : Nat → Nat → Int32) (H : Heap) (locs : List Loc) (ls : Array Slot), (i ≤ (R r).length) → (fnd (fun q => fK (F 0) R n (R r) q) ((R r).length - i) i = fP (F 0) R n (R r)) → xOK Z S R → va_P (dC, dI) vwCl (wsX aC ad cap v Z S (va_up (va_up F 2 f0) 3 wc) G) H → va_S (xA ad) s.heap H locs → 60 - i < fuel11 → lv_has ls 5 [(0, .ref (ad 4)), (1, .ref (ad 1)), (2, .ref (ad (58 + 2 * r))), (3, .int (nI i))] → W p l e ({ frames := 3, cells := 0, slots := 0, locals := 90 } : Room) s m ([.ref (ad 4), .ref (ad 1), .ref (ad (58 + 2 * r))] : List Value).toArray below meth c H locs 0 0 Q (F0 m 11 ls []) := by
    intro fuel11
    induction fuel11 with
    | zero => intro i wc Z S H locs ls hi hres hZ hP hS hf11 hl; exact absurd hf11 (Nat.not_lt_zero _)
    | succ fuel11 ih11 =>
      intro i wc Z S H locs ls hi hres hZ hP hS hf11 hl
      refine lv_iload_n hx hb dX2_advance_11 rfl (lv_at hl 3 rfl) ?_
      refine lv_aload_n hx hb dX2_advance_12 rfl (lv_at hl 2 rfl) ?_
      refine va_get (D := (dC, dI)) (ci := 3) (C := RX3) (T := TX3) (N := 2) hx hb hts hin3 hown hK hP (58 + 2 * r) (xw_ro r (by omega)) rfl 1 (by decide) lk1 (fun _ h9 => h9) rfl dX2_advance_13 ?_
      refine nx_ti (y := nI (R r).length) ((hZ r (by omega)).2.1) ?_
      refine nx_icmp_ge (a := i) (b := (R r).length) (tgt := 86) hx hb dX2_advance_16 (by decide) (by omega) (by omega) (fun c_16 => ?_) (fun c_16 => ?_)
      · skip
        refine lv_iconst (v := nI 0) hx hb dX2_advance_86 (by decide) ?_
        subst hQ
        exact W.iret (v := nI 0) hx hb hret (fun tq htq hWq => ⟨⟨_, (v, R, (va_up (va_up F 2 f0) 3 wc), G), rfl, ⟨_, _, R 28, by rw [stepL_no (hres.symm.trans (fnd_0 c_16)), up_same2], by rw [stepL_no (hres.symm.trans (fnd_0 c_16))]; rfl⟩, va_K.moved hWq.alike hK, _, _, hZ, by rw [htq]; exact hP⟩, hS.F htq⟩) hS.2.2 dX2_advance_87
      · skip
        refine lv_iconst (v := nI 0) hx hb dX2_advance_19 (by decide) ?_
        refine lv_istore (lv' := [(4, .int (nI 0)), (0, .ref (ad 4)), (1, .ref (ad 1)), (2, .ref (ad (58 + 2 * r))), (3, .int (nI i))]) hx hb dX2_advance_20 hl (by decide) rfl (fun ls hl => ?_)
        have L22 : ∀ (fuel22 : Nat) (j : Nat) (wd : Nat → Int32) (Z : Nat → Int32) (S : Nat → Nat → Int32) (H : Heap) (locs : List Loc) (ls : Array Slot), (j ≤ n) → (fnd (fun q => mt (F 0) (R (10 + q)) (R r) i) (n - j) j = fK (F 0) R n (R r) i) → xOK Z S R → va_P (dC, dI) vwCl (wsX aC ad cap v Z S (va_up (va_up F 2 f0) 3 wd) G) H → va_S (xA ad) s.heap H locs → 8 - j < fuel22 → lv_has ls 5 [(0, .ref (ad 4)), (1, .ref (ad 1)), (2, .ref (ad (58 + 2 * r))), (3, .int (nI i)), (4, .int (nI j))] → W p l e ({ frames := 3, cells := 0, slots := 0, locals := 90 } : Room) s m ([.ref (ad 4), .ref (ad 1), .ref (ad (58 + 2 * r))] : List Value).toArray below meth c H locs 0 0 Q (F0 m 22 ls []) := by
          intro fuel22
          induction fuel22 with
          | zero => intro j wd Z S H locs ls hj hres2 hZ hP hS hf22 hl; exact absurd hf22 (Nat.not_lt_zero _)
          | succ fuel22 ih22 =>
            intro j wd Z S H locs ls hj hres2 hZ hP hS hf22 hl
            refine lv_iload hx hb dX2_advance_22 (lv_at hl 4 rfl) ?_
            refine lv_aload_n hx hb dX2_advance_24 rfl (lv_at hl 1 rfl) ?_
            refine va_get (D := (dC, dI)) (ci := 8) (C := RX8) (T := TX8) (N := 4) hx hb hts hin8 hown hK hP 1 rfl rfl 3 (by decide) lk2 (fun _ h9 => h9) rfl dX2_advance_25 ?_
            refine nx_ti (y := nI n) (hn) ?_
            refine nx_icmp_ge (a := j) (b := n) (tgt := 80) hx hb dX2_advance_28 (by decide) (by omega) (by omega) (fun c_28 => ?_) (fun c_28 => ?_)
            · skip
              refine lv_iinc (v := nI (i + 1)) (lv' := [(3, .int (nI (i + 1))), (0, .ref (ad 4)), (1, .ref (ad 1)), (2, .ref (ad (58 + 2 * r))), (4, .int (nI j))]) hx hb dX2_advance_80 hl (k := 3) rfl (nI_add _ _) (by decide) rfl (fun ls hl => ?_)
              refine lv_goto (tgt := 11) hx hb dX2_advance_83 (by decide) ?_
              exact ih11 (i + 1) wd _ _ _ _ _ (by omega) ((fnd_n c_16 (hres2.symm.trans (fnd_0 c_28))).symm.trans hres) hZ hP hS (by omega) (lv_sub hl [1, 2, 3, 0] rfl)
            · skip
              refine lv_aload_n hx hb dX2_advance_31 rfl (lv_at hl 2 rfl) ?_
              refine va_get (D := (dC, dI)) (ci := 3) (C := RX3) (T := TX3) (N := 2) hx hb hts hin3 hown hK hP (58 + 2 * r) (xw_ro r (by omega)) rfl 0 (by decide) lk3 (fun _ h9 => h9) rfl dX2_advance_32 ?_
              refine lv_iload_n hx hb dX2_advance_35 rfl (lv_at hl 3 rfl) ?_
              refine nx_iald hx hb hK hP (59 + 2 * r) 0 (xw_ra r (by omega)) rfl (i := i) (by have := (hZ r (by omega)).1; omega) (by decide) dX2_advance_36 ?_
              refine nx_ti (y := gD (R r) i) ((hZ r (by omega)).2.2 i (by omega)) ?_
              refine lv_iconst (v := (-1)) hx hb dX2_advance_37 (by decide) ?_
              refine lv_icmp_eq (tgt := 80) hx hb dX2_advance_38 (by decide) (fun c_38 => ?_) (fun c_38 => ?_)
              · skip
                refine lv_iinc (v := nI (i + 1)) (lv' := [(3, .int (nI (i + 1))), (0, .ref (ad 4)), (1, .ref (ad 1)), (2, .ref (ad (58 + 2 * r))), (4, .int (nI j))]) hx hb dX2_advance_80 hl (k := 3) rfl (nI_add _ _) (by decide) rfl (fun ls hl => ?_)
                refine lv_goto (tgt := 11) hx hb dX2_advance_83 (by decide) ?_
                exact ih11 (i + 1) wd _ _ _ _ _ (by omega) ((fnd_n c_16 (hres2.symm.trans (fnd_all (fun i2 h1 h2 => mt_leaf (isT_pos (hrl i2 (by omega)).1) (hl0 i2 (by omega)) c_38)))).symm.trans hres) hZ hP hS (by omega) (lv_sub hl [1, 2, 3, 0] rfl)
              · skip
                refine lv_aload_n hx hb dX2_advance_41 rfl (lv_at hl 0 rfl) ?_
                refine lv_aload_n hx hb dX2_advance_42 rfl (lv_at hl 1 rfl) ?_
                refine va_get (D := (dC, dI)) (ci := 8) (C := RX8) (T := TX8) (N := 4) hx hb hts hin8 hown hK hP 1 rfl rfl 2 (by decide) lk4 (fun _ h9 => h9) rfl dX2_advance_43 ?_
                refine lv_iload hx hb dX2_advance_46 (lv_at hl 4 rfl) ?_
                refine nx_aald (C := "LeafTrees$Rule") hx hb hK hP 11 4 rfl rfl (i := j) (by omega) (by decide) (show xRules ad j = some (ad (50 + j)) from if_pos (by omega)) dX2_advance_48 ?_
                refine va_get (D := (dC, dI)) (ci := 4) (C := RX4) (T := TX4) (N := 3) hx hb hts hin4 hown hK hP (50 + j) (xw_ru j (by omega)) rfl 0 (by decide) lk5 (fun _ h9 => h9) rfl dX2_advance_49 ?_
                refine lv_aload_n hx hb dX2_advance_52 rfl (lv_at hl 2 rfl) ?_
                refine lv_iload_n hx hb dX2_advance_53 rfl (lv_at hl 3 rfl) ?_
                refine xc_i (b := ad 4) (As := [.ref (ad (58 + 2 * (10 + j))), .ref (ad (58 + 2 * r)), .int (nI i)]) (rest := []) ⟨hx, hb, hml, hown, hts⟩ (x_fits l dC dI aC ad cap hI v R (va_up (va_up F 2 f0) 3 wd) G (10 + j) (by omega) r hr i (by omega) hT hf0) (cwV 3 hts gX2_advance_X2_fits rfl rfl rfl (by decide +kernel) ⟨Nat.le_of_ble_eq_true rfl, Nat.le_of_ble_eq_true rfl⟩) (xPre (q0 := 4) (ci := 2) rfl rfl hK hZ hP) hS rfl hl.1 rfl (Nat.le_of_ble_eq_true rfl) dX2_advance_54 ⟨Nat.le_of_ble_eq_true rfl, Nat.le_of_ble_eq_true rfl⟩ (fun x_54 v2 R2 F2 G2 Z S H locs h_54 hZ hP hS => ?_)
                obtain ⟨cc_3, hu_54, hx_54, hm_54⟩ := h_54
                subst hx_54
                have hP : va_P (dC, dI) vwCl (wsX aC ad cap v Z S (va_up (va_up F 2 f0) 3 cc_3) G) H := by cases hu_54; exact hP
                have hZ : xOK Z S R := by cases hu_54; exact hZ
                refine nx_bz (tgt := 74) hx hb dX2_advance_57 (by decide) (fun c_57 => ?_) (fun c_57 => ?_)
                · skip
                  have c_57 : ¬ (mt (F 0) (R (10 + j)) (R r) i).isSome = true := c_57
                  refine lv_iinc (v := nI (j + 1)) (lv' := [(4, .int (nI (j + 1))), (0, .ref (ad 4)), (1, .ref (ad 1)), (2, .ref (ad (58 + 2 * r))), (3, .int (nI i))]) hx hb dX2_advance_74 hl (k := 4) rfl (nI_add _ _) (by decide) rfl (fun ls hl => ?_)
                  refine lv_goto (tgt := 22) hx hb dX2_advance_77 (by decide) ?_
                  exact ih22 (j + 1) cc_3 _ _ _ _ _ (by omega) ((fnd_n c_28 (by simpa using c_57)).symm.trans hres2) hZ hP hS (by omega) (lv_sub hl [1, 2, 3, 4, 0] rfl)
                · skip
                  have c_57 : (mt (F 0) (R (10 + j)) (R r) i).isSome = true := c_57
                  obtain ⟨⟨q, ac⟩, hz⟩ := Option.isSome_iff_exists.mp c_57
                  have hok := mt_ok (by omega) hz
                  refine lv_aload_n hx hb dX2_advance_60 rfl (lv_at hl 0 rfl) ?_
                  refine lv_aload_n hx hb dX2_advance_61 rfl (lv_at hl 1 rfl) ?_
                  refine va_get (D := (dC, dI)) (ci := 8) (C := RX8) (T := TX8) (N := 4) hx hb hts hin8 hown hK hP 1 rfl rfl 2 (by decide) lk4 (fun _ h9 => h9) rfl dX2_advance_62 ?_
                  refine lv_iload hx hb dX2_advance_65 (lv_at hl 4 rfl) ?_
                  refine nx_aald (C := "LeafTrees$Rule") hx hb hK hP 11 4 rfl rfl (i := j) (by omega) (by decide) (show xRules ad j = some (ad (50 + j)) from if_pos (by omega)) dX2_advance_67 ?_
                  refine lv_aload_n hx hb dX2_advance_68 rfl (lv_at hl 2 rfl) ?_
                  refine lv_iload_n hx hb dX2_advance_69 rfl (lv_at hl 3 rfl) ?_
                  refine xc_i (b := ad 4) (As := [.ref (ad (50 + j)), .ref (ad (58 + 2 * r)), .int (nI i)]) (rest := []) ⟨hx, hb, hml, hown, hts⟩ (x_replace l dC dI aC ad cap hI v R (va_up (va_up F 2 f0) 3 cc_3) G j (by omega) r hr hne i q c_16 ac hok.2.2.1 (mt_acE hz) (hm_54 q ac hz) hf0 (mt_end (hrl j c_28).1 (by omega) hz) (fun h => by rw [hok.2.2.2]; exact ((hrl j c_28).2 h).2) (by rw [hok.2.2.2]; exact Nat.le_trans (lvs_le _) (hZ (10 + j) (by omega)).1)) (cwV 3 hts gX2_advance_X2_replace rfl rfl rfl (by decide +kernel) ⟨Nat.le_of_ble_eq_true rfl, Nat.le_of_ble_eq_true rfl⟩) (xPre (q0 := 4) (ci := 2) rfl rfl hK hZ hP) hS rfl hl.1 rfl (Nat.le_of_ble_eq_true rfl) dX2_advance_70 ⟨Nat.le_of_ble_eq_true rfl, Nat.le_of_ble_eq_true rfl⟩ (fun x_70 v4 R4 F4 G4 Z S H locs h_70 hZ hP hS => ?_)
                  obtain ⟨M0, hu70, hx70⟩ := h_70
                  subst hx70
                  subst hQ
                  exact W.iret (v := (useL R (tnX v) (R r) i j q ac).1) hx hb hret (fun tq htq hWq => ⟨⟨_, (v4, R4, F4, G4), rfl, ⟨_, _, M0, by rw [stepL_yes (hres.symm.trans (fnd_y c_16 (hres2.symm.trans (fnd_y c_28 hz))))]; exact hu70, by rw [stepL_yes (hres.symm.trans (fnd_y c_16 (hres2.symm.trans (fnd_y c_28 hz))))]⟩, va_K.moved hWq.alike hK, _, _, hZ, by rw [htq]; exact hP⟩, hS.F htq⟩) hS.2.2 dX2_advance_73
        exact L22 (8 - 0 + 1) 0 wc _ _ _ _ _ (by omega) rfl hZ hP hS (Nat.lt_succ_self _) (lv_sub hl [1, 2, 3, 4, 0] rfl)
  exact L11 (60 - 0 + 1) 0 (F 3) _ _ _ _ _ (by omega) rfl hZ (by rw [show va_up (va_up F 2 f0) 3 (F 3) = va_up F 2 f0 from up_eta (va_up F 2 f0) 3]; exact hP) hS (Nat.lt_succ_self _) (lv_sub hl [1, 2, 3, 0] rfl)

set_option maxHeartbeats 1000000 in
set_option maxRecDepth 100000 in
/-- Rewriter.normalForm -/
theorem x_normalForm (l : Launch) (dC : Nat → ClassId) (dI : Nat → Nat → Nat) (aC : Nat → ClassId) (ad cap : Nat → Nat) (hI : xI ad) (v : Nat → Int32) (R : Nat → List Int32) (F : Nat → Nat → Int32) (G : Nat → Nat → Int64) (A : Nat) (hE : vE A (F 0)) (hA : v 0 = nI A) (n : Nat) (hn : v 1 = nI n) (hn8 : n ≤ 8) (hrl : rlT (F 0) R n (tnX v)) (hl0 : ∀ j, j < n → ¬ gD (R (10 + j)) 0 = -1) (r : Nat) (hr : r < 31) (hr2 : 26 ≤ r) (hne : r ≠ 28) (hV : vR A (R r)) (hV2 : ∀ j, j < n → vR A (R (18 + j))) (hT : isT (F 0) (R r)) : Met l yX2_normalForm wsX2_normalForm ({ frames := 4, cells := 0, slots := 0, locals := 114 } : Room) (va_Pc [.ref (ad 4), .ref (ad 1), .ref (ad (58 + 2 * r))] (XB dC dI aC ad cap (v, R, F, G))) (va_Qi (fun (x : Int32) (u : MS) => ∃ f c1 M, (v, va_up (va_up R 28 M) r (nfL (F 0) R n (tnX v) (R r)).2, va_up (va_up F 2 f) 3 c1, G) = u ∧ x = (nfL (F 0) R n (tnX v) (R r)).1) (XB dC dI aC ad cap) (xA ad)) 0 0 (xA ad) := by
  refine Met.ofW (cc := cX2_normalForm) (maxL := 5) (ret := (some .int)) (by decide) rfl ?_
  intro p e s m args below meth c s₁ B hml hv
  obtain ⟨rfl, hK, Z, S, hZ, hP⟩ := hv
  have hx := B.exec
  have hb := B.bytes
  have hret := B.returns
  have hts := atoms_spec (ws := wsX2_normalForm) B.pre
  have hown : s.vm.findClass RX2 = some m.cls := findClass_of_methodNamed B.named
  have hlocks := B.notSynchronized
  dsimp only at hZ hP
  have hS : va_S (xA ad) s.heap s.heap [] := va_S.rf
  have hl := lv_entry [.ref (ad 4), .ref (ad 1), .ref (ad (58 + 2 * r))] (n := 5) (Nat.le_of_ble_eq_true rfl)
  rw [lg_entry_eq]
  generalize (lg_sl [.ref (ad 4), .ref (ad 1), .ref (ad (58 + 2 * r))] ++ List.replicate (5 - (lg_sl [.ref (ad 4), .ref (ad 1), .ref (ad (58 + 2 * r))]).length) Slot.unset).toArray = ls at hl ⊢
  have hl : lv_has ls 5 [(0, .ref (ad 4)), (1, .ref (ad 1)), (2, .ref (ad (58 + 2 * r)))] := hl
  refine nx_Q (R := ({ frames := 4, cells := 0, slots := 0, locals := 114 } : Room)) (fun Q hQ => ?_)
  refine lv_iconst (v := nI 0) hx hb dX2_normalForm_0 (by decide) ?_
  refine lv_istore_n (lv' := [(3, .int (nI 0)), (0, .ref (ad 4)), (1, .ref (ad 1)), (2, .ref (ad (58 + 2 * r)))]) hx hb dX2_normalForm_1 rfl hl (by decide) rfl (fun ls hl => ?_)
  have L2 : ∀ (fuel2 : Nat) (j : Nat) (t0 : List Int32) (M : List Int32) (fa : Nat → Int32) (ca : Nat → Int32) (Z : Nat → Int32) (S : Nat → Nat → Int32) (H : Heap) (locs : List Loc) (ls : Array Slot), (j ≤ 200) → (vR A t0) → (isT (F 0) t0) → (nrmL (stepL (F 0) R n (tnX v)) (201 - j) j t0 = nfL (F 0) R n (tnX v) (R r)) → xOK Z S (va_up (va_up R 28 M) r t0) → va_P (dC, dI) vwCl (wsX aC ad cap v Z S (va_up (va_up F 2 fa) 3 ca) G) H → va_S (xA ad) s.heap H locs → 200 - j < fuel2 → lv_has ls 5 [(0, .ref (ad 4)), (1, .ref (ad 1)), (2, .ref (ad (58 + 2 * r))), (3, .int (nI j))] → W p l e ({ frames := 4, cells := 0, slots := 0, locals := 114 } : Room) s m ([.ref (ad 4), .ref (ad 1), .ref (ad (58 + 2 * r))] : List Value).toArray below meth c H locs 0 0 Q (F0 m 2 ls []) := by
    intro fuel2
    induction fuel2 with
    | zero => intro j t0 M fa ca Z S H locs ls hj hvt htt hres hZ hP hS hf2 hl; exact absurd hf2 (Nat.not_lt_zero _)
    | succ fuel2 ih2 =>
      intro j t0 M fa ca Z S H locs ls hj hvt htt hres hZ hP hS hf2 hl
      refine lv_iload_n hx hb dX2_normalForm_2 rfl (lv_at hl 3 rfl) ?_
      refine lv_sipush (v := nI 200) hx hb dX2_normalForm_3 (by decide) ?_
      refine nx_icmp_gt (a := j) (b := 200) (tgt := 60) hx hb dX2_normalForm_6 (by decide) (by omega) (by omega) (fun c_6 => ?_) (fun c_6 => ?_)
      · skip
        exact absurd c_6 (by omega)
      · skip
        refine lv_aload_n hx hb dX2_normalForm_9 rfl (lv_at hl 0 rfl) ?_
        refine lv_aload_n hx hb dX2_normalForm_10 rfl (lv_at hl 1 rfl) ?_
        refine lv_aload_n hx hb dX2_normalForm_11 rfl (lv_at hl 2 rfl) ?_
        refine xc_i (b := ad 4) (As := [.ref (ad 1), .ref (ad (58 + 2 * r))]) (rest := []) ⟨hx, hb, hml, hown, hts⟩ (x_advance l dC dI aC ad cap hI v (va_up (va_up R 28 M) r t0) (va_up (va_up F 2 fa) 3 ca) G A hE hA n hn hn8 (rlT_congr hrl (fun k hk => row2 (by omega) (by omega)) (fun k hk => row2 (by omega) (by omega))) (fun k hk => by rw [row2 (by omega) (by omega)]; exact hl0 k hk) r hr hne (by rw [va_up_self]; exact hvt) (by rw [va_up_self]; exact htt)) (cwV 2 hts gX2_normalForm_X2_advance rfl rfl rfl (by decide +kernel) ⟨Nat.le_of_ble_eq_true rfl, Nat.le_of_ble_eq_true rfl⟩) (xPre (q0 := 4) (ci := 2) rfl rfl hK hZ hP) hS rfl hl.1 rfl (Nat.le_of_ble_eq_true rfl) dX2_normalForm_12 ⟨Nat.le_of_ble_eq_true rfl, Nat.le_of_ble_eq_true rfl⟩ (fun x_12 v1 R1 F1 G1 Z S H locs h_12 hZ hP hS => ?_)
        obtain ⟨fq2, cq2, Mq2, hu_12, hx_12⟩ := h_12
        rw [va_up_self] at hu_12 hx_12
        have hsc : ∀ tt, stepL (F 0) (va_up (va_up R 28 M) r t0) n (tnX v) tt = stepL (F 0) R n (tnX v) tt := fun tt => stepL_congr (fun k hk => row2 (by omega) (by omega)) (fun k hk => row2 (by omega) (by omega))
        have hx_12 : x_12 = (stepL (F 0) (va_up (va_up R 28 M) r t0) n (tnX v) t0).1 := hx_12
        rw [hsc] at hx_12
        subst hx_12
        have hu_12 : (_, va_up (va_up (va_up (va_up R 28 M) r t0) 28 Mq2) r (stepL (F 0) (va_up (va_up R 28 M) r t0) n (tnX v) t0).2, _, _) = _ := hu_12
        rw [hsc, nrm_up hne] at hu_12
        have hP : va_P (dC, dI) vwCl (wsX aC ad cap v Z S (va_up (va_up F 2 fq2) 3 cq2) G) H := by cases hu_12; exact hP
        have hZ : xOK Z S (va_up (va_up R 28 Mq2) r (stepL (F 0) R n (tnX v) t0).2) := by cases hu_12; exact hZ
        refine lv_istore (lv' := [(4, .int (stepL (F 0) R n (tnX v) t0).1), (0, .ref (ad 4)), (1, .ref (ad 1)), (2, .ref (ad (58 + 2 * r))), (3, .int (nI j))]) hx hb dX2_normalForm_15 hl (by decide) rfl (fun ls hl => ?_)
        refine lv_iload hx hb dX2_normalForm_17 (lv_at hl 0 rfl) ?_
        refine lv_if_ne (tgt := 24) hx hb dX2_normalForm_19 (by decide) (fun c_19 => ?_) (fun c_19 => ?_)
        · skip
          refine lv_iload hx hb dX2_normalForm_24 (lv_at hl 0 rfl) ?_
          refine lv_bipush (v := (-5)) hx hb dX2_normalForm_26 (by decide) ?_
          refine lv_icmp_eq (tgt := 38) hx hb dX2_normalForm_28 (by decide) (fun c_28 => ?_) (fun c_28 => ?_)
          · skip
            refine lv_bipush (v := (-5)) hx hb dX2_normalForm_38 (by decide) ?_
            subst hQ
            exact W.iret (v := (-5)) hx hb hret (fun tq htq hWq => ⟨⟨_, (v, va_up (va_up R 28 Mq2) r (stepL (F 0) R n (tnX v) t0).2, (va_up (va_up F 2 fq2) 3 cq2), G), rfl, ⟨_, _, _, by rw [← hres, nrm_step hj, if_neg c_19, if_pos (Or.inl c_28)], by rw [← hres, nrm_step hj, if_neg c_19, if_pos (Or.inl c_28)]⟩, va_K.moved hWq.alike hK, _, _, hZ, by rw [htq]; exact hP⟩, hS.F htq⟩) hS.2.2 dX2_normalForm_40
          · skip
            refine lv_iload_n hx hb dX2_normalForm_31 rfl (lv_at hl 4 rfl) ?_
            refine lv_sipush (v := nI 200) hx hb dX2_normalForm_32 (by decide) ?_
            refine nx_icmp_ne (a := j) (b := 200) (tgt := 41) hx hb dX2_normalForm_35 (by decide) (by omega) (by omega) (fun c_35 => ?_) (fun c_35 => ?_)
            · skip
              refine lv_iload hx hb dX2_normalForm_41 (lv_at hl 0 rfl) ?_
              refine lv_iconst (v := nI 2) hx hb dX2_normalForm_43 (by decide) ?_
              refine lv_icmp_ne (tgt := 54) hx hb dX2_normalForm_44 (by decide) (fun c_44 => ?_) (fun c_44 => ?_)
              · skip
                have c_44 : ¬ (stepL (F 0) R n (tnX v) t0).1 = 2 := c_44
                have h1 : (stepL (F 0) R n (tnX v) t0).1 = 1 := by rcases stepL_val (E := F 0) (R := R) (n := n) (tn := tnX v) (t := t0) with z | z | z | z <;> first | exact z | exact absurd z c_19 | exact absurd z c_44 | exact absurd z c_28
                refine lv_iinc (v := nI (j + 1)) (lv' := [(3, .int (nI (j + 1))), (4, .int (stepL (F 0) R n (tnX v) t0).1), (0, .ref (ad 4)), (1, .ref (ad 1)), (2, .ref (ad (58 + 2 * r)))]) hx hb dX2_normalForm_54 hl (k := 4) rfl (nI_add _ _) (by decide) rfl (fun ls hl => ?_)
                refine lv_goto (tgt := 2) hx hb dX2_normalForm_57 (by decide) ?_
                exact ih2 (j + 1) (stepL (F 0) R n (tnX v) t0).2 Mq2 fq2 cq2 _ _ _ _ _ (by omega) (vR_step hvt hV2) (isT_step hrl htt h1) (by rw [nrm_step hj, if_neg c_19, if_neg (fun h => h.elim c_28 (by omega)), if_neg c_44] at hres; exact hres) hZ hP hS (by omega) (lv_sub hl [2, 3, 4, 0] rfl)
              · skip
                have c_44 : (stepL (F 0) R n (tnX v) t0).1 = 2 := c_44
                refine lv_bipush (v := (-10)) hx hb dX2_normalForm_47 (by decide) ?_
                refine lv_iload_n hx hb dX2_normalForm_49 rfl (lv_at hl 4 rfl) ?_
                refine lv_isub hx hb dX2_normalForm_50 ?_
                refine lv_iconst (v := nI 1) hx hb dX2_normalForm_51 (by decide) ?_
                refine lv_isub hx hb dX2_normalForm_52 ?_
                subst hQ
                exact W.iret (v := ((-10) - (nI j)) - (nI 1)) hx hb hret (fun tq htq hWq => ⟨⟨_, (v, va_up (va_up R 28 Mq2) r (stepL (F 0) R n (tnX v) t0).2, (va_up (va_up F 2 fq2) 3 cq2), G), rfl, ⟨_, _, _, by rw [← hres, nrm_step hj, if_neg c_19, if_neg (fun h => h.elim c_28 (by omega)), if_pos c_44], by rw [← hres, nrm_step hj, if_neg c_19, if_neg (fun h => h.elim c_28 (by omega)), if_pos c_44]; exact nf_sub j⟩, va_K.moved hWq.alike hK, _, _, hZ, by rw [htq]; exact hP⟩, hS.F htq⟩) hS.2.2 dX2_normalForm_53
            · skip
              refine lv_bipush (v := (-5)) hx hb dX2_normalForm_38 (by decide) ?_
              subst hQ
              exact W.iret (v := (-5)) hx hb hret (fun tq htq hWq => ⟨⟨_, (v, va_up (va_up R 28 Mq2) r (stepL (F 0) R n (tnX v) t0).2, (va_up (va_up F 2 fq2) 3 cq2), G), rfl, ⟨_, _, _, by rw [← hres, nrm_step hj, if_neg c_19, if_pos (Or.inr (by omega))], by rw [← hres, nrm_step hj, if_neg c_19, if_pos (Or.inr (by omega))]⟩, va_K.moved hWq.alike hK, _, _, hZ, by rw [htq]; exact hP⟩, hS.F htq⟩) hS.2.2 dX2_normalForm_40
        · skip
          refine lv_iload_n hx hb dX2_normalForm_22 rfl (lv_at hl 4 rfl) ?_
          subst hQ
          exact W.iret (v := nI j) hx hb hret (fun tq htq hWq => ⟨⟨_, (v, va_up (va_up R 28 Mq2) r (stepL (F 0) R n (tnX v) t0).2, (va_up (va_up F 2 fq2) 3 cq2), G), rfl, ⟨_, _, _, by rw [← hres, nrm_step hj, if_pos c_19], by rw [← hres, nrm_step hj, if_pos c_19]⟩, va_K.moved hWq.alike hK, _, _, hZ, by rw [htq]; exact hP⟩, hS.F htq⟩) hS.2.2 dX2_normalForm_23
  exact L2 (200 - 0 + 1) 0 (R r) (R 28) (F 2) (F 3) _ _ _ _ _ (by omega) hV hT rfl (by rw [up_same2]; exact hZ) (by rw [up_eta2]; exact hP) hS (Nat.lt_succ_self _) (lv_sub hl [1, 2, 3, 0] rfl)

set_option maxHeartbeats 1000000 in
set_option maxRecDepth 100000 in
/-- Rewriter.goDown -/
theorem x_goDown (l : Launch) (dC : Nat → ClassId) (dI : Nat → Nat → Nat) (aC : Nat → ClassId) (ad cap : Nat → Nat) (hI : xI ad) (v : Nat → Int32) (R : Nat → List Int32) (F : Nat → Nat → Int32) (G : Nat → Nat → Int64) (A : Nat) (hE : vE A (F 0)) (hA : v 0 = nI A) (n : Nat) (hn : v 1 = nI n) (hn8 : n ≤ 8) (hrl : rlT (F 0) R n (tnX v)) (hl0 : ∀ j, j < n → ¬ gD (R (10 + j)) 0 = -1) (hV2 : ∀ j, j < n → vR A (R (18 + j))) (r : Nat) (hr : r < 31) (hr2 : 26 ≤ r) (hne : r ≠ 28) (hV : vR A (R r)) (hT : isT (F 0) (R r)) (k : Nat) (hk : k < n) (pl : Nat) (hpl : pl < (R r).length) : Met l yX2_goDown wsX2_goDown ({ frames := 5, cells := 0, slots := 0, locals := 138 } : Room) (va_Pc [.ref (ad 4), .ref (ad 1), .int (nI k), .ref (ad (58 + 2 * r)), .int (nI pl)] (XB dC dI aC ad cap (v, R, F, G))) (va_Qi (fun (x : Int32) (u : MS) => ∃ f c1 M, (v, va_up (va_up R 28 M) r (goL (F 0) R n (tnX v) (R r) k pl).2, va_up (va_up F 2 f) 3 c1, G) = u ∧ (x = -5 ↔ (goL (F 0) R n (tnX v) (R r) k pl).1 = -5)) (XB dC dI aC ad cap) (xA ad)) 0 0 (xA ad) := by
  refine Met.ofW (cc := cX2_goDown) (maxL := 6) (ret := (some .int)) (by decide) rfl ?_
  intro p e s m args below meth c s₁ B hml hv
  obtain ⟨rfl, hK, Z, S, hZ, hP⟩ := hv
  have hx := B.exec
  have hb := B.bytes
  have hret := B.returns
  have hts := atoms_spec (ws := wsX2_goDown) B.pre
  have hown : s.vm.findClass RX2 = some m.cls := findClass_of_methodNamed B.named
  have hlocks := B.notSynchronized
  dsimp only at hZ hP
  have lk0 := hts (.fieldLink RX2 12 "LeafTrees$Rewriter" "shape" "LLeafTrees$Shape;") (by decide +kernel)
  have lk1 := hts (.fieldLink RX2 60 "LeafTrees$World" "rules" "[LLeafTrees$Rule;") (by decide +kernel)
  have lk2 := hts (.fieldLink RX2 43 "LeafTrees$Rule" "left" "LLeafTrees$Row;") (by decide +kernel)
  have hin2 : ∀ w ∈ u_ws RX2 TX2 5, w ∈ wsX2_goDown := by decide +kernel
  have hin4 : ∀ w ∈ u_ws RX4 TX4 3, w ∈ wsX2_goDown := by decide +kernel
  have hin8 : ∀ w ∈ u_ws RX8 TX8 4, w ∈ wsX2_goDown := by decide +kernel
  have hS : va_S (xA ad) s.heap s.heap [] := va_S.rf
  have hl := lv_entry [.ref (ad 4), .ref (ad 1), .int (nI k), .ref (ad (58 + 2 * r)), .int (nI pl)] (n := 6) (Nat.le_of_ble_eq_true rfl)
  rw [lg_entry_eq]
  generalize (lg_sl [.ref (ad 4), .ref (ad 1), .int (nI k), .ref (ad (58 + 2 * r)), .int (nI pl)] ++ List.replicate (6 - (lg_sl [.ref (ad 4), .ref (ad 1), .int (nI k), .ref (ad (58 + 2 * r)), .int (nI pl)]).length) Slot.unset).toArray = ls at hl ⊢
  have hl : lv_has ls 6 [(0, .ref (ad 4)), (1, .ref (ad 1)), (2, .int (nI k)), (3, .ref (ad (58 + 2 * r))), (4, .int (nI pl))] := hl
  refine nx_Q (R := ({ frames := 5, cells := 0, slots := 0, locals := 138 } : Room)) (fun Q hQ => ?_)
  have hl2 := (hZ r hr).1
  refine lv_aload_n hx hb dX2_goDown_0 rfl (lv_at hl 0 rfl) ?_
  refine va_get (D := (dC, dI)) (ci := 2) (C := RX2) (T := TX2) (N := 5) hx hb hts hin2 hown hK hP 4 rfl rfl 0 (by decide) lk0 (fun _ h9 => h9) rfl dX2_goDown_1 ?_
  refine lv_aload_n hx hb dX2_goDown_4 rfl (lv_at hl 1 rfl) ?_
  refine lv_aload_n hx hb dX2_goDown_5 rfl (lv_at hl 3 rfl) ?_
  refine xc_v (b := ad 13) (As := [.ref (ad 1), .ref (ad (58 + 2 * r))]) (rest := []) ⟨hx, hb, hml, hown, hts⟩ (x_measure1 l dC dI aC ad cap hI v R F G A hE hA r hr hV hT) (cwV 2 hts gX2_goDown_X6_measure rfl rfl rfl (by decide +kernel) ⟨Nat.le_of_ble_eq_true rfl, Nat.le_of_ble_eq_true rfl⟩) (xPre (q0 := 13) (ci := 6) rfl rfl hK hZ hP) hS rfl hl.1 rfl (Nat.le_of_ble_eq_true rfl) dX2_goDown_6 ⟨Nat.le_of_ble_eq_true rfl, Nat.le_of_ble_eq_true rfl⟩ (fun v1 R1 F1 G1 Z S H locs h_6 hZ hP hS => ?_)
  obtain ⟨f0, hu_6, hf0⟩ := h_6
  have hP : va_P (dC, dI) vwCl (wsX aC ad cap v Z S (va_up F 2 f0) G) H := by cases hu_6; exact hP
  have hZ : xOK Z S R := by cases hu_6; exact hZ
  refine lv_aload_n hx hb dX2_goDown_9 rfl (lv_at hl 1 rfl) ?_
  refine lv_iload_n hx hb dX2_goDown_10 rfl (lv_at hl 2 rfl) ?_
  refine xp_i (b := ad 1) (As := [.int (nI k)]) (rest := []) ⟨hx, hb, hml, hown, hts⟩ (x_isRule l dC dI aC ad cap v R (va_up F 2 f0) G n hn hn8 (nI k)) (cwV 1 hts gX2_goDown_X8_isRule rfl rfl rfl (by decide +kernel) ⟨Nat.le_of_ble_eq_true rfl, Nat.le_of_ble_eq_true rfl⟩) (xPre (q0 := 1) (ci := 8) rfl rfl hK hZ hP) rfl hl.1 rfl (Nat.le_of_ble_eq_true rfl) dX2_goDown_11 ⟨Nat.le_of_ble_eq_true rfl, Nat.le_of_ble_eq_true rfl⟩ (fun x_11 h_11 => ?_)
  refine nx_ti (y := bI (rIn (nI k) n)) h_11 ?_
  refine nx_bz (tgt := 36) hx hb dX2_goDown_14 (by decide) (fun c_14 => ?_) (fun c_14 => ?_)
  · skip
    exact absurd (rIn_nI hk (by omega)) c_14
  · skip
    refine lv_aload_n hx hb dX2_goDown_17 rfl (lv_at hl 0 rfl) ?_
    refine lv_aload_n hx hb dX2_goDown_18 rfl (lv_at hl 1 rfl) ?_
    refine va_get (D := (dC, dI)) (ci := 8) (C := RX8) (T := TX8) (N := 4) hx hb hts hin8 hown hK hP 1 rfl rfl 2 (by decide) lk1 (fun _ h9 => h9) rfl dX2_goDown_19 ?_
    refine lv_iload_n hx hb dX2_goDown_22 rfl (lv_at hl 2 rfl) ?_
    refine nx_aald (C := "LeafTrees$Rule") hx hb hK hP 11 4 rfl rfl (i := k) (by omega) (by decide) (show xRules ad k = some (ad (50 + k)) from if_pos (by omega)) dX2_goDown_23 ?_
    refine va_get (D := (dC, dI)) (ci := 4) (C := RX4) (T := TX4) (N := 3) hx hb hts hin4 hown hK hP (50 + k) (xw_ru k (by omega)) rfl 0 (by decide) lk2 (fun _ h9 => h9) rfl dX2_goDown_24 ?_
    refine lv_aload_n hx hb dX2_goDown_27 rfl (lv_at hl 3 rfl) ?_
    refine lv_iload hx hb dX2_goDown_28 (lv_at hl 4 rfl) ?_
    refine xc_i (b := ad 4) (As := [.ref (ad (58 + 2 * (10 + k))), .ref (ad (58 + 2 * r)), .int (nI pl)]) (rest := []) ⟨hx, hb, hml, hown, hts⟩ (x_fits l dC dI aC ad cap hI v R (va_up F 2 f0) G (10 + k) (by omega) r hr pl (by omega) hT hf0) (cwV 3 hts gX2_goDown_X2_fits rfl rfl rfl (by decide +kernel) ⟨Nat.le_of_ble_eq_true rfl, Nat.le_of_ble_eq_true rfl⟩) (xPre (q0 := 4) (ci := 2) rfl rfl hK hZ hP) hS rfl hl.1 rfl (Nat.le_of_ble_eq_true rfl) dX2_goDown_30 ⟨Nat.le_of_ble_eq_true rfl, Nat.le_of_ble_eq_true rfl⟩ (fun x_30 v2 R2 F2 G2 Z S H locs h_30 hZ hP hS => ?_)
    obtain ⟨cc_3, hu_30, hx_30, hm_30⟩ := h_30
    subst hx_30
    have hP : va_P (dC, dI) vwCl (wsX aC ad cap v Z S (va_up (va_up F 2 f0) 3 cc_3) G) H := by cases hu_30; exact hP
    have hZ : xOK Z S R := by cases hu_30; exact hZ
    refine nx_bn (tgt := 39) hx hb dX2_goDown_33 (by decide) (fun c_33 => ?_) (fun c_33 => ?_)
    · skip
      have c_33 : (mt (F 0) (R (10 + k)) (R r) pl).isSome = true := c_33
      obtain ⟨⟨q, ac⟩, hz⟩ := Option.isSome_iff_exists.mp c_33
      have hok := mt_ok (by omega) hz
      refine lv_aload_n hx hb dX2_goDown_39 rfl (lv_at hl 0 rfl) ?_
      refine lv_aload_n hx hb dX2_goDown_40 rfl (lv_at hl 1 rfl) ?_
      refine va_get (D := (dC, dI)) (ci := 8) (C := RX8) (T := TX8) (N := 4) hx hb hts hin8 hown hK hP 1 rfl rfl 2 (by decide) lk1 (fun _ h9 => h9) rfl dX2_goDown_41 ?_
      refine lv_iload_n hx hb dX2_goDown_44 rfl (lv_at hl 2 rfl) ?_
      refine nx_aald (C := "LeafTrees$Rule") hx hb hK hP 11 4 rfl rfl (i := k) (by omega) (by decide) (show xRules ad k = some (ad (50 + k)) from if_pos (by omega)) dX2_goDown_45 ?_
      refine lv_aload_n hx hb dX2_goDown_46 rfl (lv_at hl 3 rfl) ?_
      refine lv_iload hx hb dX2_goDown_47 (lv_at hl 4 rfl) ?_
      refine xc_i (b := ad 4) (As := [.ref (ad (50 + k)), .ref (ad (58 + 2 * r)), .int (nI pl)]) (rest := []) ⟨hx, hb, hml, hown, hts⟩ (x_replace l dC dI aC ad cap hI v R (va_up (va_up F 2 f0) 3 cc_3) G k (by omega) r hr hne pl q hpl ac hok.2.2.1 (mt_acE hz) (hm_30 q ac hz) hf0 (mt_end (hrl k hk).1 (by omega) hz) (fun h => by rw [hok.2.2.2]; exact ((hrl k hk).2 h).2) (by rw [hok.2.2.2]; exact Nat.le_trans (lvs_le _) (hZ (10 + k) (by omega)).1)) (cwV 3 hts gX2_goDown_X2_replace rfl rfl rfl (by decide +kernel) ⟨Nat.le_of_ble_eq_true rfl, Nat.le_of_ble_eq_true rfl⟩) (xPre (q0 := 4) (ci := 2) rfl rfl hK hZ hP) hS rfl hl.1 rfl (Nat.le_of_ble_eq_true rfl) dX2_goDown_49 ⟨Nat.le_of_ble_eq_true rfl, Nat.le_of_ble_eq_true rfl⟩ (fun x_49 v4 R4 F4 G4 Z S H locs h_49 hZ hP hS => ?_)
      obtain ⟨M0, hu_49, hx_49⟩ := h_49
      subst hx_49
      have hP : va_P (dC, dI) vwCl (wsX aC ad cap v Z S (va_up (va_up F 2 f0) 3 cc_3) G) H := by cases hu_49; exact hP
      have hZ : xOK Z S (va_up (va_up R 28 M0) r (useL R (tnX v) (R r) pl k q ac).2) := by cases hu_49; exact hZ
      refine lv_istore (lv' := [(5, .int (useL R (tnX v) (R r) pl k q ac).1), (0, .ref (ad 4)), (1, .ref (ad 1)), (2, .int (nI k)), (3, .ref (ad (58 + 2 * r))), (4, .int (nI pl))]) hx hb dX2_goDown_52 hl (by decide) rfl (fun ls hl => ?_)
      refine lv_iload hx hb dX2_goDown_54 (lv_at hl 0 rfl) ?_
      refine lv_iconst (v := nI 1) hx hb dX2_goDown_56 (by decide) ?_
      refine lv_icmp_ne (tgt := 69) hx hb dX2_goDown_57 (by decide) (fun c_57 => ?_) (fun c_57 => ?_)
      · skip
        refine lv_iload hx hb dX2_goDown_69 (lv_at hl 0 rfl) ?_
        subst hQ
        exact W.iret (v := (useL R (tnX v) (R r) pl k q ac).1) hx hb hret (fun tq htq hWq => ⟨⟨_, (v, va_up (va_up R 28 M0) r (useL R (tnX v) (R r) pl k q ac).2, (va_up (va_up F 2 f0) 3 cc_3), G), rfl, ⟨_, _, _, by rw [goL_2 hz c_57], goL_5b hz c_57⟩, va_K.moved hWq.alike hK, _, _, hZ, by rw [htq]; exact hP⟩, hS.F htq⟩) hS.2.2 dX2_goDown_71
      · skip
        refine lv_aload_n hx hb dX2_goDown_60 rfl (lv_at hl 1 rfl) ?_
        refine lv_aload_n hx hb dX2_goDown_61 rfl (lv_at hl 2 rfl) ?_
        refine lv_aload_n hx hb dX2_goDown_62 rfl (lv_at hl 4 rfl) ?_
        refine xc_i (b := ad 4) (As := [.ref (ad 1), .ref (ad (58 + 2 * r))]) (rest := []) ⟨hx, hb, hml, hown, hts⟩ (x_normalForm l dC dI aC ad cap hI v (va_up (va_up R 28 M0) r (useL R (tnX v) (R r) pl k q ac).2) (va_up (va_up F 2 f0) 3 cc_3) G A hE hA n hn hn8 (rlT_congr hrl (fun k hk => row2 (by omega) (by omega)) (fun k hk => row2 (by omega) (by omega))) (fun k hk => by rw [row2 (by omega) (by omega)]; exact hl0 k hk) r hr hr2 hne (by rw [va_up_self]; exact vR_use hV (hV2 k hk)) (fun k hk => by rw [row2 (by omega) (by omega)]; exact hV2 k hk) (by rw [va_up_self]; exact isT_use hT (hrl k hk).1 (hrl k hk).2 hpl hz c_57)) (cwV 2 hts gX2_goDown_X2_normalForm rfl rfl rfl (by decide +kernel) ⟨Nat.le_of_ble_eq_true rfl, Nat.le_of_ble_eq_true rfl⟩) (xPre (q0 := 4) (ci := 2) rfl rfl hK hZ hP) hS rfl hl.1 rfl (Nat.le_of_ble_eq_true rfl) dX2_goDown_63 ⟨Nat.le_of_ble_eq_true rfl, Nat.le_of_ble_eq_true rfl⟩ (fun x_63 v5 R5 F5 G5 Z S H locs h_63 hZ hP hS => ?_)
        obtain ⟨f1, c1, M1, hu_63, hx_63⟩ := h_63
        rw [va_up_self] at hu_63 hx_63
        have hsc : nfL (F 0) (va_up (va_up R 28 M0) r (useL R (tnX v) (R r) pl k q ac).2) n (tnX v) (useL R (tnX v) (R r) pl k q ac).2 = nfL (F 0) R n (tnX v) (useL R (tnX v) (R r) pl k q ac).2 := nfL_congr (fun k hk => row2 (by omega) (by omega)) (fun k hk => row2 (by omega) (by omega))
        have hx_63 : x_63 = (nfL (F 0) (va_up (va_up R 28 M0) r (useL R (tnX v) (R r) pl k q ac).2) n (tnX v) (useL R (tnX v) (R r) pl k q ac).2).1 := hx_63
        rw [hsc] at hx_63
        subst hx_63
        have hu_63 : (_, va_up (va_up (va_up (va_up R 28 M0) r (useL R (tnX v) (R r) pl k q ac).2) 28 M1) r (nfL (F 0) (va_up (va_up R 28 M0) r (useL R (tnX v) (R r) pl k q ac).2) n (tnX v) (useL R (tnX v) (R r) pl k q ac).2).2, _, _) = _ := hu_63
        rw [hsc, nrm_up hne] at hu_63
        refine lv_goto (tgt := 71) hx hb dX2_goDown_66 (by decide) ?_
        subst hQ
        exact W.iret (v := (nfL (F 0) R n (tnX v) (useL R (tnX v) (R r) pl k q ac).2).1) hx hb hret (fun tq htq hWq => ⟨⟨_, (v5, R5, F5, G5), rfl, ⟨f1, c1, M1, by rw [goL_1 hz c_57, ← hu_63, up4], goL_5a hz c_57⟩, va_K.moved hWq.alike hK, _, _, hZ, by rw [htq]; exact hP⟩, hS.F htq⟩) hS.2.2 dX2_goDown_71
    · skip
      have c_33 : ¬ (mt (F 0) (R (10 + k)) (R r) pl).isSome = true := c_33
      have hz : (mt (F 0) (R (10 + k)) (R r) pl) = none := by simpa using c_33
      refine lv_bipush (v := (-5)) hx hb dX2_goDown_36 (by decide) ?_
      subst hQ
      exact W.iret (v := (-5)) hx hb hret (fun tq htq hWq => ⟨⟨_, (v, R, (va_up (va_up F 2 f0) 3 cc_3), G), rfl, ⟨_, _, R 28, by rw [goL_n hz, up_same2], by rw [goL_n hz]⟩, va_K.moved hWq.alike hK, _, _, hZ, by rw [htq]; exact hP⟩, hS.F htq⟩) hS.2.2 dX2_goDown_38
