set_option maxHeartbeats 1000000 in
set_option maxRecDepth 100000 in
/-- steps -/
theorem k_steps (l : Launch) (dC : Nat → ClassId) (dI : Nat → Nat → Nat) (aC : Nat → ClassId) (am : Nat → Nat) (hI : mI am) (v : Nat → Int32) (R : Nat → List Int32) (F : Nat → Nat → Int32) (G : Nat → Nat → Int64) (A : Nat) (hE : vE A (F 1)) (n : Nat) (hn : v 4 = nI n) (hn8 : n ≤ 8) (hL : ∀ j, j < n → lvs (R (10 + j)) ≤ 13) (hQ0 : ∀ j, j < n → F 4 j = 0 → lvs (R (10 + j)) = lvs (R (18 + j))) (r : Nat) (hr : r < 30) (hne : r ≠ 28) (hV : vR A (R r)) : Met l yX10_steps wsX10_steps ({ frames := 3, cells := 0, slots := 0, locals := 74 } : Room) (va_Pc [.ref (am 0), .int (nI r)] (MB dC dI aC am (v, R, F, G))) (va_Qi (fun (x : Int32) (u : MS) => ∃ a b c d M, (va_up (va_up v 11 a) 12 b, va_up (va_up R 28 M) r (stepL (F 1) R n (F 4) (R r)).2, va_up (va_up F 7 c) 8 d, G) = u ∧ x = (stepL (F 1) R n (F 4) (R r)).1) (MB dC dI aC am) (mA am)) 0 0 (mA am) := by
  refine Met.ofW (cc := cX10_steps) (maxL := 4) (ret := (some .int)) (by decide) rfl ?_
  intro p e s m args below meth c s₁ B hml hv
  obtain ⟨rfl, hK, S, Z, hZ, hP⟩ := hv
  have hx := B.exec
  have hb := B.bytes
  have hret := B.returns
  have hts := atoms_spec (ws := wsX10_steps) B.pre
  have hown : s.vm.findClass RX10 = some m.cls := findClass_of_methodNamed B.named
  have hlocks := B.notSynchronized
  dsimp only at hZ hP
  have lk0 := hts (.fieldLink RX10 16 "LeafTreesModel" "size" "[I") (by decide +kernel)
  have lk1 := hts (.fieldLink RX10 102 "LeafTreesModel" "rules" "I") (by decide +kernel)
  have hin10 : ∀ w ∈ u_ws RX10 TX10 22, w ∈ wsX10_steps := by decide +kernel
  have hS : va_S (mA am) s.heap s.heap [] := va_S.rf
  have hl := lv_entry [.ref (am 0), .int (nI r)] (n := 4) (Nat.le_of_ble_eq_true rfl)
  rw [lg_entry_eq]
  generalize (lg_sl [.ref (am 0), .int (nI r)] ++ List.replicate (4 - (lg_sl [.ref (am 0), .int (nI r)]).length) Slot.unset).toArray = ls at hl ⊢
  have hl : lv_has ls 4 [(0, .ref (am 0)), (1, .int (nI r))] := hl
  refine nx_Q (R := ({ frames := 3, cells := 0, slots := 0, locals := 74 } : Room)) (fun Q hQ => ?_)
  skip
  have hl2 := (hZ r hr).1
  refine lv_iconst (v := nI 0) hx hb dX10_steps_0 (by decide) ?_
  refine lv_istore_n (lv' := [(2, .int (nI 0)), (0, .ref (am 0)), (1, .int (nI r))]) hx hb dX10_steps_1 rfl hl (by decide) rfl (fun ls hl => ?_)
  have L2 : ∀ (fuel2 : Nat) (i : Nat) (wa : Int32) (wb : Int32) (wc : Nat → Int32) (wd : Nat → Int32) (S Z : Nat → Int32) (H : Heap) (locs : List Loc) (ls : Array Slot), (i ≤ (R r).length) → (fnd (fun q => fK (F 1) R n (R r) q) ((R r).length - i) i = fP (F 1) R n (R r)) → mOK S Z R → va_P (dC, dI) vwCl (wsM aC am (va_up (va_up v 11 wa) 12 wb) S Z (va_up (va_up F 7 wc) 8 wd) G) H → va_S (mA am) s.heap H locs → 60 - i < fuel2 → lv_has ls 4 [(0, .ref (am 0)), (1, .int (nI r)), (2, .int (nI i))] → W p l e ({ frames := 3, cells := 0, slots := 0, locals := 74 } : Room) s m ([.ref (am 0), .int (nI r)] : List Value).toArray below meth c H locs 0 0 Q (F0 m 2 ls []) := by
    intro fuel2
    induction fuel2 with
    | zero => intro i wa wb wc wd S Z H locs ls hi hres hZ hP hS hf2 hl; exact absurd hf2 (Nat.not_lt_zero _)
    | succ fuel2 ih2 =>
      intro i wa wb wc wd S Z H locs ls hi hres hZ hP hS hf2 hl
      refine lv_iload_n hx hb dX10_steps_2 rfl (lv_at hl 2 rfl) ?_
      refine lv_aload_n hx hb dX10_steps_3 rfl (lv_at hl 0 rfl) ?_
      refine va_get (D := (dC, dI)) (ci := 10) (C := RX10) (T := TX10) (N := 22) hx hb hts hin10 hown hK hP 0 rfl rfl 3 (by decide) lk0 (fun _ h9 => h9) rfl dX10_steps_4 ?_
      refine lv_iload_n hx hb dX10_steps_7 rfl (lv_at hl 1 rfl) ?_
      refine nx_iald hx hb hK hP 3 0 rfl rfl (i := r) (by omega) (by decide) dX10_steps_8 ?_
      refine nx_ti (y := nI (R r).length) ((hZ r (by omega)).2.1) ?_
      refine nx_icmp_ge (a := i) (b := (R r).length) (tgt := 52) hx hb dX10_steps_9 (by decide) (by omega) (by omega) (fun c_9 => ?_) (fun c_9 => ?_)
      · skip
        refine lv_iconst (v := nI 0) hx hb dX10_steps_52 (by decide) ?_
        subst hQ
        exact W.iret (v := nI 0) hx hb hret (fun tq htq hWq => ⟨⟨_, ((va_up (va_up v 11 wa) 12 wb), R, (va_up (va_up F 7 wc) 8 wd), G), rfl, ⟨_, _, _, _, R 28, by rw [stepL_no (hres.symm.trans (fnd_0 c_9)), up_same2], by rw [stepL_no (hres.symm.trans (fnd_0 c_9))]; rfl⟩, va_K.moved hWq.alike hK, _, _, hZ, by rw [htq]; exact hP⟩, hS.F htq⟩) hS.2.2 dX10_steps_53
      · skip
        refine lv_iconst (v := nI 0) hx hb dX10_steps_12 (by decide) ?_
        refine lv_istore_n (lv' := [(3, .int (nI 0)), (0, .ref (am 0)), (1, .int (nI r)), (2, .int (nI i))]) hx hb dX10_steps_13 rfl hl (by decide) rfl (fun ls hl => ?_)
        have L14 : ∀ (fuel14 : Nat) (j : Nat) (wa : Int32) (wb : Int32) (wc : Nat → Int32) (wd : Nat → Int32) (S Z : Nat → Int32) (H : Heap) (locs : List Loc) (ls : Array Slot), (j ≤ n) → (fnd (fun q => mt (F 1) (R (10 + q)) (R r) i) (n - j) j = fK (F 1) R n (R r) i) → mOK S Z R → va_P (dC, dI) vwCl (wsM aC am (va_up (va_up v 11 wa) 12 wb) S Z (va_up (va_up F 7 wc) 8 wd) G) H → va_S (mA am) s.heap H locs → 8 - j < fuel14 → lv_has ls 4 [(0, .ref (am 0)), (1, .int (nI r)), (2, .int (nI i)), (3, .int (nI j))] → W p l e ({ frames := 3, cells := 0, slots := 0, locals := 74 } : Room) s m ([.ref (am 0), .int (nI r)] : List Value).toArray below meth c H locs 0 0 Q (F0 m 14 ls []) := by
          intro fuel14
          induction fuel14 with
          | zero => intro j wa wb wc wd S Z H locs ls hj hres2 hZ hP hS hf14 hl; exact absurd hf14 (Nat.not_lt_zero _)
          | succ fuel14 ih14 =>
            intro j wa wb wc wd S Z H locs ls hj hres2 hZ hP hS hf14 hl
            refine lv_iload_n hx hb dX10_steps_14 rfl (lv_at hl 3 rfl) ?_
            refine lv_aload_n hx hb dX10_steps_15 rfl (lv_at hl 0 rfl) ?_
            refine va_get (D := (dC, dI)) (ci := 10) (C := RX10) (T := TX10) (N := 22) hx hb hts hin10 hown hK hP 0 rfl rfl 4 (by decide) lk1 (fun _ h9 => h9) rfl dX10_steps_16 ?_
            refine nx_ti (y := nI n) (hn) ?_
            refine nx_icmp_ge (a := j) (b := n) (tgt := 46) hx hb dX10_steps_19 (by decide) (by omega) (by omega) (fun c_19 => ?_) (fun c_19 => ?_)
            · skip
              refine lv_iinc (v := nI (i + 1)) (lv' := [(2, .int (nI (i + 1))), (0, .ref (am 0)), (1, .int (nI r)), (3, .int (nI j))]) hx hb dX10_steps_46 hl (k := 2) rfl (nI_add _ _) (by decide) rfl (fun ls hl => ?_)
              refine lv_goto (tgt := 2) hx hb dX10_steps_49 (by decide) ?_
              exact ih2 (i + 1) wa wb wc wd _ _ _ _ _ (by omega) ((fnd_n c_9 (hres2.symm.trans (fnd_0 c_19))).symm.trans hres) hZ hP hS (by omega) (lv_sub hl [1, 2, 0] rfl)
            · skip
              refine lv_aload_n hx hb dX10_steps_22 rfl (lv_at hl 0 rfl) ?_
              refine lv_iload_n hx hb dX10_steps_23 rfl (lv_at hl 3 rfl) ?_
              refine lv_iload_n hx hb dX10_steps_24 rfl (lv_at hl 1 rfl) ?_
              refine lv_iload_n hx hb dX10_steps_25 rfl (lv_at hl 2 rfl) ?_
              refine mc_i (As := [.int (nI j), .int (nI r), .int (nI i)]) (rest := []) ⟨hx, hb, hml, hown, hts⟩ (k_lies l dC dI aC am hI (va_up (va_up v 11 wa) 12 wb) R (va_up (va_up F 7 wc) 8 wd) G A hE j (by omega) r hr hV (hL j c_19) i (by omega)) (cwV 3 hts gX10_steps_X10_lies rfl rfl rfl (by decide +kernel) ⟨Nat.le_of_ble_eq_true rfl, Nat.le_of_ble_eq_true rfl⟩) hK hZ hP hS rfl hl.1 rfl (Nat.le_of_ble_eq_true rfl) dX10_steps_26 ⟨Nat.le_of_ble_eq_true rfl, Nat.le_of_ble_eq_true rfl⟩ (fun x_26 v1 R1 F1 G1 S Z H locs h_26 hZ hP hS => ?_)
              obtain ⟨la2, lb2, lc2, ld2, hu_26, hx_26, hm_26⟩ := h_26
              subst hx_26
              have hP : va_P (dC, dI) vwCl (wsM aC am (va_up (va_up v 11 la2) 12 lb2) S Z (va_up (va_up F 7 lc2) 8 ld2) G) H := by cases hu_26; exact hP
              have hZ : mOK S Z R := by cases hu_26; exact hZ
              refine nx_bz (tgt := 40) hx hb dX10_steps_29 (by decide) (fun c_29 => ?_) (fun c_29 => ?_)
              · skip
                have c_29 : ¬ (mt (F 1) (R (10 + j)) (R r) i).isSome = true := c_29
                refine lv_iinc (v := nI (j + 1)) (lv' := [(3, .int (nI (j + 1))), (0, .ref (am 0)), (1, .int (nI r)), (2, .int (nI i))]) hx hb dX10_steps_40 hl (k := 3) rfl (nI_add _ _) (by decide) rfl (fun ls hl => ?_)
                refine lv_goto (tgt := 14) hx hb dX10_steps_43 (by decide) ?_
                exact ih14 (j + 1) la2 lb2 lc2 ld2 _ _ _ _ _ (by omega) ((fnd_n c_19 (by simpa using c_29)).symm.trans hres2) hZ hP hS (by omega) (lv_sub hl [1, 2, 3, 0] rfl)
              · skip
                have c_29 : (mt (F 1) (R (10 + j)) (R r) i).isSome = true := c_29
                obtain ⟨⟨q, ac⟩, hz⟩ := Option.isSome_iff_exists.mp c_29
                have hmq := hm_26 q ac hz
                have hok := mt_ok (by omega) hz
                refine lv_aload_n hx hb dX10_steps_32 rfl (lv_at hl 0 rfl) ?_
                refine lv_iload_n hx hb dX10_steps_33 rfl (lv_at hl 3 rfl) ?_
                refine lv_iload_n hx hb dX10_steps_34 rfl (lv_at hl 1 rfl) ?_
                refine lv_iload_n hx hb dX10_steps_35 rfl (lv_at hl 2 rfl) ?_
                refine mc_i (As := [.int (nI j), .int (nI r), .int (nI i)]) (rest := []) ⟨hx, hb, hml, hown, hts⟩ (k_uses l dC dI aC am hI (va_up (va_up v 11 la2) 12 lb2) R (va_up (va_up F 7 lc2) 8 ld2) G j (by omega) r hr hne i q (by omega) hmq.1 hok.1 ac hok.2.2.1 hmq.2 (fun h => by rw [hok.2.2.2]; exact hQ0 j c_19 h) (by rw [hok.2.2.2]; exact hL j c_19)) (cwV 3 hts gX10_steps_X10_uses rfl rfl rfl (by decide +kernel) ⟨Nat.le_of_ble_eq_true rfl, Nat.le_of_ble_eq_true rfl⟩) hK hZ hP hS rfl hl.1 rfl (Nat.le_of_ble_eq_true rfl) dX10_steps_36 ⟨Nat.le_of_ble_eq_true rfl, Nat.le_of_ble_eq_true rfl⟩ (fun x_36 v3 R3 F3 G3 S Z H locs h_36 hZ hP hS => ?_)
                obtain ⟨M0, hu36, hx36⟩ := h_36
                subst hx36
                subst hQ
                exact W.iret (v := (useL R (F 4) (R r) i j q ac).1) hx hb hret (fun tq htq hWq => ⟨⟨_, (v3, R3, F3, G3), rfl, ⟨_, _, _, _, M0, by rw [stepL_yes (hres.symm.trans (fnd_y c_9 (hres2.symm.trans (fnd_y c_19 hz))))]; exact hu36, by rw [stepL_yes (hres.symm.trans (fnd_y c_9 (hres2.symm.trans (fnd_y c_19 hz))))]⟩, va_K.moved hWq.alike hK, _, _, hZ, by rw [htq]; exact hP⟩, hS.F htq⟩) hS.2.2 dX10_steps_39
        exact L14 (8 - 0 + 1) 0 wa wb wc wd _ _ _ _ _ (by omega) rfl hZ hP hS (Nat.lt_succ_self _) (lv_sub hl [1, 2, 3, 0] rfl)
  exact L2 (60 - 0 + 1) 0 (v 11) (v 12) (F 7) (F 8) _ _ _ _ _ (by omega) rfl hZ hP hS (Nat.lt_succ_self _) (lv_sub hl [1, 2, 0] rfl)

set_option maxHeartbeats 1000000 in
set_option maxRecDepth 100000 in
/-- isBarred -/
theorem k_isBarred (l : Launch) (dC : Nat → ClassId) (dI : Nat → Nat → Nat) (aC : Nat → ClassId) (am : Nat → Nat) (hI : mI am) (v : Nat → Int32) (R : Nat → List Int32) (F : Nat → Nat → Int32) (G : Nat → Nat → Int64) (A : Nat) (hE : vE A (F 1)) (n : Nat) (hn : v 4 = nI n) (hn8 : n ≤ 8) (hL : ∀ j, j < n → lvs (R (10 + j)) ≤ 13) (hV : vR A (R 29)) : Met l yX10_isBarred wsX10_isBarred ({ frames := 3, cells := 0, slots := 0, locals := 73 } : Room) (va_Pc [.ref (am 0)] (MB dC dI aC am (v, R, F, G))) (va_Qi (fun (x : Int32) (u : MS) => ∃ a b c d, (va_up (va_up v 11 a) 12 b, R, va_up (va_up F 7 c) 8 d, G) = u ∧ x = bI ((fP (F 1) R n (R 29)).isSome = true)) (MB dC dI aC am) (mA am)) 0 0 (mA am) := by
  refine Met.ofW (cc := cX10_isBarred) (maxL := 3) (ret := (some .boolean)) (by decide) rfl ?_
  intro p e s m args below meth c s₁ B hml hv
  obtain ⟨rfl, hK, S, Z, hZ, hP⟩ := hv
  have hx := B.exec
  have hb := B.bytes
  have hret := B.returns
  have hts := atoms_spec (ws := wsX10_isBarred) B.pre
  have hown : s.vm.findClass RX10 = some m.cls := findClass_of_methodNamed B.named
  have hlocks := B.notSynchronized
  dsimp only at hZ hP
  have lk0 := hts (.fieldLink RX10 16 "LeafTreesModel" "size" "[I") (by decide +kernel)
  have lk1 := hts (.fieldLink RX10 102 "LeafTreesModel" "rules" "I") (by decide +kernel)
  have hin10 : ∀ w ∈ u_ws RX10 TX10 22, w ∈ wsX10_isBarred := by decide +kernel
  have hS : va_S (mA am) s.heap s.heap [] := va_S.rf
  have hl := lv_entry [.ref (am 0)] (n := 3) (Nat.le_of_ble_eq_true rfl)
  rw [lg_entry_eq]
  generalize (lg_sl [.ref (am 0)] ++ List.replicate (3 - (lg_sl [.ref (am 0)]).length) Slot.unset).toArray = ls at hl ⊢
  have hl : lv_has ls 3 [(0, .ref (am 0))] := hl
  refine nx_Q (R := ({ frames := 3, cells := 0, slots := 0, locals := 73 } : Room)) (fun Q hQ => ?_)
  skip
  have hl2 := (hZ 29 (by decide)).1
  refine lv_iconst (v := nI 0) hx hb dX10_isBarred_0 (by decide) ?_
  refine lv_istore_n (lv' := [(1, .int (nI 0)), (0, .ref (am 0))]) hx hb dX10_isBarred_1 rfl hl (by decide) rfl (fun ls hl => ?_)
  have L2 : ∀ (fuel2 : Nat) (i : Nat) (wa : Int32) (wb : Int32) (wc : Nat → Int32) (wd : Nat → Int32) (S Z : Nat → Int32) (H : Heap) (locs : List Loc) (ls : Array Slot), (i ≤ (R 29).length) → (fnd (fun q => fK (F 1) R n (R 29) q) ((R 29).length - i) i = fP (F 1) R n (R 29)) → mOK S Z R → va_P (dC, dI) vwCl (wsM aC am (va_up (va_up v 11 wa) 12 wb) S Z (va_up (va_up F 7 wc) 8 wd) G) H → va_S (mA am) s.heap H locs → 60 - i < fuel2 → lv_has ls 3 [(0, .ref (am 0)), (1, .int (nI i))] → W p l e ({ frames := 3, cells := 0, slots := 0, locals := 73 } : Room) s m ([.ref (am 0)] : List Value).toArray below meth c H locs 0 0 Q (F0 m 2 ls []) := by
    intro fuel2
    induction fuel2 with
    | zero => intro i wa wb wc wd S Z H locs ls hi hres hZ hP hS hf2 hl; exact absurd hf2 (Nat.not_lt_zero _)
    | succ fuel2 ih2 =>
      intro i wa wb wc wd S Z H locs ls hi hres hZ hP hS hf2 hl
      refine lv_iload_n hx hb dX10_isBarred_2 rfl (lv_at hl 1 rfl) ?_
      refine lv_aload_n hx hb dX10_isBarred_3 rfl (lv_at hl 0 rfl) ?_
      refine va_get (D := (dC, dI)) (ci := 10) (C := RX10) (T := TX10) (N := 22) hx hb hts hin10 hown hK hP 0 rfl rfl 3 (by decide) lk0 (fun _ h9 => h9) rfl dX10_isBarred_4 ?_
      refine lv_bipush (v := nI 29) hx hb dX10_isBarred_7 (by decide) ?_
      refine nx_iald hx hb hK hP 3 0 rfl rfl (i := 29) (by omega) (by decide) dX10_isBarred_9 ?_
      refine nx_ti (y := nI (R 29).length) ((hZ 29 (by omega)).2.1) ?_
      refine nx_icmp_ge (a := i) (b := (R 29).length) (tgt := 48) hx hb dX10_isBarred_10 (by decide) (by omega) (by omega) (fun c_10 => ?_) (fun c_10 => ?_)
      · skip
        refine lv_iconst (v := nI 0) hx hb dX10_isBarred_48 (by decide) ?_
        subst hQ
        exact W.zret (v := nI 0) hx hb hret (rfl) (fun tq htq hWq => ⟨⟨_, ((va_up (va_up v 11 wa) 12 wb), R, (va_up (va_up F 7 wc) 8 wd), G), rfl, ⟨_, _, _, _, rfl, (bI_f (by rw [hres.symm.trans (fnd_0 c_10)]; decide)).symm⟩, va_K.moved hWq.alike hK, _, _, hZ, by rw [htq]; exact hP⟩, hS.F htq⟩) hS.2.2 dX10_isBarred_49
      · skip
        refine lv_iconst (v := nI 0) hx hb dX10_isBarred_13 (by decide) ?_
        refine lv_istore_n (lv' := [(2, .int (nI 0)), (0, .ref (am 0)), (1, .int (nI i))]) hx hb dX10_isBarred_14 rfl hl (by decide) rfl (fun ls hl => ?_)
        have L15 : ∀ (fuel15 : Nat) (j : Nat) (wa : Int32) (wb : Int32) (wc : Nat → Int32) (wd : Nat → Int32) (S Z : Nat → Int32) (H : Heap) (locs : List Loc) (ls : Array Slot), (j ≤ n) → (fnd (fun q => mt (F 1) (R (10 + q)) (R 29) i) (n - j) j = fK (F 1) R n (R 29) i) → mOK S Z R → va_P (dC, dI) vwCl (wsM aC am (va_up (va_up v 11 wa) 12 wb) S Z (va_up (va_up F 7 wc) 8 wd) G) H → va_S (mA am) s.heap H locs → 8 - j < fuel15 → lv_has ls 3 [(0, .ref (am 0)), (1, .int (nI i)), (2, .int (nI j))] → W p l e ({ frames := 3, cells := 0, slots := 0, locals := 73 } : Room) s m ([.ref (am 0)] : List Value).toArray below meth c H locs 0 0 Q (F0 m 15 ls []) := by
          intro fuel15
          induction fuel15 with
          | zero => intro j wa wb wc wd S Z H locs ls hj hres2 hZ hP hS hf15 hl; exact absurd hf15 (Nat.not_lt_zero _)
          | succ fuel15 ih15 =>
            intro j wa wb wc wd S Z H locs ls hj hres2 hZ hP hS hf15 hl
            refine lv_iload_n hx hb dX10_isBarred_15 rfl (lv_at hl 2 rfl) ?_
            refine lv_aload_n hx hb dX10_isBarred_16 rfl (lv_at hl 0 rfl) ?_
            refine va_get (D := (dC, dI)) (ci := 10) (C := RX10) (T := TX10) (N := 22) hx hb hts hin10 hown hK hP 0 rfl rfl 4 (by decide) lk1 (fun _ h9 => h9) rfl dX10_isBarred_17 ?_
            refine nx_ti (y := nI n) (hn) ?_
            refine nx_icmp_ge (a := j) (b := n) (tgt := 42) hx hb dX10_isBarred_20 (by decide) (by omega) (by omega) (fun c_20 => ?_) (fun c_20 => ?_)
            · skip
              refine lv_iinc (v := nI (i + 1)) (lv' := [(1, .int (nI (i + 1))), (0, .ref (am 0)), (2, .int (nI j))]) hx hb dX10_isBarred_42 hl (k := 1) rfl (nI_add _ _) (by decide) rfl (fun ls hl => ?_)
              refine lv_goto (tgt := 2) hx hb dX10_isBarred_45 (by decide) ?_
              exact ih2 (i + 1) wa wb wc wd _ _ _ _ _ (by omega) ((fnd_n c_10 (hres2.symm.trans (fnd_0 c_20))).symm.trans hres) hZ hP hS (by omega) (lv_sub hl [1, 0] rfl)
            · skip
              refine lv_aload_n hx hb dX10_isBarred_23 rfl (lv_at hl 0 rfl) ?_
              refine lv_iload_n hx hb dX10_isBarred_24 rfl (lv_at hl 2 rfl) ?_
              refine lv_bipush (v := nI 29) hx hb dX10_isBarred_25 (by decide) ?_
              refine lv_iload_n hx hb dX10_isBarred_27 rfl (lv_at hl 1 rfl) ?_
              refine mc_i (As := [.int (nI j), .int (nI 29), .int (nI i)]) (rest := []) ⟨hx, hb, hml, hown, hts⟩ (k_lies l dC dI aC am hI (va_up (va_up v 11 wa) 12 wb) R (va_up (va_up F 7 wc) 8 wd) G A hE j (by omega) 29 (by decide) hV (hL j c_20) i (by omega)) (cwV 3 hts gX10_isBarred_X10_lies rfl rfl rfl (by decide +kernel) ⟨Nat.le_of_ble_eq_true rfl, Nat.le_of_ble_eq_true rfl⟩) hK hZ hP hS rfl hl.1 rfl (Nat.le_of_ble_eq_true rfl) dX10_isBarred_28 ⟨Nat.le_of_ble_eq_true rfl, Nat.le_of_ble_eq_true rfl⟩ (fun x_28 v1 R1 F1 G1 S Z H locs h_28 hZ hP hS => ?_)
              obtain ⟨la2, lb2, lc2, ld2, hu_28, hx_28, hm_28⟩ := h_28
              subst hx_28
              have hP : va_P (dC, dI) vwCl (wsM aC am (va_up (va_up v 11 la2) 12 lb2) S Z (va_up (va_up F 7 lc2) 8 ld2) G) H := by cases hu_28; exact hP
              have hZ : mOK S Z R := by cases hu_28; exact hZ
              refine nx_bz (tgt := 36) hx hb dX10_isBarred_31 (by decide) (fun c_31 => ?_) (fun c_31 => ?_)
              · skip
                have c_31 : ¬ (mt (F 1) (R (10 + j)) (R 29) i).isSome = true := c_31
                refine lv_iinc (v := nI (j + 1)) (lv' := [(2, .int (nI (j + 1))), (0, .ref (am 0)), (1, .int (nI i))]) hx hb dX10_isBarred_36 hl (k := 2) rfl (nI_add _ _) (by decide) rfl (fun ls hl => ?_)
                refine lv_goto (tgt := 15) hx hb dX10_isBarred_39 (by decide) ?_
                exact ih15 (j + 1) la2 lb2 lc2 ld2 _ _ _ _ _ (by omega) ((fnd_n c_20 (by simpa using c_31)).symm.trans hres2) hZ hP hS (by omega) (lv_sub hl [1, 2, 0] rfl)
              · skip
                have c_31 : (mt (F 1) (R (10 + j)) (R 29) i).isSome = true := c_31
                obtain ⟨⟨q, ac⟩, hz⟩ := Option.isSome_iff_exists.mp c_31
                refine lv_iconst (v := nI 1) hx hb dX10_isBarred_34 (by decide) ?_
                subst hQ
                exact W.zret (v := nI 1) hx hb hret (rfl) (fun tq htq hWq => ⟨⟨_, ((va_up (va_up v 11 la2) 12 lb2), R, (va_up (va_up F 7 lc2) 8 ld2), G), rfl, ⟨_, _, _, _, rfl, (bI_t (by rw [hres.symm.trans (fnd_y c_10 (hres2.symm.trans (fnd_y c_20 hz)))]; rfl)).symm⟩, va_K.moved hWq.alike hK, _, _, hZ, by rw [htq]; exact hP⟩, hS.F htq⟩) hS.2.2 dX10_isBarred_35
        exact L15 (8 - 0 + 1) 0 wa wb wc wd _ _ _ _ _ (by omega) rfl hZ hP hS (Nat.lt_succ_self _) (lv_sub hl [1, 2, 0] rfl)
  exact L2 (60 - 0 + 1) 0 (v 11) (v 12) (F 7) (F 8) _ _ _ _ _ (by omega) rfl hZ hP hS (Nat.lt_succ_self _) (lv_sub hl [1, 0] rfl)
