set_option maxHeartbeats 1000000 in
set_option maxRecDepth 100000 in
/-- wantedYet -/
theorem k_wantedYet (l : Launch) (dC : Nat → ClassId) (dI : Nat → Nat → Nat) (aC : Nat → ClassId) (am : Nat → Nat) (v : Nat → Int32) (R : Nat → List Int32) (F : Nat → Nat → Int32) (G : Nat → Nat → Int64) (A : Nat) (hE : vE A (F 1)) (hV : vR A (R 29)) (hop : opW (F 1) (R 29)) : Met l yX10_wantedYet wsX10_wantedYet ({ frames := 1, cells := 0, slots := 0, locals := 21 } : Room) (va_Pc [.ref (am 0)] (MB dC dI aC am (v, R, F, G))) (vp_Si (fun x => x = nI (wyL (F 1) (R 29)))) 0 0 (fun _ => False) := by
  refine Met.ofW (cc := cX10_wantedYet) (maxL := 3) (ret := (some .int)) (by decide) rfl ?_
  intro p e s m args below meth c s₁ B hml hv
  obtain ⟨rfl, hK, S, Z, hZ, hP⟩ := hv
  have hx := B.exec
  have hb := B.bytes
  have hret := B.returns
  have hts := atoms_spec (ws := wsX10_wantedYet) B.pre
  have hown : s.vm.findClass RX10 = some m.cls := findClass_of_methodNamed B.named
  have hlocks := B.notSynchronized
  dsimp only at hZ hP
  have lk0 := hts (.fieldLink RX10 16 "LeafTreesModel" "size" "[I") (by decide +kernel)
  have lk1 := hts (.fieldLink RX10 13 "LeafTreesModel" "symbol" "[I") (by decide +kernel)
  have hin10 : ∀ w ∈ u_ws RX10 TX10 22, w ∈ wsX10_wantedYet := by decide +kernel
  have hl := lv_entry [.ref (am 0)] (n := 3) (Nat.le_of_ble_eq_true rfl)
  rw [lg_entry_eq]
  generalize (lg_sl [.ref (am 0)] ++ List.replicate (3 - (lg_sl [.ref (am 0)]).length) Slot.unset).toArray = ls at hl ⊢
  have hl : lv_has ls 3 [(0, .ref (am 0))] := hl
  refine nx_Q (R := ({ frames := 1, cells := 0, slots := 0, locals := 21 } : Room)) (fun Q hQ => ?_)
  have hlen := (hZ 29 (by decide)).1
  refine lv_iconst (v := nI 1) hx hb dX10_wantedYet_0 (by decide) ?_
  refine lv_istore_n (lv' := [(1, .int (nI 1)), (0, .ref (am 0))]) hx hb dX10_wantedYet_1 rfl hl (by decide) rfl (fun ls hl => ?_)
  refine lv_iconst (v := nI 0) hx hb dX10_wantedYet_2 (by decide) ?_
  refine lv_istore_n (lv' := [(2, .int (nI 0)), (1, .int (nI 1)), (0, .ref (am 0))]) hx hb dX10_wantedYet_3 rfl hl (by decide) rfl (fun ls hl => ?_)
  have L4 : ∀ (fuel4 : Nat) (i : Nat) (ls : Array Slot), (i ≤ (R 29).length) → (wyF (wt (F 1)) (gD (R 29)) i ≤ 1 + 3 * i) → 60 - i < fuel4 → lv_has ls 3 [(0, .ref (am 0)), (1, .int (nI (wyF (wt (F 1)) (gD (R 29)) i))), (2, .int (nI i))] → W p l e ({ frames := 1, cells := 0, slots := 0, locals := 21 } : Room) s m ([.ref (am 0)] : List Value).toArray below meth c s.heap [] 0 0 Q (F0 m 4 ls []) := by
    intro fuel4
    induction fuel4 with
    | zero => intro i ls hi hk hf4 hl; exact absurd hf4 (Nat.not_lt_zero _)
    | succ fuel4 ih4 =>
      intro i ls hi hk hf4 hl
      refine lv_iload_n hx hb dX10_wantedYet_4 rfl (lv_at hl 2 rfl) ?_
      refine lv_aload_n hx hb dX10_wantedYet_5 rfl (lv_at hl 0 rfl) ?_
      refine va_get (D := (dC, dI)) (ci := 10) (C := RX10) (T := TX10) (N := 22) hx hb hts hin10 hown hK hP 0 rfl rfl 3 (by decide) lk0 (fun _ h9 => h9) rfl dX10_wantedYet_6 ?_
      refine lv_bipush (v := nI 29) hx hb dX10_wantedYet_9 (by decide) ?_
      refine nx_iald hx hb hK hP 3 0 rfl rfl (i := 29) (by omega) (by decide) dX10_wantedYet_11 ?_
      refine nx_ti (y := nI (R 29).length) ((hZ 29 (by omega)).2.1) ?_
      refine nx_icmp_ge (a := i) (b := (R 29).length) (tgt := 40) hx hb dX10_wantedYet_12 (by decide) (by omega) (by omega) (fun c_12 => ?_) (fun c_12 => ?_)
      · skip
        refine lv_iload_n hx hb dX10_wantedYet_40 rfl (lv_at hl 1 rfl) ?_
        subst hQ
        exact W.iret (v := nI (wyF (wt (F 1)) (gD (R 29)) i)) hx hb hret (fun tq htq hWq => ⟨_, rfl, by rw [wyL, show (R 29).length = i by omega], htq⟩) (fun q h => by cases h) dX10_wantedYet_41
      · skip
        refine lv_iload_n hx hb dX10_wantedYet_15 rfl (lv_at hl 1 rfl) ?_
        refine lv_aload_n hx hb dX10_wantedYet_16 rfl (lv_at hl 0 rfl) ?_
        refine lv_aload_n hx hb dX10_wantedYet_17 rfl (lv_at hl 0 rfl) ?_
        refine va_get (D := (dC, dI)) (ci := 10) (C := RX10) (T := TX10) (N := 22) hx hb hts hin10 hown hK hP 0 rfl rfl 2 (by decide) lk1 (fun _ h9 => h9) rfl dX10_wantedYet_18 ?_
        refine lv_sipush (v := nI 1740) hx hb dX10_wantedYet_21 (by decide) ?_
        refine lv_iload_n hx hb dX10_wantedYet_24 rfl (lv_at hl 2 rfl) ?_
        refine lv_iadd hx hb dX10_wantedYet_25 ?_
        refine nx_ti (y := nI (1740 + i)) (nI_add _ _) ?_
        refine nx_iald hx hb hK hP 2 0 rfl rfl (i := 1740 + i) (by have := (hZ 29 (by omega)).1; omega) (by decide) dX10_wantedYet_26 ?_
        refine nx_ti (y := gD (R 29) i) ((hZ 29 (by omega)).2.2 i (by omega)) ?_
        refine mp_i (As := [.int (gD (R 29) i)]) (rest := [.int (nI (wyF (wt (F 1)) (gD (R 29)) i))]) ⟨hx, hb, hml, hown, hts⟩ (k_wants l dC dI aC am v R F G A hE (gD (R 29) i) (hV i c_12)) (cwV 1 hts gX10_wantedYet_X10_wants rfl rfl rfl (by decide +kernel) ⟨Nat.le_of_ble_eq_true rfl, Nat.le_of_ble_eq_true rfl⟩) hK hZ hP rfl hl.1 rfl (Nat.le_of_ble_eq_true rfl) dX10_wantedYet_27 ⟨Nat.le_of_ble_eq_true rfl, Nat.le_of_ble_eq_true rfl⟩ (fun x_27 h_27 => ?_)
        subst h_27
        refine lv_iconst (v := nI 1) hx hb dX10_wantedYet_30 (by decide) ?_
        refine lv_isub hx hb dX10_wantedYet_31 ?_
        refine lv_iadd hx hb dX10_wantedYet_32 ?_
        refine nx_ti (y := nI (wyF (wt (F 1)) (gD (R 29)) (i + 1))) (nI_adj (hop i c_12)) ?_
        refine lv_istore_n (lv' := [(1, .int (nI (wyF (wt (F 1)) (gD (R 29)) (i + 1)))), (0, .ref (am 0)), (2, .int (nI i))]) hx hb dX10_wantedYet_33 rfl hl (by decide) rfl (fun ls hl => ?_)
        refine lv_iinc (v := nI (i + 1)) (lv' := [(2, .int (nI (i + 1))), (1, .int (nI (wyF (wt (F 1)) (gD (R 29)) (i + 1)))), (0, .ref (am 0))]) hx hb dX10_wantedYet_34 hl (k := 2) rfl (nI_add _ _) (by decide) rfl (fun ls hl => ?_)
        refine lv_goto (tgt := 4) hx hb dX10_wantedYet_37 (by decide) ?_
        exact ih4 (i + 1) _ (by omega) (by have := wt_le hE (hV i c_12); rw [wyF]; omega) (by omega) (lv_sub hl [2, 1, 0] rfl)
  exact L4 (60 - 0 + 1) 0 _ (by omega) (Nat.le_refl _) (Nat.lt_succ_self _) (lv_sub hl [2, 1, 0] rfl)

set_option maxHeartbeats 1000000 in
set_option maxRecDepth 100000 in
/-- goesOn -/
theorem k_goesOn (l : Launch) (dC : Nat → ClassId) (dI : Nat → Nat → Nat) (aC : Nat → ClassId) (am : Nat → Nat) (hI : mI am) (v : Nat → Int32) (R : Nat → List Int32) (F : Nat → Nat → Int32) (G : Nat → Nat → Int64) (A : Nat) (hA : v 0 = nI A) (hA4 : A ≤ 4) (hV : vR A (R 29)) : Met l yX10_goesOn wsX10_goesOn ({ frames := 0, cells := 0, slots := 0, locals := 0 } : Room) (va_Pc [.ref (am 0)] (MB dC dI aC am (v, R, F, G))) (va_Qi (fun (x : Int32) (u : MS) => (v, va_up R 29 ((gon A (R 29)).getD []), F, G) = u ∧ x = bI ((gon A (R 29)).isSome = true)) (MB dC dI aC am) (mA am)) 0 0 (mA am) := by
  refine Met.ofW (cc := cX10_goesOn) (maxL := 2) (ret := (some .boolean)) (by decide) rfl ?_
  intro p e s m args below meth c s₁ B hml hv
  obtain ⟨rfl, hK, S, Z, hZ, hP⟩ := hv
  have hx := B.exec
  have hb := B.bytes
  have hret := B.returns
  have hts := atoms_spec (ws := wsX10_goesOn) B.pre
  have hown : s.vm.findClass RX10 = some m.cls := findClass_of_methodNamed B.named
  have hlocks := B.notSynchronized
  dsimp only at hZ hP
  have lk0 := hts (.fieldLink RX10 16 "LeafTreesModel" "size" "[I") (by decide +kernel)
  have lk1 := hts (.fieldLink RX10 13 "LeafTreesModel" "symbol" "[I") (by decide +kernel)
  have lk2 := hts (.fieldLink RX10 55 "LeafTreesModel" "acts" "I") (by decide +kernel)
  have hin10 : ∀ w ∈ u_ws RX10 TX10 22, w ∈ wsX10_goesOn := by decide +kernel
  have hS : va_S (mA am) s.heap s.heap [] := va_S.rf
  have hl := lv_entry [.ref (am 0)] (n := 2) (Nat.le_of_ble_eq_true rfl)
  rw [lg_entry_eq]
  generalize (lg_sl [.ref (am 0)] ++ List.replicate (2 - (lg_sl [.ref (am 0)]).length) Slot.unset).toArray = ls at hl ⊢
  have hl : lv_has ls 2 [(0, .ref (am 0))] := hl
  refine nx_Q (R := ({ frames := 0, cells := 0, slots := 0, locals := 0 } : Room)) (fun Q hQ => ?_)
  skip
  have L0 : ∀ (fuel0 : Nat) (Wd : List Int32) (S Z : Nat → Int32) (H : Heap) (locs : List Loc) (ls : Array Slot), (gon A Wd = (gon A (R 29))) → (vR A Wd) → mOK S Z (va_up R 29 Wd) → va_P (dC, dI) vwCl (wsM aC am v S Z F G) H → va_S (mA am) s.heap H locs → Wd.length < fuel0 → lv_has ls 2 [(0, .ref (am 0))] → W p l e ({ frames := 0, cells := 0, slots := 0, locals := 0 } : Room) s m ([.ref (am 0)] : List Value).toArray below meth c H locs 0 0 Q (F0 m 0 ls []) := by
    intro fuel0
    induction fuel0 with
    | zero => intro Wd S Z H locs ls hgo hvW hZ hP hS hf0 hl; exact absurd hf0 (Nat.not_lt_zero _)
    | succ fuel0 ih0 =>
      intro Wd S Z H locs ls hgo hvW hZ hP hS hf0 hl
      have hlW : Wd.length ≤ 60 := by have := (hZ 29 (by decide)).1; rwa [va_up_self] at this
      refine lv_aload_n hx hb dX10_goesOn_0 rfl (lv_at hl 0 rfl) ?_
      refine va_get (D := (dC, dI)) (ci := 10) (C := RX10) (T := TX10) (N := 22) hx hb hts hin10 hown hK hP 0 rfl rfl 3 (by decide) lk0 (fun _ h9 => h9) rfl dX10_goesOn_1 ?_
      refine lv_bipush (v := nI 29) hx hb dX10_goesOn_4 (by decide) ?_
      refine nx_iald hx hb hK hP 3 0 rfl rfl (i := 29) (by omega) (by decide) dX10_goesOn_6 ?_
      refine nx_ti (y := nI ((va_up R 29 Wd) 29).length) ((hZ 29 (by omega)).2.1) ?_
      refine nx_ti (y := nI Wd.length) (by rw [va_up_self]) ?_
      refine nx_if_le (tgt := 65) hx hb dX10_goesOn_7 (by decide) (by omega) (fun c_7 => ?_) (fun c_7 => ?_)
      · skip
        refine lv_iconst (v := nI 0) hx hb dX10_goesOn_65 (by decide) ?_
        subst hQ
        exact W.zret (v := nI 0) hx hb hret (rfl) (fun tq htq hWq => ⟨⟨_, (v, va_up R 29 Wd, F, G), rfl, ⟨by rw [← hgo, List.length_eq_zero_iff.mp c_7, gon_nil]; rfl, (bI_f (by rw [← hgo, List.length_eq_zero_iff.mp c_7, gon_nil]; decide)).symm⟩, va_K.moved hWq.alike hK, _, _, hZ, by rw [htq]; exact hP⟩, hS.F htq⟩) hS.2.2 dX10_goesOn_66
      · skip
        obtain ⟨W1, z, hWz0⟩ := snoc_of c_7
        obtain ⟨k, hk, hzk⟩ := vS_sy.mp (vR_init (by rw [hWz0] at hvW; exact hvW)).2
        have hWz : Wd = W1 ++ [sy k] := by rw [hWz0, hzk]
        have hWl : Wd.length = W1.length + 1 := by rw [hWz, List.length_append, List.length_singleton]
        have hR29 : va_up R 29 Wd 29 = W1 ++ [sy k] := by rw [va_up_self, hWz]
        refine lv_sipush (v := nI 1740) hx hb dX10_goesOn_10 (by decide) ?_
        refine lv_aload_n hx hb dX10_goesOn_13 rfl (lv_at hl 0 rfl) ?_
        refine va_get (D := (dC, dI)) (ci := 10) (C := RX10) (T := TX10) (N := 22) hx hb hts hin10 hown hK hP 0 rfl rfl 3 (by decide) lk0 (fun _ h9 => h9) rfl dX10_goesOn_14 ?_
        refine lv_bipush (v := nI 29) hx hb dX10_goesOn_17 (by decide) ?_
        refine nx_iald hx hb hK hP 3 0 rfl rfl (i := 29) (by omega) (by decide) dX10_goesOn_19 ?_
        refine nx_ti (y := nI ((va_up R 29 Wd) 29).length) ((hZ 29 (by omega)).2.1) ?_
        refine nx_ti (y := nI Wd.length) (by rw [va_up_self]) ?_
        refine lv_iadd hx hb dX10_goesOn_20 ?_
        refine nx_ti (y := nI (1740 + Wd.length)) (nI_add _ _) ?_
        refine lv_iconst (v := nI 1) hx hb dX10_goesOn_21 (by decide) ?_
        refine lv_isub hx hb dX10_goesOn_22 ?_
        refine nx_ti (y := nI ((1740 + Wd.length) - 1)) (pk_sub (by omega)) ?_
        refine nx_ti (y := nI (1740 + W1.length)) (by congr 1; omega) ?_
        refine lv_istore_n (lv' := [(1, .int (nI (1740 + W1.length))), (0, .ref (am 0))]) hx hb dX10_goesOn_23 rfl hl (by decide) rfl (fun ls hl => ?_)
        refine lv_aload_n hx hb dX10_goesOn_24 rfl (lv_at hl 1 rfl) ?_
        refine va_get (D := (dC, dI)) (ci := 10) (C := RX10) (T := TX10) (N := 22) hx hb hts hin10 hown hK hP 0 rfl rfl 2 (by decide) lk1 (fun _ h9 => h9) rfl dX10_goesOn_25 ?_
        refine lv_iload_n hx hb dX10_goesOn_28 rfl (lv_at hl 0 rfl) ?_
        refine nx_iald hx hb hK hP 2 0 rfl rfl (i := 1740 + W1.length) (by omega) (by decide) dX10_goesOn_29 ?_
        refine nx_ti (y := gD ((va_up R 29 Wd) 29) W1.length) ((hZ 29 (by omega)).2.2 W1.length (by rw [va_up_self]; omega)) ?_
        refine nx_ti (y := sy k) (by rw [hR29, gD_snoc]) ?_
        refine lv_aload_n hx hb dX10_goesOn_30 rfl (lv_at hl 1 rfl) ?_
        refine va_get (D := (dC, dI)) (ci := 10) (C := RX10) (T := TX10) (N := 22) hx hb hts hin10 hown hK hP 0 rfl rfl 0 (by decide) lk2 (fun _ h9 => h9) rfl dX10_goesOn_31 ?_
        refine nx_ti (y := nI A) (hA) ?_
        refine lv_iconst (v := nI 1) hx hb dX10_goesOn_34 (by decide) ?_
        refine lv_isub hx hb dX10_goesOn_35 ?_
        refine lv_icmp_ge (tgt := 51) hx hb dX10_goesOn_36 (by decide) (fun c_36 => ?_) (fun c_36 => ?_)
        · skip
          have hk2 : A ≤ k := (sy_lt (by omega) (by omega)).mp c_36
          refine lv_aload_n hx hb dX10_goesOn_51 rfl (lv_at hl 1 rfl) ?_
          refine va_get (D := (dC, dI)) (ci := 10) (C := RX10) (T := TX10) (N := 22) hx hb hts hin10 hown hK hP 0 rfl rfl 3 (by decide) lk0 (fun _ h9 => h9) rfl dX10_goesOn_52 ?_
          refine lv_bipush (v := nI 29) hx hb dX10_goesOn_55 (by decide) ?_
          refine lv_dup2_11 hx hb dX10_goesOn_57 rfl rfl ?_
          refine nx_iald hx hb hK hP 3 0 rfl rfl (i := 29) (by omega) (by decide) dX10_goesOn_58 ?_
          refine nx_ti (y := nI ((va_up R 29 Wd) 29).length) ((hZ 29 (by omega)).2.1) ?_
          refine nx_ti (y := nI Wd.length) (by rw [va_up_self]) ?_
          refine lv_iconst (v := nI 1) hx hb dX10_goesOn_59 (by decide) ?_
          refine lv_isub hx hb dX10_goesOn_60 ?_
          refine nx_ti (y := nI (Wd.length - 1)) (pk_sub (by omega)) ?_
          refine nx_ti (y := nI W1.length) (by congr 1; omega) ?_
          refine nx_iast hx hb hK hP (wsM_D hI) hS 3 0 rfl rfl (i := 29) (by omega) (by decide) dX10_goesOn_61 (fun H locs hP hS => ?_)
          have hP : va_P (dC, dI) vwCl (wsM aC am v S (upd Z 29 (nI W1.length)) F G) H := hP
          have hZ := mOK_pop hZ hR29
          rw [up_up] at hZ
          refine lv_goto (tgt := 0) hx hb dX10_goesOn_62 (by decide) ?_
          exact ih0 W1 _ _ _ _ _ (by rw [← hgo, hWz, gon_n hk2 (by omega)]) (vR_init (by rw [hWz] at hvW; exact hvW)).1 hZ hP hS (by omega) (lv_sub hl [1] rfl)
        · skip
          have hk2 : k < A := Classical.byContradiction (fun h => c_36 ((sy_lt (by omega) (by omega)).mpr (by omega)))
          refine lv_aload_n hx hb dX10_goesOn_39 rfl (lv_at hl 1 rfl) ?_
          refine va_get (D := (dC, dI)) (ci := 10) (C := RX10) (T := TX10) (N := 22) hx hb hts hin10 hown hK hP 0 rfl rfl 2 (by decide) lk1 (fun _ h9 => h9) rfl dX10_goesOn_40 ?_
          refine lv_iload_n hx hb dX10_goesOn_43 rfl (lv_at hl 0 rfl) ?_
          refine lv_dup2_11 hx hb dX10_goesOn_44 rfl rfl ?_
          refine nx_iald hx hb hK hP 2 0 rfl rfl (i := 1740 + W1.length) (by omega) (by decide) dX10_goesOn_45 ?_
          refine nx_ti (y := gD ((va_up R 29 Wd) 29) W1.length) ((hZ 29 (by omega)).2.2 W1.length (by rw [va_up_self]; omega)) ?_
          refine nx_ti (y := sy k) (by rw [hR29, gD_snoc]) ?_
          refine lv_iconst (v := nI 1) hx hb dX10_goesOn_46 (by decide) ?_
          refine lv_iadd hx hb dX10_goesOn_47 ?_
          refine nx_ti (y := sy (k + 1)) (sy_add k) ?_
          refine nx_iast hx hb hK hP (wsM_D hI) hS 2 0 rfl rfl (i := 1740 + W1.length) (by omega) (by decide) dX10_goesOn_48 (fun H locs hP hS => ?_)
          have hP : va_P (dC, dI) vwCl (wsM aC am v (upd S (1740 + W1.length) (sy (k + 1))) Z F G) H := hP
          have hZ := mOK_last hZ (by decide) hR29 (sy (k + 1))
          rw [up_up] at hZ
          refine lv_iconst (v := nI 1) hx hb dX10_goesOn_49 (by decide) ?_
          subst hQ
          exact W.zret (v := nI 1) hx hb hret (rfl) (fun tq htq hWq => ⟨⟨_, (v, va_up R 29 (W1 ++ [sy (k + 1)]), F, G), rfl, ⟨by rw [← hgo, hWz, gon_y hk2 (by omega)]; rfl, (bI_t (by rw [← hgo, hWz, gon_y hk2 (by omega)]; rfl)).symm⟩, va_K.moved hWq.alike hK, _, _, hZ, by rw [htq]; exact hP⟩, hS.F htq⟩) hS.2.2 dX10_goesOn_50
  exact L0 ((R 29).length + 1) (R 29) _ _ _ _ _ rfl hV (by rw [up_eta]; exact hZ) hP hS (Nat.lt_succ_self _) (lv_sub hl [0] rfl)

set_option maxHeartbeats 1000000 in
set_option maxRecDepth 100000 in
/-- countOf -/
theorem k_countOf (l : Launch) (dC : Nat → ClassId) (dI : Nat → Nat → Nat) (aC : Nat → ClassId) (am : Nat → Nat) (hI : mI am) (v : Nat → Int32) (R : Nat → List Int32) (F : Nat → Nat → Int32) (G : Nat → Nat → Int64) (A : Nat) (hE : vE A (F 1)) (hA : v 0 = nI A) (nr : Nat) (hn : v 4 = nI nr) (hn8 : nr ≤ 8) (hL : ∀ j, j < nr → lvs (R (10 + j)) ≤ 13) (n : Nat) (hn2 : 2 ≤ n) (hn6 : n ≤ 6) : Met l yX10_countOf wsX10_countOf ({ frames := 4, cells := 0, slots := 0, locals := 95 } : Room) (va_Pc [.ref (am 0), .int (nI n)] (MB dC dI aC am (v, R, F, G))) (va_Ql (fun (x : Int64) (u : MS) => ∃ a b c d M, (va_up (va_up v 11 a) 12 b, va_up R 29 M, va_up (va_up F 7 c) 8 d, G) = u ∧ x = lN (cntM (F 1) R nr A n)) (MB dC dI aC am) (mA am)) 0 0 (mA am) := by
  refine Met.ofW (cc := cX10_countOf) (maxL := 7) (ret := (some .long)) (by decide) rfl ?_
  intro p e s m args below meth c s₁ B hml hv
  obtain ⟨rfl, hK, S, Z, hZ, hP⟩ := hv
  have hx := B.exec
  have hb := B.bytes
  have hret := B.returns
  have hts := atoms_spec (ws := wsX10_countOf) B.pre
  have hown : s.vm.findClass RX10 = some m.cls := findClass_of_methodNamed B.named
  have hlocks := B.notSynchronized
  dsimp only at hZ hP
  have lk0 := hts (.fieldLink RX10 16 "LeafTreesModel" "size" "[I") (by decide +kernel)
  have hin10 : ∀ w ∈ u_ws RX10 TX10 22, w ∈ wsX10_countOf := by decide +kernel
  have hS : va_S (mA am) s.heap s.heap [] := va_S.rf
  have hl := lv_entry [.ref (am 0), .int (nI n)] (n := 7) (Nat.le_of_ble_eq_true rfl)
  rw [lg_entry_eq]
  generalize (lg_sl [.ref (am 0), .int (nI n)] ++ List.replicate (7 - (lg_sl [.ref (am 0), .int (nI n)]).length) Slot.unset).toArray = ls at hl ⊢
  have hl : lv_has ls 7 [(0, .ref (am 0)), (1, .int (nI n))] := hl
  refine nx_Q (R := ({ frames := 4, cells := 0, slots := 0, locals := 95 } : Room)) (fun Q hQ => ?_)
  skip
  have hA4 := hE.1
  refine lv_lconst (v := 0) hx hb dX10_countOf_0 (by decide) ?_
  refine lv_lstore_n (lv' := [(2, .long 0), (0, .ref (am 0)), (1, .int (nI n))]) hx hb dX10_countOf_1 rfl hl (by decide) rfl (fun ls hl => ?_)
  refine lv_aload_n hx hb dX10_countOf_2 rfl (lv_at hl 1 rfl) ?_
  refine va_get (D := (dC, dI)) (ci := 10) (C := RX10) (T := TX10) (N := 22) hx hb hts hin10 hown hK hP 0 rfl rfl 3 (by decide) lk0 (fun _ h9 => h9) rfl dX10_countOf_3 ?_
  refine lv_bipush (v := nI 29) hx hb dX10_countOf_6 (by decide) ?_
  refine lv_iconst (v := nI 0) hx hb dX10_countOf_8 (by decide) ?_
  refine nx_iast hx hb hK hP (wsM_D hI) hS 3 0 rfl rfl (i := 29) (by omega) (by decide) dX10_countOf_9 (fun H locs hP hS => ?_)
  have hP : va_P (dC, dI) vwCl (wsM aC am v S (upd Z 29 (nI 0)) F G) H := hP
  have hZ := mOK_clear hZ 29
  refine lv_aload_n hx hb dX10_countOf_10 rfl (lv_at hl 1 rfl) ?_
  refine lv_bipush (v := nI 29) hx hb dX10_countOf_11 (by decide) ?_
  refine lv_iconst (v := (-1)) hx hb dX10_countOf_13 (by decide) ?_
  refine mc_v (As := [.int (nI 29), .int (-1)]) (rest := []) ⟨hx, hb, hml, hown, hts⟩ (k_comes l dC dI aC am hI v (va_up R 29 []) F G 29 (by decide) (by rw [va_up_self]; decide) (-1)) (cwV 2 hts gX10_countOf_X10_comes rfl rfl rfl (by decide +kernel) ⟨Nat.le_of_ble_eq_true rfl, Nat.le_of_ble_eq_true rfl⟩) hK hZ hP hS rfl hl.1 rfl (Nat.le_of_ble_eq_true rfl) dX10_countOf_14 ⟨Nat.le_of_ble_eq_true rfl, Nat.le_of_ble_eq_true rfl⟩ (fun v1 R1 F1 G1 S Z H locs h_14 hZ hP hS => ?_)
  rw [up_up, va_up_self] at h_14
  cases h_14
  refine lv_iconst (v := nI 1) hx hb dX10_countOf_17 (by decide) ?_
  refine lv_istore (lv' := [(4, .int (nI 1)), (2, .long 0), (0, .ref (am 0)), (1, .int (nI n))]) hx hb dX10_countOf_18 hl (by decide) rfl (fun ls hl => ?_)
  have L20 : ∀ (fuel20 : Nat) (Wd : List Int32) (many : Nat) (wa : Int32) (wb : Int32) (wc : Nat → Int32) (wd : Nat → Int32) (S Z : Nat → Int32) (H : Heap) (locs : List Loc) (ls : Array Slot), (opW (F 1) Wd) → (vR A Wd) → (Wd.length ≤ 12) → (0 < Wd.length) → (many + (scF (F 1) R nr n A (13 - Wd.length) Wd + rcL (scF (F 1) R nr n A) A Wd) = cntM (F 1) R nr A n) → mOK S Z (va_up R 29 Wd) → va_P (dC, dI) vwCl (wsM aC am (va_up (va_up v 11 wa) 12 wb) S Z (va_up (va_up F 7 wc) 8 wd) G) H → va_S (mA am) s.heap H locs → snF (F 1) R nr n A (13 - Wd.length) Wd + rcL (snF (F 1) R nr n A) A Wd < fuel20 → lv_has ls 7 [(0, .ref (am 0)), (1, .int (nI n)), (2, .long (lN many)), (4, .int (nI 1))] → W p l e ({ frames := 4, cells := 0, slots := 0, locals := 95 } : Room) s m ([.ref (am 0), .int (nI n)] : List Value).toArray below meth c H locs 0 0 Q (F0 m 20 ls []) := by
    intro fuel20
    induction fuel20 with
    | zero => intro Wd many wa wb wc wd S Z H locs ls hoW hvW hl12 hl1 hsum hZ hP hS hf20 hl; exact absurd hf20 (Nat.not_lt_zero _)
    | succ fuel20 ih20 =>
      intro Wd many wa wb wc wd S Z H locs ls hoW hvW hl12 hl1 hsum hZ hP hS hf20 hl
      have hlv := lvs_le Wd
      have hwy : wyL (F 1) Wd ≤ 1 + 3 * 12 := by have := wy_le hE Wd.length Wd rfl hvW; omega
      refine lv_iload hx hb dX10_countOf_20 (lv_at hl 3 rfl) ?_
      refine nx_if_eq (tgt := 115) hx hb dX10_countOf_22 (by decide) (by omega) (fun c_22 => ?_) (fun c_22 => ?_)
      · skip
        exact absurd c_22 (by decide)
      · skip
        refine lv_aload_n hx hb dX10_countOf_25 rfl (lv_at hl 0 rfl) ?_
        refine mp_i (As := []) (rest := []) ⟨hx, hb, hml, hown, hts⟩ (k_wantedYet l dC dI aC am (va_up (va_up v 11 wa) 12 wb) (va_up R 29 Wd) (va_up (va_up F 7 wc) 8 wd) G A hE (by rw [va_up_self]; exact hvW) (by rw [va_up_self]; exact hoW)) (cwV 0 hts gX10_countOf_X10_wantedYet rfl rfl rfl (by decide +kernel) ⟨Nat.le_of_ble_eq_true rfl, Nat.le_of_ble_eq_true rfl⟩) hK hZ hP rfl hl.1 rfl (Nat.le_of_ble_eq_true rfl) dX10_countOf_26 ⟨Nat.le_of_ble_eq_true rfl, Nat.le_of_ble_eq_true rfl⟩ (fun x_26 h_26 => ?_)
        subst h_26
        refine nx_ti (y := nI (wyL (F 1) Wd)) (by rw [va_up_self]; rfl) ?_
        refine lv_istore (lv' := [(5, .int (nI (wyL (F 1) Wd))), (0, .ref (am 0)), (1, .int (nI n)), (2, .long (lN many)), (4, .int (nI 1))]) hx hb dX10_countOf_29 hl (by decide) rfl (fun ls hl => ?_)
        refine lv_aload_n hx hb dX10_countOf_31 rfl (lv_at hl 1 rfl) ?_
        refine lv_bipush (v := nI 29) hx hb dX10_countOf_32 (by decide) ?_
        refine mp_i (As := [.int (nI 29)]) (rest := []) ⟨hx, hb, hml, hown, hts⟩ (k_leaves l dC dI aC am (va_up (va_up v 11 wa) 12 wb) (va_up R 29 Wd) (va_up (va_up F 7 wc) 8 wd) G 29 (by decide)) (cwV 1 hts gX10_countOf_X10_leaves rfl rfl rfl (by decide +kernel) ⟨Nat.le_of_ble_eq_true rfl, Nat.le_of_ble_eq_true rfl⟩) hK hZ hP rfl hl.1 rfl (Nat.le_of_ble_eq_true rfl) dX10_countOf_34 ⟨Nat.le_of_ble_eq_true rfl, Nat.le_of_ble_eq_true rfl⟩ (fun x_34 h_34 => ?_)
        subst h_34
        refine nx_ti (y := nI (lvs Wd)) (by rw [va_up_self]) ?_
        refine lv_iload hx hb dX10_countOf_37 (lv_at hl 0 rfl) ?_
        refine lv_iadd hx hb dX10_countOf_39 ?_
        refine nx_ti (y := nI (lvs Wd + wyL (F 1) Wd)) (nI_add _ _) ?_
        refine lv_iload_n hx hb dX10_countOf_40 rfl (lv_at hl 2 rfl) ?_
        refine nx_icmp_gt (a := (lvs Wd + wyL (F 1) Wd)) (b := n) (tgt := 55) hx hb dX10_countOf_41 (by decide) (by omega) (by omega) (fun c_41 => ?_) (fun c_41 => ?_)
        · skip
          refine lv_iconst (v := nI 0) hx hb dX10_countOf_55 (by decide) ?_
          refine lv_istore (lv' := [(6, .int (nI 0)), (5, .int (nI (wyL (F 1) Wd))), (0, .ref (am 0)), (1, .int (nI n)), (2, .long (lN many)), (4, .int (nI 1))]) hx hb dX10_countOf_56 hl (by decide) rfl (fun ls hl => ?_)
          have hnm : ¬ mayW (F 1) R nr n Wd := fun h => by have := h.1; omega
          refine lv_iload hx hb dX10_countOf_58 (lv_at hl 0 rfl) ?_
          refine nx_if_eq (tgt := 86) hx hb dX10_countOf_60 (by decide) (by omega) (fun c_60 => ?_) (fun c_60 => ?_)
          · skip
            refine lv_iload hx hb dX10_countOf_86 (lv_at hl 0 rfl) ?_
            refine nx_if_eq (tgt := 106) hx hb dX10_countOf_88 (by decide) (by omega) (fun c_88 => ?_) (fun c_88 => ?_)
            · skip
              have hown0 : scF (F 1) R nr n A (13 - Wd.length) Wd = 0 := by rw [sc_own hl12 (fun h => hnm h.1), if_neg (fun h => hnm h.1)]
              refine lv_aload_n hx hb dX10_countOf_106 rfl (lv_at hl 2 rfl) ?_
              refine mc_i (As := []) (rest := []) ⟨hx, hb, hml, hown, hts⟩ (k_goesOn l dC dI aC am hI (va_up (va_up v 11 wa) 12 wb) (va_up R 29 Wd) (va_up (va_up F 7 wc) 8 wd) G A hA hA4 (by rw [va_up_self]; exact hvW)) (cwV 0 hts gX10_countOf_X10_goesOn rfl rfl rfl (by decide +kernel) ⟨Nat.le_of_ble_eq_true rfl, Nat.le_of_ble_eq_true rfl⟩) hK hZ hP hS rfl hl.1 rfl (Nat.le_of_ble_eq_true rfl) dX10_countOf_107 ⟨Nat.le_of_ble_eq_true rfl, Nat.le_of_ble_eq_true rfl⟩ (fun x_107 v2 R2 F2 G2 S Z H locs h_107 hZ hP hS => ?_)
              obtain ⟨hu_107, hx_107⟩ := h_107
              rw [va_up_self, up_up] at hu_107
              rw [va_up_self] at hx_107
              refine nx_ti hx_107 ?_
              cases hu_107
              by_cases hgo0 : (gon A Wd).isSome = true
              · skip
                obtain ⟨W2, hgo⟩ := Option.isSome_iff_exists.mp hgo0
                have hgk := gon_ok (E := F 1) (by omega) Wd.length Wd W2 (Nat.le_refl _) hvW hoW hgo
                have hrc := rc_some (f := scF (F 1) R nr n A) (A := A) (by omega) hvW hgo
                have hrn := rc_some (f := snF (F 1) R nr n A) (A := A) (by omega) hvW hgo
                rw [hgo] at hZ
                have hZ : mOK S Z (va_up R 29 ((gon A Wd).getD [])) := by rw [hgo]; exact hZ
                refine nx_ti (y := nI 1) (bI_t hgo0) ?_
                refine lv_istore (lv' := [(4, .int (nI 1)), (6, .int (nI 0)), (5, .int (nI (wyL (F 1) Wd))), (0, .ref (am 0)), (1, .int (nI n)), (2, .long (lN many))]) hx hb dX10_countOf_110 hl (by decide) rfl (fun ls hl => ?_)
                refine lv_goto (tgt := 20) hx hb dX10_countOf_112 (by decide) ?_
                exact ih20 W2 many wa wb wc wd _ _ _ _ _ hgk.2.1 hgk.1 (by omega) hgk.2.2.1 (by rw [← hsum, hown0, hrc]; omega) (by rw [hgo] at hZ; exact hZ) hP hS (by have hp := sn_pos (E := F 1) (R := R) (nr := nr) (n := n) (A := A) (f := 13 - Wd.length) (W := Wd); rw [hrn] at hf20; omega) (lv_sub hl [3, 4, 5, 0] rfl)
              · skip
                have hgo : gon A Wd = none := by simpa using hgo0
                have hrc := rc_none (f := scF (F 1) R nr n A) (A := A) (by omega) hvW hgo
                refine nx_ti (y := nI 0) (bI_f hgo0) ?_
                refine lv_istore (lv' := [(4, .int (nI 0)), (6, .int (nI 0)), (5, .int (nI (wyL (F 1) Wd))), (0, .ref (am 0)), (1, .int (nI n)), (2, .long (lN many))]) hx hb dX10_countOf_110 hl (by decide) rfl (fun ls hl => ?_)
                refine lv_goto (tgt := 20) hx hb dX10_countOf_112 (by decide) ?_
                refine lv_iload hx hb dX10_countOf_20 (lv_at hl 0 rfl) ?_
                refine nx_if_eq (tgt := 115) hx hb dX10_countOf_22 (by decide) (by omega) (fun c_22 => ?_) (fun c_22 => ?_)
                · skip
                  refine lv_lload_n hx hb dX10_countOf_115 rfl (lv_at hl 5 rfl) ?_
                  subst hQ
                  exact W.lret (v := lN many) hx hb hret (fun tq htq hWq => ⟨⟨_, ((va_up (va_up v 11 wa) 12 wb), va_up R 29 ((gon A Wd).getD []), (va_up (va_up F 7 wc) 8 wd), G), rfl, ⟨_, _, _, _, _, rfl, by first | (rw [← hsum, hown0, hrc]; done) | (rw [← hsum, hown0, hrc]; rfl)⟩, va_K.moved hWq.alike hK, _, _, hZ, by rw [htq]; exact hP⟩, hS.F htq⟩) hS.2.2 dX10_countOf_116
                · skip
                  exact absurd rfl c_22
            · skip
              exact absurd rfl c_88
          · skip
            exact absurd rfl c_60
        · skip
          refine lv_aload_n hx hb dX10_countOf_44 rfl (lv_at hl 1 rfl) ?_
          refine mc_i (As := []) (rest := []) ⟨hx, hb, hml, hown, hts⟩ (k_isBarred l dC dI aC am hI (va_up (va_up v 11 wa) 12 wb) (va_up R 29 Wd) (va_up (va_up F 7 wc) 8 wd) G A hE nr hn hn8 (fun j hj => by rw [upn (show 10 + j ≠ 29 by omega)]; exact hL j hj) (by rw [va_up_self]; exact hvW)) (cwV 0 hts gX10_countOf_X10_isBarred rfl rfl rfl (by decide +kernel) ⟨Nat.le_of_ble_eq_true rfl, Nat.le_of_ble_eq_true rfl⟩) hK hZ hP hS rfl hl.1 rfl (Nat.le_of_ble_eq_true rfl) dX10_countOf_45 ⟨Nat.le_of_ble_eq_true rfl, Nat.le_of_ble_eq_true rfl⟩ (fun x_45 v3 R3 F3 G3 S Z H locs h_45 hZ hP hS => ?_)
          obtain ⟨la4, lb4, lc4, ld4, hu_45, hx_45⟩ := h_45
          have hbar : fP (F 1) (va_up R 29 Wd) nr ((va_up R 29 Wd) 29) = fP (F 1) R nr Wd := by rw [va_up_self]; exact fP_congr (fun j hj => upn (show 10 + j ≠ 29 by omega))
          have hx_45 : x_45 = bI ((fP (F 1) (va_up R 29 Wd) nr ((va_up R 29 Wd) 29)).isSome = true) := hx_45
          refine nx_ti (hx_45.trans (bI_iff (by rw [hbar]))) ?_
          have hP : va_P (dC, dI) vwCl (wsM aC am (va_up (va_up v 11 la4) 12 lb4) S Z (va_up (va_up F 7 lc4) 8 ld4) G) H := by cases hu_45; exact hP
          have hZ : mOK S Z (va_up R 29 Wd) := by cases hu_45; exact hZ
          refine nx_bn (tgt := 55) hx hb dX10_countOf_48 (by decide) (fun c_48 => ?_) (fun c_48 => ?_)
          · skip
            refine lv_iconst (v := nI 0) hx hb dX10_countOf_55 (by decide) ?_
            refine lv_istore (lv' := [(6, .int (nI 0)), (5, .int (nI (wyL (F 1) Wd))), (0, .ref (am 0)), (1, .int (nI n)), (2, .long (lN many)), (4, .int (nI 1))]) hx hb dX10_countOf_56 hl (by decide) rfl (fun ls hl => ?_)
            have hnm : ¬ mayW (F 1) R nr n Wd := fun h => h.2 c_48
            refine lv_iload hx hb dX10_countOf_58 (lv_at hl 0 rfl) ?_
            refine nx_if_eq (tgt := 86) hx hb dX10_countOf_60 (by decide) (by omega) (fun c_60 => ?_) (fun c_60 => ?_)
            · skip
              refine lv_iload hx hb dX10_countOf_86 (lv_at hl 0 rfl) ?_
              refine nx_if_eq (tgt := 106) hx hb dX10_countOf_88 (by decide) (by omega) (fun c_88 => ?_) (fun c_88 => ?_)
              · skip
                have hown0 : scF (F 1) R nr n A (13 - Wd.length) Wd = 0 := by rw [sc_own hl12 (fun h => hnm h.1), if_neg (fun h => hnm h.1)]
                refine lv_aload_n hx hb dX10_countOf_106 rfl (lv_at hl 2 rfl) ?_
                refine mc_i (As := []) (rest := []) ⟨hx, hb, hml, hown, hts⟩ (k_goesOn l dC dI aC am hI (va_up (va_up v 11 la4) 12 lb4) (va_up R 29 Wd) (va_up (va_up F 7 lc4) 8 ld4) G A hA hA4 (by rw [va_up_self]; exact hvW)) (cwV 0 hts gX10_countOf_X10_goesOn rfl rfl rfl (by decide +kernel) ⟨Nat.le_of_ble_eq_true rfl, Nat.le_of_ble_eq_true rfl⟩) hK hZ hP hS rfl hl.1 rfl (Nat.le_of_ble_eq_true rfl) dX10_countOf_107 ⟨Nat.le_of_ble_eq_true rfl, Nat.le_of_ble_eq_true rfl⟩ (fun x_107 v5 R5 F5 G5 S Z H locs h_107 hZ hP hS => ?_)
                obtain ⟨hu_107, hx_107⟩ := h_107
                rw [va_up_self, up_up] at hu_107
                rw [va_up_self] at hx_107
                refine nx_ti hx_107 ?_
                cases hu_107
                by_cases hgo0 : (gon A Wd).isSome = true
                · skip
                  obtain ⟨W2, hgo⟩ := Option.isSome_iff_exists.mp hgo0
                  have hgk := gon_ok (E := F 1) (by omega) Wd.length Wd W2 (Nat.le_refl _) hvW hoW hgo
                  have hrc := rc_some (f := scF (F 1) R nr n A) (A := A) (by omega) hvW hgo
                  have hrn := rc_some (f := snF (F 1) R nr n A) (A := A) (by omega) hvW hgo
                  rw [hgo] at hZ
                  have hZ : mOK S Z (va_up R 29 ((gon A Wd).getD [])) := by rw [hgo]; exact hZ
                  refine nx_ti (y := nI 1) (bI_t hgo0) ?_
                  refine lv_istore (lv' := [(4, .int (nI 1)), (6, .int (nI 0)), (5, .int (nI (wyL (F 1) Wd))), (0, .ref (am 0)), (1, .int (nI n)), (2, .long (lN many))]) hx hb dX10_countOf_110 hl (by decide) rfl (fun ls hl => ?_)
                  refine lv_goto (tgt := 20) hx hb dX10_countOf_112 (by decide) ?_
                  exact ih20 W2 many la4 lb4 lc4 ld4 _ _ _ _ _ hgk.2.1 hgk.1 (by omega) hgk.2.2.1 (by rw [← hsum, hown0, hrc]; omega) (by rw [hgo] at hZ; exact hZ) hP hS (by have hp := sn_pos (E := F 1) (R := R) (nr := nr) (n := n) (A := A) (f := 13 - Wd.length) (W := Wd); rw [hrn] at hf20; omega) (lv_sub hl [3, 4, 5, 0] rfl)
                · skip
                  have hgo : gon A Wd = none := by simpa using hgo0
                  have hrc := rc_none (f := scF (F 1) R nr n A) (A := A) (by omega) hvW hgo
                  refine nx_ti (y := nI 0) (bI_f hgo0) ?_
                  refine lv_istore (lv' := [(4, .int (nI 0)), (6, .int (nI 0)), (5, .int (nI (wyL (F 1) Wd))), (0, .ref (am 0)), (1, .int (nI n)), (2, .long (lN many))]) hx hb dX10_countOf_110 hl (by decide) rfl (fun ls hl => ?_)
                  refine lv_goto (tgt := 20) hx hb dX10_countOf_112 (by decide) ?_
                  refine lv_iload hx hb dX10_countOf_20 (lv_at hl 0 rfl) ?_
                  refine nx_if_eq (tgt := 115) hx hb dX10_countOf_22 (by decide) (by omega) (fun c_22 => ?_) (fun c_22 => ?_)
                  · skip
                    refine lv_lload_n hx hb dX10_countOf_115 rfl (lv_at hl 5 rfl) ?_
                    subst hQ
                    exact W.lret (v := lN many) hx hb hret (fun tq htq hWq => ⟨⟨_, ((va_up (va_up v 11 la4) 12 lb4), va_up R 29 ((gon A Wd).getD []), (va_up (va_up F 7 lc4) 8 ld4), G), rfl, ⟨_, _, _, _, _, rfl, by first | (rw [← hsum, hown0, hrc]; done) | (rw [← hsum, hown0, hrc]; rfl)⟩, va_K.moved hWq.alike hK, _, _, hZ, by rw [htq]; exact hP⟩, hS.F htq⟩) hS.2.2 dX10_countOf_116
                  · skip
                    exact absurd rfl c_22
              · skip
                exact absurd rfl c_88
            · skip
              exact absurd rfl c_60
          · skip
            refine lv_iconst (v := nI 1) hx hb dX10_countOf_51 (by decide) ?_
            refine lv_goto (tgt := 56) hx hb dX10_countOf_52 (by decide) ?_
            refine lv_istore (lv' := [(6, .int (nI 1)), (5, .int (nI (wyL (F 1) Wd))), (0, .ref (am 0)), (1, .int (nI n)), (2, .long (lN many)), (4, .int (nI 1))]) hx hb dX10_countOf_56 hl (by decide) rfl (fun ls hl => ?_)
            have hmy : mayW (F 1) R nr n Wd := ⟨by omega, c_48⟩
            have hl11 : Wd.length ≤ 11 := by have := len_bd hE Wd.length Wd rfl hvW hoW; omega
            refine lv_iload hx hb dX10_countOf_58 (lv_at hl 0 rfl) ?_
            refine nx_if_eq (tgt := 86) hx hb dX10_countOf_60 (by decide) (by omega) (fun c_60 => ?_) (fun c_60 => ?_)
            · skip
              exact absurd c_60 (by decide)
            · skip
              refine lv_iload hx hb dX10_countOf_63 (lv_at hl 1 rfl) ?_
              refine nx_if_ne (tgt := 86) hx hb dX10_countOf_65 (by decide) (by omega) (fun c_65 => ?_) (fun c_65 => ?_)
              · skip
                refine lv_iload hx hb dX10_countOf_86 (lv_at hl 0 rfl) ?_
                refine nx_if_eq (tgt := 106) hx hb dX10_countOf_88 (by decide) (by omega) (fun c_88 => ?_) (fun c_88 => ?_)
                · skip
                  exact absurd c_88 (by decide)
                · skip
                  refine lv_iload hx hb dX10_countOf_91 (lv_at hl 1 rfl) ?_
                  refine nx_if_le (tgt := 106) hx hb dX10_countOf_93 (by decide) (by omega) (fun c_93 => ?_) (fun c_93 => ?_)
                  · skip
                    exact absurd c_93 c_65
                  · skip
                    refine lv_aload_n hx hb dX10_countOf_96 rfl (lv_at hl 2 rfl) ?_
                    refine lv_bipush (v := nI 29) hx hb dX10_countOf_97 (by decide) ?_
                    refine lv_iconst (v := (-1)) hx hb dX10_countOf_99 (by decide) ?_
                    refine mc_v (As := [.int (nI 29), .int (-1)]) (rest := []) ⟨hx, hb, hml, hown, hts⟩ (k_comes l dC dI aC am hI (va_up (va_up v 11 la4) 12 lb4) (va_up R 29 Wd) (va_up (va_up F 7 lc4) 8 ld4) G 29 (by decide) (by rw [va_up_self]; omega) (-1)) (cwV 2 hts gX10_countOf_X10_comes rfl rfl rfl (by decide +kernel) ⟨Nat.le_of_ble_eq_true rfl, Nat.le_of_ble_eq_true rfl⟩) hK hZ hP hS rfl hl.1 rfl (Nat.le_of_ble_eq_true rfl) dX10_countOf_100 ⟨Nat.le_of_ble_eq_true rfl, Nat.le_of_ble_eq_true rfl⟩ (fun v6 R6 F6 G6 S Z H locs h_100 hZ hP hS => ?_)
                    rw [up_up, va_up_self] at h_100
                    cases h_100
                    refine lv_goto (tgt := 112) hx hb dX10_countOf_103 (by decide) ?_
                    refine lv_goto (tgt := 20) hx hb dX10_countOf_112 (by decide) ?_
                    exact ih20 (Wd ++ [sy 0]) many la4 lb4 lc4 ld4 _ _ _ _ _ (opW_snoc hoW c_93) (vR_app hvW (vR_one (Or.inl sy_0))) (by rw [List.length_append, List.length_singleton]; omega) (by rw [List.length_append, List.length_singleton]; omega) (by have := sc_push (E := F 1) (R := R) (nr := nr) (n := n) (A := A) hl11 hmy (by omega); omega) (by rw [sy_0]; exact hZ) hP hS (by have := sn_push (E := F 1) (R := R) (nr := nr) (n := n) (A := A) hl11 hmy (by omega); omega) (lv_sub hl [2, 3, 4, 5] rfl)
              · skip
                refine lv_lload_n hx hb dX10_countOf_68 rfl (lv_at hl 4 rfl) ?_
                refine lv_aload_n hx hb dX10_countOf_69 rfl (lv_at hl 2 rfl) ?_
                refine lv_bipush (v := nI 29) hx hb dX10_countOf_70 (by decide) ?_
                refine mp_i (As := [.int (nI 29)]) (rest := [.long (lN many)]) ⟨hx, hb, hml, hown, hts⟩ (k_leaves l dC dI aC am (va_up (va_up v 11 la4) 12 lb4) (va_up R 29 Wd) (va_up (va_up F 7 lc4) 8 ld4) G 29 (by decide)) (cwV 1 hts gX10_countOf_X10_leaves rfl rfl rfl (by decide +kernel) ⟨Nat.le_of_ble_eq_true rfl, Nat.le_of_ble_eq_true rfl⟩) hK hZ hP rfl hl.1 rfl (Nat.le_of_ble_eq_true rfl) dX10_countOf_72 ⟨Nat.le_of_ble_eq_true rfl, Nat.le_of_ble_eq_true rfl⟩ (fun x_72 h_72 => ?_)
                subst h_72
                refine nx_ti (y := nI (lvs Wd)) (by rw [va_up_self]) ?_
                refine lv_iload_n hx hb dX10_countOf_75 rfl (lv_at hl 3 rfl) ?_
                refine nx_icmp_ne (a := (lvs Wd)) (b := n) (tgt := 83) hx hb dX10_countOf_76 (by decide) (by omega) (by omega) (fun c_76 => ?_) (fun c_76 => ?_)
                · skip
                  refine lv_lconst (v := 0) hx hb dX10_countOf_83 (by decide) ?_
                  refine lv_ladd hx hb dX10_countOf_84 ?_
                  refine nx_tl (y := lN many) (Int64.add_zero _) ?_
                  refine lv_lstore_n (lv' := [(2, .long (lN many)), (6, .int (nI 1)), (5, .int (nI (wyL (F 1) Wd))), (0, .ref (am 0)), (1, .int (nI n)), (4, .int (nI 1))]) hx hb dX10_countOf_85 rfl hl (by decide) rfl (fun ls hl => ?_)
                  refine lv_iload hx hb dX10_countOf_86 (lv_at hl 1 rfl) ?_
                  refine nx_if_eq (tgt := 106) hx hb dX10_countOf_88 (by decide) (by omega) (fun c_88 => ?_) (fun c_88 => ?_)
                  · skip
                    exact absurd c_88 (by decide)
                  · skip
                    refine lv_iload hx hb dX10_countOf_91 (lv_at hl 2 rfl) ?_
                    refine nx_if_le (tgt := 106) hx hb dX10_countOf_93 (by decide) (by omega) (fun c_93 => ?_) (fun c_93 => ?_)
                    · skip
                      have hown0 : scF (F 1) R nr n A (13 - Wd.length) Wd = 0 := by rw [sc_own hl12 (fun h => h.2 c_65), if_neg (fun h => c_76 h.2)]
                      refine lv_aload_n hx hb dX10_countOf_106 rfl (lv_at hl 3 rfl) ?_
                      refine mc_i (As := []) (rest := []) ⟨hx, hb, hml, hown, hts⟩ (k_goesOn l dC dI aC am hI (va_up (va_up v 11 la4) 12 lb4) (va_up R 29 Wd) (va_up (va_up F 7 lc4) 8 ld4) G A hA hA4 (by rw [va_up_self]; exact hvW)) (cwV 0 hts gX10_countOf_X10_goesOn rfl rfl rfl (by decide +kernel) ⟨Nat.le_of_ble_eq_true rfl, Nat.le_of_ble_eq_true rfl⟩) hK hZ hP hS rfl hl.1 rfl (Nat.le_of_ble_eq_true rfl) dX10_countOf_107 ⟨Nat.le_of_ble_eq_true rfl, Nat.le_of_ble_eq_true rfl⟩ (fun x_107 v7 R7 F7 G7 S Z H locs h_107 hZ hP hS => ?_)
                      obtain ⟨hu_107, hx_107⟩ := h_107
                      rw [va_up_self, up_up] at hu_107
                      rw [va_up_self] at hx_107
                      refine nx_ti hx_107 ?_
                      cases hu_107
                      by_cases hgo0 : (gon A Wd).isSome = true
                      · skip
                        obtain ⟨W2, hgo⟩ := Option.isSome_iff_exists.mp hgo0
                        have hgk := gon_ok (E := F 1) (by omega) Wd.length Wd W2 (Nat.le_refl _) hvW hoW hgo
                        have hrc := rc_some (f := scF (F 1) R nr n A) (A := A) (by omega) hvW hgo
                        have hrn := rc_some (f := snF (F 1) R nr n A) (A := A) (by omega) hvW hgo
                        rw [hgo] at hZ
                        have hZ : mOK S Z (va_up R 29 ((gon A Wd).getD [])) := by rw [hgo]; exact hZ
                        refine nx_ti (y := nI 1) (bI_t hgo0) ?_
                        refine lv_istore (lv' := [(4, .int (nI 1)), (2, .long (lN many)), (6, .int (nI 1)), (5, .int (nI (wyL (F 1) Wd))), (0, .ref (am 0)), (1, .int (nI n))]) hx hb dX10_countOf_110 hl (by decide) rfl (fun ls hl => ?_)
                        refine lv_goto (tgt := 20) hx hb dX10_countOf_112 (by decide) ?_
                        exact ih20 W2 many la4 lb4 lc4 ld4 _ _ _ _ _ hgk.2.1 hgk.1 (by omega) hgk.2.2.1 (by rw [← hsum, hown0, hrc]; omega) (by rw [hgo] at hZ; exact hZ) hP hS (by have hp := sn_pos (E := F 1) (R := R) (nr := nr) (n := n) (A := A) (f := 13 - Wd.length) (W := Wd); rw [hrn] at hf20; omega) (lv_sub hl [4, 5, 1, 0] rfl)
                      · skip
                        have hgo : gon A Wd = none := by simpa using hgo0
                        have hrc := rc_none (f := scF (F 1) R nr n A) (A := A) (by omega) hvW hgo
                        refine nx_ti (y := nI 0) (bI_f hgo0) ?_
                        refine lv_istore (lv' := [(4, .int (nI 0)), (2, .long (lN many)), (6, .int (nI 1)), (5, .int (nI (wyL (F 1) Wd))), (0, .ref (am 0)), (1, .int (nI n))]) hx hb dX10_countOf_110 hl (by decide) rfl (fun ls hl => ?_)
                        refine lv_goto (tgt := 20) hx hb dX10_countOf_112 (by decide) ?_
                        refine lv_iload hx hb dX10_countOf_20 (lv_at hl 0 rfl) ?_
                        refine nx_if_eq (tgt := 115) hx hb dX10_countOf_22 (by decide) (by omega) (fun c_22 => ?_) (fun c_22 => ?_)
                        · skip
                          refine lv_lload_n hx hb dX10_countOf_115 rfl (lv_at hl 1 rfl) ?_
                          subst hQ
                          exact W.lret (v := lN many) hx hb hret (fun tq htq hWq => ⟨⟨_, ((va_up (va_up v 11 la4) 12 lb4), va_up R 29 ((gon A Wd).getD []), (va_up (va_up F 7 lc4) 8 ld4), G), rfl, ⟨_, _, _, _, _, rfl, by first | (rw [← hsum, hown0, hrc]; done) | (rw [← hsum, hown0, hrc]; rfl)⟩, va_K.moved hWq.alike hK, _, _, hZ, by rw [htq]; exact hP⟩, hS.F htq⟩) hS.2.2 dX10_countOf_116
                        · skip
                          exact absurd rfl c_22
                    · skip
                      exact absurd c_65 (by omega)
                · skip
                  refine lv_lconst (v := 1) hx hb dX10_countOf_79 (by decide) ?_
                  refine lv_goto (tgt := 84) hx hb dX10_countOf_80 (by decide) ?_
                  refine lv_ladd hx hb dX10_countOf_84 ?_
                  refine nx_tl (y := lN (many + 1)) (lN_1 many) ?_
                  refine lv_lstore_n (lv' := [(2, .long (lN (many + 1))), (6, .int (nI 1)), (5, .int (nI (wyL (F 1) Wd))), (0, .ref (am 0)), (1, .int (nI n)), (4, .int (nI 1))]) hx hb dX10_countOf_85 rfl hl (by decide) rfl (fun ls hl => ?_)
                  refine lv_iload hx hb dX10_countOf_86 (lv_at hl 1 rfl) ?_
                  refine nx_if_eq (tgt := 106) hx hb dX10_countOf_88 (by decide) (by omega) (fun c_88 => ?_) (fun c_88 => ?_)
                  · skip
                    exact absurd c_88 (by decide)
                  · skip
                    refine lv_iload hx hb dX10_countOf_91 (lv_at hl 2 rfl) ?_
                    refine nx_if_le (tgt := 106) hx hb dX10_countOf_93 (by decide) (by omega) (fun c_93 => ?_) (fun c_93 => ?_)
                    · skip
                      have hown0 : scF (F 1) R nr n A (13 - Wd.length) Wd = 1 := by rw [sc_own hl12 (fun h => h.2 c_65), if_pos ⟨hmy, c_76⟩]
                      refine lv_aload_n hx hb dX10_countOf_106 rfl (lv_at hl 3 rfl) ?_
                      refine mc_i (As := []) (rest := []) ⟨hx, hb, hml, hown, hts⟩ (k_goesOn l dC dI aC am hI (va_up (va_up v 11 la4) 12 lb4) (va_up R 29 Wd) (va_up (va_up F 7 lc4) 8 ld4) G A hA hA4 (by rw [va_up_self]; exact hvW)) (cwV 0 hts gX10_countOf_X10_goesOn rfl rfl rfl (by decide +kernel) ⟨Nat.le_of_ble_eq_true rfl, Nat.le_of_ble_eq_true rfl⟩) hK hZ hP hS rfl hl.1 rfl (Nat.le_of_ble_eq_true rfl) dX10_countOf_107 ⟨Nat.le_of_ble_eq_true rfl, Nat.le_of_ble_eq_true rfl⟩ (fun x_107 v8 R8 F8 G8 S Z H locs h_107 hZ hP hS => ?_)
                      obtain ⟨hu_107, hx_107⟩ := h_107
                      rw [va_up_self, up_up] at hu_107
                      rw [va_up_self] at hx_107
                      refine nx_ti hx_107 ?_
                      cases hu_107
                      by_cases hgo0 : (gon A Wd).isSome = true
                      · skip
                        obtain ⟨W2, hgo⟩ := Option.isSome_iff_exists.mp hgo0
                        have hgk := gon_ok (E := F 1) (by omega) Wd.length Wd W2 (Nat.le_refl _) hvW hoW hgo
                        have hrc := rc_some (f := scF (F 1) R nr n A) (A := A) (by omega) hvW hgo
                        have hrn := rc_some (f := snF (F 1) R nr n A) (A := A) (by omega) hvW hgo
                        rw [hgo] at hZ
                        have hZ : mOK S Z (va_up R 29 ((gon A Wd).getD [])) := by rw [hgo]; exact hZ
                        refine nx_ti (y := nI 1) (bI_t hgo0) ?_
                        refine lv_istore (lv' := [(4, .int (nI 1)), (2, .long (lN (many + 1))), (6, .int (nI 1)), (5, .int (nI (wyL (F 1) Wd))), (0, .ref (am 0)), (1, .int (nI n))]) hx hb dX10_countOf_110 hl (by decide) rfl (fun ls hl => ?_)
                        refine lv_goto (tgt := 20) hx hb dX10_countOf_112 (by decide) ?_
                        exact ih20 W2 (many + 1) la4 lb4 lc4 ld4 _ _ _ _ _ hgk.2.1 hgk.1 (by omega) hgk.2.2.1 (by rw [← hsum, hown0, hrc]; omega) (by rw [hgo] at hZ; exact hZ) hP hS (by have hp := sn_pos (E := F 1) (R := R) (nr := nr) (n := n) (A := A) (f := 13 - Wd.length) (W := Wd); rw [hrn] at hf20; omega) (lv_sub hl [4, 5, 1, 0] rfl)
                      · skip
                        have hgo : gon A Wd = none := by simpa using hgo0
                        have hrc := rc_none (f := scF (F 1) R nr n A) (A := A) (by omega) hvW hgo
                        refine nx_ti (y := nI 0) (bI_f hgo0) ?_
                        refine lv_istore (lv' := [(4, .int (nI 0)), (2, .long (lN (many + 1))), (6, .int (nI 1)), (5, .int (nI (wyL (F 1) Wd))), (0, .ref (am 0)), (1, .int (nI n))]) hx hb dX10_countOf_110 hl (by decide) rfl (fun ls hl => ?_)
                        refine lv_goto (tgt := 20) hx hb dX10_countOf_112 (by decide) ?_
                        refine lv_iload hx hb dX10_countOf_20 (lv_at hl 0 rfl) ?_
                        refine nx_if_eq (tgt := 115) hx hb dX10_countOf_22 (by decide) (by omega) (fun c_22 => ?_) (fun c_22 => ?_)
                        · skip
                          refine lv_lload_n hx hb dX10_countOf_115 rfl (lv_at hl 1 rfl) ?_
                          subst hQ
                          exact W.lret (v := lN (many + 1)) hx hb hret (fun tq htq hWq => ⟨⟨_, ((va_up (va_up v 11 la4) 12 lb4), va_up R 29 ((gon A Wd).getD []), (va_up (va_up F 7 lc4) 8 ld4), G), rfl, ⟨_, _, _, _, _, rfl, by first | (rw [← hsum, hown0, hrc]; done) | (rw [← hsum, hown0, hrc]; rfl)⟩, va_K.moved hWq.alike hK, _, _, hZ, by rw [htq]; exact hP⟩, hS.F htq⟩) hS.2.2 dX10_countOf_116
                        · skip
                          exact absurd rfl c_22
                    · skip
                      exact absurd c_65 (by omega)
  exact L20 (snF (F 1) R nr n A (13 - [sy 0].length) [sy 0] + rcL (snF (F 1) R nr n A) A [sy 0] + 1) [sy 0] 0 (v 11) (v 12) (F 7) (F 8) _ _ _ _ _ (fun i hi => by rw [show i = 0 by simp at hi; omega]; exact Nat.one_pos) (vR_one (Or.inl sy_0)) (by decide) (by decide) (by rw [cntM, smF, show ([sy 0] : List Int32) = [] ++ [sy 0] from rfl, rcL_snoc (by decide)]; simp [rcL, rcF]) (by rw [show ([sy 0] : List Int32) = [] ++ [(-1)] by rw [sy_0]; rfl]; exact hZ) hP hS (Nat.lt_succ_self _) (lv_sub hl [2, 3, 1, 0] rfl)

set_option maxHeartbeats 1000000 in
set_option maxRecDepth 100000 in
/-- counts -/
theorem k_counts (l : Launch) (dC : Nat → ClassId) (dI : Nat → Nat → Nat) (aC : Nat → ClassId) (am : Nat → Nat) (hI : mI am) (v : Nat → Int32) (R : Nat → List Int32) (F : Nat → Nat → Int32) (G : Nat → Nat → Int64) (A : Nat) (hE : vE A (F 1)) (hA : v 0 = nI A) (nr : Nat) (hn : v 4 = nI nr) (hn8 : nr ≤ 8) (hL : ∀ j, j < nr → lvs (R (10 + j)) ≤ 13) (hcc : ¬ v 6 = 0 → ∀ j, 1 ≤ j → j ≤ 6 → G 5 j = cmM (F 1) R nr A j) : Met l yX10_counts wsX10_counts ({ frames := 5, cells := 0, slots := 0, locals := 121 } : Room) (va_Pc [.ref (am 0)] (MB dC dI aC am (v, R, F, G))) (va_Qv (fun (u : MS) => ∃ a b c d M g, (va_up (va_up (va_up v 6 (nI 1)) 11 a) 12 b, va_up R 29 M, va_up (va_up F 7 c) 8 d, va_up G 5 g) = u ∧ ∀ j, 1 ≤ j → j ≤ 6 → g j = cmM (F 1) R nr A j) (MB dC dI aC am) (mA am)) 0 0 (mA am) := by
  refine Met.ofW (cc := cX10_counts) (maxL := 2) (ret := none) (by decide) rfl ?_
  intro p e s m args below meth c s₁ B hml hv
  obtain ⟨rfl, hK, S, Z, hZ, hP⟩ := hv
  have hx := B.exec
  have hb := B.bytes
  have hret := B.returns
  have hts := atoms_spec (ws := wsX10_counts) B.pre
  have hown : s.vm.findClass RX10 = some m.cls := findClass_of_methodNamed B.named
  have hlocks := B.notSynchronized
  dsimp only at hZ hP
  have lk0 := hts (.fieldLink RX10 59 "LeafTreesModel" "isCounted" "Z") (by decide +kernel)
  have lk1 := hts (.fieldLink RX10 23 "LeafTreesModel" "counted" "[J") (by decide +kernel)
  have hin10 : ∀ w ∈ u_ws RX10 TX10 22, w ∈ wsX10_counts := by decide +kernel
  have hS : va_S (mA am) s.heap s.heap [] := va_S.rf
  have hl := lv_entry [.ref (am 0)] (n := 2) (Nat.le_of_ble_eq_true rfl)
  rw [lg_entry_eq]
  generalize (lg_sl [.ref (am 0)] ++ List.replicate (2 - (lg_sl [.ref (am 0)]).length) Slot.unset).toArray = ls at hl ⊢
  have hl : lv_has ls 2 [(0, .ref (am 0))] := hl
  refine nx_Q (R := ({ frames := 5, cells := 0, slots := 0, locals := 121 } : Room)) (fun Q hQ => ?_)
  skip
  refine lv_iconst (v := nI 1) hx hb dX10_counts_0 (by decide) ?_
  refine lv_istore_n (lv' := [(1, .int (nI 1)), (0, .ref (am 0))]) hx hb dX10_counts_1 rfl hl (by decide) rfl (fun ls hl => ?_)
  have L2 : ∀ (fuel2 : Nat) (n0 : Nat) (g5 : Nat → Int64) (wa : Int32) (wb : Int32) (wc : Nat → Int32) (wd : Nat → Int32) (M : List Int32) (S Z : Nat → Int32) (H : Heap) (locs : List Loc) (ls : Array Slot), (1 ≤ n0) → (n0 ≤ 7) → (∀ j, 1 ≤ j → j < n0 → g5 j = cmM (F 1) R nr A j) → (¬ v 6 = 0 → ∀ j, 1 ≤ j → j ≤ 6 → g5 j = cmM (F 1) R nr A j) → mOK S Z (va_up R 29 M) → va_P (dC, dI) vwCl (wsM aC am (va_up (va_up v 11 wa) 12 wb) S Z (va_up (va_up F 7 wc) 8 wd) (va_up G 5 g5)) H → va_S (mA am) s.heap H locs → 7 - n0 < fuel2 → lv_has ls 2 [(0, .ref (am 0)), (1, .int (nI n0))] → W p l e ({ frames := 5, cells := 0, slots := 0, locals := 121 } : Room) s m ([.ref (am 0)] : List Value).toArray below meth c H locs 0 0 Q (F0 m 2 ls []) := by
    intro fuel2
    induction fuel2 with
    | zero => intro n0 g5 wa wb wc wd M S Z H locs ls h1 h7 hg hk hZ hP hS hf2 hl; exact absurd hf2 (Nat.not_lt_zero _)
    | succ fuel2 ih2 =>
      intro n0 g5 wa wb wc wd M S Z H locs ls h1 h7 hg hk hZ hP hS hf2 hl
      refine lv_iload_n hx hb dX10_counts_2 rfl (lv_at hl 1 rfl) ?_
      refine lv_bipush (v := nI 6) hx hb dX10_counts_3 (by decide) ?_
      refine nx_icmp_gt (a := n0) (b := 6) (tgt := 41) hx hb dX10_counts_5 (by decide) (by omega) (by omega) (fun c_5 => ?_) (fun c_5 => ?_)
      · skip
        refine lv_aload_n hx hb dX10_counts_41 rfl (lv_at hl 0 rfl) ?_
        refine lv_iconst (v := nI 1) hx hb dX10_counts_42 (by decide) ?_
        refine va_put (D := (dC, dI)) (ci := 10) (v := .int (nI 1)) (ty := .boolean) (C := RX10) (T := TX10) (N := 22) hx hb hts hin10 tyX10 tyX10_ok nmX10 hown hK hP (wsM_D hI) hS 0 rfl rfl 6 (by decide) lk0 (fun _ h9 => h9) rfl (by decide +kernel) rfl rfl (Nat.le_of_ble_eq_true rfl) dX10_counts_43 (fun H locs hP _ hS => ?_)
        have hP : va_P (dC, dI) vwCl (wsM aC am (va_up (va_up (va_up v 6 (nI 1)) 11 wa) 12 wb) S Z (va_up (va_up F 7 wc) 8 wd) (va_up G 5 g5)) H := hP
        subst hQ
        exact W.vret hx hb hret (fun tq htq hWq => ⟨⟨((va_up (va_up (va_up v 6 (nI 1)) 11 wa) 12 wb), va_up R 29 M, (va_up (va_up F 7 wc) 8 wd), (va_up G 5 g5)), rfl, ⟨_, _, _, _, _, _, rfl, fun j h1 h2 => hg j h1 (by omega)⟩, va_K.moved hWq.alike hK, _, _, hZ, by rw [htq]; exact hP⟩, hS.F htq⟩) hS.2.2 dX10_counts_46
      · skip
        refine lv_aload_n hx hb dX10_counts_8 rfl (lv_at hl 0 rfl) ?_
        refine va_get (D := (dC, dI)) (ci := 10) (C := RX10) (T := TX10) (N := 22) hx hb hts hin10 hown hK hP 0 rfl rfl 6 (by decide) lk0 (fun _ h9 => h9) rfl dX10_counts_9 ?_
        refine lv_if_ne (tgt := 41) hx hb dX10_counts_12 (by decide) (fun c_12 => ?_) (fun c_12 => ?_)
        · skip
          refine lv_aload_n hx hb dX10_counts_41 rfl (lv_at hl 0 rfl) ?_
          refine lv_iconst (v := nI 1) hx hb dX10_counts_42 (by decide) ?_
          refine va_put (D := (dC, dI)) (ci := 10) (v := .int (nI 1)) (ty := .boolean) (C := RX10) (T := TX10) (N := 22) hx hb hts hin10 tyX10 tyX10_ok nmX10 hown hK hP (wsM_D hI) hS 0 rfl rfl 6 (by decide) lk0 (fun _ h9 => h9) rfl (by decide +kernel) rfl rfl (Nat.le_of_ble_eq_true rfl) dX10_counts_43 (fun H locs hP _ hS => ?_)
          have hP : va_P (dC, dI) vwCl (wsM aC am (va_up (va_up (va_up v 6 (nI 1)) 11 wa) 12 wb) S Z (va_up (va_up F 7 wc) 8 wd) (va_up G 5 g5)) H := hP
          subst hQ
          exact W.vret hx hb hret (fun tq htq hWq => ⟨⟨((va_up (va_up (va_up v 6 (nI 1)) 11 wa) 12 wb), va_up R 29 M, (va_up (va_up F 7 wc) 8 wd), (va_up G 5 g5)), rfl, ⟨_, _, _, _, _, _, rfl, hk c_12⟩, va_K.moved hWq.alike hK, _, _, hZ, by rw [htq]; exact hP⟩, hS.F htq⟩) hS.2.2 dX10_counts_46
        · skip
          refine lv_aload_n hx hb dX10_counts_15 rfl (lv_at hl 0 rfl) ?_
          refine va_get (D := (dC, dI)) (ci := 10) (C := RX10) (T := TX10) (N := 22) hx hb hts hin10 hown hK hP 0 rfl rfl 7 (by decide) lk1 (fun _ h9 => h9) rfl dX10_counts_16 ?_
          refine lv_iload_n hx hb dX10_counts_19 rfl (lv_at hl 1 rfl) ?_
          refine lv_iload_n hx hb dX10_counts_20 rfl (lv_at hl 1 rfl) ?_
          refine lv_iconst (v := nI 1) hx hb dX10_counts_21 (by decide) ?_
          refine nx_icmp_ne (a := n0) (b := 1) (tgt := 29) hx hb dX10_counts_22 (by decide) (by omega) (by omega) (fun c_22 => ?_) (fun c_22 => ?_)
          · skip
            refine lv_aload_n hx hb dX10_counts_29 rfl (lv_at hl 0 rfl) ?_
            refine lv_iload_n hx hb dX10_counts_30 rfl (lv_at hl 1 rfl) ?_
            refine mc_l (As := [.int (nI n0)]) (rest := [.int (nI n0), .ref (am 5)]) ⟨hx, hb, hml, hown, hts⟩ (k_countOf l dC dI aC am hI (va_up (va_up v 11 wa) 12 wb) (va_up R 29 M) (va_up (va_up F 7 wc) 8 wd) (va_up G 5 g5) A hE hA nr hn hn8 (fun j hj => by rw [upn (show 10 + j ≠ 29 by omega)]; exact hL j hj) n0 (by omega) (by omega)) (cwV 1 hts gX10_counts_X10_countOf rfl rfl rfl (by decide +kernel) ⟨Nat.le_of_ble_eq_true rfl, Nat.le_of_ble_eq_true rfl⟩) hK hZ hP hS rfl hl.1 rfl (Nat.le_of_ble_eq_true rfl) dX10_counts_31 ⟨Nat.le_of_ble_eq_true rfl, Nat.le_of_ble_eq_true rfl⟩ (fun x_31 v1 R1 F1 G1 S Z H locs h_31 hZ hP hS => ?_)
            obtain ⟨la2, lb2, lc2, ld2, Mq2, hu_31, hx_31⟩ := h_31
            rw [up_up] at hu_31
            have hcg : cntM (F 1) (va_up R 29 M) nr A n0 = cntM (F 1) R nr A n0 := cntM_congr (fun j hj => upn (show 10 + j ≠ 29 by omega))
            have hx_31 : x_31 = lN (cntM (F 1) (va_up R 29 M) nr A n0) := hx_31
            rw [hcg] at hx_31
            refine nx_tl hx_31 ?_
            have hP : va_P (dC, dI) vwCl (wsM aC am (va_up (va_up v 11 la2) 12 lb2) S Z (va_up (va_up F 7 lc2) 8 ld2) (va_up G 5 g5)) H := by cases hu_31; exact hP
            have hZ : mOK S Z (va_up R 29 Mq2) := by cases hu_31; exact hZ
            refine nx_last hx hb hK hP (wsM_D hI) hS 5 1 rfl rfl (i := n0) (by omega) (by decide) dX10_counts_34 (fun H locs hP hS => ?_)
            have hP : va_P (dC, dI) vwCl (wsM aC am (va_up (va_up v 11 la2) 12 lb2) S Z (va_up (va_up F 7 lc2) 8 ld2) (va_up G 5 (vp_updL g5 n0 (lN (cntM (F 1) R nr A n0))))) H := hP
            refine lv_iinc (v := nI (n0 + 1)) (lv' := [(1, .int (nI (n0 + 1))), (0, .ref (am 0))]) hx hb dX10_counts_35 hl (k := 1) rfl (nI_add _ _) (by decide) rfl (fun ls hl => ?_)
            refine lv_goto (tgt := 2) hx hb dX10_counts_38 (by decide) ?_
            exact ih2 (n0 + 1) (vp_updL g5 n0 (lN (cntM (F 1) R nr A n0))) la2 lb2 lc2 ld2 Mq2 _ _ _ _ _ (by omega) (by omega) (updL_ext hg (by rw [cmM, if_neg c_22])) (fun h => absurd c_12 h) hZ hP hS (by omega) (lv_sub hl [1, 0] rfl)
          · skip
            refine lv_lconst (v := 1) hx hb dX10_counts_25 (by decide) ?_
            refine lv_goto (tgt := 34) hx hb dX10_counts_26 (by decide) ?_
            refine nx_last hx hb hK hP (wsM_D hI) hS 5 1 rfl rfl (i := n0) (by omega) (by decide) dX10_counts_34 (fun H locs hP hS => ?_)
            have hP : va_P (dC, dI) vwCl (wsM aC am (va_up (va_up v 11 wa) 12 wb) S Z (va_up (va_up F 7 wc) 8 wd) (va_up G 5 (vp_updL g5 n0 1))) H := hP
            refine lv_iinc (v := nI (n0 + 1)) (lv' := [(1, .int (nI (n0 + 1))), (0, .ref (am 0))]) hx hb dX10_counts_35 hl (k := 1) rfl (nI_add _ _) (by decide) rfl (fun ls hl => ?_)
            refine lv_goto (tgt := 2) hx hb dX10_counts_38 (by decide) ?_
            exact ih2 (n0 + 1) (vp_updL g5 n0 (1)) wa wb wc wd M _ _ _ _ _ (by omega) (by omega) (updL_ext hg (by rw [cmM, if_pos c_22])) (fun h => absurd c_12 h) hZ hP hS (by omega) (lv_sub hl [1, 0] rfl)
  exact L2 (7 - 1 + 1) 1 (G 5) (v 11) (v 12) (F 7) (F 8) (R 29) _ _ _ _ _ (by omega) (by omega) (fun j h1 h2 => by omega) hcc (by rw [up_eta]; exact hZ) hP hS (Nat.lt_succ_self _) (lv_sub hl [1, 0] rfl)

set_option maxHeartbeats 1000000 in
set_option maxRecDepth 100000 in
/-- howMany -/
theorem k_howMany (l : Launch) (dC : Nat → ClassId) (dI : Nat → Nat → Nat) (aC : Nat → ClassId) (am : Nat → Nat) (hI : mI am) (v : Nat → Int32) (R : Nat → List Int32) (F : Nat → Nat → Int32) (G : Nat → Nat → Int64) (A : Nat) (hE : vE A (F 1)) (hA : v 0 = nI A) (nr : Nat) (hn : v 4 = nI nr) (hn8 : nr ≤ 8) (hL : ∀ j, j < nr → lvs (R (10 + j)) ≤ 13) (hcc : ¬ v 6 = 0 → ∀ j, 1 ≤ j → j ≤ 6 → G 5 j = cmM (F 1) R nr A j) (a : Int32) : Met l yX10_howMany wsX10_howMany ({ frames := 6, cells := 0, slots := 0, locals := 142 } : Room) (va_Pc [.ref (am 0), .int a] (MB dC dI aC am (v, R, F, G))) (va_Ql (fun (x : Int64) (u : MS) => ∃ v6 a0 b c d M g, (va_up (va_up (va_up v 6 v6) 11 a0) 12 b, va_up R 29 M, va_up (va_up F 7 c) 8 d, va_up G 5 g) = u ∧ (¬ v6 = 0 → ∀ j, 1 ≤ j → j ≤ 6 → g j = cmM (F 1) R nr A j) ∧ x = pMany (F 1) R nr A a) (MB dC dI aC am) (mA am)) 0 0 (mA am) := by
  refine Met.ofW (cc := cX10_howMany) (maxL := 2) (ret := (some .long)) (by decide) rfl ?_
  intro p e s m args below meth c s₁ B hml hv
  obtain ⟨rfl, hK, S, Z, hZ, hP⟩ := hv
  have hx := B.exec
  have hb := B.bytes
  have hret := B.returns
  have hts := atoms_spec (ws := wsX10_howMany) B.pre
  have hown : s.vm.findClass RX10 = some m.cls := findClass_of_methodNamed B.named
  have hlocks := B.notSynchronized
  dsimp only at hZ hP
  have lk0 := hts (.fieldLink RX10 23 "LeafTreesModel" "counted" "[J") (by decide +kernel)
  have lk1 := hts (.constantLong RX10 151 (-2)) (by decide +kernel)
  have hin10 : ∀ w ∈ u_ws RX10 TX10 22, w ∈ wsX10_howMany := by decide +kernel
  have hS : va_S (mA am) s.heap s.heap [] := va_S.rf
  have hl := lv_entry [.ref (am 0), .int a] (n := 2) (Nat.le_of_ble_eq_true rfl)
  rw [lg_entry_eq]
  generalize (lg_sl [.ref (am 0), .int a] ++ List.replicate (2 - (lg_sl [.ref (am 0), .int a]).length) Slot.unset).toArray = ls at hl ⊢
  have hl : lv_has ls 2 [(0, .ref (am 0)), (1, .int a)] := hl
  refine nx_Q (R := ({ frames := 6, cells := 0, slots := 0, locals := 142 } : Room)) (fun Q hQ => ?_)
  skip
  refine lv_iload_n hx hb dX10_howMany_0 rfl (lv_at hl 1 rfl) ?_
  refine lv_iconst (v := nI 1) hx hb dX10_howMany_1 (by decide) ?_
  refine lv_bipush (v := nI 6) hx hb dX10_howMany_2 (by decide) ?_
  refine ms_i (As := [.int a, .int (nI 1), .int (nI 6)]) (rest := []) ⟨hx, hb, hml, hown, hts⟩ (k_in l a (nI 1) (nI 6)) (va_cwS 3 hts gX10_howMany_X10_in rfl rfl rfl (by decide +kernel) ⟨Nat.le_of_ble_eq_true rfl, Nat.le_of_ble_eq_true rfl⟩) rfl hl.1 rfl (Nat.le_of_ble_eq_true rfl) dX10_howMany_4 ⟨Nat.le_of_ble_eq_true rfl, Nat.le_of_ble_eq_true rfl⟩ (fun x_4 h_4 => ?_)
  subst h_4
  refine nx_ti (y := bI (rN6 a)) (bI_iff rN6_in) ?_
  refine nx_bn (tgt := 14) hx hb dX10_howMany_7 (by decide) (fun c_7 => ?_) (fun c_7 => ?_)
  · skip
    obtain ⟨j, hj1, hj6, rfl⟩ := rN6_of c_7
    have hcj := nI_clamp (n := j) (by omega)
    refine lv_aload_n hx hb dX10_howMany_14 rfl (lv_at hl 0 rfl) ?_
    refine mc_v (As := []) (rest := []) ⟨hx, hb, hml, hown, hts⟩ (k_counts l dC dI aC am hI v R F G A hE hA nr hn hn8 hL hcc) (cwV 0 hts gX10_howMany_X10_counts rfl rfl rfl (by decide +kernel) ⟨Nat.le_of_ble_eq_true rfl, Nat.le_of_ble_eq_true rfl⟩) hK hZ hP hS rfl hl.1 rfl (Nat.le_of_ble_eq_true rfl) dX10_howMany_15 ⟨Nat.le_of_ble_eq_true rfl, Nat.le_of_ble_eq_true rfl⟩ (fun v1 R1 F1 G1 S Z H locs h_15 hZ hP hS => ?_)
    obtain ⟨ca, cb, cc0, cd, Mc, cg, hu_15, hcg⟩ := h_15
    cases hu_15
    refine lv_aload_n hx hb dX10_howMany_18 rfl (lv_at hl 0 rfl) ?_
    refine va_get (D := (dC, dI)) (ci := 10) (C := RX10) (T := TX10) (N := 22) hx hb hts hin10 hown hK hP 0 rfl rfl 7 (by decide) lk0 (fun _ h9 => h9) rfl dX10_howMany_19 ?_
    refine lv_iload_n hx hb dX10_howMany_22 rfl (lv_at hl 1 rfl) ?_
    refine nx_lald hx hb hK hP 5 1 rfl rfl (i := j) (by omega) (by decide) dX10_howMany_23 ?_
    refine nx_tl (y := cmM (F 1) R nr A j) (hcg j hj1 hj6) ?_
    subst hQ
    exact W.lret (v := cmM (F 1) R nr A j) hx hb hret (fun tq htq hWq => ⟨⟨_, ((va_up (va_up (va_up v 6 (nI 1)) 11 ca) 12 cb), va_up R 29 Mc, (va_up (va_up F 7 cc0) 8 cd), (va_up G 5 cg)), rfl, ⟨nI 1, ca, cb, cc0, cd, Mc, cg, rfl, fun _ => hcg, by rw [pMany, if_pos c_7, hcj]⟩, va_K.moved hWq.alike hK, _, _, hZ, by rw [htq]; exact hP⟩, hS.F htq⟩) hS.2.2 dX10_howMany_24
  · skip
    refine lv_ldc2 hx hb hown lk1 dX10_howMany_10 ?_
    subst hQ
    exact W.lret (v := (-2)) hx hb hret (fun tq htq hWq => ⟨⟨_, (v, R, F, G), rfl, ⟨v 6, v 11, v 12, F 7, F 8, R 29, G 5, by rw [up_eta, up_eta, up_eta, up_eta, up_eta, up_eta, up_eta], hcc, by rw [pMany, if_neg c_7]⟩, va_K.moved hWq.alike hK, _, _, hZ, by rw [htq]; exact hP⟩, hS.F htq⟩) hS.2.2 dX10_howMany_13
