set_option maxHeartbeats 1000000 in
set_option maxRecDepth 100000 in
/-- Census.clear -/
theorem x_cclear (l : Launch) (dC : Nat → ClassId) (dI : Nat → Nat → Nat) (aC : Nat → ClassId) (ad cap : Nat → Nat) (hI : xI ad) (v : Nat → Int32) (R : Nat → List Int32) (F : Nat → Nat → Int32) (G : Nat → Nat → Int64)  : Met l yX0_clear wsX0_clear ({ frames := 0, cells := 0, slots := 0, locals := 0 } : Room) (va_Pc [.ref (ad 6)] (XB dC dI aC ad cap (v, R, F, G))) (va_Qv (fun (u : MS) => ∃ v1 F1 G1, (v1, R, F1, G1) = u ∧ ntOK (clN (ntS F G)) v1 F1 G1 ∧ ntR v v1 F F1 G G1) (XB dC dI aC ad cap) (xA ad)) 0 0 (xA ad) := by
  refine Met.ofW (cc := cX0_clear) (maxL := 1) (ret := none) (by decide) rfl ?_
  intro p e s m args below meth c s₁ B hml hv
  obtain ⟨rfl, hK, Z, S, hZ, hP⟩ := hv
  have hx := B.exec
  have hb := B.bytes
  have hret := B.returns
  have hts := atoms_spec (ws := wsX0_clear) B.pre
  have hown : s.vm.findClass RX0 = some m.cls := findClass_of_methodNamed B.named
  have hlocks := B.notSynchronized
  dsimp only at hZ hP
  have lk0 := hts (.fieldLink RX0 76 "LeafTrees$Census" "nodes" "I") (by decide +kernel)
  have lk1 := hts (.fieldLink RX0 79 "LeafTrees$Census" "forbidden" "J") (by decide +kernel)
  have hin0 : ∀ w ∈ u_ws RX0 TX0 6, w ∈ wsX0_clear := by decide +kernel
  have hS : va_S (xA ad) s.heap s.heap [] := va_S.rf
  have hl := lv_entry [.ref (ad 6)] (n := 1) (Nat.le_of_ble_eq_true rfl)
  rw [lg_entry_eq]
  generalize (lg_sl [.ref (ad 6)] ++ List.replicate (1 - (lg_sl [.ref (ad 6)]).length) Slot.unset).toArray = ls at hl ⊢
  have hl : lv_has ls 1 [(0, .ref (ad 6))] := hl
  refine nx_Q (R := ({ frames := 0, cells := 0, slots := 0, locals := 0 } : Room)) (fun Q hQ => ?_)
  refine lv_aload_n hx hb dX0_clear_0 rfl (lv_at hl 0 rfl) ?_
  refine lv_iconst (v := nI 0) hx hb dX0_clear_1 (by decide) ?_
  refine va_put (D := (dC, dI)) (ci := 0) (v := .int (nI 0)) (ty := .int) (C := RX0) (T := TX0) (N := 6) hx hb hts hin0 tyX0 tyX0_ok nmX0 hown hK hP (wsX_D hI) hS 6 rfl rfl 2 (by decide) lk0 (fun _ h9 => h9) rfl (by decide +kernel) rfl rfl (Nat.le_of_ble_eq_true rfl) dX0_clear_2 (fun H locs hP _ hS => ?_)
  have hP : va_P (dC, dI) vwCl (wsX aC ad cap (va_up v 10 (nI 0)) Z S F G) H := hP
  refine lv_aload_n hx hb dX0_clear_5 rfl (lv_at hl 0 rfl) ?_
  refine lv_lconst (v := 0) hx hb dX0_clear_6 (by decide) ?_
  refine va_put (D := (dC, dI)) (ci := 0) (v := .long 0) (ty := .long) (C := RX0) (T := TX0) (N := 6) hx hb hts hin0 tyX0 tyX0_ok nmX0 hown hK hP (wsX_D hI) hS 6 rfl rfl 3 (by decide) lk1 (fun _ h9 => h9) rfl (by decide +kernel) rfl rfl (Nat.le_of_ble_eq_true rfl) dX0_clear_7 (fun H locs hP _ hS => ?_)
  have hP : va_P (dC, dI) vwCl (wsX aC ad cap (va_up v 10 (nI 0)) Z S F (va_up G 26 (fun _ => 0))) H := hP
  subst hQ
  exact W.vret hx hb hret (fun tq htq hWq => ⟨⟨((va_up v 10 (nI 0)), R, F, (va_up G 26 (fun _ => 0))), rfl, ⟨_, _, _, rfl, ⟨rfl, rfl, fun k hk => upn (by omega), rfl, rfl⟩, ⟨fun k h => upn h, fun _ _ => rfl, fun k h => upn (by omega)⟩⟩, va_K.moved hWq.alike hK, _, _, hZ, by rw [htq]; exact hP⟩, hS.F htq⟩) hS.2.2 dX0_clear_10

set_option maxHeartbeats 1000000 in
set_option maxRecDepth 100000 in
/-- Census.addNode -/
theorem x_addNode (l : Launch) (dC : Nat → ClassId) (dI : Nat → Nat → Nat) (aC : Nat → ClassId) (ad cap : Nat → Nat) (hI : xI ad) (v : Nat → Int32) (R : Nat → List Int32) (F : Nat → Nat → Int32) (G : Nat → Nat → Int64) (T : NT) (hT : ntOK T v F G) (hn : T.1 < 36) (a wz : Int32) : Met l yX0_addNode wsX0_addNode ({ frames := 0, cells := 0, slots := 0, locals := 0 } : Room) (va_Pc [.ref (ad 6), .int a, .int wz] (XB dC dI aC ad cap (v, R, F, G))) (va_Qi (fun (x : Int32) (u : MS) => x = nI T.1 ∧ ∃ v1 F1 G1, (v1, R, F1, G1) = u ∧ ntOK (adN T a (decide (¬ wz = 0))) v1 F1 G1 ∧ ntR v v1 F F1 G G1) (XB dC dI aC ad cap) (xA ad)) 0 0 (xA ad) := by
  refine Met.ofW (cc := cX0_addNode) (maxL := 4) (ret := (some .int)) (by decide) rfl ?_
  intro p e s m args below meth c s₁ B hml hv
  obtain ⟨rfl, hK, Z, S, hZ, hP⟩ := hv
  have hx := B.exec
  have hb := B.bytes
  have hret := B.returns
  have hts := atoms_spec (ws := wsX0_addNode) B.pre
  have hown : s.vm.findClass RX0 = some m.cls := findClass_of_methodNamed B.named
  have hlocks := B.notSynchronized
  dsimp only at hZ hP
  have lk0 := hts (.fieldLink RX0 76 "LeafTrees$Census" "nodes" "I") (by decide +kernel)
  have lk1 := hts (.fieldLink RX0 9 "LeafTrees$Census" "actOf" "[I") (by decide +kernel)
  have lk2 := hts (.fieldLink RX0 79 "LeafTrees$Census" "forbidden" "J") (by decide +kernel)
  have lk3 := hts (.fieldLink RX0 17 "LeafTrees$Census" "needs" "[[J") (by decide +kernel)
  have hin0 : ∀ w ∈ u_ws RX0 TX0 6, w ∈ wsX0_addNode := by decide +kernel
  have hS : va_S (xA ad) s.heap s.heap [] := va_S.rf
  have hl := lv_entry [.ref (ad 6), .int a, .int wz] (n := 4) (Nat.le_of_ble_eq_true rfl)
  rw [lg_entry_eq]
  generalize (lg_sl [.ref (ad 6), .int a, .int wz] ++ List.replicate (4 - (lg_sl [.ref (ad 6), .int a, .int wz]).length) Slot.unset).toArray = ls at hl ⊢
  have hl : lv_has ls 4 [(0, .ref (ad 6)), (1, .int a), (2, .int wz)] := hl
  refine nx_Q (R := ({ frames := 0, cells := 0, slots := 0, locals := 0 } : Room)) (fun Q hQ => ?_)
  refine lv_aload_n hx hb dX0_addNode_0 rfl (lv_at hl 0 rfl) ?_
  refine va_get (D := (dC, dI)) (ci := 0) (C := RX0) (T := TX0) (N := 6) hx hb hts hin0 hown hK hP 6 rfl rfl 2 (by decide) lk0 (fun _ h9 => h9) rfl dX0_addNode_1 ?_
  refine nx_ti (y := nI T.1) (hT.1) ?_
  refine lv_bipush (v := nI 36) hx hb dX0_addNode_4 (by decide) ?_
  refine nx_icmp_lt (a := T.1) (b := 36) (tgt := 11) hx hb dX0_addNode_6 (by decide) (by omega) (by omega) (fun c_6 => ?_) (fun c_6 => ?_)
  · skip
    refine lv_aload_n hx hb dX0_addNode_11 rfl (lv_at hl 0 rfl) ?_
    refine va_get (D := (dC, dI)) (ci := 0) (C := RX0) (T := TX0) (N := 6) hx hb hts hin0 hown hK hP 6 rfl rfl 0 (by decide) lk1 (fun _ h9 => h9) rfl dX0_addNode_12 ?_
    refine lv_aload_n hx hb dX0_addNode_15 rfl (lv_at hl 0 rfl) ?_
    refine va_get (D := (dC, dI)) (ci := 0) (C := RX0) (T := TX0) (N := 6) hx hb hts hin0 hown hK hP 6 rfl rfl 2 (by decide) lk0 (fun _ h9 => h9) rfl dX0_addNode_16 ?_
    refine nx_ti (y := nI T.1) (hT.1) ?_
    refine lv_iload_n hx hb dX0_addNode_19 rfl (lv_at hl 1 rfl) ?_
    refine nx_iast hx hb hK hP (wsX_D hI) hS 15 0 rfl rfl (i := T.1) (by omega) (by decide) dX0_addNode_20 (fun H locs hP hS => ?_)
    have hP : va_P (dC, dI) vwCl (wsX aC ad cap v Z S (va_up F 4 (upd (F 4) T.1 a)) G) H := hP
    refine lv_iconst (v := nI 0) hx hb dX0_addNode_21 (by decide) ?_
    refine lv_istore_n (lv' := [(3, .int (nI 0)), (0, .ref (ad 6)), (1, .int a), (2, .int wz)]) hx hb dX0_addNode_22 rfl hl (by decide) rfl (fun ls hl => ?_)
    have L23 : ∀ (fuel23 : Nat) (k : Nat) (G1 : Nat → Nat → Int64) (Z : Nat → Int32) (S : Nat → Nat → Int32) (H : Heap) (locs : List Loc) (ls : Array Slot), (k ≤ 3) → ((∀ i, i < k → G1 (3 + i) = vp_updL (G (3 + i)) T.1 0) ∧ (∀ i, k ≤ i → i < 3 → G1 (3 + i) = G (3 + i)) ∧ ∀ p, p < 3 ∨ 6 ≤ p → G1 p = G p) → xOK Z S R → va_P (dC, dI) vwCl (wsX aC ad cap v Z S (va_up F 4 (upd (F 4) T.1 a)) G1) H → va_S (xA ad) s.heap H locs → 3 - k < fuel23 → lv_has ls 4 [(0, .ref (ad 6)), (1, .int a), (2, .int wz), (3, .int (nI k))] → W p l e ({ frames := 0, cells := 0, slots := 0, locals := 0 } : Room) s m ([.ref (ad 6), .int a, .int wz] : List Value).toArray below meth c H locs 0 0 Q (F0 m 23 ls []) := by
      intro fuel23
      induction fuel23 with
      | zero => intro k G1 Z S H locs ls hk hg hZ hP hS hf23 hl; exact absurd hf23 (Nat.not_lt_zero _)
      | succ fuel23 ih23 =>
        intro k G1 Z S H locs ls hk hg hZ hP hS hf23 hl
        refine lv_iload_n hx hb dX0_addNode_23 rfl (lv_at hl 3 rfl) ?_
        refine lv_iconst (v := nI 3) hx hb dX0_addNode_24 (by decide) ?_
        refine nx_icmp_ge (a := k) (b := 3) (tgt := 46) hx hb dX0_addNode_25 (by decide) (by omega) (by omega) (fun c_25 => ?_) (fun c_25 => ?_)
        · skip
          refine lv_iload_n hx hb dX0_addNode_46 rfl (lv_at hl 2 rfl) ?_
          refine lv_if_eq (tgt := 65) hx hb dX0_addNode_47 (by decide) (fun c_47 => ?_) (fun c_47 => ?_)
          · skip
            refine lv_aload_n hx hb dX0_addNode_65 rfl (lv_at hl 0 rfl) ?_
            refine lv_dup hx hb dX0_addNode_66 rfl ?_
            refine va_get (D := (dC, dI)) (ci := 0) (C := RX0) (T := TX0) (N := 6) hx hb hts hin0 hown hK hP 6 rfl rfl 2 (by decide) lk0 (fun _ h9 => h9) rfl dX0_addNode_67 ?_
            refine nx_ti (y := nI T.1) (hT.1) ?_
            refine lv_iconst (v := nI 1) hx hb dX0_addNode_70 (by decide) ?_
            refine lv_iadd hx hb dX0_addNode_71 ?_
            refine nx_ti (y := nI (T.1 + 1)) (nI_add _ _) ?_
            refine va_put (D := (dC, dI)) (ci := 0) (v := .int (nI (T.1 + 1))) (ty := .int) (C := RX0) (T := TX0) (N := 6) hx hb hts hin0 tyX0 tyX0_ok nmX0 hown hK hP (wsX_D hI) hS 6 rfl rfl 2 (by decide) lk0 (fun _ h9 => h9) rfl (by decide +kernel) rfl rfl (Nat.le_of_ble_eq_true rfl) dX0_addNode_72 (fun H locs hP _ hS => ?_)
            have hP : va_P (dC, dI) vwCl (wsX aC ad cap (va_up v 10 (nI (T.1 + 1))) Z S (va_up F 4 (upd (F 4) T.1 a)) G1) H := hP
            refine lv_aload_n hx hb dX0_addNode_75 rfl (lv_at hl 0 rfl) ?_
            refine va_get (D := (dC, dI)) (ci := 0) (C := RX0) (T := TX0) (N := 6) hx hb hts hin0 hown hK hP 6 rfl rfl 2 (by decide) lk0 (fun _ h9 => h9) rfl dX0_addNode_76 ?_
            refine lv_iconst (v := nI 1) hx hb dX0_addNode_79 (by decide) ?_
            refine lv_isub hx hb dX0_addNode_80 ?_
            refine nx_ti (y := nI ((T.1 + 1) - 1)) (pk_sub (by omega)) ?_
            subst hQ
            exact W.iret (v := nI ((T.1 + 1) - 1)) hx hb hret (fun tq htq hWq => ⟨⟨_, ((va_up v 10 (nI (T.1 + 1))), R, (va_up F 4 (upd (F 4) T.1 a)), G1), rfl, ⟨by rw [Nat.add_sub_cancel], _, _, _, rfl, ⟨rfl, by show upd (F 4) T.1 a = upd T.2.1 T.1 a; rw [hT.2.1], fun k hk => by show _ = vp_updL (T.2.2.1 k) T.1 0; rw [← hT.2.2.1 k hk]; exact (hg.1 k (by omega)), Eq.trans ((congrFun (hg.2.2 26 (by decide)) 0).trans hT.2.2.2.1) (if_neg (by rw [c_47]; decide)).symm, (hg.2.2 2 (by decide)).trans hT.2.2.2.2⟩, ⟨fun k h => upn h, fun k h => upn h, fun p hp => hg.2.2 p (by omega)⟩⟩, va_K.moved hWq.alike hK, _, _, hZ, by rw [htq]; exact hP⟩, hS.F htq⟩) hS.2.2 dX0_addNode_81
          · skip
            refine lv_aload_n hx hb dX0_addNode_50 rfl (lv_at hl 0 rfl) ?_
            refine lv_dup hx hb dX0_addNode_51 rfl ?_
            refine va_get (D := (dC, dI)) (ci := 0) (C := RX0) (T := TX0) (N := 6) hx hb hts hin0 hown hK hP 6 rfl rfl 3 (by decide) lk2 (fun _ h9 => h9) rfl dX0_addNode_52 ?_
            refine lv_lconst (v := 1) hx hb dX0_addNode_55 (by decide) ?_
            refine lv_aload_n hx hb dX0_addNode_56 rfl (lv_at hl 0 rfl) ?_
            refine va_get (D := (dC, dI)) (ci := 0) (C := RX0) (T := TX0) (N := 6) hx hb hts hin0 hown hK hP 6 rfl rfl 2 (by decide) lk0 (fun _ h9 => h9) rfl dX0_addNode_57 ?_
            refine nx_ti (y := nI T.1) (hT.1) ?_
            refine lv_lshl (v := bitN T.1) hx hb dX0_addNode_60 rfl ?_
            refine lv_lor hx hb dX0_addNode_61 ?_
            refine va_put (D := (dC, dI)) (ci := 0) (v := .long ((G1 26 0) ||| (bitN T.1))) (ty := .long) (C := RX0) (T := TX0) (N := 6) hx hb hts hin0 tyX0 tyX0_ok nmX0 hown hK hP (wsX_D hI) hS 6 rfl rfl 3 (by decide) lk2 (fun _ h9 => h9) rfl (by decide +kernel) rfl rfl (Nat.le_of_ble_eq_true rfl) dX0_addNode_62 (fun H locs hP _ hS => ?_)
            have hP : va_P (dC, dI) vwCl (wsX aC ad cap v Z S (va_up F 4 (upd (F 4) T.1 a)) (va_up G1 26 (fun _ => (G1 26 0) ||| (bitN T.1)))) H := hP
            refine lv_aload_n hx hb dX0_addNode_65 rfl (lv_at hl 0 rfl) ?_
            refine lv_dup hx hb dX0_addNode_66 rfl ?_
            refine va_get (D := (dC, dI)) (ci := 0) (C := RX0) (T := TX0) (N := 6) hx hb hts hin0 hown hK hP 6 rfl rfl 2 (by decide) lk0 (fun _ h9 => h9) rfl dX0_addNode_67 ?_
            refine nx_ti (y := nI T.1) (hT.1) ?_
            refine lv_iconst (v := nI 1) hx hb dX0_addNode_70 (by decide) ?_
            refine lv_iadd hx hb dX0_addNode_71 ?_
            refine nx_ti (y := nI (T.1 + 1)) (nI_add _ _) ?_
            refine va_put (D := (dC, dI)) (ci := 0) (v := .int (nI (T.1 + 1))) (ty := .int) (C := RX0) (T := TX0) (N := 6) hx hb hts hin0 tyX0 tyX0_ok nmX0 hown hK hP (wsX_D hI) hS 6 rfl rfl 2 (by decide) lk0 (fun _ h9 => h9) rfl (by decide +kernel) rfl rfl (Nat.le_of_ble_eq_true rfl) dX0_addNode_72 (fun H locs hP _ hS => ?_)
            have hP : va_P (dC, dI) vwCl (wsX aC ad cap (va_up v 10 (nI (T.1 + 1))) Z S (va_up F 4 (upd (F 4) T.1 a)) (va_up G1 26 (fun _ => (G1 26 0) ||| (bitN T.1)))) H := hP
            refine lv_aload_n hx hb dX0_addNode_75 rfl (lv_at hl 0 rfl) ?_
            refine va_get (D := (dC, dI)) (ci := 0) (C := RX0) (T := TX0) (N := 6) hx hb hts hin0 hown hK hP 6 rfl rfl 2 (by decide) lk0 (fun _ h9 => h9) rfl dX0_addNode_76 ?_
            refine lv_iconst (v := nI 1) hx hb dX0_addNode_79 (by decide) ?_
            refine lv_isub hx hb dX0_addNode_80 ?_
            refine nx_ti (y := nI ((T.1 + 1) - 1)) (pk_sub (by omega)) ?_
            subst hQ
            exact W.iret (v := nI ((T.1 + 1) - 1)) hx hb hret (fun tq htq hWq => ⟨⟨_, ((va_up v 10 (nI (T.1 + 1))), R, (va_up F 4 (upd (F 4) T.1 a)), (va_up G1 26 (fun _ => (G1 26 0) ||| (bitN T.1)))), rfl, ⟨by rw [Nat.add_sub_cancel], _, _, _, rfl, ⟨rfl, by show upd (F 4) T.1 a = upd T.2.1 T.1 a; rw [hT.2.1], fun k hk => by show _ = vp_updL (T.2.2.1 k) T.1 0; rw [← hT.2.2.1 k hk]; exact ((upn (show 3 + k ≠ 26 by omega)).trans (hg.1 k (by omega))), Eq.trans (by show G1 26 0 ||| bitN T.1 = _; rw [hg.2.2 26 (by decide), hT.2.2.2.1]) (if_pos (decide_eq_true c_47)).symm, ((upn (show 2 ≠ 26 by decide)).trans (hg.2.2 2 (by decide))).trans hT.2.2.2.2⟩, ⟨fun k h => upn h, fun k h => upn h, fun p hp => (upn (show p ≠ 26 by omega)).trans (hg.2.2 p (by omega))⟩⟩, va_K.moved hWq.alike hK, _, _, hZ, by rw [htq]; exact hP⟩, hS.F htq⟩) hS.2.2 dX0_addNode_81
        · skip
          refine lv_aload_n hx hb dX0_addNode_28 rfl (lv_at hl 0 rfl) ?_
          refine va_get (D := (dC, dI)) (ci := 0) (C := RX0) (T := TX0) (N := 6) hx hb hts hin0 hown hK hP 6 rfl rfl 1 (by decide) lk3 (fun _ h9 => h9) rfl dX0_addNode_29 ?_
          refine lv_iload_n hx hb dX0_addNode_32 rfl (lv_at hl 3 rfl) ?_
          refine nx_aalA hx hb hK hP 16 6 rfl rfl (i := k) (by omega) (by decide) (show xNeeds ad k = some (ad (17 + k)) from if_pos (by omega)) dX0_addNode_33 ?_
          refine lv_aload_n hx hb dX0_addNode_34 rfl (lv_at hl 0 rfl) ?_
          refine va_get (D := (dC, dI)) (ci := 0) (C := RX0) (T := TX0) (N := 6) hx hb hts hin0 hown hK hP 6 rfl rfl 2 (by decide) lk0 (fun _ h9 => h9) rfl dX0_addNode_35 ?_
          refine nx_ti (y := nI T.1) (hT.1) ?_
          refine lv_lconst (v := 0) hx hb dX0_addNode_38 (by decide) ?_
          refine nx_last hx hb hK hP (wsX_D hI) hS (17 + k) 1 (xw_nd k (by omega)) rfl (i := T.1) (by omega) (by decide) dX0_addNode_39 (fun H locs hP hS => ?_)
          rw [xs_nd k (by omega)] at hP
          refine lv_iinc (v := nI (k + 1)) (lv' := [(3, .int (nI (k + 1))), (0, .ref (ad 6)), (1, .int a), (2, .int wz)]) hx hb dX0_addNode_40 hl (k := 3) rfl (nI_add _ _) (by decide) rfl (fun ls hl => ?_)
          refine lv_goto (tgt := 23) hx hb dX0_addNode_43 (by decide) ?_
          exact ih23 (k + 1) (va_up G1 (3 + k) (vp_updL (G1 (3 + k)) T.1 0)) _ _ _ _ _ (by omega) (⟨fun i hi => by by_cases q : i = k <;> first | (rw [q, va_up_self, hg.2.1 k (Nat.le_refl _) (by omega)]) | (rw [upn (by omega)]; exact hg.1 i (by omega)), fun i h1 h2 => by rw [upn (by omega)]; exact hg.2.1 i (by omega) h2, fun p hp => by rw [upn (by omega)]; exact hg.2.2 p hp⟩) hZ hP hS (by omega) (lv_sub hl [1, 2, 3, 0] rfl)
    exact L23 (3 - 0 + 1) 0 G _ _ _ _ _ (by omega) (⟨fun i hi => absurd hi (Nat.not_lt_zero i), fun _ _ _ => rfl, fun _ _ => rfl⟩) hZ hP hS (Nat.lt_succ_self _) (lv_sub hl [1, 2, 3, 0] rfl)
  · skip
    exact absurd c_6 (by omega)

set_option maxHeartbeats 1000000 in
set_option maxRecDepth 100000 in
/-- Census.kindOf -/
theorem x_kindOf (l : Launch) (dC : Nat → ClassId) (dI : Nat → Nat → Nat) (aC : Nat → ClassId) (ad cap : Nat → Nat) (v : Nat → Int32) (R : Nat → List Int32) (F : Nat → Nat → Int32) (G : Nat → Nat → Int64) (nd : Nat) (hnd : v 10 = nI nd) (hn : nd ≤ 36) (a : Int32) (x0 y0 z0 : Int64) : Met l yX0_kindOf wsX0_kindOf ({ frames := 0, cells := 0, slots := 0, locals := 0 } : Room) (va_Pc [.ref (ad 6), .int a, .long x0, .long y0, .long z0] (XB dC dI aC ad cap (v, R, F, G))) (vp_Sl (fun x => x = kdF (F 4) (G 3) (G 4) (G 5) a x0 y0 z0 nd)) 0 0 (fun _ => False) := by
  refine Met.ofW (cc := cX0_kindOf) (maxL := 11) (ret := (some .long)) (by decide) rfl ?_
  intro p e s m args below meth c s₁ B hml hv
  obtain ⟨rfl, hK, Z, S, hZ, hP⟩ := hv
  have hx := B.exec
  have hb := B.bytes
  have hret := B.returns
  have hts := atoms_spec (ws := wsX0_kindOf) B.pre
  have hown : s.vm.findClass RX0 = some m.cls := findClass_of_methodNamed B.named
  have hlocks := B.notSynchronized
  dsimp only at hZ hP
  have lk0 := hts (.fieldLink RX0 76 "LeafTrees$Census" "nodes" "I") (by decide +kernel)
  have lk1 := hts (.fieldLink RX0 9 "LeafTrees$Census" "actOf" "[I") (by decide +kernel)
  have lk2 := hts (.fieldLink RX0 17 "LeafTrees$Census" "needs" "[[J") (by decide +kernel)
  have lk3 := hts (.constantLong RX0 135 (-1)) (by decide +kernel)
  have hin0 : ∀ w ∈ u_ws RX0 TX0 6, w ∈ wsX0_kindOf := by decide +kernel
  have hl := lv_entry [.ref (ad 6), .int a, .long x0, .long y0, .long z0] (n := 11) (Nat.le_of_ble_eq_true rfl)
  rw [lg_entry_eq]
  generalize (lg_sl [.ref (ad 6), .int a, .long x0, .long y0, .long z0] ++ List.replicate (11 - (lg_sl [.ref (ad 6), .int a, .long x0, .long y0, .long z0]).length) Slot.unset).toArray = ls at hl ⊢
  have hl : lv_has ls 11 [(0, .ref (ad 6)), (1, .int a), (2, .long x0), (4, .long y0), (6, .long z0)] := hl
  refine nx_Q (R := ({ frames := 0, cells := 0, slots := 0, locals := 0 } : Room)) (fun Q hQ => ?_)
  refine lv_lconst (v := 0) hx hb dX0_kindOf_0 (by decide) ?_
  refine lv_lstore (lv' := [(8, .long 0), (0, .ref (ad 6)), (1, .int a), (2, .long x0), (4, .long y0), (6, .long z0)]) hx hb dX0_kindOf_1 hl (by decide) rfl (fun ls hl => ?_)
  refine lv_iconst (v := nI 0) hx hb dX0_kindOf_3 (by decide) ?_
  refine lv_istore (lv' := [(10, .int (nI 0)), (8, .long 0), (0, .ref (ad 6)), (1, .int a), (2, .long x0), (4, .long y0), (6, .long z0)]) hx hb dX0_kindOf_4 hl (by decide) rfl (fun ls hl => ?_)
  have L6 : ∀ (fuel6 : Nat) (i : Nat) (ls : Array Slot), (i ≤ nd) → nd - i < fuel6 → lv_has ls 11 [(0, .ref (ad 6)), (1, .int a), (2, .long x0), (4, .long y0), (6, .long z0), (8, .long (kdF (F 4) (G 3) (G 4) (G 5) a x0 y0 z0 i)), (10, .int (nI i))] → W p l e ({ frames := 0, cells := 0, slots := 0, locals := 0 } : Room) s m ([.ref (ad 6), .int a, .long x0, .long y0, .long z0] : List Value).toArray below meth c s.heap [] 0 0 Q (F0 m 6 ls []) := by
    intro fuel6
    induction fuel6 with
    | zero => intro i ls hi hf6 hl; exact absurd hf6 (Nat.not_lt_zero _)
    | succ fuel6 ih6 =>
      intro i ls hi hf6 hl
      refine lv_iload hx hb dX0_kindOf_6 (lv_at hl 6 rfl) ?_
      refine lv_aload_n hx hb dX0_kindOf_8 rfl (lv_at hl 0 rfl) ?_
      refine va_get (D := (dC, dI)) (ci := 0) (C := RX0) (T := TX0) (N := 6) hx hb hts hin0 hown hK hP 6 rfl rfl 2 (by decide) lk0 (fun _ h9 => h9) rfl dX0_kindOf_9 ?_
      refine nx_ti (y := nI nd) (hnd) ?_
      refine nx_icmp_ge (a := i) (b := nd) (tgt := 103) hx hb dX0_kindOf_12 (by decide) (by omega) (by omega) (fun c_12 => ?_) (fun c_12 => ?_)
      · skip
        refine lv_lload hx hb dX0_kindOf_103 (lv_at hl 5 rfl) ?_
        subst hQ
        exact W.lret (v := kdF (F 4) (G 3) (G 4) (G 5) a x0 y0 z0 i) hx hb hret (fun tq htq hWq => ⟨_, rfl, by rw [show i = nd by omega], htq⟩) (fun q h => by cases h) dX0_kindOf_105
      · skip
        refine lv_aload_n hx hb dX0_kindOf_15 rfl (lv_at hl 0 rfl) ?_
        refine va_get (D := (dC, dI)) (ci := 0) (C := RX0) (T := TX0) (N := 6) hx hb hts hin0 hown hK hP 6 rfl rfl 0 (by decide) lk1 (fun _ h9 => h9) rfl dX0_kindOf_16 ?_
        refine lv_iload hx hb dX0_kindOf_19 (lv_at hl 6 rfl) ?_
        refine nx_iald hx hb hK hP 15 0 rfl rfl (i := i) (by omega) (by decide) dX0_kindOf_21 ?_
        refine lv_iload_n hx hb dX0_kindOf_22 rfl (lv_at hl 1 rfl) ?_
        refine lv_icmp_ne (tgt := 97) hx hb dX0_kindOf_23 (by decide) (fun c_23 => ?_) (fun c_23 => ?_)
        · skip
          refine lv_iinc (v := nI (i + 1)) (lv' := [(10, .int (nI (i + 1))), (0, .ref (ad 6)), (1, .int a), (2, .long x0), (4, .long y0), (6, .long z0), (8, .long (kdF (F 4) (G 3) (G 4) (G 5) a x0 y0 z0 i))]) hx hb dX0_kindOf_97 hl (k := 6) rfl (nI_add _ _) (by decide) rfl (fun ls hl => ?_)
          refine lv_goto (tgt := 6) hx hb dX0_kindOf_100 (by decide) ?_
          exact ih6 (i + 1) _ (by omega) (by omega) (by rw [kdF, if_neg (fun h => c_23 h.1)]; exact lv_sub hl [1, 2, 3, 4, 5, 6, 0] rfl)
        · skip
          refine lv_aload_n hx hb dX0_kindOf_26 rfl (lv_at hl 0 rfl) ?_
          refine va_get (D := (dC, dI)) (ci := 0) (C := RX0) (T := TX0) (N := 6) hx hb hts hin0 hown hK hP 6 rfl rfl 1 (by decide) lk2 (fun _ h9 => h9) rfl dX0_kindOf_27 ?_
          refine lv_iconst (v := nI 0) hx hb dX0_kindOf_30 (by decide) ?_
          refine nx_aalA hx hb hK hP 16 6 rfl rfl (i := 0) (by omega) (by decide) (show xNeeds ad 0 = some (ad 17) from if_pos (by omega)) dX0_kindOf_31 ?_
          refine lv_iload hx hb dX0_kindOf_32 (lv_at hl 6 rfl) ?_
          refine nx_lald hx hb hK hP (17 + 0) 1 (xw_nd 0 (by omega)) rfl (i := i) (by omega) (by decide) dX0_kindOf_34 ?_
          refine nx_tl (y := G 3 i) (rfl) ?_
          refine lv_lload_n hx hb dX0_kindOf_35 rfl (lv_at hl 2 rfl) ?_
          refine lv_ldc2 hx hb hown lk3 dX0_kindOf_36 ?_
          refine lv_lxor hx hb dX0_kindOf_39 ?_
          refine lv_land hx hb dX0_kindOf_40 ?_
          refine lv_lconst (v := 0) hx hb dX0_kindOf_41 (by decide) ?_
          refine W.lcmp hx hb dX0_kindOf_42 ?_
          refine nx_lne (tgt := 97) hx hb dX0_kindOf_43 (by decide) (fun c_43 => ?_) (fun c_43 => ?_)
          · skip
            refine lv_iinc (v := nI (i + 1)) (lv' := [(10, .int (nI (i + 1))), (0, .ref (ad 6)), (1, .int a), (2, .long x0), (4, .long y0), (6, .long z0), (8, .long (kdF (F 4) (G 3) (G 4) (G 5) a x0 y0 z0 i))]) hx hb dX0_kindOf_97 hl (k := 6) rfl (nI_add _ _) (by decide) rfl (fun ls hl => ?_)
            refine lv_goto (tgt := 6) hx hb dX0_kindOf_100 (by decide) ?_
            exact ih6 (i + 1) _ (by omega) (by omega) (by rw [kdF, if_neg (fun h => c_43 h.2.1)]; exact lv_sub hl [1, 2, 3, 4, 5, 6, 0] rfl)
          · skip
            refine lv_aload_n hx hb dX0_kindOf_46 rfl (lv_at hl 0 rfl) ?_
            refine va_get (D := (dC, dI)) (ci := 0) (C := RX0) (T := TX0) (N := 6) hx hb hts hin0 hown hK hP 6 rfl rfl 1 (by decide) lk2 (fun _ h9 => h9) rfl dX0_kindOf_47 ?_
            refine lv_iconst (v := nI 1) hx hb dX0_kindOf_50 (by decide) ?_
            refine nx_aalA hx hb hK hP 16 6 rfl rfl (i := 1) (by omega) (by decide) (show xNeeds ad 1 = some (ad 18) from if_pos (by omega)) dX0_kindOf_51 ?_
            refine lv_iload hx hb dX0_kindOf_52 (lv_at hl 6 rfl) ?_
            refine nx_lald hx hb hK hP (17 + 1) 1 (xw_nd 1 (by omega)) rfl (i := i) (by omega) (by decide) dX0_kindOf_54 ?_
            refine nx_tl (y := G 4 i) (rfl) ?_
            refine lv_lload hx hb dX0_kindOf_55 (lv_at hl 3 rfl) ?_
            refine lv_ldc2 hx hb hown lk3 dX0_kindOf_57 ?_
            refine lv_lxor hx hb dX0_kindOf_60 ?_
            refine lv_land hx hb dX0_kindOf_61 ?_
            refine lv_lconst (v := 0) hx hb dX0_kindOf_62 (by decide) ?_
            refine W.lcmp hx hb dX0_kindOf_63 ?_
            refine nx_lne (tgt := 97) hx hb dX0_kindOf_64 (by decide) (fun c_64 => ?_) (fun c_64 => ?_)
            · skip
              refine lv_iinc (v := nI (i + 1)) (lv' := [(10, .int (nI (i + 1))), (0, .ref (ad 6)), (1, .int a), (2, .long x0), (4, .long y0), (6, .long z0), (8, .long (kdF (F 4) (G 3) (G 4) (G 5) a x0 y0 z0 i))]) hx hb dX0_kindOf_97 hl (k := 6) rfl (nI_add _ _) (by decide) rfl (fun ls hl => ?_)
              refine lv_goto (tgt := 6) hx hb dX0_kindOf_100 (by decide) ?_
              exact ih6 (i + 1) _ (by omega) (by omega) (by rw [kdF, if_neg (fun h => c_64 h.2.2.1)]; exact lv_sub hl [1, 2, 3, 4, 5, 6, 0] rfl)
            · skip
              refine lv_aload_n hx hb dX0_kindOf_67 rfl (lv_at hl 0 rfl) ?_
              refine va_get (D := (dC, dI)) (ci := 0) (C := RX0) (T := TX0) (N := 6) hx hb hts hin0 hown hK hP 6 rfl rfl 1 (by decide) lk2 (fun _ h9 => h9) rfl dX0_kindOf_68 ?_
              refine lv_iconst (v := nI 2) hx hb dX0_kindOf_71 (by decide) ?_
              refine nx_aalA hx hb hK hP 16 6 rfl rfl (i := 2) (by omega) (by decide) (show xNeeds ad 2 = some (ad 19) from if_pos (by omega)) dX0_kindOf_72 ?_
              refine lv_iload hx hb dX0_kindOf_73 (lv_at hl 6 rfl) ?_
              refine nx_lald hx hb hK hP (17 + 2) 1 (xw_nd 2 (by omega)) rfl (i := i) (by omega) (by decide) dX0_kindOf_75 ?_
              refine nx_tl (y := G 5 i) (rfl) ?_
              refine lv_lload hx hb dX0_kindOf_76 (lv_at hl 4 rfl) ?_
              refine lv_ldc2 hx hb hown lk3 dX0_kindOf_78 ?_
              refine lv_lxor hx hb dX0_kindOf_81 ?_
              refine lv_land hx hb dX0_kindOf_82 ?_
              refine lv_lconst (v := 0) hx hb dX0_kindOf_83 (by decide) ?_
              refine W.lcmp hx hb dX0_kindOf_84 ?_
              refine nx_lne (tgt := 97) hx hb dX0_kindOf_85 (by decide) (fun c_85 => ?_) (fun c_85 => ?_)
              · skip
                refine lv_iinc (v := nI (i + 1)) (lv' := [(10, .int (nI (i + 1))), (0, .ref (ad 6)), (1, .int a), (2, .long x0), (4, .long y0), (6, .long z0), (8, .long (kdF (F 4) (G 3) (G 4) (G 5) a x0 y0 z0 i))]) hx hb dX0_kindOf_97 hl (k := 6) rfl (nI_add _ _) (by decide) rfl (fun ls hl => ?_)
                refine lv_goto (tgt := 6) hx hb dX0_kindOf_100 (by decide) ?_
                exact ih6 (i + 1) _ (by omega) (by omega) (by rw [kdF, if_neg (fun h => c_85 h.2.2.2)]; exact lv_sub hl [1, 2, 3, 4, 5, 6, 0] rfl)
              · skip
                refine lv_lload hx hb dX0_kindOf_88 (lv_at hl 5 rfl) ?_
                refine lv_lconst (v := 1) hx hb dX0_kindOf_90 (by decide) ?_
                refine lv_iload hx hb dX0_kindOf_91 (lv_at hl 6 rfl) ?_
                refine lv_lshl (v := bitN i) hx hb dX0_kindOf_93 rfl ?_
                refine lv_lor hx hb dX0_kindOf_94 ?_
                refine lv_lstore (lv' := [(8, .long ((kdF (F 4) (G 3) (G 4) (G 5) a x0 y0 z0 i) ||| (bitN i))), (0, .ref (ad 6)), (1, .int a), (2, .long x0), (4, .long y0), (6, .long z0), (10, .int (nI i))]) hx hb dX0_kindOf_95 hl (by decide) rfl (fun ls hl => ?_)
                refine lv_iinc (v := nI (i + 1)) (lv' := [(10, .int (nI (i + 1))), (8, .long ((kdF (F 4) (G 3) (G 4) (G 5) a x0 y0 z0 i) ||| (bitN i))), (0, .ref (ad 6)), (1, .int a), (2, .long x0), (4, .long y0), (6, .long z0)]) hx hb dX0_kindOf_97 hl (k := 6) rfl (nI_add _ _) (by decide) rfl (fun ls hl => ?_)
                refine lv_goto (tgt := 6) hx hb dX0_kindOf_100 (by decide) ?_
                exact ih6 (i + 1) _ (by omega) (by omega) (by rw [kdF, if_pos ⟨c_23, c_43, c_64, c_85⟩]; exact lv_sub hl [2, 3, 4, 5, 6, 1, 0] rfl)
  exact L6 (nd - 0 + 1) 0 _ (by omega) (Nat.lt_succ_self _) (lv_sub hl [2, 3, 4, 5, 6, 1, 0] rfl)

set_option maxHeartbeats 1000000 in
set_option maxRecDepth 100000 in
/-- Census.linkEntries -/
theorem x_linkEntries (l : Launch) (dC : Nat → ClassId) (dI : Nat → Nat → Nat) (aC : Nat → ClassId) (ad cap : Nat → Nat) (hI : xI ad) (v : Nat → Int32) (R : Nat → List Int32) (F : Nat → Nat → Int32) (G : Nat → Nat → Int64) (A : Nat) (hE : vE A (F 0)) (hA : v 0 = nI A) (T : NT) (hT : ntOK T v F G) (k : Nat) (hk : k < 31) (hV : vR A (R k)) (hTl : isT (F 0) (R k)) (i : Nat) (hi : i < (R k).length) (nd : Nat) (hnd : nd < 36) : Met l yX0_linkEntries wsX0_linkEntries ({ frames := 2, cells := 0, slots := 0, locals := 54 } : Room) (va_Pc [.ref (ad 6), .ref (ad 1), .ref (ad (58 + 2 * k)), .int (nI i), .int (nI nd)] (XB dC dI aC ad cap (v, R, F, G))) (va_Qv (fun (u : MS) => ∃ v1 F1 G1, (v1, R, F1, G1) = u ∧ ntOK (lkN (F 0) (R k) i nd T (wt (F 0) (gD (R k) i))) v1 F1 G1 ∧ ntR v v1 F F1 G G1) (XB dC dI aC ad cap) (xA ad)) 0 0 (xA ad) := by
  refine Met.ofW (cc := cX0_linkEntries) (maxL := 8) (ret := none) (by decide) rfl ?_
  intro p e s m args below meth c s₁ B hml hv
  obtain ⟨rfl, hK, Z, S, hZ, hP⟩ := hv
  have hx := B.exec
  have hb := B.bytes
  have hret := B.returns
  have hts := atoms_spec (ws := wsX0_linkEntries) B.pre
  have hown : s.vm.findClass RX0 = some m.cls := findClass_of_methodNamed B.named
  have hlocks := B.notSynchronized
  dsimp only at hZ hP
  have lk0 := hts (.fieldLink RX0 88 "LeafTrees$Row" "symbols" "[I") (by decide +kernel)
  have lk1 := hts (.methodLink RX0 95 Lib.Math.min.name) (by decide +kernel)
  have lk2 := hts (.static Lib.Math.min.name) (by decide +kernel)
  have lk3 := hts (.initialized "java/lang/Math") (by decide +kernel)
  have lk4 := hts (.code Lib.Math.min.name Lib.Math.min.code 2 (some .int)) (by decide +kernel)
  have lk5 := hts (.fieldLink RX0 83 "LeafTrees$Row" "length" "I") (by decide +kernel)
  have lk6 := hts (.fieldLink RX0 17 "LeafTrees$Census" "needs" "[[J") (by decide +kernel)
  have lk7 := hts (.fieldLink RX0 20 "LeafTrees$Census" "bitAt" "[J") (by decide +kernel)
  have hin0 : ∀ w ∈ u_ws RX0 TX0 6, w ∈ wsX0_linkEntries := by decide +kernel
  have hin3 : ∀ w ∈ u_ws RX3 TX3 2, w ∈ wsX0_linkEntries := by decide +kernel
  have hS : va_S (xA ad) s.heap s.heap [] := va_S.rf
  have hl := lv_entry [.ref (ad 6), .ref (ad 1), .ref (ad (58 + 2 * k)), .int (nI i), .int (nI nd)] (n := 8) (Nat.le_of_ble_eq_true rfl)
  rw [lg_entry_eq]
  generalize (lg_sl [.ref (ad 6), .ref (ad 1), .ref (ad (58 + 2 * k)), .int (nI i), .int (nI nd)] ++ List.replicate (8 - (lg_sl [.ref (ad 6), .ref (ad 1), .ref (ad (58 + 2 * k)), .int (nI i), .int (nI nd)]).length) Slot.unset).toArray = ls at hl ⊢
  have hl : lv_has ls 8 [(0, .ref (ad 6)), (1, .ref (ad 1)), (2, .ref (ad (58 + 2 * k))), (3, .int (nI i)), (4, .int (nI nd))] := hl
  refine nx_Q (R := ({ frames := 2, cells := 0, slots := 0, locals := 54 } : Room)) (fun Q hQ => ?_)
  have hw3 : wt (F 0) (gD (R k) i) ≤ 3 := wt_le hE (hV i hi)
  have hl60 := (hZ k hk).1
  refine lv_iload_n hx hb dX0_linkEntries_0 rfl (lv_at hl 3 rfl) ?_
  refine lv_iconst (v := nI 1) hx hb dX0_linkEntries_1 (by decide) ?_
  refine lv_iadd hx hb dX0_linkEntries_2 ?_
  refine nx_ti (y := nI (i + 1)) (nI_add _ _) ?_
  refine lv_istore (lv' := [(5, .int (nI (i + 1))), (0, .ref (ad 6)), (1, .ref (ad 1)), (2, .ref (ad (58 + 2 * k))), (3, .int (nI i)), (4, .int (nI nd))]) hx hb dX0_linkEntries_3 hl (by decide) rfl (fun ls hl => ?_)
  refine lv_aload_n hx hb dX0_linkEntries_5 rfl (lv_at hl 2 rfl) ?_
  refine lv_aload_n hx hb dX0_linkEntries_6 rfl (lv_at hl 3 rfl) ?_
  refine va_get (D := (dC, dI)) (ci := 3) (C := RX3) (T := TX3) (N := 2) hx hb hts hin3 hown hK hP (58 + 2 * k) (xw_ro k (by omega)) rfl 0 (by decide) lk0 (fun _ h9 => h9) rfl dX0_linkEntries_7 ?_
  refine lv_iload_n hx hb dX0_linkEntries_10 rfl (lv_at hl 4 rfl) ?_
  refine nx_iald hx hb hK hP (59 + 2 * k) 0 (xw_ra k (by omega)) rfl (i := i) (by have := (hZ k (by omega)).1; omega) (by decide) dX0_linkEntries_11 ?_
  refine nx_ti (y := gD (R k) i) ((hZ k (by omega)).2.2 i (by omega)) ?_
  refine xp_i (b := ad 1) (As := [.int (gD (R k) i)]) (rest := []) ⟨hx, hb, hml, hown, hts⟩ (x_entriesOf l dC dI aC ad cap v R F G A hE hA (gD (R k) i) (hV i hi)) (cwV 1 hts gX0_linkEntries_X8_entriesOf rfl rfl rfl (by decide +kernel) ⟨Nat.le_of_ble_eq_true rfl, Nat.le_of_ble_eq_true rfl⟩) (xPre (q0 := 1) (ci := 8) rfl rfl hK hZ hP) rfl hl.1 rfl (Nat.le_of_ble_eq_true rfl) dX0_linkEntries_12 ⟨Nat.le_of_ble_eq_true rfl, Nat.le_of_ble_eq_true rfl⟩ (fun x_12 h_12 => ?_)
  refine nx_ti (y := nI (wt (F 0) (gD (R k) i))) h_12 ?_
  refine lv_iconst (v := nI 3) hx hb dX0_linkEntries_15 (by decide) ?_
  refine va_mmin (rest := []) hx hb (hml.trans hl.1.symm) hown lk1 lk2 lk3 lk4 (Nat.le_of_ble_eq_true rfl) (Nat.le_of_ble_eq_true rfl) (Nat.le_of_ble_eq_true rfl) (Nat.le_of_ble_eq_true rfl) dX0_linkEntries_16 ?_
  refine nx_ti (y := nI (wt (F 0) (gD (R k) i))) (by rw [if_neg]; rw [i_lt, nI_toInt (by omega), nI_toInt (by omega)]; omega) ?_
  refine lv_istore (lv' := [(6, .int (nI (wt (F 0) (gD (R k) i)))), (5, .int (nI (i + 1))), (0, .ref (ad 6)), (1, .ref (ad 1)), (2, .ref (ad (58 + 2 * k))), (3, .int (nI i)), (4, .int (nI nd))]) hx hb dX0_linkEntries_19 hl (by decide) rfl (fun ls hl => ?_)
  refine lv_iconst (v := nI 0) hx hb dX0_linkEntries_21 (by decide) ?_
  refine lv_istore (lv' := [(7, .int (nI 0)), (6, .int (nI (wt (F 0) (gD (R k) i)))), (5, .int (nI (i + 1))), (0, .ref (ad 6)), (1, .ref (ad 1)), (2, .ref (ad (58 + 2 * k))), (3, .int (nI i)), (4, .int (nI nd))]) hx hb dX0_linkEntries_22 hl (by decide) rfl (fun ls hl => ?_)
  have L24 : ∀ (fuel24 : Nat) (q : Nat) (G1 : Nat → Nat → Int64) (Z : Nat → Int32) (S : Nat → Nat → Int32) (H : Heap) (locs : List Loc) (ls : Array Slot), (q ≤ wt (F 0) (gD (R k) i)) → (chP (F 0) (R k) i q ≤ 60) → ((∀ e, e < q → G1 (3 + e) = vp_updL (G (3 + e)) nd (G 2 (chP (F 0) (R k) i e))) ∧ (∀ e, q ≤ e → e < 3 → G1 (3 + e) = G (3 + e)) ∧ ∀ p, p < 3 ∨ 6 ≤ p → G1 p = G p) → xOK Z S R → va_P (dC, dI) vwCl (wsX aC ad cap v Z S F G1) H → va_S (xA ad) s.heap H locs → wt (F 0) (gD (R k) i) - q < fuel24 → lv_has ls 8 [(0, .ref (ad 6)), (1, .ref (ad 1)), (2, .ref (ad (58 + 2 * k))), (4, .int (nI nd)), (5, .int (nI (chP (F 0) (R k) i q))), (6, .int (nI (wt (F 0) (gD (R k) i)))), (7, .int (nI q))] → W p l e ({ frames := 2, cells := 0, slots := 0, locals := 54 } : Room) s m ([.ref (ad 6), .ref (ad 1), .ref (ad (58 + 2 * k)), .int (nI i), .int (nI nd)] : List Value).toArray below meth c H locs 0 0 Q (F0 m 24 ls []) := by
    intro fuel24
    induction fuel24 with
    | zero => intro q G1 Z S H locs ls hq hc hg hZ hP hS hf24 hl; exact absurd hf24 (Nat.not_lt_zero _)
    | succ fuel24 ih24 =>
      intro q G1 Z S H locs ls hq hc hg hZ hP hS hf24 hl
      refine lv_iload hx hb dX0_linkEntries_24 (lv_at hl 6 rfl) ?_
      refine lv_iload hx hb dX0_linkEntries_26 (lv_at hl 5 rfl) ?_
      refine nx_icmp_ge (a := q) (b := (wt (F 0) (gD (R k) i))) (tgt := 72) hx hb dX0_linkEntries_28 (by decide) (by omega) (by omega) (fun c_28 => ?_) (fun c_28 => ?_)
      · skip
        subst hQ
        exact W.vret hx hb hret (fun tq htq hWq => ⟨⟨(v, R, F, G1), rfl, ⟨_, _, _, rfl, ⟨hT.1, hT.2.1, fun e he => by show _ = if e < wt (F 0) (gD (R k) i) then vp_updL (T.2.2.1 e) nd (T.2.2.2.2 (chP (F 0) (R k) i e)) else T.2.2.1 e; rw [← hT.2.2.1 e he, ← hT.2.2.2.2]; by_cases p : e < wt (F 0) (gD (R k) i) <;> first | (rw [if_pos p]; exact hg.1 e (by omega)) | (rw [if_neg p]; exact hg.2.1 e (by omega) he), (congrFun (hg.2.2 26 (by decide)) 0).trans hT.2.2.2.1, (hg.2.2 2 (by decide)).trans hT.2.2.2.2⟩, ⟨fun _ _ => rfl, fun _ _ => rfl, fun p hp => hg.2.2 p (by omega)⟩⟩, va_K.moved hWq.alike hK, _, _, hZ, by rw [htq]; exact hP⟩, hS.F htq⟩) hS.2.2 dX0_linkEntries_72
      · skip
        refine lv_iload hx hb dX0_linkEntries_31 (lv_at hl 4 rfl) ?_
        refine lv_aload_n hx hb dX0_linkEntries_33 rfl (lv_at hl 2 rfl) ?_
        refine va_get (D := (dC, dI)) (ci := 3) (C := RX3) (T := TX3) (N := 2) hx hb hts hin3 hown hK hP (58 + 2 * k) (xw_ro k (by omega)) rfl 1 (by decide) lk5 (fun _ h9 => h9) rfl dX0_linkEntries_34 ?_
        refine nx_ti (y := nI (R k).length) ((hZ k (by omega)).2.1) ?_
        refine nx_icmp_ge (a := (chP (F 0) (R k) i q)) (b := (R k).length) (tgt := 72) hx hb dX0_linkEntries_37 (by decide) (by omega) (by omega) (fun c_37 => ?_) (fun c_37 => ?_)
        · skip
          exact absurd (chP_s hTl hi c_28).1 (by omega)
        · skip
          refine lv_aload_n hx hb dX0_linkEntries_40 rfl (lv_at hl 0 rfl) ?_
          refine va_get (D := (dC, dI)) (ci := 0) (C := RX0) (T := TX0) (N := 6) hx hb hts hin0 hown hK hP 6 rfl rfl 1 (by decide) lk6 (fun _ h9 => h9) rfl dX0_linkEntries_41 ?_
          refine lv_iload hx hb dX0_linkEntries_44 (lv_at hl 6 rfl) ?_
          refine nx_aalA hx hb hK hP 16 6 rfl rfl (i := q) (by omega) (by decide) (show xNeeds ad q = some (ad (17 + q)) from if_pos (by omega)) dX0_linkEntries_46 ?_
          refine lv_iload hx hb dX0_linkEntries_47 (lv_at hl 3 rfl) ?_
          refine lv_aload_n hx hb dX0_linkEntries_49 rfl (lv_at hl 0 rfl) ?_
          refine va_get (D := (dC, dI)) (ci := 0) (C := RX0) (T := TX0) (N := 6) hx hb hts hin0 hown hK hP 6 rfl rfl 4 (by decide) lk7 (fun _ h9 => h9) rfl dX0_linkEntries_50 ?_
          refine lv_iload hx hb dX0_linkEntries_53 (lv_at hl 4 rfl) ?_
          refine nx_lald hx hb hK hP 20 1 rfl rfl (i := chP (F 0) (R k) i q) (by omega) (by decide) dX0_linkEntries_55 ?_
          refine nx_last hx hb hK hP (wsX_D hI) hS (17 + q) 1 (xw_nd q (by omega)) rfl (i := nd) (by omega) (by decide) dX0_linkEntries_56 (fun H locs hP hS => ?_)
          rw [xs_nd q (by omega)] at hP
          refine lv_aload_n hx hb dX0_linkEntries_57 rfl (lv_at hl 1 rfl) ?_
          refine lv_aload_n hx hb dX0_linkEntries_58 rfl (lv_at hl 2 rfl) ?_
          refine lv_iload hx hb dX0_linkEntries_59 (lv_at hl 4 rfl) ?_
          refine xp_i (b := ad 1) (As := [.ref (ad (58 + 2 * k)), .int (nI (chP (F 0) (R k) i q))]) (rest := []) ⟨hx, hb, hml, hown, hts⟩ (x_endOf l dC dI aC ad cap v R F (va_up G1 (3 + q) (vp_updL (G1 (3 + q)) nd (G1 2 (chP (F 0) (R k) i q)))) A hE hA k hk hV (chP (F 0) (R k) i q) (by have := (chP_s hTl hi c_28).1; omega)) (cwV 2 hts gX0_linkEntries_X8_endOf rfl rfl rfl (by decide +kernel) ⟨Nat.le_of_ble_eq_true rfl, Nat.le_of_ble_eq_true rfl⟩) (xPre (q0 := 1) (ci := 8) rfl rfl hK hZ hP) rfl hl.1 rfl (Nat.le_of_ble_eq_true rfl) dX0_linkEntries_61 ⟨Nat.le_of_ble_eq_true rfl, Nat.le_of_ble_eq_true rfl⟩ (fun x_61 h_61 => ?_)
          refine nx_ti (y := eX (R k).length (endL (F 0) (R k) (chP (F 0) (R k) i q))) h_61 ?_
          refine nx_ti (y := nI (chP (F 0) (R k) i (q + 1))) (by rw [(chP_s hTl hi c_28).2]; rfl) ?_
          refine lv_istore (lv' := [(5, .int (nI (chP (F 0) (R k) i (q + 1)))), (0, .ref (ad 6)), (1, .ref (ad 1)), (2, .ref (ad (58 + 2 * k))), (4, .int (nI nd)), (6, .int (nI (wt (F 0) (gD (R k) i)))), (7, .int (nI q))]) hx hb dX0_linkEntries_64 hl (by decide) rfl (fun ls hl => ?_)
          refine lv_iinc (v := nI (q + 1)) (lv' := [(7, .int (nI (q + 1))), (5, .int (nI (chP (F 0) (R k) i (q + 1)))), (0, .ref (ad 6)), (1, .ref (ad 1)), (2, .ref (ad (58 + 2 * k))), (4, .int (nI nd)), (6, .int (nI (wt (F 0) (gD (R k) i))))]) hx hb dX0_linkEntries_66 hl (k := 6) rfl (nI_add _ _) (by decide) rfl (fun ls hl => ?_)
          refine lv_goto (tgt := 24) hx hb dX0_linkEntries_69 (by decide) ?_
          exact ih24 (q + 1) (va_up G1 (3 + q) (vp_updL (G1 (3 + q)) nd (G1 2 (chP (F 0) (R k) i q)))) _ _ _ _ _ (by omega) (by have h1 := (chP_s hTl hi c_28).2; have h2 := endL_le (by omega) h1; omega) (⟨fun e he => by by_cases p : e = q <;> first | (rw [p, va_up_self, hg.2.1 q (Nat.le_refl _) (by omega), hg.2.2 2 (by decide)]) | (rw [upn (by omega)]; exact hg.1 e (by omega)), fun e h1 h2 => by rw [upn (by omega)]; exact hg.2.1 e (by omega) h2, fun p hp => by rw [upn (by omega)]; exact hg.2.2 p hp⟩) hZ hP hS (by omega) (lv_sub hl [2, 3, 4, 5, 1, 6, 0] rfl)
  exact L24 (wt (F 0) (gD (R k) i) - 0 + 1) 0 G _ _ _ _ _ (by omega) (by rw [chP]; omega) (⟨fun e he => absurd he (Nat.not_lt_zero e), fun _ _ _ => rfl, fun _ _ => rfl⟩) hZ hP hS (Nat.lt_succ_self _) (lv_sub hl [3, 4, 5, 7, 2, 1, 0] rfl)

set_option maxHeartbeats 1000000 in
set_option maxRecDepth 100000 in
/-- Census.forbid -/
theorem x_forbid (l : Launch) (dC : Nat → ClassId) (dI : Nat → Nat → Nat) (aC : Nat → ClassId) (ad cap : Nat → Nat) (hI : xI ad) (v : Nat → Int32) (R : Nat → List Int32) (F : Nat → Nat → Int32) (G : Nat → Nat → Int64) (A : Nat) (hE : vE A (F 0)) (hA : v 0 = nI A) (T : NT) (hT : ntOK T v F G) (k : Nat) (hk : k < 31) (hV : vR A (R k)) (hTl : isT (F 0) (R k)) (hn : T.1 + acN (R k) (R k).length ≤ 36) : Met l yX0_forbid wsX0_forbid ({ frames := 3, cells := 0, slots := 0, locals := 81 } : Room) (va_Pc [.ref (ad 6), .ref (ad 1), .ref (ad (58 + 2 * k))] (XB dC dI aC ad cap (v, R, F, G))) (va_Qv (fun (u : MS) => ∃ v1 F1 G1, (v1, R, F1, G1) = u ∧ ntOK (fbF (F 0) (R k) T (R k).length) v1 F1 G1 ∧ ntR v v1 F F1 G G1) (XB dC dI aC ad cap) (xA ad)) 0 0 (xA ad) := by
  refine Met.ofW (cc := cX0_forbid) (maxL := 6) (ret := none) (by decide) rfl ?_
  intro p e s m args below meth c s₁ B hml hv
  obtain ⟨rfl, hK, Z, S, hZ, hP⟩ := hv
  have hx := B.exec
  have hb := B.bytes
  have hret := B.returns
  have hts := atoms_spec (ws := wsX0_forbid) B.pre
  have hown : s.vm.findClass RX0 = some m.cls := findClass_of_methodNamed B.named
  have hlocks := B.notSynchronized
  dsimp only at hZ hP
  have lk0 := hts (.fieldLink RX0 83 "LeafTrees$Row" "length" "I") (by decide +kernel)
  have lk1 := hts (.fieldLink RX0 20 "LeafTrees$Census" "bitAt" "[J") (by decide +kernel)
  have lk2 := hts (.fieldLink RX0 88 "LeafTrees$Row" "symbols" "[I") (by decide +kernel)
  have hin0 : ∀ w ∈ u_ws RX0 TX0 6, w ∈ wsX0_forbid := by decide +kernel
  have hin3 : ∀ w ∈ u_ws RX3 TX3 2, w ∈ wsX0_forbid := by decide +kernel
  have hS : va_S (xA ad) s.heap s.heap [] := va_S.rf
  have hl := lv_entry [.ref (ad 6), .ref (ad 1), .ref (ad (58 + 2 * k))] (n := 6) (Nat.le_of_ble_eq_true rfl)
  rw [lg_entry_eq]
  generalize (lg_sl [.ref (ad 6), .ref (ad 1), .ref (ad (58 + 2 * k))] ++ List.replicate (6 - (lg_sl [.ref (ad 6), .ref (ad 1), .ref (ad (58 + 2 * k))]).length) Slot.unset).toArray = ls at hl ⊢
  have hl : lv_has ls 6 [(0, .ref (ad 6)), (1, .ref (ad 1)), (2, .ref (ad (58 + 2 * k)))] := hl
  refine nx_Q (R := ({ frames := 3, cells := 0, slots := 0, locals := 81 } : Room)) (fun Q hQ => ?_)
  have hl60 := (hZ k hk).1
  refine lv_aload_n hx hb dX0_forbid_0 rfl (lv_at hl 2 rfl) ?_
  refine va_get (D := (dC, dI)) (ci := 3) (C := RX3) (T := TX3) (N := 2) hx hb hts hin3 hown hK hP (58 + 2 * k) (xw_ro k (by omega)) rfl 1 (by decide) lk0 (fun _ h9 => h9) rfl dX0_forbid_1 ?_
  refine nx_ti (y := nI (R k).length) ((hZ k (by omega)).2.1) ?_
  refine lv_iconst (v := nI 1) hx hb dX0_forbid_4 (by decide) ?_
  refine lv_isub hx hb dX0_forbid_5 ?_
  refine nx_ti (y := sy (R k).length) (rfl) ?_
  refine lv_istore_n (lv' := [(3, .int (sy (R k).length)), (0, .ref (ad 6)), (1, .ref (ad 1)), (2, .ref (ad (58 + 2 * k)))]) hx hb dX0_forbid_6 rfl hl (by decide) rfl (fun ls hl => ?_)
  have L7 : ∀ (fuel7 : Nat) (i : Nat) (T1 : NT) (v1 : Nat → Int32) (F1 : Nat → Nat → Int32) (G1 : Nat → Nat → Int64) (Z : Nat → Int32) (S : Nat → Nat → Int32) (H : Heap) (locs : List Loc) (ls : Array Slot), (i ≤ (R k).length) → (fbF (F 0) (R k) T1 i = fbF (F 0) (R k) T (R k).length) → (ntOK T1 v1 F1 G1) → (ntR v v1 F F1 G G1) → (T1.1 + acN (R k) i ≤ 36) → xOK Z S R → va_P (dC, dI) vwCl (wsX aC ad cap v1 Z S F1 G1) H → va_S (xA ad) s.heap H locs → i < fuel7 → lv_has ls 6 [(0, .ref (ad 6)), (1, .ref (ad 1)), (2, .ref (ad (58 + 2 * k))), (3, .int (sy i))] → W p l e ({ frames := 3, cells := 0, slots := 0, locals := 81 } : Room) s m ([.ref (ad 6), .ref (ad 1), .ref (ad (58 + 2 * k))] : List Value).toArray below meth c H locs 0 0 Q (F0 m 7 ls []) := by
    intro fuel7
    induction fuel7 with
    | zero => intro i T1 v1 F1 G1 Z S H locs ls hi hr hT1 hR1 hn1 hZ hP hS hf7 hl; exact absurd hf7 (Nat.not_lt_zero _)
    | succ fuel7 ih7 =>
      intro i T1 v1 F1 G1 Z S H locs ls hi hr hT1 hR1 hn1 hZ hP hS hf7 hl
      refine lv_iload_n hx hb dX0_forbid_7 rfl (lv_at hl 3 rfl) ?_
      refine lv_if_lt (tgt := 84) hx hb dX0_forbid_8 (by decide) (fun c_8 => ?_) (fun c_8 => ?_)
      · skip
        subst hQ
        exact W.vret hx hb hret (fun tq htq hWq => ⟨⟨(v1, R, F1, G1), rfl, ⟨_, _, _, rfl, by have h0 : i = 0 := (sy_neg (by omega)).mp c_8; subst h0; rw [← hr]; exact hT1, hR1⟩, va_K.moved hWq.alike hK, _, _, hZ, by rw [htq]; exact hP⟩, hS.F htq⟩) hS.2.2 dX0_forbid_84
      · skip
        obtain ⟨p0, rfl⟩ : ∃ p0, i = p0 + 1 := ⟨i - 1, by have : ¬ i = 0 := fun h => c_8 ((sy_neg (by omega)).mpr h); omega⟩
        rw [sy_s] at hl
        refine lv_aload_n hx hb dX0_forbid_11 rfl (lv_at hl 0 rfl) ?_
        refine va_get (D := (dC, dI)) (ci := 0) (C := RX0) (T := TX0) (N := 6) hx hb hts hin0 hown hK hP 6 rfl rfl 4 (by decide) lk1 (fun _ h9 => h9) rfl dX0_forbid_12 ?_
        refine lv_iload_n hx hb dX0_forbid_15 rfl (lv_at hl 3 rfl) ?_
        refine lv_lconst (v := 0) hx hb dX0_forbid_16 (by decide) ?_
        refine nx_last hx hb hK hP (wsX_D hI) hS 20 1 rfl rfl (i := p0) (by omega) (by decide) dX0_forbid_17 (fun H locs hP hS => ?_)
        have hP : va_P (dC, dI) vwCl (wsX aC ad cap v1 Z S F1 (va_up G1 2 (vp_updL (G1 2) p0 0))) H := hP
        refine lv_aload_n hx hb dX0_forbid_18 rfl (lv_at hl 2 rfl) ?_
        refine va_get (D := (dC, dI)) (ci := 3) (C := RX3) (T := TX3) (N := 2) hx hb hts hin3 hown hK hP (58 + 2 * k) (xw_ro k (by omega)) rfl 0 (by decide) lk2 (fun _ h9 => h9) rfl dX0_forbid_19 ?_
        refine lv_iload_n hx hb dX0_forbid_22 rfl (lv_at hl 3 rfl) ?_
        refine nx_iald hx hb hK hP (59 + 2 * k) 0 (xw_ra k (by omega)) rfl (i := p0) (by have := (hZ k (by omega)).1; omega) (by decide) dX0_forbid_23 ?_
        refine nx_ti (y := gD (R k) p0) ((hZ k (by omega)).2.2 p0 (by omega)) ?_
        refine lv_istore (lv' := [(4, .int (gD (R k) p0)), (0, .ref (ad 6)), (1, .ref (ad 1)), (2, .ref (ad (58 + 2 * k))), (3, .int (nI p0))]) hx hb dX0_forbid_24 hl (by decide) rfl (fun ls hl => ?_)
        refine lv_iload hx hb dX0_forbid_26 (lv_at hl 0 rfl) ?_
        refine lv_iconst (v := (-1)) hx hb dX0_forbid_28 (by decide) ?_
        refine lv_icmp_ne (tgt := 36) hx hb dX0_forbid_29 (by decide) (fun c_29 => ?_) (fun c_29 => ?_)
        · skip
          refine lv_aload_n hx hb dX0_forbid_36 rfl (lv_at hl 1 rfl) ?_
          refine lv_iload hx hb dX0_forbid_37 (lv_at hl 0 rfl) ?_
          refine lv_iload_n hx hb dX0_forbid_39 rfl (lv_at hl 4 rfl) ?_
          refine nx_if_ne (tgt := 47) hx hb dX0_forbid_40 (by decide) (by omega) (fun c_40 => ?_) (fun c_40 => ?_)
          · skip
            refine lv_iconst (v := nI 0) hx hb dX0_forbid_47 (by decide) ?_
            refine xc_i (b := ad 6) (As := [.int (gD (R k) p0), .int (nI 0)]) (rest := []) ⟨hx, hb, hml, hown, hts⟩ (x_addNode l dC dI aC ad cap hI v1 R F1 (va_up G1 2 (vp_updL (G1 2) p0 0)) (btN T1 p0 0) (ntOK_bt hT1 p0 0) (by show T1.1 < 36; rw [acN_y c_29] at hn1; omega) (gD (R k) p0) (nI 0)) (cwV 2 hts gX0_forbid_X0_addNode rfl rfl rfl (by decide +kernel) ⟨Nat.le_of_ble_eq_true rfl, Nat.le_of_ble_eq_true rfl⟩) (xPre (q0 := 6) (ci := 0) rfl rfl hK hZ hP) hS rfl hl.1 rfl (Nat.le_of_ble_eq_true rfl) dX0_forbid_48 ⟨Nat.le_of_ble_eq_true rfl, Nat.le_of_ble_eq_true rfl⟩ (fun x_48 v1 R1 F1 G1 Z S H locs h_48 hZ hP hS => ?_)
            obtain ⟨hx_48, v2, F2, G2, hu_48, hT2, hR2⟩ := h_48
            subst hx_48
            have hwz : decide (¬ (nI 0) = 0) = decide (p0 = 0) := decide_eq_decide.mpr (by exact ⟨fun h => absurd (by decide) h, fun h => absurd h c_40⟩)
            rw [hwz] at hT2
            have hR2 := ntR_tr hR1 (ntR_tr ntR_bt hR2)
            have hP : va_P (dC, dI) vwCl (wsX aC ad cap v2 Z S F2 G2) H := by cases hu_48; exact hP
            have hZ : xOK Z S R := by cases hu_48; exact hZ
            refine lv_istore (lv' := [(5, .int (nI T1.1)), (4, .int (gD (R k) p0)), (0, .ref (ad 6)), (1, .ref (ad 1)), (2, .ref (ad (58 + 2 * k))), (3, .int (nI p0))]) hx hb dX0_forbid_51 hl (by decide) rfl (fun ls hl => ?_)
            refine lv_iload hx hb dX0_forbid_53 (lv_at hl 0 rfl) ?_
            refine lv_iconst (v := (-1)) hx hb dX0_forbid_55 (by decide) ?_
            refine lv_icmp_eq (tgt := 78) hx hb dX0_forbid_56 (by decide) (fun c_56 => ?_) (fun c_56 => ?_)
            · skip
              exact absurd c_56 (fun h => nI_pos (n := T1.1) (by omega) (by rw [h]; decide))
            · skip
              refine lv_aload_n hx hb dX0_forbid_59 rfl (lv_at hl 2 rfl) ?_
              refine va_get (D := (dC, dI)) (ci := 0) (C := RX0) (T := TX0) (N := 6) hx hb hts hin0 hown hK hP 6 rfl rfl 4 (by decide) lk1 (fun _ h9 => h9) rfl dX0_forbid_60 ?_
              refine lv_iload_n hx hb dX0_forbid_63 rfl (lv_at hl 5 rfl) ?_
              refine lv_lconst (v := 1) hx hb dX0_forbid_64 (by decide) ?_
              refine lv_iload hx hb dX0_forbid_65 (lv_at hl 0 rfl) ?_
              refine lv_lshl (v := bitN T1.1) hx hb dX0_forbid_67 rfl ?_
              refine nx_last hx hb hK hP (wsX_D hI) hS 20 1 rfl rfl (i := p0) (by omega) (by decide) dX0_forbid_68 (fun H locs hP hS => ?_)
              have hP : va_P (dC, dI) vwCl (wsX aC ad cap v2 Z S F2 (va_up G2 2 (vp_updL (G2 2) p0 (bitN T1.1)))) H := hP
              refine lv_aload_n hx hb dX0_forbid_69 rfl (lv_at hl 2 rfl) ?_
              refine lv_aload_n hx hb dX0_forbid_70 rfl (lv_at hl 3 rfl) ?_
              refine lv_aload_n hx hb dX0_forbid_71 rfl (lv_at hl 4 rfl) ?_
              refine lv_iload_n hx hb dX0_forbid_72 rfl (lv_at hl 5 rfl) ?_
              refine lv_iload hx hb dX0_forbid_73 (lv_at hl 0 rfl) ?_
              refine xc_v (b := ad 6) (As := [.ref (ad 1), .ref (ad (58 + 2 * k)), .int (nI p0), .int (nI T1.1)]) (rest := []) ⟨hx, hb, hml, hown, hts⟩ (x_linkEntries l dC dI aC ad cap hI v2 R F2 (va_up G2 2 (vp_updL (G2 2) p0 (bitN T1.1))) A (by rw [hR2.2.1 0 (by decide)]; exact hE) ((hR2.1 0 (by decide)).trans hA) (btN (adN (btN T1 p0 0) (gD (R k) p0) (decide (p0 = 0))) p0 (bitN T1.1)) (ntOK_bt hT2 p0 (bitN T1.1)) k hk hV (by rw [hR2.2.1 0 (by decide)]; exact hTl) p0 (by omega) T1.1 (by rw [acN_y c_29] at hn1; omega)) (cwV 4 hts gX0_forbid_X0_linkEntries rfl rfl rfl (by decide +kernel) ⟨Nat.le_of_ble_eq_true rfl, Nat.le_of_ble_eq_true rfl⟩) (xPre (q0 := 6) (ci := 0) rfl rfl hK hZ hP) hS rfl hl.1 rfl (Nat.le_of_ble_eq_true rfl) dX0_forbid_75 ⟨Nat.le_of_ble_eq_true rfl, Nat.le_of_ble_eq_true rfl⟩ (fun v2 R2 F2 G2 Z S H locs h_75 hZ hP hS => ?_)
              obtain ⟨v3, F3, G3, hu_75, hT3, hR3⟩ := h_75
              rw [hR2.2.1 0 (by decide)] at hT3
              have hT3 : ntOK (fbS (F 0) (R k) T1 p0) v3 F3 G3 := by rw [fbS_y c_29 rfl]; exact hT3
              have hR3 := ntR_tr hR2 (ntR_tr ntR_bt hR3)
              have hP : va_P (dC, dI) vwCl (wsX aC ad cap v3 Z S F3 G3) H := by cases hu_75; exact hP
              have hZ : xOK Z S R := by cases hu_75; exact hZ
              refine lv_iinc (v := sy p0) (lv' := [(3, .int (sy p0)), (5, .int (nI T1.1)), (4, .int (gD (R k) p0)), (0, .ref (ad 6)), (1, .ref (ad 1)), (2, .ref (ad (58 + 2 * k)))]) hx hb dX0_forbid_78 hl (k := 5) rfl (sy_dec p0) (by decide) rfl (fun ls hl => ?_)
              refine lv_goto (tgt := 7) hx hb dX0_forbid_81 (by decide) ?_
              exact ih7 p0 (fbS (F 0) (R k) T1 p0) v3 F3 G3 _ _ _ _ _ (by omega) hr hT3 hR3 (by rw [fbS_nd, if_neg c_29]; rw [acN_y c_29] at hn1; omega) hZ hP hS (by omega) (lv_sub hl [3, 4, 5, 0] rfl)
          · skip
            refine lv_iconst (v := nI 1) hx hb dX0_forbid_43 (by decide) ?_
            refine lv_goto (tgt := 48) hx hb dX0_forbid_44 (by decide) ?_
            refine xc_i (b := ad 6) (As := [.int (gD (R k) p0), .int (nI 1)]) (rest := []) ⟨hx, hb, hml, hown, hts⟩ (x_addNode l dC dI aC ad cap hI v1 R F1 (va_up G1 2 (vp_updL (G1 2) p0 0)) (btN T1 p0 0) (ntOK_bt hT1 p0 0) (by show T1.1 < 36; rw [acN_y c_29] at hn1; omega) (gD (R k) p0) (nI 1)) (cwV 2 hts gX0_forbid_X0_addNode rfl rfl rfl (by decide +kernel) ⟨Nat.le_of_ble_eq_true rfl, Nat.le_of_ble_eq_true rfl⟩) (xPre (q0 := 6) (ci := 0) rfl rfl hK hZ hP) hS rfl hl.1 rfl (Nat.le_of_ble_eq_true rfl) dX0_forbid_48 ⟨Nat.le_of_ble_eq_true rfl, Nat.le_of_ble_eq_true rfl⟩ (fun x_48 v3 R3 F3 G3 Z S H locs h_48 hZ hP hS => ?_)
            obtain ⟨hx_48, v2, F2, G2, hu_48, hT2, hR2⟩ := h_48
            subst hx_48
            have hwz : decide (¬ (nI 1) = 0) = decide (p0 = 0) := decide_eq_decide.mpr (by exact ⟨fun _ => c_40, fun _ => by decide⟩)
            rw [hwz] at hT2
            have hR2 := ntR_tr hR1 (ntR_tr ntR_bt hR2)
            have hP : va_P (dC, dI) vwCl (wsX aC ad cap v2 Z S F2 G2) H := by cases hu_48; exact hP
            have hZ : xOK Z S R := by cases hu_48; exact hZ
            refine lv_istore (lv' := [(5, .int (nI T1.1)), (4, .int (gD (R k) p0)), (0, .ref (ad 6)), (1, .ref (ad 1)), (2, .ref (ad (58 + 2 * k))), (3, .int (nI p0))]) hx hb dX0_forbid_51 hl (by decide) rfl (fun ls hl => ?_)
            refine lv_iload hx hb dX0_forbid_53 (lv_at hl 0 rfl) ?_
            refine lv_iconst (v := (-1)) hx hb dX0_forbid_55 (by decide) ?_
            refine lv_icmp_eq (tgt := 78) hx hb dX0_forbid_56 (by decide) (fun c_56 => ?_) (fun c_56 => ?_)
            · skip
              exact absurd c_56 (fun h => nI_pos (n := T1.1) (by omega) (by rw [h]; decide))
            · skip
              refine lv_aload_n hx hb dX0_forbid_59 rfl (lv_at hl 2 rfl) ?_
              refine va_get (D := (dC, dI)) (ci := 0) (C := RX0) (T := TX0) (N := 6) hx hb hts hin0 hown hK hP 6 rfl rfl 4 (by decide) lk1 (fun _ h9 => h9) rfl dX0_forbid_60 ?_
              refine lv_iload_n hx hb dX0_forbid_63 rfl (lv_at hl 5 rfl) ?_
              refine lv_lconst (v := 1) hx hb dX0_forbid_64 (by decide) ?_
              refine lv_iload hx hb dX0_forbid_65 (lv_at hl 0 rfl) ?_
              refine lv_lshl (v := bitN T1.1) hx hb dX0_forbid_67 rfl ?_
              refine nx_last hx hb hK hP (wsX_D hI) hS 20 1 rfl rfl (i := p0) (by omega) (by decide) dX0_forbid_68 (fun H locs hP hS => ?_)
              have hP : va_P (dC, dI) vwCl (wsX aC ad cap v2 Z S F2 (va_up G2 2 (vp_updL (G2 2) p0 (bitN T1.1)))) H := hP
              refine lv_aload_n hx hb dX0_forbid_69 rfl (lv_at hl 2 rfl) ?_
              refine lv_aload_n hx hb dX0_forbid_70 rfl (lv_at hl 3 rfl) ?_
              refine lv_aload_n hx hb dX0_forbid_71 rfl (lv_at hl 4 rfl) ?_
              refine lv_iload_n hx hb dX0_forbid_72 rfl (lv_at hl 5 rfl) ?_
              refine lv_iload hx hb dX0_forbid_73 (lv_at hl 0 rfl) ?_
              refine xc_v (b := ad 6) (As := [.ref (ad 1), .ref (ad (58 + 2 * k)), .int (nI p0), .int (nI T1.1)]) (rest := []) ⟨hx, hb, hml, hown, hts⟩ (x_linkEntries l dC dI aC ad cap hI v2 R F2 (va_up G2 2 (vp_updL (G2 2) p0 (bitN T1.1))) A (by rw [hR2.2.1 0 (by decide)]; exact hE) ((hR2.1 0 (by decide)).trans hA) (btN (adN (btN T1 p0 0) (gD (R k) p0) (decide (p0 = 0))) p0 (bitN T1.1)) (ntOK_bt hT2 p0 (bitN T1.1)) k hk hV (by rw [hR2.2.1 0 (by decide)]; exact hTl) p0 (by omega) T1.1 (by rw [acN_y c_29] at hn1; omega)) (cwV 4 hts gX0_forbid_X0_linkEntries rfl rfl rfl (by decide +kernel) ⟨Nat.le_of_ble_eq_true rfl, Nat.le_of_ble_eq_true rfl⟩) (xPre (q0 := 6) (ci := 0) rfl rfl hK hZ hP) hS rfl hl.1 rfl (Nat.le_of_ble_eq_true rfl) dX0_forbid_75 ⟨Nat.le_of_ble_eq_true rfl, Nat.le_of_ble_eq_true rfl⟩ (fun v4 R4 F4 G4 Z S H locs h_75 hZ hP hS => ?_)
              obtain ⟨v3, F3, G3, hu_75, hT3, hR3⟩ := h_75
              rw [hR2.2.1 0 (by decide)] at hT3
              have hT3 : ntOK (fbS (F 0) (R k) T1 p0) v3 F3 G3 := by rw [fbS_y c_29 rfl]; exact hT3
              have hR3 := ntR_tr hR2 (ntR_tr ntR_bt hR3)
              have hP : va_P (dC, dI) vwCl (wsX aC ad cap v3 Z S F3 G3) H := by cases hu_75; exact hP
              have hZ : xOK Z S R := by cases hu_75; exact hZ
              refine lv_iinc (v := sy p0) (lv' := [(3, .int (sy p0)), (5, .int (nI T1.1)), (4, .int (gD (R k) p0)), (0, .ref (ad 6)), (1, .ref (ad 1)), (2, .ref (ad (58 + 2 * k)))]) hx hb dX0_forbid_78 hl (k := 5) rfl (sy_dec p0) (by decide) rfl (fun ls hl => ?_)
              refine lv_goto (tgt := 7) hx hb dX0_forbid_81 (by decide) ?_
              exact ih7 p0 (fbS (F 0) (R k) T1 p0) v3 F3 G3 _ _ _ _ _ (by omega) hr hT3 hR3 (by rw [fbS_nd, if_neg c_29]; rw [acN_y c_29] at hn1; omega) hZ hP hS (by omega) (lv_sub hl [3, 4, 5, 0] rfl)
        · skip
          refine lv_iconst (v := (-1)) hx hb dX0_forbid_32 (by decide) ?_
          refine lv_goto (tgt := 51) hx hb dX0_forbid_33 (by decide) ?_
          refine lv_istore (lv' := [(5, .int (-1)), (4, .int (gD (R k) p0)), (0, .ref (ad 6)), (1, .ref (ad 1)), (2, .ref (ad (58 + 2 * k))), (3, .int (nI p0))]) hx hb dX0_forbid_51 hl (by decide) rfl (fun ls hl => ?_)
          refine lv_iload hx hb dX0_forbid_53 (lv_at hl 0 rfl) ?_
          refine lv_iconst (v := (-1)) hx hb dX0_forbid_55 (by decide) ?_
          refine lv_icmp_eq (tgt := 78) hx hb dX0_forbid_56 (by decide) (fun c_56 => ?_) (fun c_56 => ?_)
          · skip
            refine lv_iinc (v := sy p0) (lv' := [(3, .int (sy p0)), (5, .int (-1)), (4, .int (gD (R k) p0)), (0, .ref (ad 6)), (1, .ref (ad 1)), (2, .ref (ad (58 + 2 * k)))]) hx hb dX0_forbid_78 hl (k := 5) rfl (sy_dec p0) (by decide) rfl (fun ls hl => ?_)
            refine lv_goto (tgt := 7) hx hb dX0_forbid_81 (by decide) ?_
            exact ih7 p0 (fbS (F 0) (R k) T1 p0) v1 F1 (va_up G1 2 (vp_updL (G1 2) p0 0)) _ _ _ _ _ (by omega) hr (by rw [fbS_n c_29]; exact ntOK_bt hT1 p0 0) (ntR_tr hR1 ntR_bt) (by rw [fbS_nd, if_pos c_29]; rw [acN_n c_29] at hn1; omega) hZ hP hS (by omega) (lv_sub hl [3, 4, 5, 0] rfl)
          · skip
            exact absurd rfl c_56
  exact L7 ((R k).length + 1) (R k).length T v F G _ _ _ _ _ (by omega) rfl hT ntR_rf hn hZ hP hS (Nat.lt_succ_self _) (lv_sub hl [1, 2, 3, 0] rfl)

set_option maxHeartbeats 1000000 in
set_option maxRecDepth 100000 in
/-- Census.forbidLefts -/
theorem x_forbidLefts (l : Launch) (dC : Nat → ClassId) (dI : Nat → Nat → Nat) (aC : Nat → ClassId) (ad cap : Nat → Nat) (hI : xI ad) (v : Nat → Int32) (R : Nat → List Int32) (F : Nat → Nat → Int32) (G : Nat → Nat → Int64) (A : Nat) (hE : vE A (F 0)) (hA : v 0 = nI A) (n : Nat) (hn : v 1 = nI n) (hn8 : n ≤ 8) (hTl : ∀ j, j < n → isT (F 0) (R (10 + j))) (hVl : ∀ j, j < n → vR A (R (10 + j))) (hl4 : ∀ j, j < n → (R (10 + j)).length - lvs (R (10 + j)) ≤ 4) : Met l yX0_forbidLefts wsX0_forbidLefts ({ frames := 4, cells := 0, slots := 0, locals := 106 } : Room) (va_Pc [.ref (ad 6), .ref (ad 1)] (XB dC dI aC ad cap (v, R, F, G))) (va_Qv (fun (u : MS) => ∃ v1 F1 G1, (v1, R, F1, G1) = u ∧ ntOK (flF (F 0) R (ntS F G) n) v1 F1 G1 ∧ ntR v v1 F F1 G G1) (XB dC dI aC ad cap) (xA ad)) 0 0 (xA ad) := by
  refine Met.ofW (cc := cX0_forbidLefts) (maxL := 3) (ret := none) (by decide) rfl ?_
  intro p e s m args below meth c s₁ B hml hv
  obtain ⟨rfl, hK, Z, S, hZ, hP⟩ := hv
  have hx := B.exec
  have hb := B.bytes
  have hret := B.returns
  have hts := atoms_spec (ws := wsX0_forbidLefts) B.pre
  have hown : s.vm.findClass RX0 = some m.cls := findClass_of_methodNamed B.named
  have hlocks := B.notSynchronized
  dsimp only at hZ hP
  have lk0 := hts (.fieldLink RX0 34 "LeafTrees$World" "ruleCount" "I") (by decide +kernel)
  have lk1 := hts (.fieldLink RX0 40 "LeafTrees$World" "rules" "[LLeafTrees$Rule;") (by decide +kernel)
  have lk2 := hts (.fieldLink RX0 44 "LeafTrees$Rule" "left" "LLeafTrees$Row;") (by decide +kernel)
  have hin4 : ∀ w ∈ u_ws RX4 TX4 3, w ∈ wsX0_forbidLefts := by decide +kernel
  have hin8 : ∀ w ∈ u_ws RX8 TX8 4, w ∈ wsX0_forbidLefts := by decide +kernel
  have hS : va_S (xA ad) s.heap s.heap [] := va_S.rf
  have hl := lv_entry [.ref (ad 6), .ref (ad 1)] (n := 3) (Nat.le_of_ble_eq_true rfl)
  rw [lg_entry_eq]
  generalize (lg_sl [.ref (ad 6), .ref (ad 1)] ++ List.replicate (3 - (lg_sl [.ref (ad 6), .ref (ad 1)]).length) Slot.unset).toArray = ls at hl ⊢
  have hl : lv_has ls 3 [(0, .ref (ad 6)), (1, .ref (ad 1))] := hl
  refine nx_Q (R := ({ frames := 4, cells := 0, slots := 0, locals := 106 } : Room)) (fun Q hQ => ?_)
  refine lv_aload_n hx hb dX0_forbidLefts_0 rfl (lv_at hl 0 rfl) ?_
  refine xc_v (b := ad 6) (As := []) (rest := []) ⟨hx, hb, hml, hown, hts⟩ (x_cclear l dC dI aC ad cap hI v R F G ) (cwV 0 hts gX0_forbidLefts_X0_clear rfl rfl rfl (by decide +kernel) ⟨Nat.le_of_ble_eq_true rfl, Nat.le_of_ble_eq_true rfl⟩) (xPre (q0 := 6) (ci := 0) rfl rfl hK hZ hP) hS rfl hl.1 rfl (Nat.le_of_ble_eq_true rfl) dX0_forbidLefts_1 ⟨Nat.le_of_ble_eq_true rfl, Nat.le_of_ble_eq_true rfl⟩ (fun v1 R1 F1 G1 Z S H locs h_1 hZ hP hS => ?_)
  obtain ⟨w1, E1, H1, hu_1, hT0, hR0⟩ := h_1
  have hP : va_P (dC, dI) vwCl (wsX aC ad cap w1 Z S E1 H1) H := by cases hu_1; exact hP
  have hZ : xOK Z S R := by cases hu_1; exact hZ
  refine lv_iconst (v := nI 0) hx hb dX0_forbidLefts_4 (by decide) ?_
  refine lv_istore_n (lv' := [(2, .int (nI 0)), (0, .ref (ad 6)), (1, .ref (ad 1))]) hx hb dX0_forbidLefts_5 rfl hl (by decide) rfl (fun ls hl => ?_)
  have L6 : ∀ (fuel6 : Nat) (i : Nat) (v1 : Nat → Int32) (F1 : Nat → Nat → Int32) (G1 : Nat → Nat → Int64) (Z : Nat → Int32) (S : Nat → Nat → Int32) (H : Heap) (locs : List Loc) (ls : Array Slot), (i ≤ n) → (ntOK (flF (F 0) R (ntS F G) i) v1 F1 G1) → (ntR v v1 F F1 G G1) → xOK Z S R → va_P (dC, dI) vwCl (wsX aC ad cap v1 Z S F1 G1) H → va_S (xA ad) s.heap H locs → n - i < fuel6 → lv_has ls 3 [(0, .ref (ad 6)), (1, .ref (ad 1)), (2, .int (nI i))] → W p l e ({ frames := 4, cells := 0, slots := 0, locals := 106 } : Room) s m ([.ref (ad 6), .ref (ad 1)] : List Value).toArray below meth c H locs 0 0 Q (F0 m 6 ls []) := by
    intro fuel6
    induction fuel6 with
    | zero => intro i v1 F1 G1 Z S H locs ls hi hT1 hR1 hZ hP hS hf6 hl; exact absurd hf6 (Nat.not_lt_zero _)
    | succ fuel6 ih6 =>
      intro i v1 F1 G1 Z S H locs ls hi hT1 hR1 hZ hP hS hf6 hl
      refine lv_iload_n hx hb dX0_forbidLefts_6 rfl (lv_at hl 2 rfl) ?_
      refine lv_aload_n hx hb dX0_forbidLefts_7 rfl (lv_at hl 1 rfl) ?_
      refine va_get (D := (dC, dI)) (ci := 8) (C := RX8) (T := TX8) (N := 4) hx hb hts hin8 hown hK hP 1 rfl rfl 3 (by decide) lk0 (fun _ h9 => h9) rfl dX0_forbidLefts_8 ?_
      refine nx_ti (y := nI n) ((hR1.1 1 (by decide)).trans hn) ?_
      refine nx_icmp_ge (a := i) (b := n) (tgt := 34) hx hb dX0_forbidLefts_11 (by decide) (by omega) (by omega) (fun c_11 => ?_) (fun c_11 => ?_)
      · skip
        subst hQ
        exact W.vret hx hb hret (fun tq htq hWq => ⟨⟨(v1, R, F1, G1), rfl, ⟨_, _, _, rfl, by rw [← show i = n by omega]; exact hT1, hR1⟩, va_K.moved hWq.alike hK, _, _, hZ, by rw [htq]; exact hP⟩, hS.F htq⟩) hS.2.2 dX0_forbidLefts_34
      · skip
        refine lv_aload_n hx hb dX0_forbidLefts_14 rfl (lv_at hl 0 rfl) ?_
        refine lv_aload_n hx hb dX0_forbidLefts_15 rfl (lv_at hl 1 rfl) ?_
        refine lv_aload_n hx hb dX0_forbidLefts_16 rfl (lv_at hl 1 rfl) ?_
        refine va_get (D := (dC, dI)) (ci := 8) (C := RX8) (T := TX8) (N := 4) hx hb hts hin8 hown hK hP 1 rfl rfl 2 (by decide) lk1 (fun _ h9 => h9) rfl dX0_forbidLefts_17 ?_
        refine lv_iload_n hx hb dX0_forbidLefts_20 rfl (lv_at hl 2 rfl) ?_
        refine nx_aald (C := "LeafTrees$Rule") hx hb hK hP 11 4 rfl rfl (i := i) (by omega) (by decide) (show xRules ad i = some (ad (50 + i)) from if_pos (by omega)) dX0_forbidLefts_21 ?_
        refine va_get (D := (dC, dI)) (ci := 4) (C := RX4) (T := TX4) (N := 3) hx hb hts hin4 hown hK hP (50 + i) (xw_ru i (by omega)) rfl 0 (by decide) lk2 (fun _ h9 => h9) rfl dX0_forbidLefts_22 ?_
        refine xc_v (b := ad 6) (As := [.ref (ad 1), .ref (ad (58 + 2 * (10 + i)))]) (rest := []) ⟨hx, hb, hml, hown, hts⟩ (x_forbid l dC dI aC ad cap hI v1 R F1 G1 A (by rw [hR1.2.1 0 (by decide)]; exact hE) ((hR1.1 0 (by decide)).trans hA) (flF (F 0) R (ntS F G) i) hT1 (10 + i) (by omega) (hVl i c_11) (by rw [hR1.2.1 0 (by decide)]; exact hTl i c_11) (by have h1 := flF_nd (E := F 0) (R := R) (T := ntS F G) (n := i) (fun j hj => hl4 j (by omega)); have h2 := hl4 i c_11; have h3 := acN_cF (l := R (10 + i)) (R (10 + i)).length; have h4 : lvs (R (10 + i)) = cF (gD (R (10 + i))) (R (10 + i)).length := rfl; omega)) (cwV 2 hts gX0_forbidLefts_X0_forbid rfl rfl rfl (by decide +kernel) ⟨Nat.le_of_ble_eq_true rfl, Nat.le_of_ble_eq_true rfl⟩) (xPre (q0 := 6) (ci := 0) rfl rfl hK hZ hP) hS rfl hl.1 rfl (Nat.le_of_ble_eq_true rfl) dX0_forbidLefts_25 ⟨Nat.le_of_ble_eq_true rfl, Nat.le_of_ble_eq_true rfl⟩ (fun v2 R2 F2 G2 Z S H locs h_25 hZ hP hS => ?_)
        obtain ⟨v2, F2, G2, hu_25, hT2, hR2⟩ := h_25
        rw [hR1.2.1 0 (by decide)] at hT2
        have hR2 := ntR_tr hR1 hR2
        have hP : va_P (dC, dI) vwCl (wsX aC ad cap v2 Z S F2 G2) H := by cases hu_25; exact hP
        have hZ : xOK Z S R := by cases hu_25; exact hZ
        refine lv_iinc (v := nI (i + 1)) (lv' := [(2, .int (nI (i + 1))), (0, .ref (ad 6)), (1, .ref (ad 1))]) hx hb dX0_forbidLefts_28 hl (k := 2) rfl (nI_add _ _) (by decide) rfl (fun ls hl => ?_)
        refine lv_goto (tgt := 6) hx hb dX0_forbidLefts_31 (by decide) ?_
        exact ih6 (i + 1) v2 F2 G2 _ _ _ _ _ (by omega) hT2 hR2 hZ hP hS (by omega) (lv_sub hl [1, 2, 0] rfl)
  exact L6 (n - 0 + 1) 0 w1 E1 H1 _ _ _ _ _ (by omega) hT0 hR0 hZ hP hS (Nat.lt_succ_self _) (lv_sub hl [1, 2, 0] rfl)

set_option maxHeartbeats 1000000 in
set_option maxRecDepth 100000 in
/-- Census.forbidUnlessLeft -/
theorem x_forbidUnless (l : Launch) (dC : Nat → ClassId) (dI : Nat → Nat → Nat) (aC : Nat → ClassId) (ad cap : Nat → Nat) (hI : xI ad) (v : Nat → Int32) (R : Nat → List Int32) (F : Nat → Nat → Int32) (G : Nat → Nat → Int64) (T : NT) (hT : ntOK T v F G) (n : Nat) (hn : v 1 = nI n) (hn8 : n ≤ 8) (h5 : ∀ j, j < n → (R (10 + j)).length = 5) (a en b : Nat) (hen : en < 2) (hb64 : b < 64) (hnd : T.1 < 36) : Met l yX0_forbidUnlessLeft wsX0_forbidUnlessLeft ({ frames := 1, cells := 0, slots := 0, locals := 25 } : Room) (va_Pc [.ref (ad 6), .ref (ad 1), .int (nI a), .int (nI en), .int (nI b)] (XB dC dI aC ad cap (v, R, F, G))) (va_Qv (fun (u : MS) => ∃ v1 F1 G1, (v1, R, F1, G1) = u ∧ ntOK (duN R n T a en b) v1 F1 G1 ∧ ntR v v1 F F1 G G1) (XB dC dI aC ad cap) (xA ad)) 0 0 (xA ad) := by
  refine Met.ofW (cc := cX0_forbidUnlessLeft) (maxL := 6) (ret := none) (by decide) rfl ?_
  intro p e s m args below meth c s₁ B hml hv
  obtain ⟨rfl, hK, Z, S, hZ, hP⟩ := hv
  have hx := B.exec
  have hb := B.bytes
  have hret := B.returns
  have hts := atoms_spec (ws := wsX0_forbidUnlessLeft) B.pre
  have hown : s.vm.findClass RX0 = some m.cls := findClass_of_methodNamed B.named
  have hlocks := B.notSynchronized
  dsimp only at hZ hP
  have lk0 := hts (.fieldLink RX0 17 "LeafTrees$Census" "needs" "[[J") (by decide +kernel)
  have hin0 : ∀ w ∈ u_ws RX0 TX0 6, w ∈ wsX0_forbidUnlessLeft := by decide +kernel
  have hS : va_S (xA ad) s.heap s.heap [] := va_S.rf
  have hl := lv_entry [.ref (ad 6), .ref (ad 1), .int (nI a), .int (nI en), .int (nI b)] (n := 6) (Nat.le_of_ble_eq_true rfl)
  rw [lg_entry_eq]
  generalize (lg_sl [.ref (ad 6), .ref (ad 1), .int (nI a), .int (nI en), .int (nI b)] ++ List.replicate (6 - (lg_sl [.ref (ad 6), .ref (ad 1), .int (nI a), .int (nI en), .int (nI b)]).length) Slot.unset).toArray = ls at hl ⊢
  have hl : lv_has ls 6 [(0, .ref (ad 6)), (1, .ref (ad 1)), (2, .int (nI a)), (3, .int (nI en)), (4, .int (nI b))] := hl
  refine nx_Q (R := ({ frames := 1, cells := 0, slots := 0, locals := 25 } : Room)) (fun Q hQ => ?_)
  refine lv_aload_n hx hb dX0_forbidUnlessLeft_0 rfl (lv_at hl 1 rfl) ?_
  refine lv_iload_n hx hb dX0_forbidUnlessLeft_1 rfl (lv_at hl 2 rfl) ?_
  refine lv_iload_n hx hb dX0_forbidUnlessLeft_2 rfl (lv_at hl 3 rfl) ?_
  refine lv_iload hx hb dX0_forbidUnlessLeft_3 (lv_at hl 4 rfl) ?_
  refine xp_i (b := ad 1) (As := [.int (nI a), .int (nI en), .int (nI b)]) (rest := []) ⟨hx, hb, hml, hown, hts⟩ (x_hasLeft l dC dI aC ad cap v R F G n hn hn8 h5 a en b hen) (cwV 3 hts gX0_forbidUnlessLeft_X8_hasLeft rfl rfl rfl (by decide +kernel) ⟨Nat.le_of_ble_eq_true rfl, Nat.le_of_ble_eq_true rfl⟩) (xPre (q0 := 1) (ci := 8) rfl rfl hK hZ hP) rfl hl.1 rfl (Nat.le_of_ble_eq_true rfl) dX0_forbidUnlessLeft_5 ⟨Nat.le_of_ble_eq_true rfl, Nat.le_of_ble_eq_true rfl⟩ (fun x_5 h_5 => ?_)
  refine nx_ti (y := bI (hlF R a en b n = true)) h_5 ?_
  refine nx_bz (tgt := 12) hx hb dX0_forbidUnlessLeft_8 (by decide) (fun c_8 => ?_) (fun c_8 => ?_)
  · skip
    refine lv_aload_n hx hb dX0_forbidUnlessLeft_12 rfl (lv_at hl 0 rfl) ?_
    refine lv_iload_n hx hb dX0_forbidUnlessLeft_13 rfl (lv_at hl 2 rfl) ?_
    refine lv_iconst (v := nI 1) hx hb dX0_forbidUnlessLeft_14 (by decide) ?_
    refine xc_i (b := ad 6) (As := [.int (nI a), .int (nI 1)]) (rest := []) ⟨hx, hb, hml, hown, hts⟩ (x_addNode l dC dI aC ad cap hI v R F G T hT hnd (nI a) (nI 1)) (cwV 2 hts gX0_forbidUnlessLeft_X0_addNode rfl rfl rfl (by decide +kernel) ⟨Nat.le_of_ble_eq_true rfl, Nat.le_of_ble_eq_true rfl⟩) (xPre (q0 := 6) (ci := 0) rfl rfl hK hZ hP) hS rfl hl.1 rfl (Nat.le_of_ble_eq_true rfl) dX0_forbidUnlessLeft_15 ⟨Nat.le_of_ble_eq_true rfl, Nat.le_of_ble_eq_true rfl⟩ (fun x_15 v1 R1 F1 G1 Z S H locs h_15 hZ hP hS => ?_)
    obtain ⟨hx_15, v2, F2, G2, hu_15, hT2, hR2⟩ := h_15
    subst hx_15
    have hT2 : ntOK (adN T (nI a) true) v2 F2 G2 := hT2
    have hP : va_P (dC, dI) vwCl (wsX aC ad cap v2 Z S F2 G2) H := by cases hu_15; exact hP
    have hZ : xOK Z S R := by cases hu_15; exact hZ
    refine lv_istore (lv' := [(5, .int (nI T.1)), (0, .ref (ad 6)), (1, .ref (ad 1)), (2, .int (nI a)), (3, .int (nI en)), (4, .int (nI b))]) hx hb dX0_forbidUnlessLeft_18 hl (by decide) rfl (fun ls hl => ?_)
    refine lv_iload hx hb dX0_forbidUnlessLeft_20 (lv_at hl 0 rfl) ?_
    refine lv_iconst (v := (-1)) hx hb dX0_forbidUnlessLeft_22 (by decide) ?_
    refine lv_icmp_eq (tgt := 39) hx hb dX0_forbidUnlessLeft_23 (by decide) (fun c_23 => ?_) (fun c_23 => ?_)
    · skip
      exact absurd c_23 (fun h => nI_pos (n := T.1) (by omega) (by rw [h]; decide))
    · skip
      refine lv_aload_n hx hb dX0_forbidUnlessLeft_26 rfl (lv_at hl 1 rfl) ?_
      refine va_get (D := (dC, dI)) (ci := 0) (C := RX0) (T := TX0) (N := 6) hx hb hts hin0 hown hK hP 6 rfl rfl 1 (by decide) lk0 (fun _ h9 => h9) rfl dX0_forbidUnlessLeft_27 ?_
      refine lv_iload_n hx hb dX0_forbidUnlessLeft_30 rfl (lv_at hl 4 rfl) ?_
      refine nx_aalA hx hb hK hP 16 6 rfl rfl (i := en) (by omega) (by decide) (show xNeeds ad en = some (ad (17 + en)) from if_pos (by omega)) dX0_forbidUnlessLeft_31 ?_
      refine lv_iload hx hb dX0_forbidUnlessLeft_32 (lv_at hl 0 rfl) ?_
      refine lv_lconst (v := 1) hx hb dX0_forbidUnlessLeft_34 (by decide) ?_
      refine lv_iload hx hb dX0_forbidUnlessLeft_35 (lv_at hl 5 rfl) ?_
      refine lv_lshl (v := bitN b) hx hb dX0_forbidUnlessLeft_37 rfl ?_
      refine nx_last hx hb hK hP (wsX_D hI) hS (17 + en) 1 (xw_nd en (by omega)) rfl (i := T.1) (by omega) (by decide) dX0_forbidUnlessLeft_38 (fun H locs hP hS => ?_)
      rw [xs_nd en (by omega)] at hP
      subst hQ
      exact W.vret hx hb hret (fun tq htq hWq => ⟨⟨(v2, R, F2, (va_up G2 (3 + en) (vp_updL (G2 (3 + en)) T.1 (bitN b)))), rfl, ⟨_, _, _, rfl, by rw [duN, if_neg c_8]; exact ⟨hT2.1, hT2.2.1, fun e he => by show _ = if e = en then vp_updL ((adN T (nI a) true).2.2.1 e) (T.1 + 1 - 1) (bitN b) else (adN T (nI a) true).2.2.1 e; rw [← hT2.2.2.1 e he, Nat.add_sub_cancel]; by_cases p : e = en <;> first | (rw [if_pos p, p, va_up_self]) | (rw [if_neg p, upn (by omega)]), (congrFun (upn (show 26 ≠ 3 + en by omega)) 0).trans hT2.2.2.2.1, (upn (show 2 ≠ 3 + en by omega)).trans hT2.2.2.2.2⟩, ntR_tr hR2 ⟨fun _ _ => rfl, fun _ _ => rfl, fun k h => upn (by omega)⟩⟩, va_K.moved hWq.alike hK, _, _, hZ, by rw [htq]; exact hP⟩, hS.F htq⟩) hS.2.2 dX0_forbidUnlessLeft_39
  · skip
    subst hQ
    exact W.vret hx hb hret (fun tq htq hWq => ⟨⟨(v, R, F, G), rfl, ⟨_, _, _, rfl, by rw [duN, if_pos c_8]; exact hT, ntR_rf⟩, va_K.moved hWq.alike hK, _, _, hZ, by rw [htq]; exact hP⟩, hS.F htq⟩) hS.2.2 dX0_forbidUnlessLeft_11

set_option maxHeartbeats 1000000 in
set_option maxRecDepth 100000 in
/-- Census.forbidAllButLefts -/
theorem x_forbidAllBut (l : Launch) (dC : Nat → ClassId) (dI : Nat → Nat → Nat) (aC : Nat → ClassId) (ad cap : Nat → Nat) (hI : xI ad) (v : Nat → Int32) (R : Nat → List Int32) (F : Nat → Nat → Int32) (G : Nat → Nat → Int64) (A : Nat) (hE : vE A (F 0)) (hA : v 0 = nI A) (n : Nat) (hn : v 1 = nI n) (hn8 : n ≤ 8) (h5 : ∀ j, j < n → (R (10 + j)).length = 5) : Met l yX0_forbidAllButLefts wsX0_forbidAllButLefts ({ frames := 2, cells := 0, slots := 0, locals := 50 } : Room) (va_Pc [.ref (ad 6), .ref (ad 1)] (XB dC dI aC ad cap (v, R, F, G))) (va_Qv (fun (u : MS) => ∃ v1 F1 G1, (v1, R, F1, G1) = u ∧ ntOK (dlN R n A (ntS F G)) v1 F1 G1 ∧ ntR v v1 F F1 G G1) (XB dC dI aC ad cap) (xA ad)) 0 0 (xA ad) := by
  refine Met.ofW (cc := cX0_forbidAllButLefts) (maxL := 4) (ret := none) (by decide) rfl ?_
  intro p e s m args below meth c s₁ B hml hv
  obtain ⟨rfl, hK, Z, S, hZ, hP⟩ := hv
  have hx := B.exec
  have hb := B.bytes
  have hret := B.returns
  have hts := atoms_spec (ws := wsX0_forbidAllButLefts) B.pre
  have hown : s.vm.findClass RX0 = some m.cls := findClass_of_methodNamed B.named
  have hlocks := B.notSynchronized
  dsimp only at hZ hP
  have lk0 := hts (.fieldLink RX0 54 "LeafTrees$World" "acts" "I") (by decide +kernel)
  have hin8 : ∀ w ∈ u_ws RX8 TX8 4, w ∈ wsX0_forbidAllButLefts := by decide +kernel
  have hS : va_S (xA ad) s.heap s.heap [] := va_S.rf
  have hl := lv_entry [.ref (ad 6), .ref (ad 1)] (n := 4) (Nat.le_of_ble_eq_true rfl)
  rw [lg_entry_eq]
  generalize (lg_sl [.ref (ad 6), .ref (ad 1)] ++ List.replicate (4 - (lg_sl [.ref (ad 6), .ref (ad 1)]).length) Slot.unset).toArray = ls at hl ⊢
  have hl : lv_has ls 4 [(0, .ref (ad 6)), (1, .ref (ad 1))] := hl
  refine nx_Q (R := ({ frames := 2, cells := 0, slots := 0, locals := 50 } : Room)) (fun Q hQ => ?_)
  have hA4 := hE.1
  refine lv_aload_n hx hb dX0_forbidAllButLefts_0 rfl (lv_at hl 0 rfl) ?_
  refine xc_v (b := ad 6) (As := []) (rest := []) ⟨hx, hb, hml, hown, hts⟩ (x_cclear l dC dI aC ad cap hI v R F G ) (cwV 0 hts gX0_forbidAllButLefts_X0_clear rfl rfl rfl (by decide +kernel) ⟨Nat.le_of_ble_eq_true rfl, Nat.le_of_ble_eq_true rfl⟩) (xPre (q0 := 6) (ci := 0) rfl rfl hK hZ hP) hS rfl hl.1 rfl (Nat.le_of_ble_eq_true rfl) dX0_forbidAllButLefts_1 ⟨Nat.le_of_ble_eq_true rfl, Nat.le_of_ble_eq_true rfl⟩ (fun v1 R1 F1 G1 Z S H locs h_1 hZ hP hS => ?_)
  obtain ⟨w1, E1, H1, hu_1, hT0, hR0⟩ := h_1
  have hP : va_P (dC, dI) vwCl (wsX aC ad cap w1 Z S E1 H1) H := by cases hu_1; exact hP
  have hZ : xOK Z S R := by cases hu_1; exact hZ
  refine lv_iconst (v := nI 0) hx hb dX0_forbidAllButLefts_4 (by decide) ?_
  refine lv_istore_n (lv' := [(2, .int (nI 0)), (0, .ref (ad 6)), (1, .ref (ad 1))]) hx hb dX0_forbidAllButLefts_5 rfl hl (by decide) rfl (fun ls hl => ?_)
  have L6 : ∀ (fuel6 : Nat) (i : Nat) (v1 : Nat → Int32) (F1 : Nat → Nat → Int32) (G1 : Nat → Nat → Int64) (Z : Nat → Int32) (S : Nat → Nat → Int32) (H : Heap) (locs : List Loc) (ls : Array Slot), (i ≤ A) → (ntOK (daN (ntS F G) i) v1 F1 G1) → (ntR v v1 F F1 G G1) → xOK Z S R → va_P (dC, dI) vwCl (wsX aC ad cap v1 Z S F1 G1) H → va_S (xA ad) s.heap H locs → A - i < fuel6 → lv_has ls 4 [(0, .ref (ad 6)), (1, .ref (ad 1)), (2, .int (nI i))] → W p l e ({ frames := 2, cells := 0, slots := 0, locals := 50 } : Room) s m ([.ref (ad 6), .ref (ad 1)] : List Value).toArray below meth c H locs 0 0 Q (F0 m 6 ls []) := by
    intro fuel6
    induction fuel6 with
    | zero => intro i v1 F1 G1 Z S H locs ls hi hT1 hR1 hZ hP hS hf6 hl; exact absurd hf6 (Nat.not_lt_zero _)
    | succ fuel6 ih6 =>
      intro i v1 F1 G1 Z S H locs ls hi hT1 hR1 hZ hP hS hf6 hl
      refine lv_iload_n hx hb dX0_forbidAllButLefts_6 rfl (lv_at hl 2 rfl) ?_
      refine lv_aload_n hx hb dX0_forbidAllButLefts_7 rfl (lv_at hl 1 rfl) ?_
      refine va_get (D := (dC, dI)) (ci := 8) (C := RX8) (T := TX8) (N := 4) hx hb hts hin8 hown hK hP 1 rfl rfl 1 (by decide) lk0 (fun _ h9 => h9) rfl dX0_forbidAllButLefts_8 ?_
      refine nx_ti (y := nI A) ((hR1.1 0 (by decide)).trans hA) ?_
      refine nx_icmp_ge (a := i) (b := A) (tgt := 27) hx hb dX0_forbidAllButLefts_11 (by decide) (by omega) (by omega) (fun c_11 => ?_) (fun c_11 => ?_)
      · skip
        refine lv_iconst (v := nI 0) hx hb dX0_forbidAllButLefts_27 (by decide) ?_
        refine lv_istore_n (lv' := [(2, .int (nI 0)), (0, .ref (ad 6)), (1, .ref (ad 1))]) hx hb dX0_forbidAllButLefts_28 rfl hl (by decide) rfl (fun ls hl => ?_)
        have L29 : ∀ (fuel29 : Nat) (a : Nat) (v1 : Nat → Int32) (F1 : Nat → Nat → Int32) (G1 : Nat → Nat → Int64) (Z : Nat → Int32) (S : Nat → Nat → Int32) (H : Heap) (locs : List Loc) (ls : Array Slot), (a ≤ A) → (ntOK (dcN R n A (daN (ntS F G) A) a) v1 F1 G1) → (ntR v v1 F F1 G G1) → xOK Z S R → va_P (dC, dI) vwCl (wsX aC ad cap v1 Z S F1 G1) H → va_S (xA ad) s.heap H locs → A - a < fuel29 → lv_has ls 4 [(0, .ref (ad 6)), (1, .ref (ad 1)), (2, .int (nI a))] → W p l e ({ frames := 2, cells := 0, slots := 0, locals := 50 } : Room) s m ([.ref (ad 6), .ref (ad 1)] : List Value).toArray below meth c H locs 0 0 Q (F0 m 29 ls []) := by
          intro fuel29
          induction fuel29 with
          | zero => intro a v1 F1 G1 Z S H locs ls ha hT1 hR1 hZ hP hS hf29 hl; exact absurd hf29 (Nat.not_lt_zero _)
          | succ fuel29 ih29 =>
            intro a v1 F1 G1 Z S H locs ls ha hT1 hR1 hZ hP hS hf29 hl
            refine lv_iload_n hx hb dX0_forbidAllButLefts_29 rfl (lv_at hl 2 rfl) ?_
            refine lv_aload_n hx hb dX0_forbidAllButLefts_30 rfl (lv_at hl 1 rfl) ?_
            refine va_get (D := (dC, dI)) (ci := 8) (C := RX8) (T := TX8) (N := 4) hx hb hts hin8 hown hK hP 1 rfl rfl 1 (by decide) lk0 (fun _ h9 => h9) rfl dX0_forbidAllButLefts_31 ?_
            refine nx_ti (y := nI A) ((hR1.1 0 (by decide)).trans hA) ?_
            refine nx_icmp_ge (a := a) (b := A) (tgt := 75) hx hb dX0_forbidAllButLefts_34 (by decide) (by omega) (by omega) (fun c_34 => ?_) (fun c_34 => ?_)
            · skip
              subst hQ
              exact W.vret hx hb hret (fun tq htq hWq => ⟨⟨(v1, R, F1, G1), rfl, ⟨_, _, _, rfl, by rw [show a = A by omega] at hT1; exact hT1, hR1⟩, va_K.moved hWq.alike hK, _, _, hZ, by rw [htq]; exact hP⟩, hS.F htq⟩) hS.2.2 dX0_forbidAllButLefts_75
            · skip
              refine lv_iconst (v := nI 0) hx hb dX0_forbidAllButLefts_37 (by decide) ?_
              refine lv_istore_n (lv' := [(3, .int (nI 0)), (0, .ref (ad 6)), (1, .ref (ad 1)), (2, .int (nI a))]) hx hb dX0_forbidAllButLefts_38 rfl hl (by decide) rfl (fun ls hl => ?_)
              have L39 : ∀ (fuel39 : Nat) (b : Nat) (v1 : Nat → Int32) (F1 : Nat → Nat → Int32) (G1 : Nat → Nat → Int64) (Z : Nat → Int32) (S : Nat → Nat → Int32) (H : Heap) (locs : List Loc) (ls : Array Slot), (b ≤ A) → (ntOK (dbN R n (dcN R n A (daN (ntS F G) A) a) a b) v1 F1 G1) → (ntR v v1 F F1 G G1) → xOK Z S R → va_P (dC, dI) vwCl (wsX aC ad cap v1 Z S F1 G1) H → va_S (xA ad) s.heap H locs → A - b < fuel39 → lv_has ls 4 [(0, .ref (ad 6)), (1, .ref (ad 1)), (2, .int (nI a)), (3, .int (nI b))] → W p l e ({ frames := 2, cells := 0, slots := 0, locals := 50 } : Room) s m ([.ref (ad 6), .ref (ad 1)] : List Value).toArray below meth c H locs 0 0 Q (F0 m 39 ls []) := by
                intro fuel39
                induction fuel39 with
                | zero => intro b v1 F1 G1 Z S H locs ls hb2 hT1 hR1 hZ hP hS hf39 hl; exact absurd hf39 (Nat.not_lt_zero _)
                | succ fuel39 ih39 =>
                  intro b v1 F1 G1 Z S H locs ls hb2 hT1 hR1 hZ hP hS hf39 hl
                  refine lv_iload_n hx hb dX0_forbidAllButLefts_39 rfl (lv_at hl 3 rfl) ?_
                  refine lv_aload_n hx hb dX0_forbidAllButLefts_40 rfl (lv_at hl 1 rfl) ?_
                  refine va_get (D := (dC, dI)) (ci := 8) (C := RX8) (T := TX8) (N := 4) hx hb hts hin8 hown hK hP 1 rfl rfl 1 (by decide) lk0 (fun _ h9 => h9) rfl dX0_forbidAllButLefts_41 ?_
                  refine nx_ti (y := nI A) ((hR1.1 0 (by decide)).trans hA) ?_
                  refine nx_icmp_ge (a := b) (b := A) (tgt := 69) hx hb dX0_forbidAllButLefts_44 (by decide) (by omega) (by omega) (fun c_44 => ?_) (fun c_44 => ?_)
                  · skip
                    refine lv_iinc (v := nI (a + 1)) (lv' := [(2, .int (nI (a + 1))), (0, .ref (ad 6)), (1, .ref (ad 1)), (3, .int (nI b))]) hx hb dX0_forbidAllButLefts_69 hl (k := 2) rfl (nI_add _ _) (by decide) rfl (fun ls hl => ?_)
                    refine lv_goto (tgt := 29) hx hb dX0_forbidAllButLefts_72 (by decide) ?_
                    exact ih29 (a + 1) v1 F1 G1 _ _ _ _ _ (by omega) (by rw [show b = A by omega] at hT1; exact hT1) hR1 hZ hP hS (by omega) (lv_sub hl [1, 2, 0] rfl)
                  · skip
                    refine lv_aload_n hx hb dX0_forbidAllButLefts_47 rfl (lv_at hl 0 rfl) ?_
                    refine lv_aload_n hx hb dX0_forbidAllButLefts_48 rfl (lv_at hl 1 rfl) ?_
                    refine lv_iload_n hx hb dX0_forbidAllButLefts_49 rfl (lv_at hl 2 rfl) ?_
                    refine lv_iconst (v := nI 0) hx hb dX0_forbidAllButLefts_50 (by decide) ?_
                    refine lv_iload_n hx hb dX0_forbidAllButLefts_51 rfl (lv_at hl 3 rfl) ?_
                    refine xc_v (b := ad 6) (As := [.ref (ad 1), .int (nI a), .int (nI 0), .int (nI b)]) (rest := []) ⟨hx, hb, hml, hown, hts⟩ (x_forbidUnless l dC dI aC ad cap hI v1 R F1 G1 (dbN R n (dcN R n A (daN (ntS F G) A) a) a b) hT1 n ((hR1.1 1 (by decide)).trans hn) hn8 h5 a 0 b (by decide) (by omega) (by have h1 := dcN_nd (R := R) (n := n) (A := A) (T := daN (ntS F G) A) (a := a); have h2 := dbN_nd (R := R) (n := n) (T := dcN R n A (daN (ntS F G) A) a) (a := a) (b := b); rw [daN_nd] at h1; have h3 : 2 * A * a ≤ 2 * A * (A - 1) := Nat.mul_le_mul_left _ (by omega); have h4 := hE.1; have h5 : A = 0 ∨ A = 1 ∨ A = 2 ∨ A = 3 ∨ A = 4 := (by omega); rcases h5 with h | h | h | h | h <;> subst h <;> omega)) (cwV 4 hts gX0_forbidAllButLefts_X0_forbidUnlessLeft rfl rfl rfl (by decide +kernel) ⟨Nat.le_of_ble_eq_true rfl, Nat.le_of_ble_eq_true rfl⟩) (xPre (q0 := 6) (ci := 0) rfl rfl hK hZ hP) hS rfl hl.1 rfl (Nat.le_of_ble_eq_true rfl) dX0_forbidAllButLefts_52 ⟨Nat.le_of_ble_eq_true rfl, Nat.le_of_ble_eq_true rfl⟩ (fun v2 R2 F2 G2 Z S H locs h_52 hZ hP hS => ?_)
                    obtain ⟨v2, F2, G2, hu_52, hT2, hR2⟩ := h_52
                    have hR2 := ntR_tr hR1 hR2
                    have hP : va_P (dC, dI) vwCl (wsX aC ad cap v2 Z S F2 G2) H := by cases hu_52; exact hP
                    have hZ : xOK Z S R := by cases hu_52; exact hZ
                    refine lv_aload_n hx hb dX0_forbidAllButLefts_55 rfl (lv_at hl 0 rfl) ?_
                    refine lv_aload_n hx hb dX0_forbidAllButLefts_56 rfl (lv_at hl 1 rfl) ?_
                    refine lv_iload_n hx hb dX0_forbidAllButLefts_57 rfl (lv_at hl 2 rfl) ?_
                    refine lv_iconst (v := nI 1) hx hb dX0_forbidAllButLefts_58 (by decide) ?_
                    refine lv_iload_n hx hb dX0_forbidAllButLefts_59 rfl (lv_at hl 3 rfl) ?_
                    refine xc_v (b := ad 6) (As := [.ref (ad 1), .int (nI a), .int (nI 1), .int (nI b)]) (rest := []) ⟨hx, hb, hml, hown, hts⟩ (x_forbidUnless l dC dI aC ad cap hI v2 R F2 G2 (duN R n (dbN R n (dcN R n A (daN (ntS F G) A) a) a b) a 0 b) hT2 n ((hR2.1 1 (by decide)).trans hn) hn8 h5 a 1 b (by decide) (by omega) (by have h1 := dcN_nd (R := R) (n := n) (A := A) (T := daN (ntS F G) A) (a := a); have h2 := dbN_nd (R := R) (n := n) (T := dcN R n A (daN (ntS F G) A) a) (a := a) (b := b); rw [daN_nd] at h1; have h3 : 2 * A * a ≤ 2 * A * (A - 1) := Nat.mul_le_mul_left _ (by omega); have h4 := hE.1; have h5 : A = 0 ∨ A = 1 ∨ A = 2 ∨ A = 3 ∨ A = 4 := (by omega); have h6 := (duN_nd (R := R) (n := n) (T := dbN R n (dcN R n A (daN (ntS F G) A) a) a b) (a := a) (en := 0) (b := b)).2; rcases h5 with h | h | h | h | h <;> subst h <;> omega)) (cwV 4 hts gX0_forbidAllButLefts_X0_forbidUnlessLeft rfl rfl rfl (by decide +kernel) ⟨Nat.le_of_ble_eq_true rfl, Nat.le_of_ble_eq_true rfl⟩) (xPre (q0 := 6) (ci := 0) rfl rfl hK hZ hP) hS rfl hl.1 rfl (Nat.le_of_ble_eq_true rfl) dX0_forbidAllButLefts_60 ⟨Nat.le_of_ble_eq_true rfl, Nat.le_of_ble_eq_true rfl⟩ (fun v3 R3 F3 G3 Z S H locs h_60 hZ hP hS => ?_)
                    obtain ⟨v3, F3, G3, hu_60, hT3, hR3⟩ := h_60
                    have hR3 := ntR_tr hR2 hR3
                    have hP : va_P (dC, dI) vwCl (wsX aC ad cap v3 Z S F3 G3) H := by cases hu_60; exact hP
                    have hZ : xOK Z S R := by cases hu_60; exact hZ
                    refine lv_iinc (v := nI (b + 1)) (lv' := [(3, .int (nI (b + 1))), (0, .ref (ad 6)), (1, .ref (ad 1)), (2, .int (nI a))]) hx hb dX0_forbidAllButLefts_63 hl (k := 3) rfl (nI_add _ _) (by decide) rfl (fun ls hl => ?_)
                    refine lv_goto (tgt := 39) hx hb dX0_forbidAllButLefts_66 (by decide) ?_
                    exact ih39 (b + 1) v3 F3 G3 _ _ _ _ _ (by omega) hT3 hR3 hZ hP hS (by omega) (lv_sub hl [1, 2, 3, 0] rfl)
              exact L39 (A - 0 + 1) 0 v1 F1 G1 _ _ _ _ _ (by omega) hT1 hR1 hZ hP hS (Nat.lt_succ_self _) (lv_sub hl [1, 2, 3, 0] rfl)
        exact L29 (A - 0 + 1) 0 v1 F1 G1 _ _ _ _ _ (by omega) (by rw [show i = A by omega] at hT1; exact hT1) hR1 hZ hP hS (Nat.lt_succ_self _) (lv_sub hl [1, 2, 0] rfl)
      · skip
        refine lv_aload_n hx hb dX0_forbidAllButLefts_14 rfl (lv_at hl 0 rfl) ?_
        refine lv_iload_n hx hb dX0_forbidAllButLefts_15 rfl (lv_at hl 2 rfl) ?_
        refine lv_iconst (v := nI 0) hx hb dX0_forbidAllButLefts_16 (by decide) ?_
        refine xc_i (b := ad 6) (As := [.int (nI i), .int (nI 0)]) (rest := []) ⟨hx, hb, hml, hown, hts⟩ (x_addNode l dC dI aC ad cap hI v1 R F1 G1 (daN (ntS F G) i) hT1 (by rw [daN_nd]; omega) (nI i) (nI 0)) (cwV 2 hts gX0_forbidAllButLefts_X0_addNode rfl rfl rfl (by decide +kernel) ⟨Nat.le_of_ble_eq_true rfl, Nat.le_of_ble_eq_true rfl⟩) (xPre (q0 := 6) (ci := 0) rfl rfl hK hZ hP) hS rfl hl.1 rfl (Nat.le_of_ble_eq_true rfl) dX0_forbidAllButLefts_17 ⟨Nat.le_of_ble_eq_true rfl, Nat.le_of_ble_eq_true rfl⟩ (fun x_17 v4 R4 F4 G4 Z S H locs h_17 hZ hP hS => ?_)
        obtain ⟨hx_17, v2, F2, G2, hu_17, hT2, hR2⟩ := h_17
        have hT2 : ntOK (daN (ntS F G) (i + 1)) v2 F2 G2 := hT2
        have hR2 := ntR_tr hR1 hR2
        have hP : va_P (dC, dI) vwCl (wsX aC ad cap v2 Z S F2 G2) H := by cases hu_17; exact hP
        have hZ : xOK Z S R := by cases hu_17; exact hZ
        refine lv_pop hx hb dX0_forbidAllButLefts_20 rfl ?_
        refine lv_iinc (v := nI (i + 1)) (lv' := [(2, .int (nI (i + 1))), (0, .ref (ad 6)), (1, .ref (ad 1))]) hx hb dX0_forbidAllButLefts_21 hl (k := 2) rfl (nI_add _ _) (by decide) rfl (fun ls hl => ?_)
        refine lv_goto (tgt := 6) hx hb dX0_forbidAllButLefts_24 (by decide) ?_
        exact ih6 (i + 1) v2 F2 G2 _ _ _ _ _ (by omega) hT2 hR2 hZ hP hS (by omega) (lv_sub hl [1, 2, 0] rfl)
  exact L6 (A - 0 + 1) 0 w1 E1 H1 _ _ _ _ _ (by omega) hT0 hR0 hZ hP hS (Nat.lt_succ_self _) (lv_sub hl [1, 2, 0] rfl)
