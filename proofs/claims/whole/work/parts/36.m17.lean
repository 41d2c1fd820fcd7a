set_option maxHeartbeats 1000000 in
set_option maxRecDepth 100000 in
/-- isDual -/
theorem k_isDual (l : Launch) (dC : Nat → ClassId) (dI : Nat → Nat → Nat) (aC : Nat → ClassId) (am : Nat → Nat) (v : Nat → Int32) (R : Nat → List Int32) (F : Nat → Nat → Int32) (G : Nat → Nat → Int64) (A : Nat) (hE : vE A (F 1)) (hA : v 0 = nI A) (nr : Nat) (hn : v 4 = nI nr) (hn8 : nr ≤ 8)  : Met l yX10_isDual wsX10_isDual ({ frames := 0, cells := 0, slots := 0, locals := 0 } : Room) (va_Pc [.ref (am 0)] (MB dC dI aC am (v, R, F, G))) (vp_Si (fun x => x = bI (isDu A (F 1) R nr (F 4) = true))) 0 0 (fun _ => False) := by
  refine Met.ofW (cc := cX10_isDual) (maxL := 3) (ret := (some .boolean)) (by decide) rfl ?_
  intro p e s m args below meth c s₁ B hml hv
  obtain ⟨rfl, hK, S, Z, hZ, hP⟩ := hv
  have hx := B.exec
  have hb := B.bytes
  have hret := B.returns
  have hts := atoms_spec (ws := wsX10_isDual) B.pre
  have hown : s.vm.findClass RX10 = some m.cls := findClass_of_methodNamed B.named
  have hlocks := B.notSynchronized
  dsimp only at hZ hP
  have lk0 := hts (.fieldLink RX10 55 "LeafTreesModel" "acts" "I") (by decide +kernel)
  have lk1 := hts (.fieldLink RX10 102 "LeafTreesModel" "rules" "I") (by decide +kernel)
  have lk2 := hts (.fieldLink RX10 19 "LeafTreesModel" "isNought" "[Z") (by decide +kernel)
  have lk3 := hts (.fieldLink RX10 16 "LeafTreesModel" "size" "[I") (by decide +kernel)
  have lk4 := hts (.fieldLink RX10 7 "LeafTreesModel" "entries" "[I") (by decide +kernel)
  have hin10 : ∀ w ∈ u_ws RX10 TX10 22, w ∈ wsX10_isDual := by decide +kernel
  have hl := lv_entry [.ref (am 0)] (n := 3) (Nat.le_of_ble_eq_true rfl)
  rw [lg_entry_eq]
  generalize (lg_sl [.ref (am 0)] ++ List.replicate (3 - (lg_sl [.ref (am 0)]).length) Slot.unset).toArray = ls at hl ⊢
  have hl : lv_has ls 3 [(0, .ref (am 0))] := hl
  refine nx_Q (R := ({ frames := 0, cells := 0, slots := 0, locals := 0 } : Room)) (fun Q hQ => ?_)
  have h4 := hE.1
  refine lv_iconst (v := nI 1) hx hb dX10_isDual_0 (by decide) ?_
  refine lv_istore_n (lv' := [(1, .int (nI 1)), (0, .ref (am 0))]) hx hb dX10_isDual_1 rfl hl (by decide) rfl (fun ls hl => ?_)
  refine lv_iconst (v := nI 0) hx hb dX10_isDual_2 (by decide) ?_
  refine lv_istore_n (lv' := [(2, .int (nI 0)), (1, .int (nI 1)), (0, .ref (am 0))]) hx hb dX10_isDual_3 rfl hl (by decide) rfl (fun ls hl => ?_)
  have L4 : ∀ (fuel4 : Nat) (i : Nat) (ls : Array Slot), (i ≤ A) → 4 - i < fuel4 → lv_has ls 3 [(0, .ref (am 0)), (1, .int (bI (daF (F 1) i = true))), (2, .int (nI i))] → W p l e ({ frames := 0, cells := 0, slots := 0, locals := 0 } : Room) s m ([.ref (am 0)] : List Value).toArray below meth c s.heap [] 0 0 Q (F0 m 4 ls []) := by
    intro fuel4
    induction fuel4 with
    | zero => intro i ls hi hf4 hl; exact absurd hf4 (Nat.not_lt_zero _)
    | succ fuel4 ih4 =>
      intro i ls hi hf4 hl
      refine lv_iload_n hx hb dX10_isDual_4 rfl (lv_at hl 2 rfl) ?_
      refine lv_aload_n hx hb dX10_isDual_5 rfl (lv_at hl 0 rfl) ?_
      refine va_get (D := (dC, dI)) (ci := 10) (C := RX10) (T := TX10) (N := 22) hx hb hts hin10 hown hK hP 0 rfl rfl 0 (by decide) lk0 (fun _ h9 => h9) rfl dX10_isDual_6 ?_
      refine nx_ti (y := nI A) (hA) ?_
      refine nx_icmp_ge (a := i) (b := A) (tgt := 38) hx hb dX10_isDual_9 (by decide) (by omega) (by omega) (fun c_9 => ?_) (fun c_9 => ?_)
      · skip
        refine lv_iconst (v := nI 0) hx hb dX10_isDual_38 (by decide) ?_
        refine lv_istore_n (lv' := [(2, .int (nI 0)), (0, .ref (am 0)), (1, .int (bI (daF (F 1) i = true)))]) hx hb dX10_isDual_39 rfl hl (by decide) rfl (fun ls hl => ?_)
        have L40 : ∀ (fuel40 : Nat) (i : Nat) (ls : Array Slot), (i ≤ nr) → 8 - i < fuel40 → lv_has ls 3 [(0, .ref (am 0)), (1, .int (bI (dbF R (F 4) (daF (F 1) A) i = true))), (2, .int (nI i))] → W p l e ({ frames := 0, cells := 0, slots := 0, locals := 0 } : Room) s m ([.ref (am 0)] : List Value).toArray below meth c s.heap [] 0 0 Q (F0 m 40 ls []) := by
          intro fuel40
          induction fuel40 with
          | zero => intro i ls hi hf40 hl; exact absurd hf40 (Nat.not_lt_zero _)
          | succ fuel40 ih40 =>
            intro i ls hi hf40 hl
            refine lv_iload_n hx hb dX10_isDual_40 rfl (lv_at hl 2 rfl) ?_
            refine lv_aload_n hx hb dX10_isDual_41 rfl (lv_at hl 0 rfl) ?_
            refine va_get (D := (dC, dI)) (ci := 10) (C := RX10) (T := TX10) (N := 22) hx hb hts hin10 hown hK hP 0 rfl rfl 4 (by decide) lk1 (fun _ h9 => h9) rfl dX10_isDual_42 ?_
            refine nx_ti (y := nI nr) (hn) ?_
            refine nx_icmp_ge (a := i) (b := nr) (tgt := 86) hx hb dX10_isDual_45 (by decide) (by omega) (by omega) (fun c_45 => ?_) (fun c_45 => ?_)
            · skip
              refine lv_iload_n hx hb dX10_isDual_86 rfl (lv_at hl 1 rfl) ?_
              subst hQ
              exact W.zret (v := bI (dbF R (F 4) (daF (F 1) A) i = true)) hx hb hret (bI_nar) (fun tq htq hWq => ⟨_, rfl, by rw [isDu, show i = nr by omega], htq⟩) (fun q h => by cases h) dX10_isDual_87
            · skip
              refine lv_iload_n hx hb dX10_isDual_48 rfl (lv_at hl 1 rfl) ?_
              refine nx_bz (tgt := 78) hx hb dX10_isDual_49 (by decide) (fun c_49 => ?_) (fun c_49 => ?_)
              · skip
                refine lv_iconst (v := nI 0) hx hb dX10_isDual_78 (by decide) ?_
                refine nx_ti (y := bI (dbF R (F 4) (daF (F 1) A) (i + 1) = true)) ((bI_f (fun h => c_49 (by rw [dbF, Bool.and_eq_true, Bool.and_eq_true, decide_eq_true_eq, decide_eq_true_eq] at h; exact h.1))).symm) ?_
                refine lv_istore_n (lv' := [(1, .int (bI (dbF R (F 4) (daF (F 1) A) (i + 1) = true))), (0, .ref (am 0)), (2, .int (nI i))]) hx hb dX10_isDual_79 rfl hl (by decide) rfl (fun ls hl => ?_)
                refine lv_iinc (v := nI (i + 1)) (lv' := [(2, .int (nI (i + 1))), (1, .int (bI (dbF R (F 4) (daF (F 1) A) (i + 1) = true))), (0, .ref (am 0))]) hx hb dX10_isDual_80 hl (k := 2) rfl (nI_add _ _) (by decide) rfl (fun ls hl => ?_)
                refine lv_goto (tgt := 40) hx hb dX10_isDual_83 (by decide) ?_
                exact ih40 (i + 1) _ (by omega) (by omega) (lv_sub hl [2, 1, 0] rfl)
              · skip
                refine lv_aload_n hx hb dX10_isDual_52 rfl (lv_at hl 0 rfl) ?_
                refine va_get (D := (dC, dI)) (ci := 10) (C := RX10) (T := TX10) (N := 22) hx hb hts hin10 hown hK hP 0 rfl rfl 5 (by decide) lk2 (fun _ h9 => h9) rfl dX10_isDual_53 ?_
                refine lv_iload_n hx hb dX10_isDual_56 rfl (lv_at hl 2 rfl) ?_
                refine nx_zald hx hb hK hP 4 2 rfl rfl (i := i) (by omega) (by decide) dX10_isDual_57 ?_
                refine lv_if_eq (tgt := 78) hx hb dX10_isDual_58 (by decide) (fun c_58 => ?_) (fun c_58 => ?_)
                · skip
                  refine lv_iconst (v := nI 0) hx hb dX10_isDual_78 (by decide) ?_
                  refine nx_ti (y := bI (dbF R (F 4) (daF (F 1) A) (i + 1) = true)) ((bI_f (fun h => by rw [dbF, Bool.and_eq_true, Bool.and_eq_true, decide_eq_true_eq, decide_eq_true_eq] at h; exact h.2.1 c_58)).symm) ?_
                  refine lv_istore_n (lv' := [(1, .int (bI (dbF R (F 4) (daF (F 1) A) (i + 1) = true))), (0, .ref (am 0)), (2, .int (nI i))]) hx hb dX10_isDual_79 rfl hl (by decide) rfl (fun ls hl => ?_)
                  refine lv_iinc (v := nI (i + 1)) (lv' := [(2, .int (nI (i + 1))), (1, .int (bI (dbF R (F 4) (daF (F 1) A) (i + 1) = true))), (0, .ref (am 0))]) hx hb dX10_isDual_80 hl (k := 2) rfl (nI_add _ _) (by decide) rfl (fun ls hl => ?_)
                  refine lv_goto (tgt := 40) hx hb dX10_isDual_83 (by decide) ?_
                  exact ih40 (i + 1) _ (by omega) (by omega) (lv_sub hl [2, 1, 0] rfl)
                · skip
                  have hL60 := (hZ (10 + i) (by omega)).1
                  refine lv_aload_n hx hb dX10_isDual_61 rfl (lv_at hl 0 rfl) ?_
                  refine va_get (D := (dC, dI)) (ci := 10) (C := RX10) (T := TX10) (N := 22) hx hb hts hin10 hown hK hP 0 rfl rfl 3 (by decide) lk3 (fun _ h9 => h9) rfl dX10_isDual_62 ?_
                  refine lv_bipush (v := nI 10) hx hb dX10_isDual_65 (by decide) ?_
                  refine lv_iload_n hx hb dX10_isDual_67 rfl (lv_at hl 2 rfl) ?_
                  refine lv_iadd hx hb dX10_isDual_68 ?_
                  refine nx_ti (y := nI (10 + i)) (nI_add _ _) ?_
                  refine nx_iald hx hb hK hP 3 0 rfl rfl (i := 10 + i) (by omega) (by decide) dX10_isDual_69 ?_
                  refine nx_ti (y := nI (R (10 + i)).length) ((hZ (10 + i) (by omega)).2.1) ?_
                  refine lv_iconst (v := nI 5) hx hb dX10_isDual_70 (by decide) ?_
                  refine nx_icmp_ne (a := (R (10 + i)).length) (b := 5) (tgt := 78) hx hb dX10_isDual_71 (by decide) (by omega) (by omega) (fun c_71 => ?_) (fun c_71 => ?_)
                  · skip
                    refine lv_iconst (v := nI 0) hx hb dX10_isDual_78 (by decide) ?_
                    refine nx_ti (y := bI (dbF R (F 4) (daF (F 1) A) (i + 1) = true)) ((bI_f (fun h => c_71 (by rw [dbF, Bool.and_eq_true, Bool.and_eq_true, decide_eq_true_eq, decide_eq_true_eq] at h; exact h.2.2))).symm) ?_
                    refine lv_istore_n (lv' := [(1, .int (bI (dbF R (F 4) (daF (F 1) A) (i + 1) = true))), (0, .ref (am 0)), (2, .int (nI i))]) hx hb dX10_isDual_79 rfl hl (by decide) rfl (fun ls hl => ?_)
                    refine lv_iinc (v := nI (i + 1)) (lv' := [(2, .int (nI (i + 1))), (1, .int (bI (dbF R (F 4) (daF (F 1) A) (i + 1) = true))), (0, .ref (am 0))]) hx hb dX10_isDual_80 hl (k := 2) rfl (nI_add _ _) (by decide) rfl (fun ls hl => ?_)
                    refine lv_goto (tgt := 40) hx hb dX10_isDual_83 (by decide) ?_
                    exact ih40 (i + 1) _ (by omega) (by omega) (lv_sub hl [2, 1, 0] rfl)
                  · skip
                    refine lv_iconst (v := nI 1) hx hb dX10_isDual_74 (by decide) ?_
                    refine lv_goto (tgt := 79) hx hb dX10_isDual_75 (by decide) ?_
                    refine nx_ti (y := bI (dbF R (F 4) (daF (F 1) A) (i + 1) = true)) ((bI_t (by rw [dbF, Bool.and_eq_true, Bool.and_eq_true, decide_eq_true_eq, decide_eq_true_eq]; exact ⟨c_49, c_58, c_71⟩)).symm) ?_
                    refine lv_istore_n (lv' := [(1, .int (bI (dbF R (F 4) (daF (F 1) A) (i + 1) = true))), (0, .ref (am 0)), (2, .int (nI i))]) hx hb dX10_isDual_79 rfl hl (by decide) rfl (fun ls hl => ?_)
                    refine lv_iinc (v := nI (i + 1)) (lv' := [(2, .int (nI (i + 1))), (1, .int (bI (dbF R (F 4) (daF (F 1) A) (i + 1) = true))), (0, .ref (am 0))]) hx hb dX10_isDual_80 hl (k := 2) rfl (nI_add _ _) (by decide) rfl (fun ls hl => ?_)
                    refine lv_goto (tgt := 40) hx hb dX10_isDual_83 (by decide) ?_
                    exact ih40 (i + 1) _ (by omega) (by omega) (lv_sub hl [2, 1, 0] rfl)
        exact L40 (8 - 0 + 1) 0 _ (by omega) (Nat.lt_succ_self _) (by rw [show i = A by omega] at hl; exact lv_sub hl [1, 2, 0] rfl)
      · skip
        refine lv_iload_n hx hb dX10_isDual_12 rfl (lv_at hl 1 rfl) ?_
        refine nx_bz (tgt := 30) hx hb dX10_isDual_13 (by decide) (fun c_13 => ?_) (fun c_13 => ?_)
        · skip
          refine lv_iconst (v := nI 0) hx hb dX10_isDual_30 (by decide) ?_
          refine nx_ti (y := bI (daF (F 1) (i + 1) = true)) ((bI_f (fun h => c_13 (by rw [daF, Bool.and_eq_true] at h; exact h.1))).symm) ?_
          refine lv_istore_n (lv' := [(1, .int (bI (daF (F 1) (i + 1) = true))), (0, .ref (am 0)), (2, .int (nI i))]) hx hb dX10_isDual_31 rfl hl (by decide) rfl (fun ls hl => ?_)
          refine lv_iinc (v := nI (i + 1)) (lv' := [(2, .int (nI (i + 1))), (1, .int (bI (daF (F 1) (i + 1) = true))), (0, .ref (am 0))]) hx hb dX10_isDual_32 hl (k := 2) rfl (nI_add _ _) (by decide) rfl (fun ls hl => ?_)
          refine lv_goto (tgt := 4) hx hb dX10_isDual_35 (by decide) ?_
          exact ih4 (i + 1) _ (by omega) (by omega) (lv_sub hl [2, 1, 0] rfl)
        · skip
          refine lv_aload_n hx hb dX10_isDual_16 rfl (lv_at hl 0 rfl) ?_
          refine va_get (D := (dC, dI)) (ci := 10) (C := RX10) (T := TX10) (N := 22) hx hb hts hin10 hown hK hP 0 rfl rfl 1 (by decide) lk4 (fun _ h9 => h9) rfl dX10_isDual_17 ?_
          refine lv_iload_n hx hb dX10_isDual_20 rfl (lv_at hl 2 rfl) ?_
          refine nx_iald hx hb hK hP 1 0 rfl rfl (i := i) (by omega) (by decide) dX10_isDual_21 ?_
          refine lv_iconst (v := nI 2) hx hb dX10_isDual_22 (by decide) ?_
          refine lv_icmp_ne (tgt := 30) hx hb dX10_isDual_23 (by decide) (fun c_23 => ?_) (fun c_23 => ?_)
          · skip
            refine lv_iconst (v := nI 0) hx hb dX10_isDual_30 (by decide) ?_
            refine nx_ti (y := bI (daF (F 1) (i + 1) = true)) ((bI_f (fun h => c_23 (by rw [daF, Bool.and_eq_true, decide_eq_true_eq] at h; exact h.2))).symm) ?_
            refine lv_istore_n (lv' := [(1, .int (bI (daF (F 1) (i + 1) = true))), (0, .ref (am 0)), (2, .int (nI i))]) hx hb dX10_isDual_31 rfl hl (by decide) rfl (fun ls hl => ?_)
            refine lv_iinc (v := nI (i + 1)) (lv' := [(2, .int (nI (i + 1))), (1, .int (bI (daF (F 1) (i + 1) = true))), (0, .ref (am 0))]) hx hb dX10_isDual_32 hl (k := 2) rfl (nI_add _ _) (by decide) rfl (fun ls hl => ?_)
            refine lv_goto (tgt := 4) hx hb dX10_isDual_35 (by decide) ?_
            exact ih4 (i + 1) _ (by omega) (by omega) (lv_sub hl [2, 1, 0] rfl)
          · skip
            refine lv_iconst (v := nI 1) hx hb dX10_isDual_26 (by decide) ?_
            refine lv_goto (tgt := 31) hx hb dX10_isDual_27 (by decide) ?_
            refine nx_ti (y := bI (daF (F 1) (i + 1) = true)) ((bI_t (by rw [daF, Bool.and_eq_true, decide_eq_true_eq]; exact ⟨c_13, c_23⟩)).symm) ?_
            refine lv_istore_n (lv' := [(1, .int (bI (daF (F 1) (i + 1) = true))), (0, .ref (am 0)), (2, .int (nI i))]) hx hb dX10_isDual_31 rfl hl (by decide) rfl (fun ls hl => ?_)
            refine lv_iinc (v := nI (i + 1)) (lv' := [(2, .int (nI (i + 1))), (1, .int (bI (daF (F 1) (i + 1) = true))), (0, .ref (am 0))]) hx hb dX10_isDual_32 hl (k := 2) rfl (nI_add _ _) (by decide) rfl (fun ls hl => ?_)
            refine lv_goto (tgt := 4) hx hb dX10_isDual_35 (by decide) ?_
            exact ih4 (i + 1) _ (by omega) (by omega) (lv_sub hl [2, 1, 0] rfl)
  exact L4 (4 - 0 + 1) 0 _ (by omega) (Nat.lt_succ_self _) (by rw [show nI 1 = bI (daF (F 1) 0 = true) from (bI_t rfl).symm] at hl; exact lv_sub hl [2, 1, 0] rfl)

set_option maxHeartbeats 1000000 in
set_option maxRecDepth 100000 in
/-- findMay -/
theorem k_findMay (l : Launch) (dC : Nat → ClassId) (dI : Nat → Nat → Nat) (aC : Nat → ClassId) (am : Nat → Nat) (hI : mI am) (v : Nat → Int32) (R : Nat → List Int32) (F : Nat → Nat → Int32) (G : Nat → Nat → Int64) (A : Nat) (hE : vE A (F 1)) (hA : v 0 = nI A) (nr : Nat) (hn : v 4 = nI nr) (hn8 : nr ≤ 8) (hTl : ∀ j, j < nr → isT (F 1) (R (10 + j))) (hVl : ∀ j, j < nr → vR A (R (10 + j))) (h5 : ∀ j, j < nr → (R (10 + j)).length = 5) (h2 : ∀ a, a < A → F 1 a = nI 2) : Met l yX10_findMay wsX10_findMay ({ frames := 0, cells := 0, slots := 0, locals := 0 } : Room) (va_Pc [.ref (am 0)] (MB dC dI aC am (v, R, F, G))) (va_Qv (fun (u : MS) => ∃ my, (v, R, va_up F 12 my, G) = u ∧ ∀ j, j < 32 → my j = myF R nr j) (MB dC dI aC am) (mA am)) 0 0 (mA am) := by
  refine Met.ofW (cc := cX10_findMay) (maxL := 5) (ret := none) (by decide) rfl ?_
  intro p e s m args below meth c s₁ B hml hv
  obtain ⟨rfl, hK, S, Z, hZ, hP⟩ := hv
  have hx := B.exec
  have hb := B.bytes
  have hret := B.returns
  have hts := atoms_spec (ws := wsX10_findMay) B.pre
  have hown : s.vm.findClass RX10 = some m.cls := findClass_of_methodNamed B.named
  have hlocks := B.notSynchronized
  dsimp only at hZ hP
  have lk0 := hts (.fieldLink RX10 102 "LeafTreesModel" "rules" "I") (by decide +kernel)
  have lk1 := hts (.fieldLink RX10 13 "LeafTreesModel" "symbol" "[I") (by decide +kernel)
  have lk2 := hts (.fieldLink RX10 45 "LeafTreesModel" "may" "[Z") (by decide +kernel)
  have hin10 : ∀ w ∈ u_ws RX10 TX10 22, w ∈ wsX10_findMay := by decide +kernel
  have hS : va_S (mA am) s.heap s.heap [] := va_S.rf
  have hl := lv_entry [.ref (am 0)] (n := 5) (Nat.le_of_ble_eq_true rfl)
  rw [lg_entry_eq]
  generalize (lg_sl [.ref (am 0)] ++ List.replicate (5 - (lg_sl [.ref (am 0)]).length) Slot.unset).toArray = ls at hl ⊢
  have hl : lv_has ls 5 [(0, .ref (am 0))] := hl
  refine nx_Q (R := ({ frames := 0, cells := 0, slots := 0, locals := 0 } : Room)) (fun Q hQ => ?_)
  skip
  have h4 := hE.1
  refine lv_iconst (v := nI 0) hx hb dX10_findMay_0 (by decide) ?_
  refine lv_istore_n (lv' := [(1, .int (nI 0)), (0, .ref (am 0))]) hx hb dX10_findMay_1 rfl hl (by decide) rfl (fun ls hl => ?_)
  have L2 : ∀ (fuel2 : Nat) (i : Nat) (mf : Nat → Int32) (S Z : Nat → Int32) (H : Heap) (locs : List Loc) (ls : Array Slot), (i ≤ 32) → (∀ j, j < i → mf j = 0) → mOK S Z R → va_P (dC, dI) vwCl (wsM aC am v S Z (va_up F 12 mf) G) H → va_S (mA am) s.heap H locs → 32 - i < fuel2 → lv_has ls 5 [(0, .ref (am 0)), (1, .int (nI i))] → W p l e ({ frames := 0, cells := 0, slots := 0, locals := 0 } : Room) s m ([.ref (am 0)] : List Value).toArray below meth c H locs 0 0 Q (F0 m 2 ls []) := by
    intro fuel2
    induction fuel2 with
    | zero => intro i mf S Z H locs ls hi hz hZ hP hS hf2 hl; exact absurd hf2 (Nat.not_lt_zero _)
    | succ fuel2 ih2 =>
      intro i mf S Z H locs ls hi hz hZ hP hS hf2 hl
      refine lv_iload_n hx hb dX10_findMay_2 rfl (lv_at hl 1 rfl) ?_
      refine lv_bipush (v := nI 32) hx hb dX10_findMay_3 (by decide) ?_
      refine nx_icmp_ge (a := i) (b := 32) (tgt := 21) hx hb dX10_findMay_5 (by decide) (by omega) (by omega) (fun c_5 => ?_) (fun c_5 => ?_)
      · skip
        refine lv_iconst (v := nI 0) hx hb dX10_findMay_21 (by decide) ?_
        refine lv_istore_n (lv' := [(1, .int (nI 0)), (0, .ref (am 0))]) hx hb dX10_findMay_22 rfl hl (by decide) rfl (fun ls hl => ?_)
        have L23 : ∀ (fuel23 : Nat) (i : Nat) (mf : Nat → Int32) (S Z : Nat → Int32) (H : Heap) (locs : List Loc) (ls : Array Slot), (i ≤ nr) → (∀ j, j < 32 → mf j = myF R i j) → mOK S Z R → va_P (dC, dI) vwCl (wsM aC am v S Z (va_up F 12 mf) G) H → va_S (mA am) s.heap H locs → 8 - i < fuel23 → lv_has ls 5 [(0, .ref (am 0)), (1, .int (nI i))] → W p l e ({ frames := 0, cells := 0, slots := 0, locals := 0 } : Room) s m ([.ref (am 0)] : List Value).toArray below meth c H locs 0 0 Q (F0 m 23 ls []) := by
          intro fuel23
          induction fuel23 with
          | zero => intro i mf S Z H locs ls hi hmy hZ hP hS hf23 hl; exact absurd hf23 (Nat.not_lt_zero _)
          | succ fuel23 ih23 =>
            intro i mf S Z H locs ls hi hmy hZ hP hS hf23 hl
            refine lv_iload_n hx hb dX10_findMay_23 rfl (lv_at hl 1 rfl) ?_
            refine lv_aload_n hx hb dX10_findMay_24 rfl (lv_at hl 0 rfl) ?_
            refine va_get (D := (dC, dI)) (ci := 10) (C := RX10) (T := TX10) (N := 22) hx hb hts hin10 hown hK hP 0 rfl rfl 4 (by decide) lk0 (fun _ h9 => h9) rfl dX10_findMay_25 ?_
            refine nx_ti (y := nI nr) (hn) ?_
            refine nx_icmp_ge (a := i) (b := nr) (tgt := 116) hx hb dX10_findMay_28 (by decide) (by omega) (by omega) (fun c_28 => ?_) (fun c_28 => ?_)
            · skip
              subst hQ
              exact W.vret hx hb hret (fun tq htq hWq => ⟨⟨(v, R, (va_up F 12 mf), G), rfl, ⟨_, rfl, fun j hj => by rw [hmy j hj, show i = nr by omega]⟩, va_K.moved hWq.alike hK, _, _, hZ, by rw [htq]; exact hP⟩, hS.F htq⟩) hS.2.2 dX10_findMay_116
            · skip
              obtain ⟨a, b, ha, hb0, e0, e12⟩ := dl_shape hE (hVl i c_28) (hTl i c_28) (h5 i c_28) h2
              have hl5 := h5 i c_28
              have hL60 := (hZ (10 + i) (by omega)).1
              refine lv_bipush (v := nI 60) hx hb dX10_findMay_31 (by decide) ?_
              refine lv_bipush (v := nI 10) hx hb dX10_findMay_33 (by decide) ?_
              refine lv_iload_n hx hb dX10_findMay_35 rfl (lv_at hl 1 rfl) ?_
              refine lv_iadd hx hb dX10_findMay_36 ?_
              refine nx_ti (y := nI (10 + i)) (nI_add _ _) ?_
              refine lv_imul hx hb dX10_findMay_37 ?_
              refine nx_ti (y := nI (60 * (10 + i))) (pk_mul _ _) ?_
              refine lv_istore_n (lv' := [(2, .int (nI (60 * (10 + i)))), (0, .ref (am 0)), (1, .int (nI i))]) hx hb dX10_findMay_38 rfl hl (by decide) rfl (fun ls hl => ?_)
              refine lv_aload_n hx hb dX10_findMay_39 rfl (lv_at hl 1 rfl) ?_
              refine va_get (D := (dC, dI)) (ci := 10) (C := RX10) (T := TX10) (N := 22) hx hb hts hin10 hown hK hP 0 rfl rfl 2 (by decide) lk1 (fun _ h9 => h9) rfl dX10_findMay_40 ?_
              refine lv_iload_n hx hb dX10_findMay_43 rfl (lv_at hl 0 rfl) ?_
              refine lv_iconst (v := nI 1) hx hb dX10_findMay_44 (by decide) ?_
              refine lv_iadd hx hb dX10_findMay_45 ?_
              refine nx_ti (y := nI (60 * (10 + i) + 1)) (nI_add _ _) ?_
              refine nx_iald hx hb hK hP 2 0 rfl rfl (i := 60 * (10 + i) + 1) (by omega) (by decide) dX10_findMay_46 ?_
              refine nx_ti (y := gD (R (10 + i)) 1) ((hZ (10 + i) (by omega)).2.2 1 (by omega)) ?_
              refine lv_iconst (v := (-1)) hx hb dX10_findMay_47 (by decide) ?_
              refine lv_icmp_eq (tgt := 55) hx hb dX10_findMay_48 (by decide) (fun c_48 => ?_) (fun c_48 => ?_)
              · skip
                have e2 : gD (R (10 + i)) 2 = nI b := e12.elim (fun h => absurd c_48 h.2) (fun h => h.2)
                refine lv_iconst (v := nI 0) hx hb dX10_findMay_55 (by decide) ?_
                refine lv_istore_n (lv' := [(3, .int (nI 0)), (2, .int (nI (60 * (10 + i)))), (0, .ref (am 0)), (1, .int (nI i))]) hx hb dX10_findMay_56 rfl hl (by decide) rfl (fun ls hl => ?_)
                refine lv_iload_n hx hb dX10_findMay_57 rfl (lv_at hl 0 rfl) ?_
                refine nx_if_eq (tgt := 72) hx hb dX10_findMay_58 (by decide) (by omega) (fun c_58 => ?_) (fun c_58 => ?_)
                · skip
                  refine lv_aload_n hx hb dX10_findMay_72 rfl (lv_at hl 2 rfl) ?_
                  refine va_get (D := (dC, dI)) (ci := 10) (C := RX10) (T := TX10) (N := 22) hx hb hts hin10 hown hK hP 0 rfl rfl 2 (by decide) lk1 (fun _ h9 => h9) rfl dX10_findMay_73 ?_
                  refine lv_iload_n hx hb dX10_findMay_76 rfl (lv_at hl 1 rfl) ?_
                  refine lv_iconst (v := nI 2) hx hb dX10_findMay_77 (by decide) ?_
                  refine lv_iadd hx hb dX10_findMay_78 ?_
                  refine nx_ti (y := nI (60 * (10 + i) + 2)) (nI_add _ _) ?_
                  refine nx_iald hx hb hK hP 2 0 rfl rfl (i := 60 * (10 + i) + 2) (by omega) (by decide) dX10_findMay_79 ?_
                  refine nx_ti (y := gD (R (10 + i)) 2) ((hZ (10 + i) (by omega)).2.2 2 (by omega)) ?_
                  refine nx_ti (y := nI b) (e2) ?_
                  refine lv_istore (lv' := [(4, .int (nI b)), (3, .int (nI 0)), (2, .int (nI (60 * (10 + i)))), (0, .ref (am 0)), (1, .int (nI i))]) hx hb dX10_findMay_80 hl (by decide) rfl (fun ls hl => ?_)
                  refine lv_aload_n hx hb dX10_findMay_82 rfl (lv_at hl 3 rfl) ?_
                  refine va_get (D := (dC, dI)) (ci := 10) (C := RX10) (T := TX10) (N := 22) hx hb hts hin10 hown hK hP 0 rfl rfl 20 (by decide) lk2 (fun _ h9 => h9) rfl dX10_findMay_83 ?_
                  refine lv_bipush (v := nI 8) hx hb dX10_findMay_86 (by decide) ?_
                  refine lv_aload_n hx hb dX10_findMay_88 rfl (lv_at hl 3 rfl) ?_
                  refine va_get (D := (dC, dI)) (ci := 10) (C := RX10) (T := TX10) (N := 22) hx hb hts hin10 hown hK hP 0 rfl rfl 2 (by decide) lk1 (fun _ h9 => h9) rfl dX10_findMay_89 ?_
                  refine lv_iload_n hx hb dX10_findMay_92 rfl (lv_at hl 2 rfl) ?_
                  refine nx_iald hx hb hK hP 2 0 rfl rfl (i := 60 * (10 + i)) (by omega) (by decide) dX10_findMay_93 ?_
                  refine nx_ti (y := gD (R (10 + i)) 0) ((hZ (10 + i) (by omega)).2.2 0 (by omega)) ?_
                  refine nx_ti (y := nI a) (e0) ?_
                  refine lv_imul hx hb dX10_findMay_94 ?_
                  refine nx_ti (y := nI (8 * a)) (pk_mul _ _) ?_
                  refine lv_iload_n hx hb dX10_findMay_95 rfl (lv_at hl 1 rfl) ?_
                  refine nx_if_eq (tgt := 103) hx hb dX10_findMay_96 (by decide) (by omega) (fun c_96 => ?_) (fun c_96 => ?_)
                  · skip
                    refine lv_iconst (v := nI 4) hx hb dX10_findMay_103 (by decide) ?_
                    refine lv_iadd hx hb dX10_findMay_104 ?_
                    refine nx_ti (y := nI (8 * a + 4)) (nI_add _ _) ?_
                    refine lv_iload hx hb dX10_findMay_105 (lv_at hl 0 rfl) ?_
                    refine lv_iadd hx hb dX10_findMay_107 ?_
                    refine nx_ti (y := nI (8 * a + 4 + b)) (nI_add _ _) ?_
                    refine lv_iconst (v := nI 1) hx hb dX10_findMay_108 (by decide) ?_
                    refine nx_zast hx hb hK hP (wsM_D hI) hS 12 2 rfl rfl (i := 8 * a + 4 + b) (rfl) (by omega) (by decide) dX10_findMay_109 (fun H locs hP hS => ?_)
                    have hP : va_P (dC, dI) vwCl (wsM aC am v S Z (va_up F 12 (upd mf (8 * a + 4 + b) (nI 1))) G) H := hP
                    refine lv_iinc (v := nI (i + 1)) (lv' := [(1, .int (nI (i + 1))), (4, .int (nI b)), (3, .int (nI 0)), (2, .int (nI (60 * (10 + i)))), (0, .ref (am 0))]) hx hb dX10_findMay_110 hl (k := 4) rfl (nI_add _ _) (by decide) rfl (fun ls hl => ?_)
                    refine lv_goto (tgt := 23) hx hb dX10_findMay_113 (by decide) ?_
                    exact ih23 (i + 1) (upd mf (8 * a + 4 + b) (nI 1)) _ _ _ _ _ (by omega) (fun j hj => myF_s (by rw [dlC, if_pos c_48, e0, e2, nI_clamp (by omega), nI_clamp (by omega)]; omega) hmy j hj) hZ hP hS (by omega) (lv_sub hl [4, 0] rfl)
                  · skip
                    exact absurd rfl c_96
                · skip
                  exact absurd rfl c_58
              · skip
                have e1 : gD (R (10 + i)) 1 = nI b := e12.elim (fun h => h.1) (fun h => absurd h.1 c_48)
                refine lv_iconst (v := nI 1) hx hb dX10_findMay_51 (by decide) ?_
                refine lv_goto (tgt := 56) hx hb dX10_findMay_52 (by decide) ?_
                refine lv_istore_n (lv' := [(3, .int (nI 1)), (2, .int (nI (60 * (10 + i)))), (0, .ref (am 0)), (1, .int (nI i))]) hx hb dX10_findMay_56 rfl hl (by decide) rfl (fun ls hl => ?_)
                refine lv_iload_n hx hb dX10_findMay_57 rfl (lv_at hl 0 rfl) ?_
                refine nx_if_eq (tgt := 72) hx hb dX10_findMay_58 (by decide) (by omega) (fun c_58 => ?_) (fun c_58 => ?_)
                · skip
                  exact absurd c_58 (by decide)
                · skip
                  refine lv_aload_n hx hb dX10_findMay_61 rfl (lv_at hl 2 rfl) ?_
                  refine va_get (D := (dC, dI)) (ci := 10) (C := RX10) (T := TX10) (N := 22) hx hb hts hin10 hown hK hP 0 rfl rfl 2 (by decide) lk1 (fun _ h9 => h9) rfl dX10_findMay_62 ?_
                  refine lv_iload_n hx hb dX10_findMay_65 rfl (lv_at hl 1 rfl) ?_
                  refine lv_iconst (v := nI 1) hx hb dX10_findMay_66 (by decide) ?_
                  refine lv_iadd hx hb dX10_findMay_67 ?_
                  refine nx_ti (y := nI (60 * (10 + i) + 1)) (nI_add _ _) ?_
                  refine nx_iald hx hb hK hP 2 0 rfl rfl (i := 60 * (10 + i) + 1) (by omega) (by decide) dX10_findMay_68 ?_
                  refine nx_ti (y := gD (R (10 + i)) 1) ((hZ (10 + i) (by omega)).2.2 1 (by omega)) ?_
                  refine nx_ti (y := nI b) (e1) ?_
                  refine lv_goto (tgt := 80) hx hb dX10_findMay_69 (by decide) ?_
                  refine lv_istore (lv' := [(4, .int (nI b)), (3, .int (nI 1)), (2, .int (nI (60 * (10 + i)))), (0, .ref (am 0)), (1, .int (nI i))]) hx hb dX10_findMay_80 hl (by decide) rfl (fun ls hl => ?_)
                  refine lv_aload_n hx hb dX10_findMay_82 rfl (lv_at hl 3 rfl) ?_
                  refine va_get (D := (dC, dI)) (ci := 10) (C := RX10) (T := TX10) (N := 22) hx hb hts hin10 hown hK hP 0 rfl rfl 20 (by decide) lk2 (fun _ h9 => h9) rfl dX10_findMay_83 ?_
                  refine lv_bipush (v := nI 8) hx hb dX10_findMay_86 (by decide) ?_
                  refine lv_aload_n hx hb dX10_findMay_88 rfl (lv_at hl 3 rfl) ?_
                  refine va_get (D := (dC, dI)) (ci := 10) (C := RX10) (T := TX10) (N := 22) hx hb hts hin10 hown hK hP 0 rfl rfl 2 (by decide) lk1 (fun _ h9 => h9) rfl dX10_findMay_89 ?_
                  refine lv_iload_n hx hb dX10_findMay_92 rfl (lv_at hl 2 rfl) ?_
                  refine nx_iald hx hb hK hP 2 0 rfl rfl (i := 60 * (10 + i)) (by omega) (by decide) dX10_findMay_93 ?_
                  refine nx_ti (y := gD (R (10 + i)) 0) ((hZ (10 + i) (by omega)).2.2 0 (by omega)) ?_
                  refine nx_ti (y := nI a) (e0) ?_
                  refine lv_imul hx hb dX10_findMay_94 ?_
                  refine nx_ti (y := nI (8 * a)) (pk_mul _ _) ?_
                  refine lv_iload_n hx hb dX10_findMay_95 rfl (lv_at hl 1 rfl) ?_
                  refine nx_if_eq (tgt := 103) hx hb dX10_findMay_96 (by decide) (by omega) (fun c_96 => ?_) (fun c_96 => ?_)
                  · skip
                    exact absurd c_96 (by decide)
                  · skip
                    refine lv_iconst (v := nI 0) hx hb dX10_findMay_99 (by decide) ?_
                    refine lv_goto (tgt := 104) hx hb dX10_findMay_100 (by decide) ?_
                    refine lv_iadd hx hb dX10_findMay_104 ?_
                    refine nx_ti (y := nI (8 * a + 0)) (nI_add _ _) ?_
                    refine lv_iload hx hb dX10_findMay_105 (lv_at hl 0 rfl) ?_
                    refine lv_iadd hx hb dX10_findMay_107 ?_
                    refine nx_ti (y := nI (8 * a + 0 + b)) (nI_add _ _) ?_
                    refine lv_iconst (v := nI 1) hx hb dX10_findMay_108 (by decide) ?_
                    refine nx_zast hx hb hK hP (wsM_D hI) hS 12 2 rfl rfl (i := 8 * a + 0 + b) (rfl) (by omega) (by decide) dX10_findMay_109 (fun H locs hP hS => ?_)
                    have hP : va_P (dC, dI) vwCl (wsM aC am v S Z (va_up F 12 (upd mf (8 * a + 0 + b) (nI 1))) G) H := hP
                    refine lv_iinc (v := nI (i + 1)) (lv' := [(1, .int (nI (i + 1))), (4, .int (nI b)), (3, .int (nI 1)), (2, .int (nI (60 * (10 + i)))), (0, .ref (am 0))]) hx hb dX10_findMay_110 hl (k := 4) rfl (nI_add _ _) (by decide) rfl (fun ls hl => ?_)
                    refine lv_goto (tgt := 23) hx hb dX10_findMay_113 (by decide) ?_
                    exact ih23 (i + 1) (upd mf (8 * a + 0 + b) (nI 1)) _ _ _ _ _ (by omega) (fun j hj => myF_s (by rw [dlC, if_neg c_48, e0, e1, nI_clamp (by omega), nI_clamp (by omega)]; omega) hmy j hj) hZ hP hS (by omega) (lv_sub hl [4, 0] rfl)
        exact L23 (8 - 0 + 1) 0 mf _ _ _ _ _ (by omega) (fun j hj => hz j (by omega)) hZ hP hS (Nat.lt_succ_self _) (lv_sub hl [1, 0] rfl)
      · skip
        refine lv_aload_n hx hb dX10_findMay_8 rfl (lv_at hl 0 rfl) ?_
        refine va_get (D := (dC, dI)) (ci := 10) (C := RX10) (T := TX10) (N := 22) hx hb hts hin10 hown hK hP 0 rfl rfl 20 (by decide) lk2 (fun _ h9 => h9) rfl dX10_findMay_9 ?_
        refine lv_iload_n hx hb dX10_findMay_12 rfl (lv_at hl 1 rfl) ?_
        refine lv_iconst (v := nI 0) hx hb dX10_findMay_13 (by decide) ?_
        refine nx_zast hx hb hK hP (wsM_D hI) hS 12 2 rfl rfl (i := i) (rfl) (by omega) (by decide) dX10_findMay_14 (fun H locs hP hS => ?_)
        have hP : va_P (dC, dI) vwCl (wsM aC am v S Z (va_up F 12 (upd mf i (nI 0))) G) H := hP
        refine lv_iinc (v := nI (i + 1)) (lv' := [(1, .int (nI (i + 1))), (0, .ref (am 0))]) hx hb dX10_findMay_15 hl (k := 1) rfl (nI_add _ _) (by decide) rfl (fun ls hl => ?_)
        refine lv_goto (tgt := 2) hx hb dX10_findMay_18 (by decide) ?_
        exact ih2 (i + 1) (upd mf i (nI 0)) _ _ _ _ _ (by omega) (upd_ext (g := fun _ => 0) hz) hZ hP hS (by omega) (lv_sub hl [1, 0] rfl)
  exact L2 (32 - 0 + 1) 0 (F 12) _ _ _ _ _ (by omega) (fun j hj => absurd hj (Nat.not_lt_zero j)) hZ hP hS (Nat.lt_succ_self _) (lv_sub hl [1, 0] rfl)

set_option maxHeartbeats 1000000 in
set_option maxRecDepth 100000 in
/-- below -/
theorem k_below (l : Launch) (dC : Nat → ClassId) (dI : Nat → Nat → Nat) (aC : Nat → ClassId) (am : Nat → Nat) (v : Nat → Int32) (R : Nat → List Int32) (F : Nat → Nat → Int32) (G : Nat → Nat → Int64) (A : Nat) (hA : v 0 = nI A) (hA4 : A ≤ 4) (act : Nat) (ha : act < 4) (sd : Nat) (hs : sd < 2) (n0 : Nat) (hn6 : n0 ≤ 6) : Met l yX10_below wsX10_below ({ frames := 0, cells := 0, slots := 0, locals := 0 } : Room) (va_Pc [.ref (am 0), .int (nI act), .int (nI sd), .int (nI n0)] (MB dC dI aC am (v, R, F, G))) (vp_Sl (fun x => x = if n0 = 1 then 1 else slF (fun q => if F 12 (8 * act + 4 * sd + q) = 0 then 0 else G 13 (7 * q + n0)) 0 A)) 0 0 (fun _ => False) := by
  refine Met.ofW (cc := cX10_below) (maxL := 7) (ret := (some .long)) (by decide) rfl ?_
  intro p e s m args below meth c s₁ B hml hv
  obtain ⟨rfl, hK, S, Z, hZ, hP⟩ := hv
  have hx := B.exec
  have hb := B.bytes
  have hret := B.returns
  have hts := atoms_spec (ws := wsX10_below) B.pre
  have hown : s.vm.findClass RX10 = some m.cls := findClass_of_methodNamed B.named
  have hlocks := B.notSynchronized
  dsimp only at hZ hP
  have lk0 := hts (.fieldLink RX10 55 "LeafTreesModel" "acts" "I") (by decide +kernel)
  have lk1 := hts (.fieldLink RX10 45 "LeafTreesModel" "may" "[Z") (by decide +kernel)
  have lk2 := hts (.fieldLink RX10 48 "LeafTreesModel" "byTop" "[J") (by decide +kernel)
  have hin10 : ∀ w ∈ u_ws RX10 TX10 22, w ∈ wsX10_below := by decide +kernel
  have hl := lv_entry [.ref (am 0), .int (nI act), .int (nI sd), .int (nI n0)] (n := 7) (Nat.le_of_ble_eq_true rfl)
  rw [lg_entry_eq]
  generalize (lg_sl [.ref (am 0), .int (nI act), .int (nI sd), .int (nI n0)] ++ List.replicate (7 - (lg_sl [.ref (am 0), .int (nI act), .int (nI sd), .int (nI n0)]).length) Slot.unset).toArray = ls at hl ⊢
  have hl : lv_has ls 7 [(0, .ref (am 0)), (1, .int (nI act)), (2, .int (nI sd)), (3, .int (nI n0))] := hl
  refine nx_Q (R := ({ frames := 0, cells := 0, slots := 0, locals := 0 } : Room)) (fun Q hQ => ?_)
  refine lv_iload_n hx hb dX10_below_0 rfl (lv_at hl 3 rfl) ?_
  refine lv_iconst (v := nI 1) hx hb dX10_below_1 (by decide) ?_
  refine nx_icmp_ne (a := n0) (b := 1) (tgt := 7) hx hb dX10_below_2 (by decide) (by omega) (by omega) (fun c_2 => ?_) (fun c_2 => ?_)
  · skip
    refine lv_lconst (v := 0) hx hb dX10_below_7 (by decide) ?_
    refine lv_lstore (lv' := [(4, .long 0), (0, .ref (am 0)), (1, .int (nI act)), (2, .int (nI sd)), (3, .int (nI n0))]) hx hb dX10_below_8 hl (by decide) rfl (fun ls hl => ?_)
    refine lv_iconst (v := nI 0) hx hb dX10_below_10 (by decide) ?_
    refine lv_istore (lv' := [(6, .int (nI 0)), (4, .long 0), (0, .ref (am 0)), (1, .int (nI act)), (2, .int (nI sd)), (3, .int (nI n0))]) hx hb dX10_below_11 hl (by decide) rfl (fun ls hl => ?_)
    have L13 : ∀ (fuel13 : Nat) (i : Nat) (ls : Array Slot), (i ≤ A) → 4 - i < fuel13 → lv_has ls 7 [(0, .ref (am 0)), (1, .int (nI act)), (2, .int (nI sd)), (3, .int (nI n0)), (4, .long (slF (fun q => if F 12 (8 * act + 4 * sd + q) = 0 then 0 else G 13 (7 * q + n0)) 0 i)), (6, .int (nI i))] → W p l e ({ frames := 0, cells := 0, slots := 0, locals := 0 } : Room) s m ([.ref (am 0), .int (nI act), .int (nI sd), .int (nI n0)] : List Value).toArray below meth c s.heap [] 0 0 Q (F0 m 13 ls []) := by
      intro fuel13
      induction fuel13 with
      | zero => intro i ls hi hf13 hl; exact absurd hf13 (Nat.not_lt_zero _)
      | succ fuel13 ih13 =>
        intro i ls hi hf13 hl
        refine lv_iload hx hb dX10_below_13 (lv_at hl 5 rfl) ?_
        refine lv_aload_n hx hb dX10_below_15 rfl (lv_at hl 0 rfl) ?_
        refine va_get (D := (dC, dI)) (ci := 10) (C := RX10) (T := TX10) (N := 22) hx hb hts hin10 hown hK hP 0 rfl rfl 0 (by decide) lk0 (fun _ h9 => h9) rfl dX10_below_16 ?_
        refine nx_ti (y := nI A) (hA) ?_
        refine nx_icmp_ge (a := i) (b := A) (tgt := 68) hx hb dX10_below_19 (by decide) (by omega) (by omega) (fun c_19 => ?_) (fun c_19 => ?_)
        · skip
          refine lv_lload hx hb dX10_below_68 (lv_at hl 4 rfl) ?_
          subst hQ
          exact W.lret (v := slF (fun q => if F 12 (8 * act + 4 * sd + q) = 0 then 0 else G 13 (7 * q + n0)) 0 i) hx hb hret (fun tq htq hWq => ⟨_, rfl, by rw [if_neg c_2, show i = A by omega], htq⟩) (fun q h => by cases h) dX10_below_70
        · skip
          refine lv_lload hx hb dX10_below_22 (lv_at hl 4 rfl) ?_
          refine lv_aload_n hx hb dX10_below_24 rfl (lv_at hl 0 rfl) ?_
          refine va_get (D := (dC, dI)) (ci := 10) (C := RX10) (T := TX10) (N := 22) hx hb hts hin10 hown hK hP 0 rfl rfl 20 (by decide) lk1 (fun _ h9 => h9) rfl dX10_below_25 ?_
          refine lv_bipush (v := nI 8) hx hb dX10_below_28 (by decide) ?_
          refine lv_iload_n hx hb dX10_below_30 rfl (lv_at hl 1 rfl) ?_
          refine lv_imul hx hb dX10_below_31 ?_
          refine nx_ti (y := nI (8 * act)) (pk_mul _ _) ?_
          refine lv_iconst (v := nI 4) hx hb dX10_below_32 (by decide) ?_
          refine lv_iload_n hx hb dX10_below_33 rfl (lv_at hl 2 rfl) ?_
          refine lv_imul hx hb dX10_below_34 ?_
          refine nx_ti (y := nI (4 * sd)) (pk_mul _ _) ?_
          refine lv_iadd hx hb dX10_below_35 ?_
          refine nx_ti (y := nI (8 * act + 4 * sd)) (nI_add _ _) ?_
          refine lv_iload hx hb dX10_below_36 (lv_at hl 5 rfl) ?_
          refine lv_iadd hx hb dX10_below_38 ?_
          refine nx_ti (y := nI (8 * act + 4 * sd + i)) (nI_add _ _) ?_
          refine nx_zald hx hb hK hP 12 2 rfl rfl (i := 8 * act + 4 * sd + i) (by omega) (by decide) dX10_below_39 ?_
          refine lv_if_eq (tgt := 58) hx hb dX10_below_40 (by decide) (fun c_40 => ?_) (fun c_40 => ?_)
          · skip
            refine lv_lconst (v := 0) hx hb dX10_below_58 (by decide) ?_
            refine lv_ladd hx hb dX10_below_59 ?_
            refine nx_tl (y := slF (fun q => if F 12 (8 * act + 4 * sd + q) = 0 then 0 else G 13 (7 * q + n0)) 0 (i + 1)) (by rw [slF, Nat.zero_add, if_pos c_40]) ?_
            refine lv_lstore (lv' := [(4, .long (slF (fun q => if F 12 (8 * act + 4 * sd + q) = 0 then 0 else G 13 (7 * q + n0)) 0 (i + 1))), (0, .ref (am 0)), (1, .int (nI act)), (2, .int (nI sd)), (3, .int (nI n0)), (6, .int (nI i))]) hx hb dX10_below_60 hl (by decide) rfl (fun ls hl => ?_)
            refine lv_iinc (v := nI (i + 1)) (lv' := [(6, .int (nI (i + 1))), (4, .long (slF (fun q => if F 12 (8 * act + 4 * sd + q) = 0 then 0 else G 13 (7 * q + n0)) 0 (i + 1))), (0, .ref (am 0)), (1, .int (nI act)), (2, .int (nI sd)), (3, .int (nI n0))]) hx hb dX10_below_62 hl (k := 5) rfl (nI_add _ _) (by decide) rfl (fun ls hl => ?_)
            refine lv_goto (tgt := 13) hx hb dX10_below_65 (by decide) ?_
            exact ih13 (i + 1) _ (by omega) (by omega) (lv_sub hl [2, 3, 4, 5, 1, 0] rfl)
          · skip
            refine lv_aload_n hx hb dX10_below_43 rfl (lv_at hl 0 rfl) ?_
            refine va_get (D := (dC, dI)) (ci := 10) (C := RX10) (T := TX10) (N := 22) hx hb hts hin10 hown hK hP 0 rfl rfl 21 (by decide) lk2 (fun _ h9 => h9) rfl dX10_below_44 ?_
            refine lv_bipush (v := nI 7) hx hb dX10_below_47 (by decide) ?_
            refine lv_iload hx hb dX10_below_49 (lv_at hl 5 rfl) ?_
            refine lv_imul hx hb dX10_below_51 ?_
            refine nx_ti (y := nI (7 * i)) (pk_mul _ _) ?_
            refine lv_iload_n hx hb dX10_below_52 rfl (lv_at hl 3 rfl) ?_
            refine lv_iadd hx hb dX10_below_53 ?_
            refine nx_ti (y := nI (7 * i + n0)) (nI_add _ _) ?_
            refine nx_lald hx hb hK hP 13 1 rfl rfl (i := 7 * i + n0) (by omega) (by decide) dX10_below_54 ?_
            refine lv_goto (tgt := 59) hx hb dX10_below_55 (by decide) ?_
            refine lv_ladd hx hb dX10_below_59 ?_
            refine nx_tl (y := slF (fun q => if F 12 (8 * act + 4 * sd + q) = 0 then 0 else G 13 (7 * q + n0)) 0 (i + 1)) (by rw [slF, Nat.zero_add, if_neg c_40]) ?_
            refine lv_lstore (lv' := [(4, .long (slF (fun q => if F 12 (8 * act + 4 * sd + q) = 0 then 0 else G 13 (7 * q + n0)) 0 (i + 1))), (0, .ref (am 0)), (1, .int (nI act)), (2, .int (nI sd)), (3, .int (nI n0)), (6, .int (nI i))]) hx hb dX10_below_60 hl (by decide) rfl (fun ls hl => ?_)
            refine lv_iinc (v := nI (i + 1)) (lv' := [(6, .int (nI (i + 1))), (4, .long (slF (fun q => if F 12 (8 * act + 4 * sd + q) = 0 then 0 else G 13 (7 * q + n0)) 0 (i + 1))), (0, .ref (am 0)), (1, .int (nI act)), (2, .int (nI sd)), (3, .int (nI n0))]) hx hb dX10_below_62 hl (k := 5) rfl (nI_add _ _) (by decide) rfl (fun ls hl => ?_)
            refine lv_goto (tgt := 13) hx hb dX10_below_65 (by decide) ?_
            exact ih13 (i + 1) _ (by omega) (by omega) (lv_sub hl [2, 3, 4, 5, 1, 0] rfl)
    exact L13 (4 - 0 + 1) 0 _ (by omega) (Nat.lt_succ_self _) (lv_sub hl [2, 3, 4, 5, 1, 0] rfl)
  · skip
    refine lv_lconst (v := 1) hx hb dX10_below_5 (by decide) ?_
    subst hQ
    exact W.lret (v := 1) hx hb hret (fun tq htq hWq => ⟨_, rfl, by rw [if_pos c_2], htq⟩) (fun q h => by cases h) dX10_below_6

set_option maxHeartbeats 1000000 in
set_option maxRecDepth 100000 in
/-- dual -/
theorem k_dual (l : Launch) (dC : Nat → ClassId) (dI : Nat → Nat → Nat) (aC : Nat → ClassId) (am : Nat → Nat) (hI : mI am) (v : Nat → Int32) (R : Nat → List Int32) (F : Nat → Nat → Int32) (G : Nat → Nat → Int64) (A : Nat) (hE : vE A (F 1)) (hA : v 0 = nI A) (nr : Nat) (hn : v 4 = nI nr) (hn8 : nr ≤ 8) (hTl : ∀ j, j < nr → isT (F 1) (R (10 + j))) (hVl : ∀ j, j < nr → vR A (R (10 + j))) (a : Int32) : Met l yX10_dual wsX10_dual ({ frames := 1, cells := 0, slots := 0, locals := 26 } : Room) (va_Pc [.ref (am 0), .int a] (MB dC dI aC am (v, R, F, G))) (va_Ql (fun (x : Int64) (u : MS) => ∃ my bf, (v, R, va_up F 12 my, va_up G 13 bf) = u ∧ x = pDual A (F 1) R nr (F 4) a) (MB dC dI aC am) (mA am)) 0 0 (mA am) := by
  refine Met.ofW (cc := cX10_dual) (maxL := 9) (ret := (some .long)) (by decide) rfl ?_
  intro p e s m args below meth c s₁ B hml hv
  obtain ⟨rfl, hK, S, Z, hZ, hP⟩ := hv
  have hx := B.exec
  have hb := B.bytes
  have hret := B.returns
  have hts := atoms_spec (ws := wsX10_dual) B.pre
  have hown : s.vm.findClass RX10 = some m.cls := findClass_of_methodNamed B.named
  have hlocks := B.notSynchronized
  dsimp only at hZ hP
  have lk0 := hts (.fieldLink RX10 55 "LeafTreesModel" "acts" "I") (by decide +kernel)
  have lk1 := hts (.fieldLink RX10 48 "LeafTreesModel" "byTop" "[J") (by decide +kernel)
  have lk2 := hts (.constantLong RX10 187 (-3)) (by decide +kernel)
  have lk3 := hts (.constantLong RX10 151 (-2)) (by decide +kernel)
  have hin10 : ∀ w ∈ u_ws RX10 TX10 22, w ∈ wsX10_dual := by decide +kernel
  have hS : va_S (mA am) s.heap s.heap [] := va_S.rf
  have hl := lv_entry [.ref (am 0), .int a] (n := 9) (Nat.le_of_ble_eq_true rfl)
  rw [lg_entry_eq]
  generalize (lg_sl [.ref (am 0), .int a] ++ List.replicate (9 - (lg_sl [.ref (am 0), .int a]).length) Slot.unset).toArray = ls at hl ⊢
  have hl : lv_has ls 9 [(0, .ref (am 0)), (1, .int a)] := hl
  refine nx_Q (R := ({ frames := 1, cells := 0, slots := 0, locals := 26 } : Room)) (fun Q hQ => ?_)
  skip
  have h4 := hE.1
  refine lv_iload_n hx hb dX10_dual_0 rfl (lv_at hl 1 rfl) ?_
  refine lv_iconst (v := nI 1) hx hb dX10_dual_1 (by decide) ?_
  refine lv_bipush (v := nI 6) hx hb dX10_dual_2 (by decide) ?_
  refine ms_i (As := [.int a, .int (nI 1), .int (nI 6)]) (rest := []) ⟨hx, hb, hml, hown, hts⟩ (k_in l a (nI 1) (nI 6)) (va_cwS 3 hts gX10_dual_X10_in rfl rfl rfl (by decide +kernel) ⟨Nat.le_of_ble_eq_true rfl, Nat.le_of_ble_eq_true rfl⟩) rfl hl.1 rfl (Nat.le_of_ble_eq_true rfl) dX10_dual_4 ⟨Nat.le_of_ble_eq_true rfl, Nat.le_of_ble_eq_true rfl⟩ (fun x_4 h_4 => ?_)
  subst h_4
  refine nx_ti (y := bI (rN6 a)) (bI_iff rN6_in) ?_
  refine nx_bn (tgt := 14) hx hb dX10_dual_7 (by decide) (fun c_7 => ?_) (fun c_7 => ?_)
  · skip
    obtain ⟨j, hj1, hj6, rfl⟩ := rN6_of c_7
    have hcj := nI_clamp (n := j) (by omega)
    refine lv_aload_n hx hb dX10_dual_14 rfl (lv_at hl 0 rfl) ?_
    refine mp_i (As := []) (rest := []) ⟨hx, hb, hml, hown, hts⟩ (k_isDual l dC dI aC am v R F G A hE hA nr hn hn8) (cwV 0 hts gX10_dual_X10_isDual rfl rfl rfl (by decide +kernel) ⟨Nat.le_of_ble_eq_true rfl, Nat.le_of_ble_eq_true rfl⟩) hK hZ hP rfl hl.1 rfl (Nat.le_of_ble_eq_true rfl) dX10_dual_15 ⟨Nat.le_of_ble_eq_true rfl, Nat.le_of_ble_eq_true rfl⟩ (fun x_15 h_15 => ?_)
    subst h_15
    refine nx_bn (tgt := 25) hx hb dX10_dual_18 (by decide) (fun c_18 => ?_) (fun c_18 => ?_)
    · skip
      have hdu := dbF_all c_18
      refine lv_aload_n hx hb dX10_dual_25 rfl (lv_at hl 0 rfl) ?_
      refine mc_v (As := []) (rest := []) ⟨hx, hb, hml, hown, hts⟩ (k_findMay l dC dI aC am hI v R F G A hE hA nr hn hn8 hTl hVl (fun i hi => (hdu.2 i hi).2) (daF_all hdu.1)) (cwV 0 hts gX10_dual_X10_findMay rfl rfl rfl (by decide +kernel) ⟨Nat.le_of_ble_eq_true rfl, Nat.le_of_ble_eq_true rfl⟩) hK hZ hP hS rfl hl.1 rfl (Nat.le_of_ble_eq_true rfl) dX10_dual_26 ⟨Nat.le_of_ble_eq_true rfl, Nat.le_of_ble_eq_true rfl⟩ (fun v1 R1 F1 G1 S Z H locs h_26 hZ hP hS => ?_)
      obtain ⟨my, hu_26, hmy⟩ := h_26
      cases hu_26
      have hP : va_P (dC, dI) vwCl (wsM aC am v S Z (va_up F 12 my) (va_up G 13 (G 13))) H := hP
      refine lv_lconst (v := 1) hx hb dX10_dual_29 (by decide) ?_
      refine lv_lstore_n (lv' := [(2, .long 1), (0, .ref (am 0)), (1, .int (nI j))]) hx hb dX10_dual_30 rfl hl (by decide) rfl (fun ls hl => ?_)
      refine lv_iconst (v := nI 2) hx hb dX10_dual_31 (by decide) ?_
      refine lv_istore (lv' := [(4, .int (nI 2)), (2, .long 1), (0, .ref (am 0)), (1, .int (nI j))]) hx hb dX10_dual_32 hl (by decide) rfl (fun ls hl => ?_)
      have L34 : ∀ (fuel34 : Nat) (m0 : Nat) (bf : Nat → Int64) (S Z : Nat → Int32) (H : Heap) (locs : List Loc) (ls : Array Slot), (2 ≤ m0) → (m0 ≤ j + 1 ∨ m0 = 2) → (m0 ≤ 7) → (bOK (myF R nr) A bf m0) → mOK S Z R → va_P (dC, dI) vwCl (wsM aC am v S Z (va_up F 12 my) (va_up G 13 bf)) H → va_S (mA am) s.heap H locs → 7 - m0 < fuel34 → lv_has ls 9 [(0, .ref (am 0)), (1, .int (nI j)), (2, .long (if m0 = 2 then 1 else slF (fun q => btT (myF R nr) A (m0 - 1) q (m0 - 1)) 0 A)), (4, .int (nI m0))] → W p l e ({ frames := 1, cells := 0, slots := 0, locals := 26 } : Room) s m ([.ref (am 0), .int (nI j)] : List Value).toArray below meth c H locs 0 0 Q (F0 m 34 ls []) := by
        intro fuel34
        induction fuel34 with
        | zero => intro m0 bf S Z H locs ls hm2 hmj hm7 hbo hZ hP hS hf34 hl; exact absurd hf34 (Nat.not_lt_zero _)
        | succ fuel34 ih34 =>
          intro m0 bf S Z H locs ls hm2 hmj hm7 hbo hZ hP hS hf34 hl
          refine lv_iload hx hb dX10_dual_34 (lv_at hl 3 rfl) ?_
          refine lv_iload_n hx hb dX10_dual_36 rfl (lv_at hl 1 rfl) ?_
          refine nx_icmp_gt (a := m0) (b := j) (tgt := 132) hx hb dX10_dual_37 (by decide) (by omega) (by omega) (fun c_37 => ?_) (fun c_37 => ?_)
          · skip
            refine lv_lload_n hx hb dX10_dual_132 rfl (lv_at hl 2 rfl) ?_
            subst hQ
            exact W.lret (v := if m0 = 2 then 1 else slF (fun q => btT (myF R nr) A (m0 - 1) q (m0 - 1)) 0 A) hx hb hret (fun tq htq hWq => ⟨⟨_, (v, R, (va_up F 12 my), (va_up G 13 bf)), rfl, ⟨_, _, rfl, by rw [pDual, if_pos c_7, if_pos c_18, hcj, duM]; exact ite_pair (by omega) (fun h9 => by rw [show m0 - 1 = j by omega])⟩, va_K.moved hWq.alike hK, _, _, hZ, by rw [htq]; exact hP⟩, hS.F htq⟩) hS.2.2 dX10_dual_133
          · skip
            refine lv_lconst (v := 0) hx hb dX10_dual_40 (by decide) ?_
            refine lv_lstore_n (lv' := [(2, .long 0), (0, .ref (am 0)), (1, .int (nI j)), (4, .int (nI m0))]) hx hb dX10_dual_41 rfl hl (by decide) rfl (fun ls hl => ?_)
            refine lv_iconst (v := nI 0) hx hb dX10_dual_42 (by decide) ?_
            refine lv_istore (lv' := [(5, .int (nI 0)), (2, .long 0), (0, .ref (am 0)), (1, .int (nI j)), (4, .int (nI m0))]) hx hb dX10_dual_43 hl (by decide) rfl (fun ls hl => ?_)
            have L45 : ∀ (fuel45 : Nat) (a0 : Nat) (bfa : Nat → Int64) (S Z : Nat → Int32) (H : Heap) (locs : List Loc) (ls : Array Slot), (a0 ≤ A) → (bOKa (myF R nr) A bfa m0 a0) → mOK S Z R → va_P (dC, dI) vwCl (wsM aC am v S Z (va_up F 12 my) (va_up G 13 bfa)) H → va_S (mA am) s.heap H locs → 4 - a0 < fuel45 → lv_has ls 9 [(0, .ref (am 0)), (1, .int (nI j)), (2, .long (slF (fun q => btT (myF R nr) A m0 q m0) 0 a0)), (4, .int (nI m0)), (5, .int (nI a0))] → W p l e ({ frames := 1, cells := 0, slots := 0, locals := 26 } : Room) s m ([.ref (am 0), .int (nI j)] : List Value).toArray below meth c H locs 0 0 Q (F0 m 45 ls []) := by
              intro fuel45
              induction fuel45 with
              | zero => intro a0 bfa S Z H locs ls ha0 hba hZ hP hS hf45 hl; exact absurd hf45 (Nat.not_lt_zero _)
              | succ fuel45 ih45 =>
                intro a0 bfa S Z H locs ls ha0 hba hZ hP hS hf45 hl
                refine lv_iload hx hb dX10_dual_45 (lv_at hl 4 rfl) ?_
                refine lv_aload_n hx hb dX10_dual_47 rfl (lv_at hl 0 rfl) ?_
                refine va_get (D := (dC, dI)) (ci := 10) (C := RX10) (T := TX10) (N := 22) hx hb hts hin10 hown hK hP 0 rfl rfl 0 (by decide) lk0 (fun _ h9 => h9) rfl dX10_dual_48 ?_
                refine nx_ti (y := nI A) (hA) ?_
                refine nx_icmp_ge (a := a0) (b := A) (tgt := 126) hx hb dX10_dual_51 (by decide) (by omega) (by omega) (fun c_51 => ?_) (fun c_51 => ?_)
                · skip
                  refine lv_iinc (v := nI (m0 + 1)) (lv' := [(4, .int (nI (m0 + 1))), (0, .ref (am 0)), (1, .int (nI j)), (2, .long (slF (fun q => btT (myF R nr) A m0 q m0) 0 a0)), (5, .int (nI a0))]) hx hb dX10_dual_126 hl (k := 3) rfl (nI_add _ _) (by decide) rfl (fun ls hl => ?_)
                  refine lv_goto (tgt := 34) hx hb dX10_dual_129 (by decide) ?_
                  exact ih34 (m0 + 1) bfa _ _ _ _ _ (by omega) (by omega) (by omega) (bOK_s (by rw [show a0 = A by omega] at hba; exact hba) (by omega)) hZ hP hS (by omega) (by rw [if_neg (show ¬ m0 + 1 = 2 by omega), Nat.add_sub_cancel]; rw [show a0 = A by omega] at hl; exact lv_sub hl [1, 2, 3, 0] rfl)
                · skip
                  refine lv_lconst (v := 0) hx hb dX10_dual_54 (by decide) ?_
                  refine lv_lstore (lv' := [(6, .long 0), (0, .ref (am 0)), (1, .int (nI j)), (2, .long (slF (fun q => btT (myF R nr) A m0 q m0) 0 a0)), (4, .int (nI m0)), (5, .int (nI a0))]) hx hb dX10_dual_55 hl (by decide) rfl (fun ls hl => ?_)
                  refine lv_iconst (v := nI 1) hx hb dX10_dual_57 (by decide) ?_
                  refine lv_istore (lv' := [(8, .int (nI 1)), (6, .long 0), (0, .ref (am 0)), (1, .int (nI j)), (2, .long (slF (fun q => btT (myF R nr) A m0 q m0) 0 a0)), (4, .int (nI m0)), (5, .int (nI a0))]) hx hb dX10_dual_58 hl (by decide) rfl (fun ls hl => ?_)
                  have L60 : ∀ (fuel60 : Nat) (i0 : Nat) (S Z : Nat → Int32) (H : Heap) (locs : List Loc) (ls : Array Slot), (1 ≤ i0) → (i0 ≤ m0) → mOK S Z R → va_P (dC, dI) vwCl (wsM aC am v S Z (va_up F 12 my) (va_up G 13 bfa)) H → va_S (mA am) s.heap H locs → 7 - i0 < fuel60 → lv_has ls 9 [(0, .ref (am 0)), (1, .int (nI j)), (2, .long (slF (fun q => btT (myF R nr) A m0 q m0) 0 a0)), (4, .int (nI m0)), (5, .int (nI a0)), (6, .long (slF (fun q => dBl (myF R nr) A (btT (myF R nr) A (m0 - 1)) a0 0 q * dBl (myF R nr) A (btT (myF R nr) A (m0 - 1)) a0 1 (m0 - q)) 1 (i0 - 1))), (8, .int (nI i0))] → W p l e ({ frames := 1, cells := 0, slots := 0, locals := 26 } : Room) s m ([.ref (am 0), .int (nI j)] : List Value).toArray below meth c H locs 0 0 Q (F0 m 60 ls []) := by
                    intro fuel60
                    induction fuel60 with
                    | zero => intro i0 S Z H locs ls hi1 him hZ hP hS hf60 hl; exact absurd hf60 (Nat.not_lt_zero _)
                    | succ fuel60 ih60 =>
                      intro i0 S Z H locs ls hi1 him hZ hP hS hf60 hl
                      refine lv_iload hx hb dX10_dual_60 (lv_at hl 6 rfl) ?_
                      refine lv_iload hx hb dX10_dual_62 (lv_at hl 3 rfl) ?_
                      refine nx_icmp_ge (a := i0) (b := m0) (tgt := 100) hx hb dX10_dual_64 (by decide) (by omega) (by omega) (fun c_64 => ?_) (fun c_64 => ?_)
                      · skip
                        refine lv_aload_n hx hb dX10_dual_100 rfl (lv_at hl 0 rfl) ?_
                        refine va_get (D := (dC, dI)) (ci := 10) (C := RX10) (T := TX10) (N := 22) hx hb hts hin10 hown hK hP 0 rfl rfl 21 (by decide) lk1 (fun _ h9 => h9) rfl dX10_dual_101 ?_
                        refine lv_bipush (v := nI 7) hx hb dX10_dual_104 (by decide) ?_
                        refine lv_iload hx hb dX10_dual_106 (lv_at hl 4 rfl) ?_
                        refine lv_imul hx hb dX10_dual_108 ?_
                        refine nx_ti (y := nI (7 * a0)) (pk_mul _ _) ?_
                        refine lv_iload hx hb dX10_dual_109 (lv_at hl 3 rfl) ?_
                        refine lv_iadd hx hb dX10_dual_111 ?_
                        refine nx_ti (y := nI (7 * a0 + m0)) (nI_add _ _) ?_
                        refine lv_lload hx hb dX10_dual_112 (lv_at hl 5 rfl) ?_
                        refine nx_tl (y := btT (myF R nr) A m0 a0 m0) (by rw [btT_at (by omega), show i0 - 1 = m0 - 1 by omega]) ?_
                        refine nx_last hx hb hK hP (wsM_D hI) hS 13 1 rfl rfl (i := 7 * a0 + m0) (by omega) (by decide) dX10_dual_114 (fun H locs hP hS => ?_)
                        have hP : va_P (dC, dI) vwCl (wsM aC am v S Z (va_up F 12 my) (va_up G 13 (vp_updL bfa (7 * a0 + m0) (btT (myF R nr) A m0 a0 m0)))) H := hP
                        refine lv_lload_n hx hb dX10_dual_115 rfl (lv_at hl 2 rfl) ?_
                        refine lv_lload hx hb dX10_dual_116 (lv_at hl 5 rfl) ?_
                        refine nx_tl (y := btT (myF R nr) A m0 a0 m0) (by rw [btT_at (by omega), show i0 - 1 = m0 - 1 by omega]) ?_
                        refine lv_ladd hx hb dX10_dual_118 ?_
                        refine lv_lstore_n (lv' := [(2, .long ((slF (fun q => btT (myF R nr) A m0 q m0) 0 a0) + (btT (myF R nr) A m0 a0 m0))), (0, .ref (am 0)), (1, .int (nI j)), (4, .int (nI m0)), (5, .int (nI a0)), (6, .long (slF (fun q => dBl (myF R nr) A (btT (myF R nr) A (m0 - 1)) a0 0 q * dBl (myF R nr) A (btT (myF R nr) A (m0 - 1)) a0 1 (m0 - q)) 1 (i0 - 1))), (8, .int (nI i0))]) hx hb dX10_dual_119 rfl hl (by decide) rfl (fun ls hl => ?_)
                        refine lv_iinc (v := nI (a0 + 1)) (lv' := [(5, .int (nI (a0 + 1))), (2, .long ((slF (fun q => btT (myF R nr) A m0 q m0) 0 a0) + (btT (myF R nr) A m0 a0 m0))), (0, .ref (am 0)), (1, .int (nI j)), (4, .int (nI m0)), (6, .long (slF (fun q => dBl (myF R nr) A (btT (myF R nr) A (m0 - 1)) a0 0 q * dBl (myF R nr) A (btT (myF R nr) A (m0 - 1)) a0 1 (m0 - q)) 1 (i0 - 1))), (8, .int (nI i0))]) hx hb dX10_dual_120 hl (k := 4) rfl (nI_add _ _) (by decide) rfl (fun ls hl => ?_)
                        refine lv_goto (tgt := 45) hx hb dX10_dual_123 (by decide) ?_
                        exact ih45 (a0 + 1) (vp_updL bfa (7 * a0 + m0) (btT (myF R nr) A m0 a0 m0)) _ _ _ _ _ (by omega) (bOKa_s hba (by omega)) hZ hP hS (by omega) (by rw [slF, Nat.zero_add]; exact lv_sub hl [2, 3, 1, 4, 0] rfl)
                      · skip
                        refine lv_lload hx hb dX10_dual_67 (lv_at hl 5 rfl) ?_
                        refine lv_aload_n hx hb dX10_dual_69 rfl (lv_at hl 0 rfl) ?_
                        refine lv_iload hx hb dX10_dual_70 (lv_at hl 4 rfl) ?_
                        refine lv_iconst (v := nI 0) hx hb dX10_dual_72 (by decide) ?_
                        refine lv_iload hx hb dX10_dual_73 (lv_at hl 6 rfl) ?_
                        refine mp_l (As := [.int (nI a0), .int (nI 0), .int (nI i0)]) (rest := [.long (slF (fun q => dBl (myF R nr) A (btT (myF R nr) A (m0 - 1)) a0 0 q * dBl (myF R nr) A (btT (myF R nr) A (m0 - 1)) a0 1 (m0 - q)) 1 (i0 - 1))]) ⟨hx, hb, hml, hown, hts⟩ (k_below l dC dI aC am v R (va_up F 12 my) (va_up G 13 bfa) A hA h4 a0 (by omega) 0 (by omega) (i0) (by omega)) (cwV 3 hts gX10_dual_X10_below rfl rfl rfl (by decide +kernel) ⟨Nat.le_of_ble_eq_true rfl, Nat.le_of_ble_eq_true rfl⟩) hK hZ hP rfl hl.1 rfl (Nat.le_of_ble_eq_true rfl) dX10_dual_75 ⟨Nat.le_of_ble_eq_true rfl, Nat.le_of_ble_eq_true rfl⟩ (fun x_75 h_75 => ?_)
                        subst h_75
                        refine nx_tl (y := dBl (myF R nr) A (btT (myF R nr) A (m0 - 1)) a0 0 i0) (dBl_eq hmy hba.1 (by omega) (by omega) (by omega) (by omega) (by omega)) ?_
                        refine lv_aload_n hx hb dX10_dual_78 rfl (lv_at hl 0 rfl) ?_
                        refine lv_iload hx hb dX10_dual_79 (lv_at hl 4 rfl) ?_
                        refine lv_iconst (v := nI 1) hx hb dX10_dual_81 (by decide) ?_
                        refine lv_iload hx hb dX10_dual_82 (lv_at hl 3 rfl) ?_
                        refine lv_iload hx hb dX10_dual_84 (lv_at hl 6 rfl) ?_
                        refine lv_isub hx hb dX10_dual_86 ?_
                        refine nx_ti (y := nI (m0 - i0)) (pk_sub (by omega)) ?_
                        refine mp_l (As := [.int (nI a0), .int (nI 1), .int (nI (m0 - i0))]) (rest := [.long (dBl (myF R nr) A (btT (myF R nr) A (m0 - 1)) a0 0 i0), .long (slF (fun q => dBl (myF R nr) A (btT (myF R nr) A (m0 - 1)) a0 0 q * dBl (myF R nr) A (btT (myF R nr) A (m0 - 1)) a0 1 (m0 - q)) 1 (i0 - 1))]) ⟨hx, hb, hml, hown, hts⟩ (k_below l dC dI aC am v R (va_up F 12 my) (va_up G 13 bfa) A hA h4 a0 (by omega) 1 (by omega) (m0 - i0) (by omega)) (cwV 3 hts gX10_dual_X10_below rfl rfl rfl (by decide +kernel) ⟨Nat.le_of_ble_eq_true rfl, Nat.le_of_ble_eq_true rfl⟩) hK hZ hP rfl hl.1 rfl (Nat.le_of_ble_eq_true rfl) dX10_dual_87 ⟨Nat.le_of_ble_eq_true rfl, Nat.le_of_ble_eq_true rfl⟩ (fun x_87 h_87 => ?_)
                        subst h_87
                        refine nx_tl (y := dBl (myF R nr) A (btT (myF R nr) A (m0 - 1)) a0 1 (m0 - i0)) (dBl_eq hmy hba.1 (by omega) (by omega) (by omega) (by omega) (by omega)) ?_
                        refine lv_lmul hx hb dX10_dual_90 ?_
                        refine lv_ladd hx hb dX10_dual_91 ?_
                        refine lv_lstore (lv' := [(6, .long ((slF (fun q => dBl (myF R nr) A (btT (myF R nr) A (m0 - 1)) a0 0 q * dBl (myF R nr) A (btT (myF R nr) A (m0 - 1)) a0 1 (m0 - q)) 1 (i0 - 1)) + ((dBl (myF R nr) A (btT (myF R nr) A (m0 - 1)) a0 0 i0) * (dBl (myF R nr) A (btT (myF R nr) A (m0 - 1)) a0 1 (m0 - i0))))), (0, .ref (am 0)), (1, .int (nI j)), (2, .long (slF (fun q => btT (myF R nr) A m0 q m0) 0 a0)), (4, .int (nI m0)), (5, .int (nI a0)), (8, .int (nI i0))]) hx hb dX10_dual_92 hl (by decide) rfl (fun ls hl => ?_)
                        refine lv_iinc (v := nI (i0 + 1)) (lv' := [(8, .int (nI (i0 + 1))), (6, .long ((slF (fun q => dBl (myF R nr) A (btT (myF R nr) A (m0 - 1)) a0 0 q * dBl (myF R nr) A (btT (myF R nr) A (m0 - 1)) a0 1 (m0 - q)) 1 (i0 - 1)) + ((dBl (myF R nr) A (btT (myF R nr) A (m0 - 1)) a0 0 i0) * (dBl (myF R nr) A (btT (myF R nr) A (m0 - 1)) a0 1 (m0 - i0))))), (0, .ref (am 0)), (1, .int (nI j)), (2, .long (slF (fun q => btT (myF R nr) A m0 q m0) 0 a0)), (4, .int (nI m0)), (5, .int (nI a0))]) hx hb dX10_dual_94 hl (k := 6) rfl (nI_add _ _) (by decide) rfl (fun ls hl => ?_)
                        refine lv_goto (tgt := 60) hx hb dX10_dual_97 (by decide) ?_
                        exact ih60 (i0 + 1) _ _ _ _ _ (by omega) (by omega) hZ hP hS (by omega) (by rw [show i0 + 1 - 1 = (i0 - 1) + 1 by omega, slF, show 1 + (i0 - 1) = i0 by omega]; exact lv_sub hl [2, 3, 4, 5, 6, 1, 0] rfl)
                  exact L60 (7 - 1 + 1) 1 _ _ _ _ _ (by omega) (by omega) hZ hP hS (Nat.lt_succ_self _) (lv_sub hl [2, 3, 4, 5, 6, 1, 0] rfl)
            exact L45 (4 - 0 + 1) 0 bf _ _ _ _ _ (by omega) (⟨hbo, fun a9 h9 => absurd h9 (Nat.not_lt_zero a9)⟩) hZ hP hS (Nat.lt_succ_self _) (lv_sub hl [2, 3, 1, 4, 0] rfl)
      exact L34 (7 - 2 + 1) 2 (G 13) _ _ _ _ _ (by omega) (by omega) (by omega) (fun a9 j9 b1 b2 b3 b4 => by omega) hZ hP hS (Nat.lt_succ_self _) (lv_sub hl [2, 3, 1, 0] rfl)
    · skip
      refine lv_ldc2 hx hb hown lk2 dX10_dual_21 ?_
      subst hQ
      exact W.lret (v := (-3)) hx hb hret (fun tq htq hWq => ⟨⟨_, (v, R, F, G), rfl, ⟨F 12, G 13, by rw [up_eta, up_eta], by rw [pDual, if_pos c_7, if_neg c_18]⟩, va_K.moved hWq.alike hK, _, _, hZ, by rw [htq]; exact hP⟩, hS.F htq⟩) hS.2.2 dX10_dual_24
  · skip
    refine lv_ldc2 hx hb hown lk3 dX10_dual_10 ?_
    subst hQ
    exact W.lret (v := (-2)) hx hb hret (fun tq htq hWq => ⟨⟨_, (v, R, F, G), rfl, ⟨F 12, G 13, by rw [up_eta, up_eta], by rw [pDual, if_neg c_7]⟩, va_K.moved hWq.alike hK, _, _, hZ, by rw [htq]; exact hP⟩, hS.F htq⟩) hS.2.2 dX10_dual_13
