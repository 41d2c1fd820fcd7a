set_option maxHeartbeats 1000000 in
set_option maxRecDepth 100000 in
/-- goesTo -/
theorem k_goesTo (l : Launch) (dC : Nat → ClassId) (dI : Nat → Nat → Nat) (aC : Nat → ClassId) (am : Nat → Nat) (hI : mI am) (v : Nat → Int32) (R : Nat → List Int32) (F : Nat → Nat → Int32) (G : Nat → Nat → Int64) (A : Nat) (hE : vE A (F 1)) (n : Nat) (hn : v 4 = nI n) (hn8 : n ≤ 8) (hTl : ∀ j, j < n → isT (F 1) (R (10 + j))) (hVl : ∀ j, j < n → vR A (R (10 + j))) (hl13 : ∀ j, j < n → (R (10 + j)).length ≤ 13) (n0 : Nat) (hn0 : n0 < 2 ^ 31) : Met l yX10_goesTo wsX10_goesTo ({ frames := 3, cells := 0, slots := 0, locals := 78 } : Room) (va_Pc [.ref (am 0), .int (nI n0)] (MB dC dI aC am (v, R, F, G))) (va_Qi (fun (x : Int32) (u : MS) => (∀ s M, (ovL (F 1) R n)[n0]? = some (s, M) → x = nI n0 ∧ (va_up (va_up (va_up v 13 (nI (s / 104))) 14 (nI (s / 13 % 8))) 15 (nI (s % 13)), va_up R 27 M, F, G) = u) ∧ (∃ M, (ovL (F 1) R n).length ≤ n0 → x = nI (ovL (F 1) R n).length ∧ (v, va_up R 27 M, F, G) = u)) (MB dC dI aC am) (mA am)) 0 0 (mA am) := by
  refine Met.ofW (cc := cX10_goesTo) (maxL := 6) (ret := (some .int)) (by decide) rfl ?_
  intro p e s m args below meth c s₁ B hml hv
  obtain ⟨rfl, hK, S, Z, hZ, hP⟩ := hv
  have hx := B.exec
  have hb := B.bytes
  have hret := B.returns
  have hts := atoms_spec (ws := wsX10_goesTo) B.pre
  have hown : s.vm.findClass RX10 = some m.cls := findClass_of_methodNamed B.named
  have hlocks := B.notSynchronized
  dsimp only at hZ hP
  have lk0 := hts (.fieldLink RX10 102 "LeafTreesModel" "rules" "I") (by decide +kernel)
  have lk1 := hts (.fieldLink RX10 16 "LeafTreesModel" "size" "[I") (by decide +kernel)
  have lk2 := hts (.fieldLink RX10 13 "LeafTreesModel" "symbol" "[I") (by decide +kernel)
  have lk3 := hts (.fieldLink RX10 159 "LeafTreesModel" "overlapP" "I") (by decide +kernel)
  have lk4 := hts (.fieldLink RX10 162 "LeafTreesModel" "overlapQ" "I") (by decide +kernel)
  have lk5 := hts (.fieldLink RX10 165 "LeafTreesModel" "overlapU" "I") (by decide +kernel)
  have hin10 : ∀ w ∈ u_ws RX10 TX10 22, w ∈ wsX10_goesTo := by decide +kernel
  have hS : va_S (mA am) s.heap s.heap [] := va_S.rf
  have hl := lv_entry [.ref (am 0), .int (nI n0)] (n := 6) (Nat.le_of_ble_eq_true rfl)
  rw [lg_entry_eq]
  generalize (lg_sl [.ref (am 0), .int (nI n0)] ++ List.replicate (6 - (lg_sl [.ref (am 0), .int (nI n0)]).length) Slot.unset).toArray = ls at hl ⊢
  have hl : lv_has ls 6 [(0, .ref (am 0)), (1, .int (nI n0))] := hl
  refine nx_Q (R := ({ frames := 3, cells := 0, slots := 0, locals := 78 } : Room)) (fun Q hQ => ?_)
  skip
  refine lv_iconst (v := nI 0) hx hb dX10_goesTo_0 (by decide) ?_
  refine lv_istore_n (lv' := [(2, .int (nI 0)), (0, .ref (am 0)), (1, .int (nI n0))]) hx hb dX10_goesTo_1 rfl hl (by decide) rfl (fun ls hl => ?_)
  refine lv_iconst (v := nI 0) hx hb dX10_goesTo_2 (by decide) ?_
  refine lv_istore_n (lv' := [(3, .int (nI 0)), (2, .int (nI 0)), (0, .ref (am 0)), (1, .int (nI n0))]) hx hb dX10_goesTo_3 rfl hl (by decide) rfl (fun ls hl => ?_)
  have L4 : ∀ (fuel4 : Nat) (po : Nat) (M : List Int32) (S Z : Nat → Int32) (H : Heap) (locs : List Loc) (ls : Array Slot), (po ≤ n) → ((ovS (F 1) R n ((po * 8) * 13)).length ≤ n0) → mOK S Z (va_up R 27 M) → va_P (dC, dI) vwCl (wsM aC am v S Z F G) H → va_S (mA am) s.heap H locs → 8 - po < fuel4 → lv_has ls 6 [(0, .ref (am 0)), (1, .int (nI n0)), (2, .int (nI (ovS (F 1) R n ((po * 8) * 13)).length)), (3, .int (nI po))] → W p l e ({ frames := 3, cells := 0, slots := 0, locals := 78 } : Room) s m ([.ref (am 0), .int (nI n0)] : List Value).toArray below meth c H locs 0 0 Q (F0 m 4 ls []) := by
    intro fuel4
    induction fuel4 with
    | zero => intro po M S Z H locs ls hp0 hle0 hZ hP hS hf4 hl; exact absurd hf4 (Nat.not_lt_zero _)
    | succ fuel4 ih4 =>
      intro po M S Z H locs ls hp0 hle0 hZ hP hS hf4 hl
      have hb0 := ovS_lt (E := F 1) (R := R) (n := n) (s := (po * 8) * 13) (by omega)
      refine lv_iload_n hx hb dX10_goesTo_4 rfl (lv_at hl 3 rfl) ?_
      refine lv_aload_n hx hb dX10_goesTo_5 rfl (lv_at hl 0 rfl) ?_
      refine va_get (D := (dC, dI)) (ci := 10) (C := RX10) (T := TX10) (N := 22) hx hb hts hin10 hown hK hP 0 rfl rfl 4 (by decide) lk0 (fun _ h9 => h9) rfl dX10_goesTo_6 ?_
      refine nx_ti (y := nI n) (hn) ?_
      refine nx_icmp_ge (a := po) (b := n) (tgt := 128) hx hb dX10_goesTo_9 (by decide) (by omega) (by omega) (fun c_9 => ?_) (fun c_9 => ?_)
      · skip
        refine lv_iload_n hx hb dX10_goesTo_128 rfl (lv_at hl 2 rfl) ?_
        subst hQ
        exact W.iret (v := nI (ovS (F 1) R n ((po * 8) * 13)).length) hx hb hret (fun tq htq hWq => ⟨⟨_, (v, va_up R 27 M, F, G), rfl, ⟨fun s M hs => by have h2 := (List.getElem?_eq_some_iff.mp hs).1; rw [ovS_end (p := po) (by omega) (by omega)] at h2; omega, M, fun _ => by rw [ovS_end (p := po) (by omega) (by omega)]; exact ⟨rfl, rfl⟩⟩, va_K.moved hWq.alike hK, _, _, hZ, by rw [htq]; exact hP⟩, hS.F htq⟩) hS.2.2 dX10_goesTo_129
      · skip
        refine lv_iconst (v := nI 0) hx hb dX10_goesTo_12 (by decide) ?_
        refine lv_istore (lv' := [(4, .int (nI 0)), (0, .ref (am 0)), (1, .int (nI n0)), (2, .int (nI (ovS (F 1) R n ((po * 8) * 13)).length)), (3, .int (nI po))]) hx hb dX10_goesTo_13 hl (by decide) rfl (fun ls hl => ?_)
        have L15 : ∀ (fuel15 : Nat) (qo : Nat) (M : List Int32) (S Z : Nat → Int32) (H : Heap) (locs : List Loc) (ls : Array Slot), (qo ≤ n) → ((ovS (F 1) R n ((po * 8 + qo) * 13)).length ≤ n0) → mOK S Z (va_up R 27 M) → va_P (dC, dI) vwCl (wsM aC am v S Z F G) H → va_S (mA am) s.heap H locs → 8 - qo < fuel15 → lv_has ls 6 [(0, .ref (am 0)), (1, .int (nI n0)), (2, .int (nI (ovS (F 1) R n ((po * 8 + qo) * 13)).length)), (3, .int (nI po)), (4, .int (nI qo))] → W p l e ({ frames := 3, cells := 0, slots := 0, locals := 78 } : Room) s m ([.ref (am 0), .int (nI n0)] : List Value).toArray below meth c H locs 0 0 Q (F0 m 15 ls []) := by
          intro fuel15
          induction fuel15 with
          | zero => intro qo M S Z H locs ls hq0 hle1 hZ hP hS hf15 hl; exact absurd hf15 (Nat.not_lt_zero _)
          | succ fuel15 ih15 =>
            intro qo M S Z H locs ls hq0 hle1 hZ hP hS hf15 hl
            refine lv_iload hx hb dX10_goesTo_15 (lv_at hl 4 rfl) ?_
            refine lv_aload_n hx hb dX10_goesTo_17 rfl (lv_at hl 0 rfl) ?_
            refine va_get (D := (dC, dI)) (ci := 10) (C := RX10) (T := TX10) (N := 22) hx hb hts hin10 hown hK hP 0 rfl rfl 4 (by decide) lk0 (fun _ h9 => h9) rfl dX10_goesTo_18 ?_
            refine nx_ti (y := nI n) (hn) ?_
            refine nx_icmp_ge (a := qo) (b := n) (tgt := 122) hx hb dX10_goesTo_21 (by decide) (by omega) (by omega) (fun c_21 => ?_) (fun c_21 => ?_)
            · skip
              refine lv_iinc (v := nI (po + 1)) (lv' := [(3, .int (nI (po + 1))), (0, .ref (am 0)), (1, .int (nI n0)), (2, .int (nI (ovS (F 1) R n ((po * 8 + qo) * 13)).length)), (4, .int (nI qo))]) hx hb dX10_goesTo_122 hl (k := 3) rfl (nI_add _ _) (by decide) rfl (fun ls hl => ?_)
              refine lv_goto (tgt := 4) hx hb dX10_goesTo_125 (by decide) ?_
              exact ih4 (po + 1) M _ _ _ _ _ (by omega) (by rw [ovS_p (by omega) c_21]; exact hle1) hZ hP hS (by omega) (by rw [ovS_p (show qo ≤ 8 by omega) c_21]; exact lv_sub hl [1, 2, 3, 0] rfl)
            · skip
              refine lv_iconst (v := nI 0) hx hb dX10_goesTo_24 (by decide) ?_
              refine lv_istore (lv' := [(5, .int (nI 0)), (0, .ref (am 0)), (1, .int (nI n0)), (2, .int (nI (ovS (F 1) R n ((po * 8 + qo) * 13)).length)), (3, .int (nI po)), (4, .int (nI qo))]) hx hb dX10_goesTo_25 hl (by decide) rfl (fun ls hl => ?_)
              have L27 : ∀ (fuel27 : Nat) (w : Nat) (M : List Int32) (S Z : Nat → Int32) (H : Heap) (locs : List Loc) (ls : Array Slot), (w ≤ (R (10 + po)).length) → ((ovS (F 1) R n ((po * 8 + qo) * 13 + w)).length ≤ n0) → mOK S Z (va_up R 27 M) → va_P (dC, dI) vwCl (wsM aC am v S Z F G) H → va_S (mA am) s.heap H locs → 13 - w < fuel27 → lv_has ls 6 [(0, .ref (am 0)), (1, .int (nI n0)), (2, .int (nI (ovS (F 1) R n ((po * 8 + qo) * 13 + w)).length)), (3, .int (nI po)), (4, .int (nI qo)), (5, .int (nI w))] → W p l e ({ frames := 3, cells := 0, slots := 0, locals := 78 } : Room) s m ([.ref (am 0), .int (nI n0)] : List Value).toArray below meth c H locs 0 0 Q (F0 m 27 ls []) := by
                intro fuel27
                induction fuel27 with
                | zero => intro w M S Z H locs ls hw0 hle hZ hP hS hf27 hl; exact absurd hf27 (Nat.not_lt_zero _)
                | succ fuel27 ih27 =>
                  intro w M S Z H locs ls hw0 hle hZ hP hS hf27 hl
                  have h13 := hl13 po (by omega)
                  have hb2 := ovS_lt (E := F 1) (R := R) (n := n) (s := (po * 8 + qo) * 13 + w) (by omega)
                  refine lv_iload hx hb dX10_goesTo_27 (lv_at hl 5 rfl) ?_
                  refine lv_aload_n hx hb dX10_goesTo_29 rfl (lv_at hl 0 rfl) ?_
                  refine va_get (D := (dC, dI)) (ci := 10) (C := RX10) (T := TX10) (N := 22) hx hb hts hin10 hown hK hP 0 rfl rfl 3 (by decide) lk1 (fun _ h9 => h9) rfl dX10_goesTo_30 ?_
                  refine lv_bipush (v := nI 10) hx hb dX10_goesTo_33 (by decide) ?_
                  refine lv_iload_n hx hb dX10_goesTo_35 rfl (lv_at hl 3 rfl) ?_
                  refine lv_iadd hx hb dX10_goesTo_36 ?_
                  refine nx_ti (y := nI (10 + po)) (nI_add _ _) ?_
                  refine nx_iald hx hb hK hP 3 0 rfl rfl (i := 10 + po) (by omega) (by decide) dX10_goesTo_37 ?_
                  refine nx_ti (y := nI ((va_up R 27 M) (10 + po)).length) ((hZ (10 + po) (by omega)).2.1) ?_
                  refine nx_ti (y := nI (R (10 + po)).length) (by rw [upn (show 10 + po ≠ 27 by omega)]) ?_
                  refine nx_icmp_ge (a := w) (b := (R (10 + po)).length) (tgt := 116) hx hb dX10_goesTo_38 (by decide) (by omega) (by omega) (fun c_38 => ?_) (fun c_38 => ?_)
                  · skip
                    refine lv_iinc (v := nI (qo + 1)) (lv' := [(4, .int (nI (qo + 1))), (0, .ref (am 0)), (1, .int (nI n0)), (2, .int (nI (ovS (F 1) R n ((po * 8 + qo) * 13 + w)).length)), (3, .int (nI po)), (5, .int (nI w))]) hx hb dX10_goesTo_116 hl (k := 4) rfl (nI_add _ _) (by decide) rfl (fun ls hl => ?_)
                    refine lv_goto (tgt := 15) hx hb dX10_goesTo_119 (by decide) ?_
                    exact ih15 (qo + 1) M _ _ _ _ _ (by omega) (by rw [ovS_q (by omega) (by omega) c_38]; exact hle) hZ hP hS (by omega) (by rw [ovS_q (show qo < 8 by omega) (show w ≤ 13 by omega) c_38]; exact lv_sub hl [1, 2, 3, 4, 0] rfl)
                  · skip
                    refine lv_aload_n hx hb dX10_goesTo_41 rfl (lv_at hl 0 rfl) ?_
                    refine va_get (D := (dC, dI)) (ci := 10) (C := RX10) (T := TX10) (N := 22) hx hb hts hin10 hown hK hP 0 rfl rfl 2 (by decide) lk2 (fun _ h9 => h9) rfl dX10_goesTo_42 ?_
                    refine lv_bipush (v := nI 60) hx hb dX10_goesTo_45 (by decide) ?_
                    refine lv_bipush (v := nI 10) hx hb dX10_goesTo_47 (by decide) ?_
                    refine lv_iload_n hx hb dX10_goesTo_49 rfl (lv_at hl 3 rfl) ?_
                    refine lv_iadd hx hb dX10_goesTo_50 ?_
                    refine nx_ti (y := nI (10 + po)) (nI_add _ _) ?_
                    refine lv_imul hx hb dX10_goesTo_51 ?_
                    refine nx_ti (y := nI (60 * (10 + po))) (pk_mul _ _) ?_
                    refine lv_iload hx hb dX10_goesTo_52 (lv_at hl 5 rfl) ?_
                    refine lv_iadd hx hb dX10_goesTo_54 ?_
                    refine nx_ti (y := nI (60 * (10 + po) + w)) (nI_add _ _) ?_
                    refine nx_iald hx hb hK hP 2 0 rfl rfl (i := 60 * (10 + po) + w) (by omega) (by decide) dX10_goesTo_55 ?_
                    refine nx_ti (y := gD ((va_up R 27 M) (10 + po)) w) ((hZ (10 + po) (by omega)).2.2 w (by rw [upn (show 10 + po ≠ 27 by omega)]; omega)) ?_
                    refine nx_ti (y := gD (R (10 + po)) w) (by rw [upn (show 10 + po ≠ 27 by omega)]) ?_
                    refine lv_iconst (v := (-1)) hx hb dX10_goesTo_56 (by decide) ?_
                    refine lv_icmp_eq (tgt := 110) hx hb dX10_goesTo_57 (by decide) (fun c_57 => ?_) (fun c_57 => ?_)
                    · skip
                      refine lv_iinc (v := nI (w + 1)) (lv' := [(5, .int (nI (w + 1))), (0, .ref (am 0)), (1, .int (nI n0)), (2, .int (nI (ovS (F 1) R n ((po * 8 + qo) * 13 + w)).length)), (3, .int (nI po)), (4, .int (nI qo))]) hx hb dX10_goesTo_110 hl (k := 5) rfl (nI_add _ _) (by decide) rfl (fun ls hl => ?_)
                      refine lv_goto (tgt := 27) hx hb dX10_goesTo_113 (by decide) ?_
                      have hov : ovA (F 1) R n ((po * 8 + qo) * 13 + w) = none := ovA_no (by omega) (by omega) (fun h => h.2.2.2.1 c_57)
                      exact ih27 (w + 1) M _ _ _ _ _ (by omega) (by rw [← Nat.add_assoc, ovS_n hov]; exact hle) hZ hP hS (by omega) (by rw [← Nat.add_assoc (_ * 13), ovS_n hov]; exact lv_sub hl [1, 2, 3, 4, 5, 0] rfl)
                    · skip
                      refine lv_iload hx hb dX10_goesTo_60 (lv_at hl 5 rfl) ?_
                      refine nx_if_gt (tgt := 71) hx hb dX10_goesTo_62 (by decide) (by omega) (fun c_62 => ?_) (fun c_62 => ?_)
                      · skip
                        have hcnd : po < n ∧ qo < n ∧ w < (R (10 + po)).length ∧ gD (R (10 + po)) w ≠ -1 ∧ (0 < w ∨ po < qo) := ⟨by omega, by omega, by omega, c_57, by omega⟩
                        refine lv_aload_n hx hb dX10_goesTo_71 rfl (lv_at hl 0 rfl) ?_
                        refine lv_iload_n hx hb dX10_goesTo_72 rfl (lv_at hl 3 rfl) ?_
                        refine lv_iload hx hb dX10_goesTo_73 (lv_at hl 4 rfl) ?_
                        refine lv_iload hx hb dX10_goesTo_75 (lv_at hl 5 rfl) ?_
                        refine mc_i (As := [.int (nI po), .int (nI qo), .int (nI w)]) (rest := []) ⟨hx, hb, hml, hown, hts⟩ (k_meetsAt l dC dI aC am hI v (va_up R 27 M) F G A hE po (by omega) qo (by omega) w (by rw [upn (show 10 + po ≠ 27 by omega)]; omega) (by rw [upn (show 10 + po ≠ 27 by omega)]; exact hVl po (by omega)) (by rw [upn (show 10 + qo ≠ 27 by omega)]; exact hVl qo (by omega)) (by rw [upn (show 10 + po ≠ 27 by omega)]; exact hTl po (by omega)) (by rw [upn (show 10 + qo ≠ 27 by omega)]; exact hTl qo (by omega)) (by rw [upn (show 10 + po ≠ 27 by omega)]; exact h13) (by rw [upn (show 10 + qo ≠ 27 by omega)]; exact hl13 qo (by omega))) (cwV 3 hts gX10_goesTo_X10_meetsAt rfl rfl rfl (by decide +kernel) ⟨Nat.le_of_ble_eq_true rfl, Nat.le_of_ble_eq_true rfl⟩) hK hZ hP hS rfl hl.1 rfl (Nat.le_of_ble_eq_true rfl) dX10_goesTo_77 ⟨Nat.le_of_ble_eq_true rfl, Nat.le_of_ble_eq_true rfl⟩ (fun x_77 v1 R1 F1 G1 S Z H locs h_77 hZ hP hS => ?_)
                        obtain ⟨Mn, hu_77, hx_77, hM_77⟩ := h_77
                        rw [up_up] at hu_77
                        rw [upn (show 10 + po ≠ 27 by omega), upn (show 10 + qo ≠ 27 by omega)] at hx_77 hM_77
                        subst hx_77
                        cases hu_77
                        refine nx_bz (tgt := 110) hx hb dX10_goesTo_80 (by decide) (fun c_80 => ?_) (fun c_80 => ?_)
                        · skip
                          refine lv_iinc (v := nI (w + 1)) (lv' := [(5, .int (nI (w + 1))), (0, .ref (am 0)), (1, .int (nI n0)), (2, .int (nI (ovS (F 1) R n ((po * 8 + qo) * 13 + w)).length)), (3, .int (nI po)), (4, .int (nI qo))]) hx hb dX10_goesTo_110 hl (k := 5) rfl (nI_add _ _) (by decide) rfl (fun ls hl => ?_)
                          refine lv_goto (tgt := 27) hx hb dX10_goesTo_113 (by decide) ?_
                          have hov : ovA (F 1) R n ((po * 8 + qo) * 13 + w) = none := (ovA_yes (by omega) (by omega) hcnd).trans (by simpa using c_80)
                          exact ih27 (w + 1) Mn _ _ _ _ _ (by omega) (by rw [← Nat.add_assoc, ovS_n hov]; exact hle) hZ hP hS (by omega) (by rw [← Nat.add_assoc (_ * 13), ovS_n hov]; exact lv_sub hl [1, 2, 3, 4, 5, 0] rfl)
                        · skip
                          obtain ⟨N, hN⟩ := Option.isSome_iff_exists.mp c_80
                          have hov : ovA (F 1) R n ((po * 8 + qo) * 13 + w) = some N := (ovA_yes (by omega) (by omega) hcnd).trans hN
                          have hMN := hM_77 N hN
                          subst hMN
                          refine lv_iload_n hx hb dX10_goesTo_83 rfl (lv_at hl 2 rfl) ?_
                          refine lv_iload_n hx hb dX10_goesTo_84 rfl (lv_at hl 1 rfl) ?_
                          refine nx_icmp_ne (a := (ovS (F 1) R n ((po * 8 + qo) * 13 + w)).length) (b := n0) (tgt := 107) hx hb dX10_goesTo_85 (by decide) (by omega) (by omega) (fun c_85 => ?_) (fun c_85 => ?_)
                          · skip
                            refine lv_iinc (v := nI ((ovS (F 1) R n ((po * 8 + qo) * 13 + w)).length + 1)) (lv' := [(2, .int (nI ((ovS (F 1) R n ((po * 8 + qo) * 13 + w)).length + 1))), (0, .ref (am 0)), (1, .int (nI n0)), (3, .int (nI po)), (4, .int (nI qo)), (5, .int (nI w))]) hx hb dX10_goesTo_107 hl (k := 2) rfl (nI_add _ _) (by decide) rfl (fun ls hl => ?_)
                            refine lv_iinc (v := nI (w + 1)) (lv' := [(5, .int (nI (w + 1))), (2, .int (nI ((ovS (F 1) R n ((po * 8 + qo) * 13 + w)).length + 1))), (0, .ref (am 0)), (1, .int (nI n0)), (3, .int (nI po)), (4, .int (nI qo))]) hx hb dX10_goesTo_110 hl (k := 5) rfl (nI_add _ _) (by decide) rfl (fun ls hl => ?_)
                            refine lv_goto (tgt := 27) hx hb dX10_goesTo_113 (by decide) ?_
                            exact ih27 (w + 1) Mn _ _ _ _ _ (by omega) (by rw [← Nat.add_assoc, ovS_y hov, List.length_append, List.length_singleton]; omega) hZ hP hS (by omega) (by rw [← Nat.add_assoc (_ * 13), ovS_y hov, List.length_append, List.length_singleton]; exact lv_sub hl [2, 3, 1, 4, 5, 0] rfl)
                          · skip
                            refine lv_aload_n hx hb dX10_goesTo_88 rfl (lv_at hl 0 rfl) ?_
                            refine lv_iload_n hx hb dX10_goesTo_89 rfl (lv_at hl 3 rfl) ?_
                            refine va_put (D := (dC, dI)) (ci := 10) (v := .int (nI po)) (ty := .int) (C := RX10) (T := TX10) (N := 22) hx hb hts hin10 tyX10 tyX10_ok nmX10 hown hK hP (wsM_D hI) hS 0 rfl rfl 13 (by decide) lk3 (fun _ h9 => h9) rfl (by decide +kernel) rfl rfl (Nat.le_of_ble_eq_true rfl) dX10_goesTo_90 (fun H locs hP _ hS => ?_)
                            have hP : va_P (dC, dI) vwCl (wsM aC am (va_up v 13 (nI po)) S Z F G) H := hP
                            refine lv_aload_n hx hb dX10_goesTo_93 rfl (lv_at hl 0 rfl) ?_
                            refine lv_iload hx hb dX10_goesTo_94 (lv_at hl 4 rfl) ?_
                            refine va_put (D := (dC, dI)) (ci := 10) (v := .int (nI qo)) (ty := .int) (C := RX10) (T := TX10) (N := 22) hx hb hts hin10 tyX10 tyX10_ok nmX10 hown hK hP (wsM_D hI) hS 0 rfl rfl 14 (by decide) lk4 (fun _ h9 => h9) rfl (by decide +kernel) rfl rfl (Nat.le_of_ble_eq_true rfl) dX10_goesTo_96 (fun H locs hP _ hS => ?_)
                            have hP : va_P (dC, dI) vwCl (wsM aC am (va_up (va_up v 13 (nI po)) 14 (nI qo)) S Z F G) H := hP
                            refine lv_aload_n hx hb dX10_goesTo_99 rfl (lv_at hl 0 rfl) ?_
                            refine lv_iload hx hb dX10_goesTo_100 (lv_at hl 5 rfl) ?_
                            refine va_put (D := (dC, dI)) (ci := 10) (v := .int (nI w)) (ty := .int) (C := RX10) (T := TX10) (N := 22) hx hb hts hin10 tyX10 tyX10_ok nmX10 hown hK hP (wsM_D hI) hS 0 rfl rfl 15 (by decide) lk5 (fun _ h9 => h9) rfl (by decide +kernel) rfl rfl (Nat.le_of_ble_eq_true rfl) dX10_goesTo_102 (fun H locs hP _ hS => ?_)
                            have hP : va_P (dC, dI) vwCl (wsM aC am (va_up (va_up (va_up v 13 (nI po)) 14 (nI qo)) 15 (nI w)) S Z F G) H := hP
                            refine lv_iload_n hx hb dX10_goesTo_105 rfl (lv_at hl 2 rfl) ?_
                            subst hQ
                            exact W.iret (v := nI (ovS (F 1) R n ((po * 8 + qo) * 13 + w)).length) hx hb hret (fun tq htq hWq => ⟨⟨_, ((va_up (va_up (va_up v 13 (nI po)) 14 (nI qo)) 15 (nI w)), va_up R 27 Mn, F, G), rfl, ⟨fun s M hs => by rw [← c_85, ovL_at (by omega) hov] at hs; cases hs; obtain ⟨e1, e2, e3⟩ := spot_d (p := po) (show w < 13 by omega) (show qo < 8 by omega); rw [e1, e2, e3, ← c_85]; exact ⟨rfl, rfl⟩, [], fun h => by have h1 := ovL_at (show (po * 8 + qo) * 13 + w < 832 by omega) hov; have h2 := (List.getElem?_eq_some_iff.mp h1).1; omega⟩, va_K.moved hWq.alike hK, _, _, hZ, by rw [htq]; exact hP⟩, hS.F htq⟩) hS.2.2 dX10_goesTo_106
                      · skip
                        refine lv_iload_n hx hb dX10_goesTo_65 rfl (lv_at hl 3 rfl) ?_
                        refine lv_iload hx hb dX10_goesTo_66 (lv_at hl 4 rfl) ?_
                        refine nx_icmp_ge (a := po) (b := qo) (tgt := 110) hx hb dX10_goesTo_68 (by decide) (by omega) (by omega) (fun c_68 => ?_) (fun c_68 => ?_)
                        · skip
                          refine lv_iinc (v := nI (w + 1)) (lv' := [(5, .int (nI (w + 1))), (0, .ref (am 0)), (1, .int (nI n0)), (2, .int (nI (ovS (F 1) R n ((po * 8 + qo) * 13 + w)).length)), (3, .int (nI po)), (4, .int (nI qo))]) hx hb dX10_goesTo_110 hl (k := 5) rfl (nI_add _ _) (by decide) rfl (fun ls hl => ?_)
                          refine lv_goto (tgt := 27) hx hb dX10_goesTo_113 (by decide) ?_
                          have hov : ovA (F 1) R n ((po * 8 + qo) * 13 + w) = none := ovA_no (by omega) (by omega) (fun h => by omega)
                          exact ih27 (w + 1) M _ _ _ _ _ (by omega) (by rw [← Nat.add_assoc, ovS_n hov]; exact hle) hZ hP hS (by omega) (by rw [← Nat.add_assoc (_ * 13), ovS_n hov]; exact lv_sub hl [1, 2, 3, 4, 5, 0] rfl)
                        · skip
                          have hcnd : po < n ∧ qo < n ∧ w < (R (10 + po)).length ∧ gD (R (10 + po)) w ≠ -1 ∧ (0 < w ∨ po < qo) := ⟨by omega, by omega, by omega, c_57, by omega⟩
                          refine lv_aload_n hx hb dX10_goesTo_71 rfl (lv_at hl 0 rfl) ?_
                          refine lv_iload_n hx hb dX10_goesTo_72 rfl (lv_at hl 3 rfl) ?_
                          refine lv_iload hx hb dX10_goesTo_73 (lv_at hl 4 rfl) ?_
                          refine lv_iload hx hb dX10_goesTo_75 (lv_at hl 5 rfl) ?_
                          refine mc_i (As := [.int (nI po), .int (nI qo), .int (nI w)]) (rest := []) ⟨hx, hb, hml, hown, hts⟩ (k_meetsAt l dC dI aC am hI v (va_up R 27 M) F G A hE po (by omega) qo (by omega) w (by rw [upn (show 10 + po ≠ 27 by omega)]; omega) (by rw [upn (show 10 + po ≠ 27 by omega)]; exact hVl po (by omega)) (by rw [upn (show 10 + qo ≠ 27 by omega)]; exact hVl qo (by omega)) (by rw [upn (show 10 + po ≠ 27 by omega)]; exact hTl po (by omega)) (by rw [upn (show 10 + qo ≠ 27 by omega)]; exact hTl qo (by omega)) (by rw [upn (show 10 + po ≠ 27 by omega)]; exact h13) (by rw [upn (show 10 + qo ≠ 27 by omega)]; exact hl13 qo (by omega))) (cwV 3 hts gX10_goesTo_X10_meetsAt rfl rfl rfl (by decide +kernel) ⟨Nat.le_of_ble_eq_true rfl, Nat.le_of_ble_eq_true rfl⟩) hK hZ hP hS rfl hl.1 rfl (Nat.le_of_ble_eq_true rfl) dX10_goesTo_77 ⟨Nat.le_of_ble_eq_true rfl, Nat.le_of_ble_eq_true rfl⟩ (fun x_77 v2 R2 F2 G2 S Z H locs h_77 hZ hP hS => ?_)
                          obtain ⟨Mn, hu_77, hx_77, hM_77⟩ := h_77
                          rw [up_up] at hu_77
                          rw [upn (show 10 + po ≠ 27 by omega), upn (show 10 + qo ≠ 27 by omega)] at hx_77 hM_77
                          subst hx_77
                          cases hu_77
                          refine nx_bz (tgt := 110) hx hb dX10_goesTo_80 (by decide) (fun c_80 => ?_) (fun c_80 => ?_)
                          · skip
                            refine lv_iinc (v := nI (w + 1)) (lv' := [(5, .int (nI (w + 1))), (0, .ref (am 0)), (1, .int (nI n0)), (2, .int (nI (ovS (F 1) R n ((po * 8 + qo) * 13 + w)).length)), (3, .int (nI po)), (4, .int (nI qo))]) hx hb dX10_goesTo_110 hl (k := 5) rfl (nI_add _ _) (by decide) rfl (fun ls hl => ?_)
                            refine lv_goto (tgt := 27) hx hb dX10_goesTo_113 (by decide) ?_
                            have hov : ovA (F 1) R n ((po * 8 + qo) * 13 + w) = none := (ovA_yes (by omega) (by omega) hcnd).trans (by simpa using c_80)
                            exact ih27 (w + 1) Mn _ _ _ _ _ (by omega) (by rw [← Nat.add_assoc, ovS_n hov]; exact hle) hZ hP hS (by omega) (by rw [← Nat.add_assoc (_ * 13), ovS_n hov]; exact lv_sub hl [1, 2, 3, 4, 5, 0] rfl)
                          · skip
                            obtain ⟨N, hN⟩ := Option.isSome_iff_exists.mp c_80
                            have hov : ovA (F 1) R n ((po * 8 + qo) * 13 + w) = some N := (ovA_yes (by omega) (by omega) hcnd).trans hN
                            have hMN := hM_77 N hN
                            subst hMN
                            refine lv_iload_n hx hb dX10_goesTo_83 rfl (lv_at hl 2 rfl) ?_
                            refine lv_iload_n hx hb dX10_goesTo_84 rfl (lv_at hl 1 rfl) ?_
                            refine nx_icmp_ne (a := (ovS (F 1) R n ((po * 8 + qo) * 13 + w)).length) (b := n0) (tgt := 107) hx hb dX10_goesTo_85 (by decide) (by omega) (by omega) (fun c_85 => ?_) (fun c_85 => ?_)
                            · skip
                              refine lv_iinc (v := nI ((ovS (F 1) R n ((po * 8 + qo) * 13 + w)).length + 1)) (lv' := [(2, .int (nI ((ovS (F 1) R n ((po * 8 + qo) * 13 + w)).length + 1))), (0, .ref (am 0)), (1, .int (nI n0)), (3, .int (nI po)), (4, .int (nI qo)), (5, .int (nI w))]) hx hb dX10_goesTo_107 hl (k := 2) rfl (nI_add _ _) (by decide) rfl (fun ls hl => ?_)
                              refine lv_iinc (v := nI (w + 1)) (lv' := [(5, .int (nI (w + 1))), (2, .int (nI ((ovS (F 1) R n ((po * 8 + qo) * 13 + w)).length + 1))), (0, .ref (am 0)), (1, .int (nI n0)), (3, .int (nI po)), (4, .int (nI qo))]) hx hb dX10_goesTo_110 hl (k := 5) rfl (nI_add _ _) (by decide) rfl (fun ls hl => ?_)
                              refine lv_goto (tgt := 27) hx hb dX10_goesTo_113 (by decide) ?_
                              exact ih27 (w + 1) Mn _ _ _ _ _ (by omega) (by rw [← Nat.add_assoc, ovS_y hov, List.length_append, List.length_singleton]; omega) hZ hP hS (by omega) (by rw [← Nat.add_assoc (_ * 13), ovS_y hov, List.length_append, List.length_singleton]; exact lv_sub hl [2, 3, 1, 4, 5, 0] rfl)
                            · skip
                              refine lv_aload_n hx hb dX10_goesTo_88 rfl (lv_at hl 0 rfl) ?_
                              refine lv_iload_n hx hb dX10_goesTo_89 rfl (lv_at hl 3 rfl) ?_
                              refine va_put (D := (dC, dI)) (ci := 10) (v := .int (nI po)) (ty := .int) (C := RX10) (T := TX10) (N := 22) hx hb hts hin10 tyX10 tyX10_ok nmX10 hown hK hP (wsM_D hI) hS 0 rfl rfl 13 (by decide) lk3 (fun _ h9 => h9) rfl (by decide +kernel) rfl rfl (Nat.le_of_ble_eq_true rfl) dX10_goesTo_90 (fun H locs hP _ hS => ?_)
                              have hP : va_P (dC, dI) vwCl (wsM aC am (va_up v 13 (nI po)) S Z F G) H := hP
                              refine lv_aload_n hx hb dX10_goesTo_93 rfl (lv_at hl 0 rfl) ?_
                              refine lv_iload hx hb dX10_goesTo_94 (lv_at hl 4 rfl) ?_
                              refine va_put (D := (dC, dI)) (ci := 10) (v := .int (nI qo)) (ty := .int) (C := RX10) (T := TX10) (N := 22) hx hb hts hin10 tyX10 tyX10_ok nmX10 hown hK hP (wsM_D hI) hS 0 rfl rfl 14 (by decide) lk4 (fun _ h9 => h9) rfl (by decide +kernel) rfl rfl (Nat.le_of_ble_eq_true rfl) dX10_goesTo_96 (fun H locs hP _ hS => ?_)
                              have hP : va_P (dC, dI) vwCl (wsM aC am (va_up (va_up v 13 (nI po)) 14 (nI qo)) S Z F G) H := hP
                              refine lv_aload_n hx hb dX10_goesTo_99 rfl (lv_at hl 0 rfl) ?_
                              refine lv_iload hx hb dX10_goesTo_100 (lv_at hl 5 rfl) ?_
                              refine va_put (D := (dC, dI)) (ci := 10) (v := .int (nI w)) (ty := .int) (C := RX10) (T := TX10) (N := 22) hx hb hts hin10 tyX10 tyX10_ok nmX10 hown hK hP (wsM_D hI) hS 0 rfl rfl 15 (by decide) lk5 (fun _ h9 => h9) rfl (by decide +kernel) rfl rfl (Nat.le_of_ble_eq_true rfl) dX10_goesTo_102 (fun H locs hP _ hS => ?_)
                              have hP : va_P (dC, dI) vwCl (wsM aC am (va_up (va_up (va_up v 13 (nI po)) 14 (nI qo)) 15 (nI w)) S Z F G) H := hP
                              refine lv_iload_n hx hb dX10_goesTo_105 rfl (lv_at hl 2 rfl) ?_
                              subst hQ
                              exact W.iret (v := nI (ovS (F 1) R n ((po * 8 + qo) * 13 + w)).length) hx hb hret (fun tq htq hWq => ⟨⟨_, ((va_up (va_up (va_up v 13 (nI po)) 14 (nI qo)) 15 (nI w)), va_up R 27 Mn, F, G), rfl, ⟨fun s M hs => by rw [← c_85, ovL_at (by omega) hov] at hs; cases hs; obtain ⟨e1, e2, e3⟩ := spot_d (p := po) (show w < 13 by omega) (show qo < 8 by omega); rw [e1, e2, e3, ← c_85]; exact ⟨rfl, rfl⟩, [], fun h => by have h1 := ovL_at (show (po * 8 + qo) * 13 + w < 832 by omega) hov; have h2 := (List.getElem?_eq_some_iff.mp h1).1; omega⟩, va_K.moved hWq.alike hK, _, _, hZ, by rw [htq]; exact hP⟩, hS.F htq⟩) hS.2.2 dX10_goesTo_106
              exact L27 (13 - 0 + 1) 0 M _ _ _ _ _ (by omega) hle1 hZ hP hS (Nat.lt_succ_self _) (lv_sub hl [1, 2, 3, 4, 5, 0] rfl)
        exact L15 (8 - 0 + 1) 0 M _ _ _ _ _ (by omega) hle0 hZ hP hS (Nat.lt_succ_self _) (lv_sub hl [1, 2, 3, 4, 0] rfl)
  exact L4 (8 - 0 + 1) 0 (R 27) _ _ _ _ _ (by omega) (Nat.zero_le _) (by rw [up_eta]; exact hZ) hP hS (Nat.lt_succ_self _) (lv_sub hl [2, 3, 1, 0] rfl)
