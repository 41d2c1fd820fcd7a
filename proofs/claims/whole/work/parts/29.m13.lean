set_option maxHeartbeats 1000000 in
set_option maxRecDepth 100000 in
/-- graft -/
theorem k_graft (l : Launch) (dC : Nat → ClassId) (dI : Nat → Nat → Nat) (aC : Nat → ClassId) (am : Nat → Nat) (hI : mI am) (v : Nat → Int32) (R : Nat → List Int32) (F : Nat → Nat → Int32) (G : Nat → Nat → Int64) (A : Nat) (hE : vE A (F 1)) (hV : ∀ r, r < 10 → vR A (R r)) (a i b to : Int32) : Met l yX10_graft wsX10_graft ({ frames := 4, cells := 0, slots := 0, locals := 87 } : Room) (va_Pc [.ref (am 0), .int a, .int i, .int b, .int to] (MB dC dI aC am (v, R, F, G))) (va_Qi (fun (x : Int32) (u : MS) => ∃ R1, (v, R1, F, G) = u ∧ (∀ k, k < 26 → R1 k = uGraft (F 1) R a i b to k) ∧ x = pGraft (F 1) R a i b to) (MB dC dI aC am) (mA am)) 0 0 (mA am) := by
  refine Met.ofW (cc := cX10_graft) (maxL := 8) (ret := (some .int)) (by decide) rfl ?_
  intro p e s m args below meth c s₁ B hml hv
  obtain ⟨rfl, hK, S, Z, hZ, hP⟩ := hv
  have hx := B.exec
  have hb := B.bytes
  have hret := B.returns
  have hts := atoms_spec (ws := wsX10_graft) B.pre
  have hown : s.vm.findClass RX10 = some m.cls := findClass_of_methodNamed B.named
  have hlocks := B.notSynchronized
  dsimp only at hZ hP
  have lk0 := hts (.fieldLink RX10 13 "LeafTreesModel" "symbol" "[I") (by decide +kernel)
  have lk1 := hts (.fieldLink RX10 16 "LeafTreesModel" "size" "[I") (by decide +kernel)
  have hin10 : ∀ w ∈ u_ws RX10 TX10 22, w ∈ wsX10_graft := by decide +kernel
  have hS : va_S (mA am) s.heap s.heap [] := va_S.rf
  have hl := lv_entry [.ref (am 0), .int a, .int i, .int b, .int to] (n := 8) (Nat.le_of_ble_eq_true rfl)
  rw [lg_entry_eq]
  generalize (lg_sl [.ref (am 0), .int a, .int i, .int b, .int to] ++ List.replicate (8 - (lg_sl [.ref (am 0), .int a, .int i, .int b, .int to]).length) Slot.unset).toArray = ls at hl ⊢
  have hl : lv_has ls 8 [(0, .ref (am 0)), (1, .int a), (2, .int i), (3, .int b), (4, .int to)] := hl
  refine nx_Q (R := ({ frames := 4, cells := 0, slots := 0, locals := 87 } : Room)) (fun Q hQ => ?_)
  skip
  refine lv_aload_n hx hb dX10_graft_0 rfl (lv_at hl 0 rfl) ?_
  refine lv_iload_n hx hb dX10_graft_1 rfl (lv_at hl 1 rfl) ?_
  refine mp_i (As := [.int a]) (rest := []) ⟨hx, hb, hml, hown, hts⟩ (k_isTreeRow l dC dI aC am v R F G A hE a hV) (cwV 1 hts gX10_graft_X10_isTreeRow rfl rfl rfl (by decide +kernel) ⟨Nat.le_of_ble_eq_true rfl, Nat.le_of_ble_eq_true rfl⟩) hK hZ hP rfl hl.1 rfl (Nat.le_of_ble_eq_true rfl) dX10_graft_2 ⟨Nat.le_of_ble_eq_true rfl, Nat.le_of_ble_eq_true rfl⟩ (fun x_2 h_2 => ?_)
  subst h_2
  refine nx_bz (tgt := 39) hx hb dX10_graft_5 (by decide) (fun c_5 => ?_) (fun c_5 => ?_)
  · skip
    refine lv_bipush (v := (-2)) hx hb dX10_graft_39 (by decide) ?_
    subst hQ
    exact W.iret (v := (-2)) hx hb hret (fun tq htq hWq => ⟨⟨_, (v, R, F, G), rfl, ⟨R, rfl, fun k _ => by rw [uGraft, if_neg (fun h => c_5 h.1.1.1)], by rw [pGraft, if_neg (fun h => c_5 h.1.1.1)]⟩, va_K.moved hWq.alike hK, _, _, hZ, by rw [htq]; exact hP⟩, hS.F htq⟩) hS.2.2 dX10_graft_41
  · skip
    refine lv_aload_n hx hb dX10_graft_8 rfl (lv_at hl 0 rfl) ?_
    refine lv_iload_n hx hb dX10_graft_9 rfl (lv_at hl 3 rfl) ?_
    refine mp_i (As := [.int b]) (rest := []) ⟨hx, hb, hml, hown, hts⟩ (k_isTreeRow l dC dI aC am v R F G A hE b hV) (cwV 1 hts gX10_graft_X10_isTreeRow rfl rfl rfl (by decide +kernel) ⟨Nat.le_of_ble_eq_true rfl, Nat.le_of_ble_eq_true rfl⟩) hK hZ hP rfl hl.1 rfl (Nat.le_of_ble_eq_true rfl) dX10_graft_10 ⟨Nat.le_of_ble_eq_true rfl, Nat.le_of_ble_eq_true rfl⟩ (fun x_10 h_10 => ?_)
    subst h_10
    refine nx_bz (tgt := 39) hx hb dX10_graft_13 (by decide) (fun c_13 => ?_) (fun c_13 => ?_)
    · skip
      refine lv_bipush (v := (-2)) hx hb dX10_graft_39 (by decide) ?_
      subst hQ
      exact W.iret (v := (-2)) hx hb hret (fun tq htq hWq => ⟨⟨_, (v, R, F, G), rfl, ⟨R, rfl, fun k _ => by rw [uGraft, if_neg (fun h => c_13 h.1.1.2)], by rw [pGraft, if_neg (fun h => c_13 h.1.1.2)]⟩, va_K.moved hWq.alike hK, _, _, hZ, by rw [htq]; exact hP⟩, hS.F htq⟩) hS.2.2 dX10_graft_41
    · skip
      refine lv_iload hx hb dX10_graft_16 (lv_at hl 4 rfl) ?_
      refine ms_i (As := [.int to]) (rest := []) ⟨hx, hb, hml, hown, hts⟩ (k_isRow l to) (va_cwS 1 hts gX10_graft_X10_isRow rfl rfl rfl (by decide +kernel) ⟨Nat.le_of_ble_eq_true rfl, Nat.le_of_ble_eq_true rfl⟩) rfl hl.1 rfl (Nat.le_of_ble_eq_true rfl) dX10_graft_18 ⟨Nat.le_of_ble_eq_true rfl, Nat.le_of_ble_eq_true rfl⟩ (fun x_18 h_18 => ?_)
      subst h_18
      refine nx_bz (tgt := 39) hx hb dX10_graft_21 (by decide) (fun c_21 => ?_) (fun c_21 => ?_)
      · skip
        refine lv_bipush (v := (-2)) hx hb dX10_graft_39 (by decide) ?_
        subst hQ
        exact W.iret (v := (-2)) hx hb hret (fun tq htq hWq => ⟨⟨_, (v, R, F, G), rfl, ⟨R, rfl, fun k _ => by rw [uGraft, if_neg (fun h => c_21 h.1.2)], by rw [pGraft, if_neg (fun h => c_21 h.1.2)]⟩, va_K.moved hWq.alike hK, _, _, hZ, by rw [htq]; exact hP⟩, hS.F htq⟩) hS.2.2 dX10_graft_41
      · skip
        obtain ⟨q, hq, rfl⟩ := rIn_of c_5.1 (by decide)
        obtain ⟨r, hr, rfl⟩ := rIn_of c_13.1 (by decide)
        obtain ⟨t, ht0, rfl⟩ := rIn_of c_21 (by decide)
        have hcq := nI_clamp (n := q) (by omega)
        have hcr := nI_clamp (n := r) (by omega)
        have hct := nI_clamp (n := t) (by omega)
        have hlq := (hZ q (by omega)).1
        have hlr := (hZ r (by omega)).1
        have hlv := lvs_le (R q)
        refine lv_iload_n hx hb dX10_graft_24 rfl (lv_at hl 2 rfl) ?_
        refine lv_iconst (v := nI 0) hx hb dX10_graft_25 (by decide) ?_
        refine lv_aload_n hx hb dX10_graft_26 rfl (lv_at hl 0 rfl) ?_
        refine lv_iload_n hx hb dX10_graft_27 rfl (lv_at hl 1 rfl) ?_
        refine mp_i (As := [.int (nI q)]) (rest := [.int (nI 0), .int i]) ⟨hx, hb, hml, hown, hts⟩ (k_leaves l dC dI aC am v R F G q (by omega)) (cwV 1 hts gX10_graft_X10_leaves rfl rfl rfl (by decide +kernel) ⟨Nat.le_of_ble_eq_true rfl, Nat.le_of_ble_eq_true rfl⟩) hK hZ hP rfl hl.1 rfl (Nat.le_of_ble_eq_true rfl) dX10_graft_28 ⟨Nat.le_of_ble_eq_true rfl, Nat.le_of_ble_eq_true rfl⟩ (fun x_28 h_28 => ?_)
        subst h_28
        refine lv_iconst (v := nI 1) hx hb dX10_graft_31 (by decide) ?_
        refine lv_isub hx hb dX10_graft_32 ?_
        refine ms_i (As := [.int i, .int (nI 0), .int ((nI (lvs (R q))) - (nI 1))]) (rest := []) ⟨hx, hb, hml, hown, hts⟩ (k_in l i (nI 0) (nI (lvs (R q)) - nI 1)) (va_cwS 3 hts gX10_graft_X10_in rfl rfl rfl (by decide +kernel) ⟨Nat.le_of_ble_eq_true rfl, Nat.le_of_ble_eq_true rfl⟩) rfl hl.1 rfl (Nat.le_of_ble_eq_true rfl) dX10_graft_33 ⟨Nat.le_of_ble_eq_true rfl, Nat.le_of_ble_eq_true rfl⟩ (fun x_33 h_33 => ?_)
        subst h_33
        refine nx_ti (y := bI (rIn i (lvs (R q)))) (bI_iff (in_ix (by omega))) ?_
        refine nx_bn (tgt := 42) hx hb dX10_graft_36 (by decide) (fun c_36 => ?_) (fun c_36 => ?_)
        · skip
          obtain ⟨j, hj, rfl⟩ := rIn_of c_36 (by omega)
          have hcj := nI_clamp (n := j) (by omega)
          refine lv_iconst (v := (-1)) hx hb dX10_graft_42 (by decide) ?_
          refine lv_istore (lv' := [(5, .int (-1)), (0, .ref (am 0)), (1, .int (nI q)), (2, .int (nI j)), (3, .int (nI r)), (4, .int (nI t))]) hx hb dX10_graft_43 hl (by decide) rfl (fun ls hl => ?_)
          refine lv_iload_n hx hb dX10_graft_45 rfl (lv_at hl 3 rfl) ?_
          refine lv_istore (lv' := [(6, .int (nI j)), (5, .int (-1)), (0, .ref (am 0)), (1, .int (nI q)), (2, .int (nI j)), (3, .int (nI r)), (4, .int (nI t))]) hx hb dX10_graft_46 hl (by decide) rfl (fun ls hl => ?_)
          have L48 : ∀ (fuel48 : Nat) (p0 : Nat) (ls : Array Slot), (p0 ≤ (R q).length) → (cF (gD (R q)) p0 ≤ j) → 60 - p0 < fuel48 → lv_has ls 8 [(0, .ref (am 0)), (1, .int (nI q)), (3, .int (nI r)), (4, .int (nI t)), (5, .int (nI p0 - nI 1)), (6, .int (nI (j - cF (gD (R q)) p0)))] → W p l e ({ frames := 4, cells := 0, slots := 0, locals := 87 } : Room) s m ([.ref (am 0), .int (nI q), .int (nI j), .int (nI r), .int (nI t)] : List Value).toArray below meth c s.heap [] 0 0 Q (F0 m 48 ls []) := by
            intro fuel48
            induction fuel48 with
            | zero => intro p0 ls hp0 hc0 hf48 hl; exact absurd hf48 (Nat.not_lt_zero _)
            | succ fuel48 ih48 =>
              intro p0 ls hp0 hc0 hf48 hl
              have hpl : p0 < (R q).length := Classical.byContradiction (fun z => by have h9 : lvs (R q) ≤ cF (gD (R q)) p0 := cF_mono _ (by omega); omega)
              refine lv_iload hx hb dX10_graft_48 (lv_at hl 5 rfl) ?_
              refine nx_if_lt (tgt := 85) hx hb dX10_graft_50 (by decide) (by omega) ?_
              refine lv_iinc (v := nI p0) (lv' := [(5, .int (nI p0)), (0, .ref (am 0)), (1, .int (nI q)), (3, .int (nI r)), (4, .int (nI t)), (6, .int (nI (j - cF (gD (R q)) p0)))]) hx hb dX10_graft_53 hl (k := 4) rfl (by rw [show Int32.ofInt 1 = nI 1 by decide]; exact Int32.sub_add_cancel _ _) (by decide) rfl (fun ls hl => ?_)
              refine lv_iload hx hb dX10_graft_56 (lv_at hl 5 rfl) ?_
              refine lv_aload_n hx hb dX10_graft_58 rfl (lv_at hl 1 rfl) ?_
              refine va_get (D := (dC, dI)) (ci := 10) (C := RX10) (T := TX10) (N := 22) hx hb hts hin10 hown hK hP 0 rfl rfl 2 (by decide) lk0 (fun _ h9 => h9) rfl dX10_graft_59 ?_
              refine lv_bipush (v := nI 60) hx hb dX10_graft_62 (by decide) ?_
              refine lv_iload_n hx hb dX10_graft_64 rfl (lv_at hl 2 rfl) ?_
              refine lv_imul hx hb dX10_graft_65 ?_
              refine nx_ti (y := nI (60 * q)) (pk_mul _ _) ?_
              refine lv_iload hx hb dX10_graft_66 (lv_at hl 0 rfl) ?_
              refine lv_iadd hx hb dX10_graft_68 ?_
              refine nx_ti (y := nI (60 * q + p0)) (nI_add _ _) ?_
              refine nx_iald hx hb hK hP 2 0 rfl rfl (i := 60 * q + p0) (by have := (hZ q (by omega)).1; omega) (by decide) dX10_graft_69 ?_
              refine nx_ti (y := gD (R q) p0) ((hZ q (by omega)).2.2 p0 (by omega)) ?_
              refine lv_iconst (v := (-1)) hx hb dX10_graft_70 (by decide) ?_
              refine lv_icmp_ne (tgt := 78) hx hb dX10_graft_71 (by decide) (fun c_71 => ?_) (fun c_71 => ?_)
              · skip
                refine lv_iconst (v := nI 0) hx hb dX10_graft_78 (by decide) ?_
                refine lv_isub hx hb dX10_graft_79 ?_
                refine nx_ti (y := nI ((j - cF (gD (R q)) p0) - 0)) (pk_sub (by omega)) ?_
                refine lv_istore (lv' := [(6, .int (nI ((j - cF (gD (R q)) p0) - 0))), (5, .int (nI p0)), (0, .ref (am 0)), (1, .int (nI q)), (3, .int (nI r)), (4, .int (nI t))]) hx hb dX10_graft_80 hl (by decide) rfl (fun ls hl => ?_)
                refine lv_goto (tgt := 48) hx hb dX10_graft_82 (by decide) ?_
                exact ih48 (p0 + 1) _ (by omega) (by rw [cF_f c_71]; exact hc0) (by omega) (by rw [cF_f c_71, nI_p1]; exact lv_sub hl [2, 3, 4, 5, 1, 0] rfl)
              · skip
                refine lv_iconst (v := nI 1) hx hb dX10_graft_74 (by decide) ?_
                refine lv_goto (tgt := 79) hx hb dX10_graft_75 (by decide) ?_
                by_cases hfin : cF (gD (R q)) p0 = j
                · skip
                  refine lv_isub hx hb dX10_graft_79 ?_
                  refine nx_ti (y := (-1)) (by rw [hfin, Nat.sub_self]; decide) ?_
                  refine lv_istore (lv' := [(6, .int (-1)), (5, .int (nI p0)), (0, .ref (am 0)), (1, .int (nI q)), (3, .int (nI r)), (4, .int (nI t))]) hx hb dX10_graft_80 hl (by decide) rfl (fun ls hl => ?_)
                  refine lv_goto (tgt := 48) hx hb dX10_graft_82 (by decide) ?_
                  refine lv_iload hx hb dX10_graft_48 (lv_at hl 0 rfl) ?_
                  refine lv_if_lt (tgt := 85) hx hb dX10_graft_50 (by decide) (fun c_50 => ?_) (fun c_50 => ?_)
                  · skip
                    refine lv_aload_n hx hb dX10_graft_85 rfl (lv_at hl 2 rfl) ?_
                    refine va_get (D := (dC, dI)) (ci := 10) (C := RX10) (T := TX10) (N := 22) hx hb hts hin10 hown hK hP 0 rfl rfl 3 (by decide) lk1 (fun _ h9 => h9) rfl dX10_graft_86 ?_
                    refine lv_bipush (v := nI 28) hx hb dX10_graft_89 (by decide) ?_
                    refine lv_iconst (v := nI 0) hx hb dX10_graft_91 (by decide) ?_
                    refine nx_iast hx hb hK hP (wsM_D hI) hS 3 0 rfl rfl (i := 28) (by omega) (by decide) dX10_graft_92 (fun H locs hP hS => ?_)
                    have hP : va_P (dC, dI) vwCl (wsM aC am v S (upd Z 28 (nI 0)) F G) H := hP
                    have hZ := mOK_clear hZ 28
                    refine lv_aload_n hx hb dX10_graft_93 rfl (lv_at hl 2 rfl) ?_
                    refine lv_bipush (v := nI 28) hx hb dX10_graft_94 (by decide) ?_
                    refine lv_iload_n hx hb dX10_graft_96 rfl (lv_at hl 3 rfl) ?_
                    refine lv_iconst (v := nI 0) hx hb dX10_graft_97 (by decide) ?_
                    refine lv_iload hx hb dX10_graft_98 (lv_at hl 1 rfl) ?_
                    refine mc_i (As := [.int (nI 28), .int (nI q), .int (nI 0), .int (nI p0)]) (rest := []) ⟨hx, hb, hml, hown, hts⟩ (k_adds l dC dI aC am hI v (va_up R 28 []) F G 28 (by decide) q (by omega) (by omega) 0 p0 (by omega) (by rw [upn (show q ≠ 28 by omega)]; omega)) (cwV 4 hts gX10_graft_X10_adds rfl rfl rfl (by decide +kernel) ⟨Nat.le_of_ble_eq_true rfl, Nat.le_of_ble_eq_true rfl⟩) hK hZ hP hS rfl hl.1 rfl (Nat.le_of_ble_eq_true rfl) dX10_graft_100 ⟨Nat.le_of_ble_eq_true rfl, Nat.le_of_ble_eq_true rfl⟩ (fun x_100 v1 R1 F1 G1 S Z H locs h_100 hZ hP hS => ?_)
                    obtain ⟨M_2, hu_100, hx_100, hM_100⟩ := adds_u (R0 := R) (M := []) (to := 28) (fr := q) (show q ≠ 28 by omega) h_100
                    subst hx_100
                    cases hu_100
                    refine nx_bz (tgt := 147) hx hb dX10_graft_103 (by decide) (fun c_103 => ?_) (fun c_103 => ?_)
                    · skip
                      exact absurd (by show 0 + _ ≤ 60; omega) c_103
                    · skip
                      have hM1 := hM_100 c_103
                      rw [List.nil_append] at hM1
                      refine lv_aload_n hx hb dX10_graft_106 rfl (lv_at hl 2 rfl) ?_
                      refine lv_bipush (v := nI 28) hx hb dX10_graft_107 (by decide) ?_
                      refine lv_iload_n hx hb dX10_graft_109 rfl (lv_at hl 4 rfl) ?_
                      refine lv_iconst (v := nI 0) hx hb dX10_graft_110 (by decide) ?_
                      refine lv_aload_n hx hb dX10_graft_111 rfl (lv_at hl 2 rfl) ?_
                      refine va_get (D := (dC, dI)) (ci := 10) (C := RX10) (T := TX10) (N := 22) hx hb hts hin10 hown hK hP 0 rfl rfl 3 (by decide) lk1 (fun _ h9 => h9) rfl dX10_graft_112 ?_
                      refine lv_iload_n hx hb dX10_graft_115 rfl (lv_at hl 4 rfl) ?_
                      refine nx_iald hx hb hK hP 3 0 rfl rfl (i := r) (by omega) (by decide) dX10_graft_116 ?_
                      refine nx_ti (y := nI ((va_up R 28 M_2) r).length) ((hZ r (by omega)).2.1) ?_
                      refine nx_ti (y := nI (R r).length) (by rw [upn (show r ≠ 28 by omega)]) ?_
                      refine mc_i (As := [.int (nI 28), .int (nI r), .int (nI 0), .int (nI (R r).length)]) (rest := []) ⟨hx, hb, hml, hown, hts⟩ (k_adds l dC dI aC am hI v (va_up R 28 M_2) F G 28 (by decide) r (by omega) (by omega) 0 (R r).length (by omega) (by rw [upn (show r ≠ 28 by omega)]; omega)) (cwV 4 hts gX10_graft_X10_adds rfl rfl rfl (by decide +kernel) ⟨Nat.le_of_ble_eq_true rfl, Nat.le_of_ble_eq_true rfl⟩) hK hZ hP hS rfl hl.1 rfl (Nat.le_of_ble_eq_true rfl) dX10_graft_117 ⟨Nat.le_of_ble_eq_true rfl, Nat.le_of_ble_eq_true rfl⟩ (fun x_117 v3 R3 F3 G3 S Z H locs h_117 hZ hP hS => ?_)
                      obtain ⟨M_4, hu_117, hx_117, hM_117⟩ := adds_u (R0 := R) (M := M_2) (to := 28) (fr := r) (show r ≠ 28 by omega) h_117
                      subst hx_117
                      cases hu_117
                      refine nx_bz (tgt := 147) hx hb dX10_graft_120 (by decide) (fun c_120 => ?_) (fun c_120 => ?_)
                      · skip
                        refine lv_iconst (v := nI 0) hx hb dX10_graft_147 (by decide) ?_
                        refine lv_istore (lv' := [(7, .int (nI 0)), (6, .int (-1)), (5, .int (nI p0)), (0, .ref (am 0)), (1, .int (nI q)), (3, .int (nI r)), (4, .int (nI t))]) hx hb dX10_graft_148 hl (by decide) rfl (fun ls hl => ?_)
                        refine lv_iload hx hb dX10_graft_150 (lv_at hl 0 rfl) ?_
                        refine nx_if_ne (tgt := 158) hx hb dX10_graft_152 (by decide) (by omega) (fun c_152 => ?_) (fun c_152 => ?_)
                        · skip
                          exact absurd rfl c_152
                        · skip
                          refine lv_bipush (v := (-4)) hx hb dX10_graft_155 (by decide) ?_
                          subst hQ
                          exact W.iret (v := (-4)) hx hb hret (fun tq htq hWq => ⟨⟨_, (v, va_up R 28 M_4, F, G), rfl, ⟨_, rfl, fun k hk => by rw [uGraft, if_pos (show grOK (F 1) R (nI q) (nI j) (nI r) (nI t) from ⟨⟨⟨c_5, c_13⟩, c_21⟩, by rw [hcq]; exact c_36⟩), hcq, hcj, hcr, hct, uGraft2, if_neg (by have h1 : ¬ ((slc (R q) 0 p0).length + (R r).length ≤ 60) := fun h => c_120 (by rw [hM1]; omega); rw [slc_len (by omega)] at h1; omega), upn (show k ≠ 28 by omega)], by rw [pGraft, if_pos (show grOK (F 1) R (nI q) (nI j) (nI r) (nI t) from ⟨⟨⟨c_5, c_13⟩, c_21⟩, by rw [hcq]; exact c_36⟩), hcq, hcj, hcr, pGraft2, if_neg (by have h1 : ¬ ((slc (R q) 0 p0).length + (R r).length ≤ 60) := fun h => c_120 (by rw [hM1]; omega); rw [slc_len (by omega)] at h1; omega)]⟩, va_K.moved hWq.alike hK, _, _, hZ, by rw [htq]; exact hP⟩, hS.F htq⟩) hS.2.2 dX10_graft_157
                      · skip
                        have hM2 := hM_117 c_120
                        refine lv_aload_n hx hb dX10_graft_123 rfl (lv_at hl 2 rfl) ?_
                        refine lv_bipush (v := nI 28) hx hb dX10_graft_124 (by decide) ?_
                        refine lv_iload_n hx hb dX10_graft_126 rfl (lv_at hl 3 rfl) ?_
                        refine lv_iload hx hb dX10_graft_127 (lv_at hl 1 rfl) ?_
                        refine lv_iconst (v := nI 1) hx hb dX10_graft_129 (by decide) ?_
                        refine lv_iadd hx hb dX10_graft_130 ?_
                        refine nx_ti (y := nI (p0 + 1)) (nI_add _ _) ?_
                        refine lv_aload_n hx hb dX10_graft_131 rfl (lv_at hl 2 rfl) ?_
                        refine va_get (D := (dC, dI)) (ci := 10) (C := RX10) (T := TX10) (N := 22) hx hb hts hin10 hown hK hP 0 rfl rfl 3 (by decide) lk1 (fun _ h9 => h9) rfl dX10_graft_132 ?_
                        refine lv_iload_n hx hb dX10_graft_135 rfl (lv_at hl 3 rfl) ?_
                        refine nx_iald hx hb hK hP 3 0 rfl rfl (i := q) (by omega) (by decide) dX10_graft_136 ?_
                        refine nx_ti (y := nI ((va_up R 28 M_4) q).length) ((hZ q (by omega)).2.1) ?_
                        refine nx_ti (y := nI (R q).length) (by rw [upn (show q ≠ 28 by omega)]) ?_
                        refine mc_i (As := [.int (nI 28), .int (nI q), .int (nI (p0 + 1)), .int (nI (R q).length)]) (rest := []) ⟨hx, hb, hml, hown, hts⟩ (k_adds l dC dI aC am hI v (va_up R 28 M_4) F G 28 (by decide) q (by omega) (by omega) (p0 + 1) (R q).length (by omega) (by rw [upn (show q ≠ 28 by omega)]; omega)) (cwV 4 hts gX10_graft_X10_adds rfl rfl rfl (by decide +kernel) ⟨Nat.le_of_ble_eq_true rfl, Nat.le_of_ble_eq_true rfl⟩) hK hZ hP hS rfl hl.1 rfl (Nat.le_of_ble_eq_true rfl) dX10_graft_137 ⟨Nat.le_of_ble_eq_true rfl, Nat.le_of_ble_eq_true rfl⟩ (fun x_137 v5 R5 F5 G5 S Z H locs h_137 hZ hP hS => ?_)
                        obtain ⟨M_6, hu_137, hx_137, hM_137⟩ := adds_u (R0 := R) (M := M_4) (to := 28) (fr := q) (show q ≠ 28 by omega) h_137
                        subst hx_137
                        cases hu_137
                        refine nx_bz (tgt := 147) hx hb dX10_graft_140 (by decide) (fun c_140 => ?_) (fun c_140 => ?_)
                        · skip
                          refine lv_iconst (v := nI 0) hx hb dX10_graft_147 (by decide) ?_
                          refine lv_istore (lv' := [(7, .int (nI 0)), (6, .int (-1)), (5, .int (nI p0)), (0, .ref (am 0)), (1, .int (nI q)), (3, .int (nI r)), (4, .int (nI t))]) hx hb dX10_graft_148 hl (by decide) rfl (fun ls hl => ?_)
                          refine lv_iload hx hb dX10_graft_150 (lv_at hl 0 rfl) ?_
                          refine nx_if_ne (tgt := 158) hx hb dX10_graft_152 (by decide) (by omega) (fun c_152 => ?_) (fun c_152 => ?_)
                          · skip
                            exact absurd rfl c_152
                          · skip
                            refine lv_bipush (v := (-4)) hx hb dX10_graft_155 (by decide) ?_
                            subst hQ
                            exact W.iret (v := (-4)) hx hb hret (fun tq htq hWq => ⟨⟨_, (v, va_up R 28 M_6, F, G), rfl, ⟨_, rfl, fun k hk => by rw [uGraft, if_pos (show grOK (F 1) R (nI q) (nI j) (nI r) (nI t) from ⟨⟨⟨c_5, c_13⟩, c_21⟩, by rw [hcq]; exact c_36⟩), hcq, hcj, hcr, hct, uGraft2, if_neg (by have h1 := c_140; rw [hM2, List.length_append, hM1, slc_len (by omega), slc_len (Nat.le_refl _)] at h1; omega), upn (show k ≠ 28 by omega)], by rw [pGraft, if_pos (show grOK (F 1) R (nI q) (nI j) (nI r) (nI t) from ⟨⟨⟨c_5, c_13⟩, c_21⟩, by rw [hcq]; exact c_36⟩), hcq, hcj, hcr, pGraft2, if_neg (by have h1 := c_140; rw [hM2, List.length_append, hM1, slc_len (by omega), slc_len (Nat.le_refl _)] at h1; omega)]⟩, va_K.moved hWq.alike hK, _, _, hZ, by rw [htq]; exact hP⟩, hS.F htq⟩) hS.2.2 dX10_graft_157
                        · skip
                          have hM3 := hM_137 c_140
                          have hsm : (R q).length - 1 + (R r).length ≤ 60 := by have h1 := c_140; rw [hM2, List.length_append, hM1, slc_len (by omega), slc_len (Nat.le_refl _)] at h1; omega
                          refine lv_iconst (v := nI 1) hx hb dX10_graft_143 (by decide) ?_
                          refine lv_goto (tgt := 148) hx hb dX10_graft_144 (by decide) ?_
                          refine lv_istore (lv' := [(7, .int (nI 1)), (6, .int (-1)), (5, .int (nI p0)), (0, .ref (am 0)), (1, .int (nI q)), (3, .int (nI r)), (4, .int (nI t))]) hx hb dX10_graft_148 hl (by decide) rfl (fun ls hl => ?_)
                          refine lv_iload hx hb dX10_graft_150 (lv_at hl 0 rfl) ?_
                          refine nx_if_ne (tgt := 158) hx hb dX10_graft_152 (by decide) (by omega) (fun c_152 => ?_) (fun c_152 => ?_)
                          · skip
                            refine lv_aload_n hx hb dX10_graft_158 rfl (lv_at hl 3 rfl) ?_
                            refine lv_bipush (v := nI 28) hx hb dX10_graft_159 (by decide) ?_
                            refine lv_iload hx hb dX10_graft_161 (lv_at hl 6 rfl) ?_
                            refine mc_v (As := [.int (nI 28), .int (nI t)]) (rest := []) ⟨hx, hb, hml, hown, hts⟩ (k_copy l dC dI aC am hI v (va_up R 28 M_6) F G 28 (by decide) t (by omega) (by omega)) (cwV 2 hts gX10_graft_X10_copy rfl rfl rfl (by decide +kernel) ⟨Nat.le_of_ble_eq_true rfl, Nat.le_of_ble_eq_true rfl⟩) hK hZ hP hS rfl hl.1 rfl (Nat.le_of_ble_eq_true rfl) dX10_graft_163 ⟨Nat.le_of_ble_eq_true rfl, Nat.le_of_ble_eq_true rfl⟩ (fun v7 R7 F7 G7 S Z H locs h_163 hZ hP hS => ?_)
                            cases h_163
                            refine lv_aload_n hx hb dX10_graft_166 rfl (lv_at hl 3 rfl) ?_
                            refine va_get (D := (dC, dI)) (ci := 10) (C := RX10) (T := TX10) (N := 22) hx hb hts hin10 hown hK hP 0 rfl rfl 3 (by decide) lk1 (fun _ h9 => h9) rfl dX10_graft_167 ?_
                            refine lv_iload hx hb dX10_graft_170 (lv_at hl 6 rfl) ?_
                            refine nx_iald hx hb hK hP 3 0 rfl rfl (i := t) (by omega) (by decide) dX10_graft_172 ?_
                            refine nx_ti (y := nI ((va_up (va_up R 28 M_6) t ((va_up R 28 M_6) 28)) t).length) ((hZ t (by omega)).2.1) ?_
                            subst hQ
                            exact W.iret (v := nI ((va_up (va_up R 28 M_6) t ((va_up R 28 M_6) 28)) t).length) hx hb hret (fun tq htq hWq => ⟨⟨_, (v, va_up (va_up R 28 M_6) t ((va_up R 28 M_6) 28), F, G), rfl, ⟨_, rfl, fun k hk => by rw [uGraft, if_pos (show grOK (F 1) R (nI q) (nI j) (nI r) (nI t) from ⟨⟨⟨c_5, c_13⟩, c_21⟩, by rw [hcq]; exact c_36⟩), hcq, hcj, hcr, hct, uGraft2, if_pos hsm, lpL_found hpl c_71 hfin, va_up_self, hM3, hM2, hM1, slc_all, up_swap (show (28 : Nat) ≠ t by omega), upn (show k ≠ 28 by omega)]; rfl, by rw [pGraft, if_pos (show grOK (F 1) R (nI q) (nI j) (nI r) (nI t) from ⟨⟨⟨c_5, c_13⟩, c_21⟩, by rw [hcq]; exact c_36⟩), hcq, hcj, hcr, pGraft2, if_pos hsm, va_up_self, va_up_self, hM3, hM2, hM1, slc_all, ← grL_len hpl]; rfl⟩, va_K.moved hWq.alike hK, _, _, hZ, by rw [htq]; exact hP⟩, hS.F htq⟩) hS.2.2 dX10_graft_173
                          · skip
                            exact absurd c_152 (by decide)
                  · skip
                    exact absurd (by decide) c_50
                · skip
                  refine lv_isub hx hb dX10_graft_79 ?_
                  refine nx_ti (y := nI ((j - cF (gD (R q)) p0) - 1)) (pk_sub (by omega)) ?_
                  refine lv_istore (lv' := [(6, .int (nI ((j - cF (gD (R q)) p0) - 1))), (5, .int (nI p0)), (0, .ref (am 0)), (1, .int (nI q)), (3, .int (nI r)), (4, .int (nI t))]) hx hb dX10_graft_80 hl (by decide) rfl (fun ls hl => ?_)
                  refine lv_goto (tgt := 48) hx hb dX10_graft_82 (by decide) ?_
                  exact ih48 (p0 + 1) _ (by omega) (by rw [cF_t c_71]; omega) (by omega) (by rw [cF_t c_71, nI_p1]; exact lv_sub hl [2, 3, 4, 5, 1, 0] rfl)
          exact L48 (60 - 0 + 1) 0 _ (by omega) (Nat.zero_le _) (Nat.lt_succ_self _) (by rw [show ((-1) : Int32) = nI 0 - nI 1 by decide] at hl; exact lv_sub hl [2, 3, 5, 6, 1, 0] rfl)
        · skip
          refine lv_bipush (v := (-2)) hx hb dX10_graft_39 (by decide) ?_
          subst hQ
          exact W.iret (v := (-2)) hx hb hret (fun tq htq hWq => ⟨⟨_, (v, R, F, G), rfl, ⟨R, rfl, fun k _ => by rw [uGraft, if_neg (fun h => c_36 (by have h2 := h.2; rw [hcq] at h2; exact h2))], by rw [pGraft, if_neg (fun h => c_36 (by have h2 := h.2; rw [hcq] at h2; exact h2))]⟩, va_K.moved hWq.alike hK, _, _, hZ, by rw [htq]; exact hP⟩, hS.F htq⟩) hS.2.2 dX10_graft_41
