set_option maxHeartbeats 1000000 in
set_option maxRecDepth 100000 in
/-- meetsAt -/
theorem k_meetsAt (l : Launch) (dC : Nat → ClassId) (dI : Nat → Nat → Nat) (aC : Nat → ClassId) (am : Nat → Nat) (hI : mI am) (v : Nat → Int32) (R : Nat → List Int32) (F : Nat → Nat → Int32) (G : Nat → Nat → Int64) (A : Nat) (hE : vE A (F 1)) (po : Nat) (hpo : po < 8) (qo : Nat) (hqo : qo < 8) (u0 : Nat) (hu0 : u0 < (R (10 + po)).length) (hVa : vR A (R (10 + po))) (hVb : vR A (R (10 + qo))) (hTa : isT (F 1) (R (10 + po))) (hTb : isT (F 1) (R (10 + qo))) (hla : (R (10 + po)).length ≤ 13) (hlb : (R (10 + qo)).length ≤ 13) : Met l yX10_meetsAt wsX10_meetsAt ({ frames := 2, cells := 0, slots := 0, locals := 47 } : Room) (va_Pc [.ref (am 0), .int (nI po), .int (nI qo), .int (nI u0)] (MB dC dI aC am (v, R, F, G))) (va_Qi (fun (x : Int32) (u : MS) => ∃ M, (v, va_up R 27 M, F, G) = u ∧ x = bI ((mrg (F 1) (R (10 + po)) (R (10 + qo)) u0).isSome = true) ∧ (∀ N, mrg (F 1) (R (10 + po)) (R (10 + qo)) u0 = some N → M = N)) (MB dC dI aC am) (mA am)) 0 0 (mA am) := by
  refine Met.ofW (cc := cX10_meetsAt) (maxL := 12) (ret := (some .boolean)) (by decide) rfl ?_
  intro p e s m args below meth c s₁ B hml hv
  obtain ⟨rfl, hK, S, Z, hZ, hP⟩ := hv
  have hx := B.exec
  have hb := B.bytes
  have hret := B.returns
  have hts := atoms_spec (ws := wsX10_meetsAt) B.pre
  have hown : s.vm.findClass RX10 = some m.cls := findClass_of_methodNamed B.named
  have hlocks := B.notSynchronized
  dsimp only at hZ hP
  have lk0 := hts (.fieldLink RX10 16 "LeafTreesModel" "size" "[I") (by decide +kernel)
  have lk1 := hts (.fieldLink RX10 13 "LeafTreesModel" "symbol" "[I") (by decide +kernel)
  have hin10 : ∀ w ∈ u_ws RX10 TX10 22, w ∈ wsX10_meetsAt := by decide +kernel
  have hS : va_S (mA am) s.heap s.heap [] := va_S.rf
  have hl := lv_entry [.ref (am 0), .int (nI po), .int (nI qo), .int (nI u0)] (n := 12) (Nat.le_of_ble_eq_true rfl)
  rw [lg_entry_eq]
  generalize (lg_sl [.ref (am 0), .int (nI po), .int (nI qo), .int (nI u0)] ++ List.replicate (12 - (lg_sl [.ref (am 0), .int (nI po), .int (nI qo), .int (nI u0)]).length) Slot.unset).toArray = ls at hl ⊢
  have hl : lv_has ls 12 [(0, .ref (am 0)), (1, .int (nI po)), (2, .int (nI qo)), (3, .int (nI u0))] := hl
  refine nx_Q (R := ({ frames := 2, cells := 0, slots := 0, locals := 47 } : Room)) (fun Q hQ => ?_)
  skip
  refine lv_bipush (v := nI 10) hx hb dX10_meetsAt_0 (by decide) ?_
  refine lv_iload_n hx hb dX10_meetsAt_2 rfl (lv_at hl 1 rfl) ?_
  refine lv_iadd hx hb dX10_meetsAt_3 ?_
  refine nx_ti (y := nI (10 + po)) (nI_add _ _) ?_
  refine lv_istore (lv' := [(4, .int (nI (10 + po))), (0, .ref (am 0)), (1, .int (nI po)), (2, .int (nI qo)), (3, .int (nI u0))]) hx hb dX10_meetsAt_4 hl (by decide) rfl (fun ls hl => ?_)
  refine lv_bipush (v := nI 10) hx hb dX10_meetsAt_6 (by decide) ?_
  refine lv_iload_n hx hb dX10_meetsAt_8 rfl (lv_at hl 3 rfl) ?_
  refine lv_iadd hx hb dX10_meetsAt_9 ?_
  refine nx_ti (y := nI (10 + qo)) (nI_add _ _) ?_
  refine lv_istore (lv' := [(5, .int (nI (10 + qo))), (4, .int (nI (10 + po))), (0, .ref (am 0)), (1, .int (nI po)), (2, .int (nI qo)), (3, .int (nI u0))]) hx hb dX10_meetsAt_10 hl (by decide) rfl (fun ls hl => ?_)
  refine lv_aload_n hx hb dX10_meetsAt_12 rfl (lv_at hl 2 rfl) ?_
  refine va_get (D := (dC, dI)) (ci := 10) (C := RX10) (T := TX10) (N := 22) hx hb hts hin10 hown hK hP 0 rfl rfl 3 (by decide) lk0 (fun _ h9 => h9) rfl dX10_meetsAt_13 ?_
  refine lv_bipush (v := nI 27) hx hb dX10_meetsAt_16 (by decide) ?_
  refine lv_iconst (v := nI 0) hx hb dX10_meetsAt_18 (by decide) ?_
  refine nx_iast hx hb hK hP (wsM_D hI) hS 3 0 rfl rfl (i := 27) (by omega) (by decide) dX10_meetsAt_19 (fun H locs hP hS => ?_)
  have hP : va_P (dC, dI) vwCl (wsM aC am v S (upd Z 27 (nI 0)) F G) H := hP
  have hZ := mOK_clear hZ 27
  refine lv_aload_n hx hb dX10_meetsAt_20 rfl (lv_at hl 2 rfl) ?_
  refine lv_bipush (v := nI 27) hx hb dX10_meetsAt_21 (by decide) ?_
  refine lv_iload hx hb dX10_meetsAt_23 (lv_at hl 1 rfl) ?_
  refine lv_iconst (v := nI 0) hx hb dX10_meetsAt_25 (by decide) ?_
  refine lv_iload_n hx hb dX10_meetsAt_26 rfl (lv_at hl 5 rfl) ?_
  refine mc_i (As := [.int (nI 27), .int (nI (10 + po)), .int (nI 0), .int (nI u0)]) (rest := []) ⟨hx, hb, hml, hown, hts⟩ (k_adds l dC dI aC am hI v (va_up R 27 []) F G 27 (by decide) (10 + po) (by omega) (show 10 + po ≠ 27 by omega) 0 u0 (by omega) (by rw [upn (show 10 + po ≠ 27 by omega)]; omega)) (cwV 4 hts gX10_meetsAt_X10_adds rfl rfl rfl (by decide +kernel) ⟨Nat.le_of_ble_eq_true rfl, Nat.le_of_ble_eq_true rfl⟩) hK hZ hP hS rfl hl.1 rfl (Nat.le_of_ble_eq_true rfl) dX10_meetsAt_27 ⟨Nat.le_of_ble_eq_true rfl, Nat.le_of_ble_eq_true rfl⟩ (fun x_27 v1 R1 F1 G1 S Z H locs h_27 hZ hP hS => ?_)
  obtain ⟨M_2, hu_27, hx_27, hM_27⟩ := adds_u (R0 := R) (M := []) (to := 27) (fr := 10 + po) (show 10 + po ≠ 27 by omega) h_27
  rw [bI_t (by show 0 + _ ≤ 60; omega)] at hx_27
  subst hx_27
  have hM_27 := hM_27 (by show 0 + _ ≤ 60; omega)
  subst hM_27
  cases hu_27
  refine nx_ti (y := nI 1) (rfl) ?_
  refine lv_istore (lv' := [(6, .int (nI 1)), (5, .int (nI (10 + qo))), (4, .int (nI (10 + po))), (0, .ref (am 0)), (1, .int (nI po)), (2, .int (nI qo)), (3, .int (nI u0))]) hx hb dX10_meetsAt_30 hl (by decide) rfl (fun ls hl => ?_)
  refine lv_iload_n hx hb dX10_meetsAt_32 rfl (lv_at hl 6 rfl) ?_
  refine lv_istore (lv' := [(7, .int (nI u0)), (6, .int (nI 1)), (5, .int (nI (10 + qo))), (4, .int (nI (10 + po))), (0, .ref (am 0)), (1, .int (nI po)), (2, .int (nI qo)), (3, .int (nI u0))]) hx hb dX10_meetsAt_33 hl (by decide) rfl (fun ls hl => ?_)
  refine lv_iconst (v := nI 0) hx hb dX10_meetsAt_35 (by decide) ?_
  refine lv_istore (lv' := [(8, .int (nI 0)), (7, .int (nI u0)), (6, .int (nI 1)), (5, .int (nI (10 + qo))), (4, .int (nI (10 + po))), (0, .ref (am 0)), (1, .int (nI po)), (2, .int (nI qo)), (3, .int (nI u0))]) hx hb dX10_meetsAt_36 hl (by decide) rfl (fun ls hl => ?_)
  have L38 : ∀ (fuel38 : Nat) (i : Nat) (j : Nat) (k : Nat) (fu : Nat) (M : List Int32) (S Z : Nat → Int32) (H : Heap) (locs : List Loc) (ls : Array Slot), (mgI (F 1) (R (10 + po)) (R (10 + qo)) i j k) → (M.length ≤ i + j) → ((R (10 + qo)).length < fu + j) → (mgF (F 1) (R (10 + po)) (R (10 + qo)) fu i j M = mgF (F 1) (R (10 + po)) (R (10 + qo)) ((R (10 + qo)).length + 1) u0 0 (slc (R (10 + po)) 0 u0)) → mOK S Z (va_up R 27 M) → va_P (dC, dI) vwCl (wsM aC am v S Z F G) H → va_S (mA am) s.heap H locs → 13 - j < fuel38 → lv_has ls 12 [(0, .ref (am 0)), (4, .int (nI (10 + po))), (5, .int (nI (10 + qo))), (6, .int (nI 1)), (7, .int (nI i)), (8, .int (nI j))] → W p l e ({ frames := 2, cells := 0, slots := 0, locals := 47 } : Room) s m ([.ref (am 0), .int (nI po), .int (nI qo), .int (nI u0)] : List Value).toArray below meth c H locs 0 0 Q (F0 m 38 ls []) := by
    intro fuel38
    induction fuel38 with
    | zero => intro i j k fu M S Z H locs ls hI0 hmM hfu hres hZ hP hS hf38 hl; exact absurd hf38 (Nat.not_lt_zero _)
    | succ fuel38 ih38 =>
      intro i j k fu M S Z H locs ls hI0 hmM hfu hres hZ hP hS hf38 hl
      have hib := hI0.2.2.1
      have hjb0 := hI0.2.2.2
      refine lv_iload hx hb dX10_meetsAt_38 (lv_at hl 5 rfl) ?_
      refine lv_aload_n hx hb dX10_meetsAt_40 rfl (lv_at hl 0 rfl) ?_
      refine va_get (D := (dC, dI)) (ci := 10) (C := RX10) (T := TX10) (N := 22) hx hb hts hin10 hown hK hP 0 rfl rfl 3 (by decide) lk0 (fun _ h9 => h9) rfl dX10_meetsAt_41 ?_
      refine lv_iload hx hb dX10_meetsAt_44 (lv_at hl 2 rfl) ?_
      refine nx_iald hx hb hK hP 3 0 rfl rfl (i := 10 + qo) (by omega) (by decide) dX10_meetsAt_46 ?_
      refine nx_ti (y := nI ((va_up R 27 M) (10 + qo)).length) ((hZ (10 + qo) (by omega)).2.1) ?_
      refine nx_ti (y := nI (R (10 + qo)).length) (by rw [upn (show 10 + qo ≠ 27 by omega)]) ?_
      refine nx_icmp_ge (a := j) (b := (R (10 + qo)).length) (tgt := 205) hx hb dX10_meetsAt_47 (by decide) (by omega) (by omega) (fun c_47 => ?_) (fun c_47 => ?_)
      · skip
        refine lv_iload hx hb dX10_meetsAt_205 (lv_at hl 3 rfl) ?_
        refine nx_if_eq (tgt := 234) hx hb dX10_meetsAt_207 (by decide) (by omega) (fun c_207 => ?_) (fun c_207 => ?_)
        · skip
          exact absurd c_207 (by decide)
        · skip
          refine lv_aload_n hx hb dX10_meetsAt_210 rfl (lv_at hl 0 rfl) ?_
          refine lv_bipush (v := nI 27) hx hb dX10_meetsAt_211 (by decide) ?_
          refine lv_iload hx hb dX10_meetsAt_213 (lv_at hl 1 rfl) ?_
          refine lv_iload hx hb dX10_meetsAt_215 (lv_at hl 4 rfl) ?_
          refine lv_aload_n hx hb dX10_meetsAt_217 rfl (lv_at hl 0 rfl) ?_
          refine va_get (D := (dC, dI)) (ci := 10) (C := RX10) (T := TX10) (N := 22) hx hb hts hin10 hown hK hP 0 rfl rfl 3 (by decide) lk0 (fun _ h9 => h9) rfl dX10_meetsAt_218 ?_
          refine lv_iload hx hb dX10_meetsAt_221 (lv_at hl 1 rfl) ?_
          refine nx_iald hx hb hK hP 3 0 rfl rfl (i := 10 + po) (by omega) (by decide) dX10_meetsAt_223 ?_
          refine nx_ti (y := nI ((va_up R 27 M) (10 + po)).length) ((hZ (10 + po) (by omega)).2.1) ?_
          refine nx_ti (y := nI (R (10 + po)).length) (by rw [upn (show 10 + po ≠ 27 by omega)]) ?_
          refine mc_i (As := [.int (nI 27), .int (nI (10 + po)), .int (nI i), .int (nI (R (10 + po)).length)]) (rest := []) ⟨hx, hb, hml, hown, hts⟩ (k_adds l dC dI aC am hI v (va_up R 27 M) F G 27 (by decide) (10 + po) (by omega) (show 10 + po ≠ 27 by omega) i (R (10 + po)).length (by omega) (by rw [upn (show 10 + po ≠ 27 by omega)]; omega)) (cwV 4 hts gX10_meetsAt_X10_adds rfl rfl rfl (by decide +kernel) ⟨Nat.le_of_ble_eq_true rfl, Nat.le_of_ble_eq_true rfl⟩) hK hZ hP hS rfl hl.1 rfl (Nat.le_of_ble_eq_true rfl) dX10_meetsAt_224 ⟨Nat.le_of_ble_eq_true rfl, Nat.le_of_ble_eq_true rfl⟩ (fun x_224 v3 R3 F3 G3 S Z H locs h_224 hZ hP hS => ?_)
          obtain ⟨M_4, hu_224, hx_224, hM_224⟩ := adds_u (R0 := R) (M := M) (to := 27) (fr := 10 + po) (show 10 + po ≠ 27 by omega) h_224
          rw [bI_t (by omega)] at hx_224
          subst hx_224
          have hM_224 := hM_224 (by omega)
          subst hM_224
          cases hu_224
          refine nx_ti (y := nI 1) (rfl) ?_
          refine nx_if_eq (tgt := 234) hx hb dX10_meetsAt_227 (by decide) (by omega) (fun c_227 => ?_) (fun c_227 => ?_)
          · skip
            exact absurd c_227 (by decide)
          · skip
            refine lv_iconst (v := nI 1) hx hb dX10_meetsAt_230 (by decide) ?_
            refine lv_goto (tgt := 235) hx hb dX10_meetsAt_231 (by decide) ?_
            subst hQ
            exact W.zret (v := nI 1) hx hb hret (rfl) (fun tq htq hWq => ⟨⟨_, (v, va_up R 27 (M ++ slc (R (10 + po)) i (R (10 + po)).length), F, G), rfl, ⟨_, rfl, (bI_t (by rw [mrg, ← hres, show fu = (fu - 1) + 1 by omega, mgF_end c_47]; rfl)).symm, fun N hN => by rw [mrg, ← hres, show fu = (fu - 1) + 1 by omega, mgF_end c_47] at hN; cases hN; rfl⟩, va_K.moved hWq.alike hK, _, _, hZ, by rw [htq]; exact hP⟩, hS.F htq⟩) hS.2.2 dX10_meetsAt_235
      · skip
        have hjb : j < (R (10 + qo)).length := c_47
        have hia := mgI_lt hI0 hjb
        refine lv_iload hx hb dX10_meetsAt_50 (lv_at hl 3 rfl) ?_
        refine nx_if_eq (tgt := 205) hx hb dX10_meetsAt_52 (by decide) (by omega) (fun c_52 => ?_) (fun c_52 => ?_)
        · skip
          exact absurd c_52 (by decide)
        · skip
          refine lv_aload_n hx hb dX10_meetsAt_55 rfl (lv_at hl 0 rfl) ?_
          refine va_get (D := (dC, dI)) (ci := 10) (C := RX10) (T := TX10) (N := 22) hx hb hts hin10 hown hK hP 0 rfl rfl 2 (by decide) lk1 (fun _ h9 => h9) rfl dX10_meetsAt_56 ?_
          refine lv_bipush (v := nI 60) hx hb dX10_meetsAt_59 (by decide) ?_
          refine lv_iload hx hb dX10_meetsAt_61 (lv_at hl 1 rfl) ?_
          refine lv_imul hx hb dX10_meetsAt_63 ?_
          refine nx_ti (y := nI (60 * (10 + po))) (pk_mul _ _) ?_
          refine lv_iload hx hb dX10_meetsAt_64 (lv_at hl 4 rfl) ?_
          refine lv_iadd hx hb dX10_meetsAt_66 ?_
          refine nx_ti (y := nI (60 * (10 + po) + i)) (nI_add _ _) ?_
          refine nx_iald hx hb hK hP 2 0 rfl rfl (i := 60 * (10 + po) + i) (by omega) (by decide) dX10_meetsAt_67 ?_
          refine nx_ti (y := gD ((va_up R 27 M) (10 + po)) i) ((hZ (10 + po) (by omega)).2.2 i (by rw [upn (show 10 + po ≠ 27 by omega)]; omega)) ?_
          refine nx_ti (y := gD (R (10 + po)) i) (by rw [upn (show 10 + po ≠ 27 by omega)]) ?_
          refine lv_istore (lv' := [(9, .int (gD (R (10 + po)) i)), (0, .ref (am 0)), (4, .int (nI (10 + po))), (5, .int (nI (10 + qo))), (6, .int (nI 1)), (7, .int (nI i)), (8, .int (nI j))]) hx hb dX10_meetsAt_68 hl (by decide) rfl (fun ls hl => ?_)
          refine lv_aload_n hx hb dX10_meetsAt_70 rfl (lv_at hl 1 rfl) ?_
          refine va_get (D := (dC, dI)) (ci := 10) (C := RX10) (T := TX10) (N := 22) hx hb hts hin10 hown hK hP 0 rfl rfl 2 (by decide) lk1 (fun _ h9 => h9) rfl dX10_meetsAt_71 ?_
          refine lv_bipush (v := nI 60) hx hb dX10_meetsAt_74 (by decide) ?_
          refine lv_iload hx hb dX10_meetsAt_76 (lv_at hl 3 rfl) ?_
          refine lv_imul hx hb dX10_meetsAt_78 ?_
          refine nx_ti (y := nI (60 * (10 + qo))) (pk_mul _ _) ?_
          refine lv_iload hx hb dX10_meetsAt_79 (lv_at hl 6 rfl) ?_
          refine lv_iadd hx hb dX10_meetsAt_81 ?_
          refine nx_ti (y := nI (60 * (10 + qo) + j)) (nI_add _ _) ?_
          refine nx_iald hx hb hK hP 2 0 rfl rfl (i := 60 * (10 + qo) + j) (by omega) (by decide) dX10_meetsAt_82 ?_
          refine nx_ti (y := gD ((va_up R 27 M) (10 + qo)) j) ((hZ (10 + qo) (by omega)).2.2 j (by rw [upn (show 10 + qo ≠ 27 by omega)]; omega)) ?_
          refine nx_ti (y := gD (R (10 + qo)) j) (by rw [upn (show 10 + qo ≠ 27 by omega)]) ?_
          refine lv_istore (lv' := [(10, .int (gD (R (10 + qo)) j)), (9, .int (gD (R (10 + po)) i)), (0, .ref (am 0)), (4, .int (nI (10 + po))), (5, .int (nI (10 + qo))), (6, .int (nI 1)), (7, .int (nI i)), (8, .int (nI j))]) hx hb dX10_meetsAt_83 hl (by decide) rfl (fun ls hl => ?_)
          refine lv_iload hx hb dX10_meetsAt_85 (lv_at hl 1 rfl) ?_
          refine lv_iconst (v := (-1)) hx hb dX10_meetsAt_87 (by decide) ?_
          refine lv_icmp_ne (tgt := 125) hx hb dX10_meetsAt_88 (by decide) (fun c_88 => ?_) (fun c_88 => ?_)
          · skip
            refine lv_iload hx hb dX10_meetsAt_125 (lv_at hl 0 rfl) ?_
            refine lv_iconst (v := (-1)) hx hb dX10_meetsAt_127 (by decide) ?_
            refine lv_icmp_ne (tgt := 165) hx hb dX10_meetsAt_128 (by decide) (fun c_128 => ?_) (fun c_128 => ?_)
            · skip
              refine lv_iload hx hb dX10_meetsAt_165 (lv_at hl 1 rfl) ?_
              refine lv_iload hx hb dX10_meetsAt_167 (lv_at hl 0 rfl) ?_
              refine lv_icmp_ne (tgt := 193) hx hb dX10_meetsAt_169 (by decide) (fun c_169 => ?_) (fun c_169 => ?_)
              · skip
                refine lv_iconst (v := nI 0) hx hb dX10_meetsAt_193 (by decide) ?_
                refine lv_istore (lv' := [(6, .int (nI 0)), (10, .int (gD (R (10 + qo)) j)), (9, .int (gD (R (10 + po)) i)), (0, .ref (am 0)), (4, .int (nI (10 + po))), (5, .int (nI (10 + qo))), (7, .int (nI i)), (8, .int (nI j))]) hx hb dX10_meetsAt_194 hl (by decide) rfl (fun ls hl => ?_)
                refine lv_iinc (v := nI (i + 1)) (lv' := [(7, .int (nI (i + 1))), (6, .int (nI 0)), (10, .int (gD (R (10 + qo)) j)), (9, .int (gD (R (10 + po)) i)), (0, .ref (am 0)), (4, .int (nI (10 + po))), (5, .int (nI (10 + qo))), (8, .int (nI j))]) hx hb dX10_meetsAt_196 hl (k := 6) rfl (nI_add _ _) (by decide) rfl (fun ls hl => ?_)
                refine lv_iinc (v := nI (j + 1)) (lv' := [(8, .int (nI (j + 1))), (7, .int (nI (i + 1))), (6, .int (nI 0)), (10, .int (gD (R (10 + qo)) j)), (9, .int (gD (R (10 + po)) i)), (0, .ref (am 0)), (4, .int (nI (10 + po))), (5, .int (nI (10 + qo)))]) hx hb dX10_meetsAt_199 hl (k := 7) rfl (nI_add _ _) (by decide) rfl (fun ls hl => ?_)
                refine lv_goto (tgt := 38) hx hb dX10_meetsAt_202 (by decide) ?_
                refine lv_iload hx hb dX10_meetsAt_38 (lv_at hl 0 rfl) ?_
                refine lv_aload_n hx hb dX10_meetsAt_40 rfl (lv_at hl 5 rfl) ?_
                refine va_get (D := (dC, dI)) (ci := 10) (C := RX10) (T := TX10) (N := 22) hx hb hts hin10 hown hK hP 0 rfl rfl 3 (by decide) lk0 (fun _ h9 => h9) rfl dX10_meetsAt_41 ?_
                refine lv_iload hx hb dX10_meetsAt_44 (lv_at hl 7 rfl) ?_
                refine nx_iald hx hb hK hP 3 0 rfl rfl (i := 10 + qo) (by omega) (by decide) dX10_meetsAt_46 ?_
                refine nx_ti (y := nI ((va_up R 27 M) (10 + qo)).length) ((hZ (10 + qo) (by omega)).2.1) ?_
                refine nx_ti (y := nI (R (10 + qo)).length) (by rw [upn (show 10 + qo ≠ 27 by omega)]) ?_
                refine nx_icmp_ge (a := (j + 1)) (b := (R (10 + qo)).length) (tgt := 205) hx hb dX10_meetsAt_47 (by decide) (by omega) (by omega) (fun c_47 => ?_) (fun c_47 => ?_)
                · skip
                  refine lv_iload hx hb dX10_meetsAt_205 (lv_at hl 2 rfl) ?_
                  refine nx_if_eq (tgt := 234) hx hb dX10_meetsAt_207 (by decide) (by omega) (fun c_207 => ?_) (fun c_207 => ?_)
                  · skip
                    refine lv_iconst (v := nI 0) hx hb dX10_meetsAt_234 (by decide) ?_
                    subst hQ
                    exact W.zret (v := nI 0) hx hb hret (rfl) (fun tq htq hWq => ⟨⟨_, (v, va_up R 27 M, F, G), rfl, ⟨_, rfl, (bI_f (by rw [mrg, ← hres, show fu = (fu - 1) + 1 by omega, mgF_d hjb c_88 c_128 c_169]; exact Bool.false_ne_true)).symm, fun N hN => by rw [mrg, ← hres, show fu = (fu - 1) + 1 by omega, mgF_d hjb c_88 c_128 c_169] at hN; cases hN⟩, va_K.moved hWq.alike hK, _, _, hZ, by rw [htq]; exact hP⟩, hS.F htq⟩) hS.2.2 dX10_meetsAt_235
                  · skip
                    exact absurd rfl c_207
                · skip
                  refine lv_iload hx hb dX10_meetsAt_50 (lv_at hl 2 rfl) ?_
                  refine nx_if_eq (tgt := 205) hx hb dX10_meetsAt_52 (by decide) (by omega) (fun c_52 => ?_) (fun c_52 => ?_)
                  · skip
                    refine lv_iload hx hb dX10_meetsAt_205 (lv_at hl 2 rfl) ?_
                    refine nx_if_eq (tgt := 234) hx hb dX10_meetsAt_207 (by decide) (by omega) (fun c_207 => ?_) (fun c_207 => ?_)
                    · skip
                      refine lv_iconst (v := nI 0) hx hb dX10_meetsAt_234 (by decide) ?_
                      subst hQ
                      exact W.zret (v := nI 0) hx hb hret (rfl) (fun tq htq hWq => ⟨⟨_, (v, va_up R 27 M, F, G), rfl, ⟨_, rfl, (bI_f (by rw [mrg, ← hres, show fu = (fu - 1) + 1 by omega, mgF_d hjb c_88 c_128 c_169]; exact Bool.false_ne_true)).symm, fun N hN => by rw [mrg, ← hres, show fu = (fu - 1) + 1 by omega, mgF_d hjb c_88 c_128 c_169] at hN; cases hN⟩, va_K.moved hWq.alike hK, _, _, hZ, by rw [htq]; exact hP⟩, hS.F htq⟩) hS.2.2 dX10_meetsAt_235
                    · skip
                      exact absurd rfl c_207
                  · skip
                    exact absurd rfl c_52
              · skip
                refine lv_aload_n hx hb dX10_meetsAt_172 rfl (lv_at hl 2 rfl) ?_
                refine lv_bipush (v := nI 27) hx hb dX10_meetsAt_173 (by decide) ?_
                refine lv_iload hx hb dX10_meetsAt_175 (lv_at hl 3 rfl) ?_
                refine lv_iload hx hb dX10_meetsAt_177 (lv_at hl 6 rfl) ?_
                refine lv_iload hx hb dX10_meetsAt_179 (lv_at hl 6 rfl) ?_
                refine lv_iconst (v := nI 1) hx hb dX10_meetsAt_181 (by decide) ?_
                refine lv_iadd hx hb dX10_meetsAt_182 ?_
                refine nx_ti (y := nI (i + 1)) (nI_add _ _) ?_
                refine mc_i (As := [.int (nI 27), .int (nI (10 + po)), .int (nI i), .int (nI (i + 1))]) (rest := []) ⟨hx, hb, hml, hown, hts⟩ (k_adds l dC dI aC am hI v (va_up R 27 M) F G 27 (by decide) (10 + po) (by omega) (show 10 + po ≠ 27 by omega) i (i + 1) (by omega) (by rw [upn (show 10 + po ≠ 27 by omega)]; omega)) (cwV 4 hts gX10_meetsAt_X10_adds rfl rfl rfl (by decide +kernel) ⟨Nat.le_of_ble_eq_true rfl, Nat.le_of_ble_eq_true rfl⟩) hK hZ hP hS rfl hl.1 rfl (Nat.le_of_ble_eq_true rfl) dX10_meetsAt_183 ⟨Nat.le_of_ble_eq_true rfl, Nat.le_of_ble_eq_true rfl⟩ (fun x_183 v5 R5 F5 G5 S Z H locs h_183 hZ hP hS => ?_)
                obtain ⟨M_6, hu_183, hx_183, hM_183⟩ := adds_u (R0 := R) (M := M) (to := 27) (fr := 10 + po) (show 10 + po ≠ 27 by omega) h_183
                rw [bI_t (by omega)] at hx_183
                subst hx_183
                have hM_183 := hM_183 (by omega)
                subst hM_183
                cases hu_183
                refine nx_ti (y := nI 1) (rfl) ?_
                refine nx_if_eq (tgt := 193) hx hb dX10_meetsAt_186 (by decide) (by omega) (fun c_186 => ?_) (fun c_186 => ?_)
                · skip
                  exact absurd c_186 (by decide)
                · skip
                  refine lv_iconst (v := nI 1) hx hb dX10_meetsAt_189 (by decide) ?_
                  refine lv_goto (tgt := 194) hx hb dX10_meetsAt_190 (by decide) ?_
                  refine lv_istore (lv' := [(6, .int (nI 1)), (10, .int (gD (R (10 + qo)) j)), (9, .int (gD (R (10 + po)) i)), (0, .ref (am 0)), (4, .int (nI (10 + po))), (5, .int (nI (10 + qo))), (7, .int (nI i)), (8, .int (nI j))]) hx hb dX10_meetsAt_194 hl (by decide) rfl (fun ls hl => ?_)
                  refine lv_iinc (v := nI (i + 1)) (lv' := [(7, .int (nI (i + 1))), (6, .int (nI 1)), (10, .int (gD (R (10 + qo)) j)), (9, .int (gD (R (10 + po)) i)), (0, .ref (am 0)), (4, .int (nI (10 + po))), (5, .int (nI (10 + qo))), (8, .int (nI j))]) hx hb dX10_meetsAt_196 hl (k := 6) rfl (nI_add _ _) (by decide) rfl (fun ls hl => ?_)
                  refine lv_iinc (v := nI (j + 1)) (lv' := [(8, .int (nI (j + 1))), (7, .int (nI (i + 1))), (6, .int (nI 1)), (10, .int (gD (R (10 + qo)) j)), (9, .int (gD (R (10 + po)) i)), (0, .ref (am 0)), (4, .int (nI (10 + po))), (5, .int (nI (10 + qo)))]) hx hb dX10_meetsAt_199 hl (k := 7) rfl (nI_add _ _) (by decide) rfl (fun ls hl => ?_)
                  refine lv_goto (tgt := 38) hx hb dX10_meetsAt_202 (by decide) ?_
                  exact ih38 (i + 1) (j + 1) (k + wt (F 1) (gD (R (10 + po)) i) - 1) (fu - 1) (M ++ slc (R (10 + po)) i (i + 1)) _ _ _ _ _ (mgI_c hI0 hjb c_169) (by rw [List.length_append, slc_len (by omega)]; omega) (by omega) (by rw [← hres, show fu = (fu - 1) + 1 by omega, mgF_c hjb c_88 c_128 c_169, slc_one hia]; rfl) hZ hP hS (by omega) (lv_sub hl [5, 6, 7, 2, 1, 0] rfl)
            · skip
              obtain ⟨q, hq, hq1, hq2, hI1⟩ := mgI_b hI0 hjb c_128
              refine lv_aload_n hx hb dX10_meetsAt_131 rfl (lv_at hl 2 rfl) ?_
              refine lv_iload hx hb dX10_meetsAt_132 (lv_at hl 3 rfl) ?_
              refine lv_iload hx hb dX10_meetsAt_134 (lv_at hl 6 rfl) ?_
              refine mp_i (As := [.int (nI (10 + po)), .int (nI i)]) (rest := []) ⟨hx, hb, hml, hown, hts⟩ (k_end l dC dI aC am v (va_up R 27 M) F G A hE (10 + po) (by omega) (by rw [upn (show 10 + po ≠ 27 by omega)]; exact hVa) i (by omega)) (cwV 2 hts gX10_meetsAt_X10_end rfl rfl rfl (by decide +kernel) ⟨Nat.le_of_ble_eq_true rfl, Nat.le_of_ble_eq_true rfl⟩) hK hZ hP rfl hl.1 rfl (Nat.le_of_ble_eq_true rfl) dX10_meetsAt_136 ⟨Nat.le_of_ble_eq_true rfl, Nat.le_of_ble_eq_true rfl⟩ (fun x_136 h_136 => ?_)
              subst h_136
              refine nx_ti (y := nI q) (by rw [upn (show 10 + po ≠ 27 by omega), hq]; rfl) ?_
              refine lv_istore (lv' := [(11, .int (nI q)), (10, .int (gD (R (10 + qo)) j)), (9, .int (gD (R (10 + po)) i)), (0, .ref (am 0)), (4, .int (nI (10 + po))), (5, .int (nI (10 + qo))), (6, .int (nI 1)), (7, .int (nI i)), (8, .int (nI j))]) hx hb dX10_meetsAt_139 hl (by decide) rfl (fun ls hl => ?_)
              refine lv_aload_n hx hb dX10_meetsAt_141 rfl (lv_at hl 3 rfl) ?_
              refine lv_bipush (v := nI 27) hx hb dX10_meetsAt_142 (by decide) ?_
              refine lv_iload hx hb dX10_meetsAt_144 (lv_at hl 4 rfl) ?_
              refine lv_iload hx hb dX10_meetsAt_146 (lv_at hl 7 rfl) ?_
              refine lv_iload hx hb dX10_meetsAt_148 (lv_at hl 0 rfl) ?_
              refine mc_i (As := [.int (nI 27), .int (nI (10 + po)), .int (nI i), .int (nI q)]) (rest := []) ⟨hx, hb, hml, hown, hts⟩ (k_adds l dC dI aC am hI v (va_up R 27 M) F G 27 (by decide) (10 + po) (by omega) (show 10 + po ≠ 27 by omega) i q (by omega) (by rw [upn (show 10 + po ≠ 27 by omega)]; omega)) (cwV 4 hts gX10_meetsAt_X10_adds rfl rfl rfl (by decide +kernel) ⟨Nat.le_of_ble_eq_true rfl, Nat.le_of_ble_eq_true rfl⟩) hK hZ hP hS rfl hl.1 rfl (Nat.le_of_ble_eq_true rfl) dX10_meetsAt_150 ⟨Nat.le_of_ble_eq_true rfl, Nat.le_of_ble_eq_true rfl⟩ (fun x_150 v7 R7 F7 G7 S Z H locs h_150 hZ hP hS => ?_)
              obtain ⟨M_8, hu_150, hx_150, hM_150⟩ := adds_u (R0 := R) (M := M) (to := 27) (fr := 10 + po) (show 10 + po ≠ 27 by omega) h_150
              rw [bI_t (by omega)] at hx_150
              subst hx_150
              have hM_150 := hM_150 (by omega)
              subst hM_150
              cases hu_150
              refine nx_ti (y := nI 1) (rfl) ?_
              refine lv_istore (lv' := [(6, .int (nI 1)), (11, .int (nI q)), (10, .int (gD (R (10 + qo)) j)), (9, .int (gD (R (10 + po)) i)), (0, .ref (am 0)), (4, .int (nI (10 + po))), (5, .int (nI (10 + qo))), (7, .int (nI i)), (8, .int (nI j))]) hx hb dX10_meetsAt_153 hl (by decide) rfl (fun ls hl => ?_)
              refine lv_iload hx hb dX10_meetsAt_155 (lv_at hl 1 rfl) ?_
              refine lv_istore (lv' := [(7, .int (nI q)), (6, .int (nI 1)), (11, .int (nI q)), (10, .int (gD (R (10 + qo)) j)), (9, .int (gD (R (10 + po)) i)), (0, .ref (am 0)), (4, .int (nI (10 + po))), (5, .int (nI (10 + qo))), (8, .int (nI j))]) hx hb dX10_meetsAt_157 hl (by decide) rfl (fun ls hl => ?_)
              refine lv_iinc (v := nI (j + 1)) (lv' := [(8, .int (nI (j + 1))), (7, .int (nI q)), (6, .int (nI 1)), (11, .int (nI q)), (10, .int (gD (R (10 + qo)) j)), (9, .int (gD (R (10 + po)) i)), (0, .ref (am 0)), (4, .int (nI (10 + po))), (5, .int (nI (10 + qo)))]) hx hb dX10_meetsAt_159 hl (k := 8) rfl (nI_add _ _) (by decide) rfl (fun ls hl => ?_)
              refine lv_goto (tgt := 202) hx hb dX10_meetsAt_162 (by decide) ?_
              refine lv_goto (tgt := 38) hx hb dX10_meetsAt_202 (by decide) ?_
              exact ih38 q (j + 1) (k - 1) (fu - 1) (M ++ slc (R (10 + po)) i q) _ _ _ _ _ hI1 (by rw [List.length_append, slc_len hq2]; omega) (by omega) (by rw [← hres, show fu = (fu - 1) + 1 by omega, mgF_b hjb c_88 c_128 hq]; rfl) hZ hP hS (by omega) (lv_sub hl [6, 7, 8, 2, 1, 0] rfl)
          · skip
            obtain ⟨q, hq, hq1, hq2, hI1⟩ := mgI_a hI0 hjb c_88
            refine lv_aload_n hx hb dX10_meetsAt_91 rfl (lv_at hl 2 rfl) ?_
            refine lv_iload hx hb dX10_meetsAt_92 (lv_at hl 4 rfl) ?_
            refine lv_iload hx hb dX10_meetsAt_94 (lv_at hl 7 rfl) ?_
            refine mp_i (As := [.int (nI (10 + qo)), .int (nI j)]) (rest := []) ⟨hx, hb, hml, hown, hts⟩ (k_end l dC dI aC am v (va_up R 27 M) F G A hE (10 + qo) (by omega) (by rw [upn (show 10 + qo ≠ 27 by omega)]; exact hVb) j (by omega)) (cwV 2 hts gX10_meetsAt_X10_end rfl rfl rfl (by decide +kernel) ⟨Nat.le_of_ble_eq_true rfl, Nat.le_of_ble_eq_true rfl⟩) hK hZ hP rfl hl.1 rfl (Nat.le_of_ble_eq_true rfl) dX10_meetsAt_96 ⟨Nat.le_of_ble_eq_true rfl, Nat.le_of_ble_eq_true rfl⟩ (fun x_96 h_96 => ?_)
            subst h_96
            refine nx_ti (y := nI q) (by rw [upn (show 10 + qo ≠ 27 by omega), hq]; rfl) ?_
            refine lv_istore (lv' := [(11, .int (nI q)), (10, .int (gD (R (10 + qo)) j)), (9, .int (gD (R (10 + po)) i)), (0, .ref (am 0)), (4, .int (nI (10 + po))), (5, .int (nI (10 + qo))), (6, .int (nI 1)), (7, .int (nI i)), (8, .int (nI j))]) hx hb dX10_meetsAt_99 hl (by decide) rfl (fun ls hl => ?_)
            refine lv_aload_n hx hb dX10_meetsAt_101 rfl (lv_at hl 3 rfl) ?_
            refine lv_bipush (v := nI 27) hx hb dX10_meetsAt_102 (by decide) ?_
            refine lv_iload hx hb dX10_meetsAt_104 (lv_at hl 5 rfl) ?_
            refine lv_iload hx hb dX10_meetsAt_106 (lv_at hl 8 rfl) ?_
            refine lv_iload hx hb dX10_meetsAt_108 (lv_at hl 0 rfl) ?_
            refine mc_i (As := [.int (nI 27), .int (nI (10 + qo)), .int (nI j), .int (nI q)]) (rest := []) ⟨hx, hb, hml, hown, hts⟩ (k_adds l dC dI aC am hI v (va_up R 27 M) F G 27 (by decide) (10 + qo) (by omega) (show 10 + qo ≠ 27 by omega) j q (by omega) (by rw [upn (show 10 + qo ≠ 27 by omega)]; omega)) (cwV 4 hts gX10_meetsAt_X10_adds rfl rfl rfl (by decide +kernel) ⟨Nat.le_of_ble_eq_true rfl, Nat.le_of_ble_eq_true rfl⟩) hK hZ hP hS rfl hl.1 rfl (Nat.le_of_ble_eq_true rfl) dX10_meetsAt_110 ⟨Nat.le_of_ble_eq_true rfl, Nat.le_of_ble_eq_true rfl⟩ (fun x_110 v9 R9 F9 G9 S Z H locs h_110 hZ hP hS => ?_)
            obtain ⟨M_10, hu_110, hx_110, hM_110⟩ := adds_u (R0 := R) (M := M) (to := 27) (fr := 10 + qo) (show 10 + qo ≠ 27 by omega) h_110
            rw [bI_t (by omega)] at hx_110
            subst hx_110
            have hM_110 := hM_110 (by omega)
            subst hM_110
            cases hu_110
            refine nx_ti (y := nI 1) (rfl) ?_
            refine lv_istore (lv' := [(6, .int (nI 1)), (11, .int (nI q)), (10, .int (gD (R (10 + qo)) j)), (9, .int (gD (R (10 + po)) i)), (0, .ref (am 0)), (4, .int (nI (10 + po))), (5, .int (nI (10 + qo))), (7, .int (nI i)), (8, .int (nI j))]) hx hb dX10_meetsAt_113 hl (by decide) rfl (fun ls hl => ?_)
            refine lv_iload hx hb dX10_meetsAt_115 (lv_at hl 1 rfl) ?_
            refine lv_istore (lv' := [(8, .int (nI q)), (6, .int (nI 1)), (11, .int (nI q)), (10, .int (gD (R (10 + qo)) j)), (9, .int (gD (R (10 + po)) i)), (0, .ref (am 0)), (4, .int (nI (10 + po))), (5, .int (nI (10 + qo))), (7, .int (nI i))]) hx hb dX10_meetsAt_117 hl (by decide) rfl (fun ls hl => ?_)
            refine lv_iinc (v := nI (i + 1)) (lv' := [(7, .int (nI (i + 1))), (8, .int (nI q)), (6, .int (nI 1)), (11, .int (nI q)), (10, .int (gD (R (10 + qo)) j)), (9, .int (gD (R (10 + po)) i)), (0, .ref (am 0)), (4, .int (nI (10 + po))), (5, .int (nI (10 + qo)))]) hx hb dX10_meetsAt_119 hl (k := 8) rfl (nI_add _ _) (by decide) rfl (fun ls hl => ?_)
            refine lv_goto (tgt := 202) hx hb dX10_meetsAt_122 (by decide) ?_
            refine lv_goto (tgt := 38) hx hb dX10_meetsAt_202 (by decide) ?_
            exact ih38 (i + 1) q (k - 1) (fu - 1) (M ++ slc (R (10 + qo)) j q) _ _ _ _ _ hI1 (by rw [List.length_append, slc_len hq2]; omega) (by omega) (by rw [← hres, show fu = (fu - 1) + 1 by omega, mgF_a hjb c_88 hq]; rfl) hZ hP hS (by omega) (lv_sub hl [6, 7, 8, 2, 0, 1] rfl)
  exact L38 (13 - 0 + 1) u0 0 1 ((R (10 + qo)).length + 1) ([] ++ slc (R (10 + po)) 0 u0) _ _ _ _ _ (mgI_0 hTa hTb hu0) (by rw [List.nil_append, slc_len (by omega)]; omega) (by omega) (by rw [List.nil_append]) hZ hP hS (Nat.lt_succ_self _) (lv_sub hl [5, 4, 3, 2, 1, 0] rfl)
