set_option maxHeartbeats 1000000 in
set_option maxRecDepth 100000 in
/-- turns -/
theorem k_turns (l : Launch) (dC : Nat → ClassId) (dI : Nat → Nat → Nat) (aC : Nat → ClassId) (am : Nat → Nat) (hI : mI am) (v : Nat → Int32) (R : Nat → List Int32) (F : Nat → Nat → Int32) (G : Nat → Nat → Int64) (A : Nat) (hE : vE A (F 1)) (hA : v 0 = nI A) (nr : Nat) (hn : v 4 = nI nr) (hn8 : nr ≤ 8) (hL : ∀ j, j < nr → lvs (R (10 + j)) ≤ 13) (hcc : ¬ v 6 = 0 → ∀ j, 1 ≤ j → j ≤ 6 → G 5 j = cmM (F 1) R nr A j) : Met l yX10_turns wsX10_turns ({ frames := 6, cells := 0, slots := 0, locals := 142 } : Room) (va_Pc [.ref (am 0)] (MB dC dI aC am (v, R, F, G))) (va_Qv (fun (u : MS) => ∃ a b c d M g pf tf, (va_up (va_up (va_up v 6 (nI 1)) 11 a) 12 b, va_up R 29 M, va_up (va_up F 7 c) 8 d, va_up (va_up (va_up G 5 g) 10 pf) 11 tf) = u ∧ (∀ j, 1 ≤ j → j ≤ 6 → g j = cmM (F 1) R nr A j) ∧ ∀ j, 1 ≤ j → j ≤ 6 → tf j = tnF (cmM (F 1) R nr A) 6 j) (MB dC dI aC am) (mA am)) 0 0 (mA am) := by
  refine Met.ofW (cc := cX10_turns) (maxL := 8) (ret := none) (by decide) rfl ?_
  intro p e s m args below meth c s₁ B hml hv
  obtain ⟨rfl, hK, S, Z, hZ, hP⟩ := hv
  have hx := B.exec
  have hb := B.bytes
  have hret := B.returns
  have hts := atoms_spec (ws := wsX10_turns) B.pre
  have hown : s.vm.findClass RX10 = some m.cls := findClass_of_methodNamed B.named
  have hlocks := B.notSynchronized
  dsimp only at hZ hP
  have lk0 := hts (.fieldLink RX10 39 "LeafTreesModel" "parts" "[J") (by decide +kernel)
  have lk1 := hts (.fieldLink RX10 42 "LeafTreesModel" "turnedOf" "[J") (by decide +kernel)
  have lk2 := hts (.fieldLink RX10 23 "LeafTreesModel" "counted" "[J") (by decide +kernel)
  have hin10 : ∀ w ∈ u_ws RX10 TX10 22, w ∈ wsX10_turns := by decide +kernel
  have hS : va_S (mA am) s.heap s.heap [] := va_S.rf
  have hl := lv_entry [.ref (am 0)] (n := 8) (Nat.le_of_ble_eq_true rfl)
  rw [lg_entry_eq]
  generalize (lg_sl [.ref (am 0)] ++ List.replicate (8 - (lg_sl [.ref (am 0)]).length) Slot.unset).toArray = ls at hl ⊢
  have hl : lv_has ls 8 [(0, .ref (am 0))] := hl
  refine nx_Q (R := ({ frames := 6, cells := 0, slots := 0, locals := 142 } : Room)) (fun Q hQ => ?_)
  skip
  refine lv_aload_n hx hb dX10_turns_0 rfl (lv_at hl 0 rfl) ?_
  refine mc_v (As := []) (rest := []) ⟨hx, hb, hml, hown, hts⟩ (k_counts l dC dI aC am hI v R F G A hE hA nr hn hn8 hL hcc) (cwV 0 hts gX10_turns_X10_counts rfl rfl rfl (by decide +kernel) ⟨Nat.le_of_ble_eq_true rfl, Nat.le_of_ble_eq_true rfl⟩) hK hZ hP hS rfl hl.1 rfl (Nat.le_of_ble_eq_true rfl) dX10_turns_1 ⟨Nat.le_of_ble_eq_true rfl, Nat.le_of_ble_eq_true rfl⟩ (fun v1 R1 F1 G1 S Z H locs h_1 hZ hP hS => ?_)
  obtain ⟨ca, cb, cc0, cd, Mc, cg, hu_1, hcg⟩ := h_1
  cases hu_1
  have hP : va_P (dC, dI) vwCl (wsM aC am (va_up (va_up (va_up v 6 (nI 1)) 11 ca) 12 cb) S Z (va_up (va_up F 7 cc0) 8 cd) (va_up (va_up (va_up G 5 cg) 10 (G 10)) 11 (G 11))) H := hP
  refine lv_iconst (v := nI 0) hx hb dX10_turns_4 (by decide) ?_
  refine lv_istore_n (lv' := [(1, .int (nI 0)), (0, .ref (am 0))]) hx hb dX10_turns_5 rfl hl (by decide) rfl (fun ls hl => ?_)
  have L6 : ∀ (fuel6 : Nat) (i : Nat) (pf : Nat → Int64) (S Z : Nat → Int32) (H : Heap) (locs : List Loc) (ls : Array Slot), (i ≤ 49) → (∀ j, j < i → pf j = 0) → mOK S Z (va_up R 29 Mc) → va_P (dC, dI) vwCl (wsM aC am (va_up (va_up (va_up v 6 (nI 1)) 11 ca) 12 cb) S Z (va_up (va_up F 7 cc0) 8 cd) (va_up (va_up (va_up G 5 cg) 10 pf) 11 (G 11))) H → va_S (mA am) s.heap H locs → 49 - i < fuel6 → lv_has ls 8 [(0, .ref (am 0)), (1, .int (nI i))] → W p l e ({ frames := 6, cells := 0, slots := 0, locals := 142 } : Room) s m ([.ref (am 0)] : List Value).toArray below meth c H locs 0 0 Q (F0 m 6 ls []) := by
    intro fuel6
    induction fuel6 with
    | zero => intro i pf S Z H locs ls hi hz hZ hP hS hf6 hl; exact absurd hf6 (Nat.not_lt_zero _)
    | succ fuel6 ih6 =>
      intro i pf S Z H locs ls hi hz hZ hP hS hf6 hl
      refine lv_iload_n hx hb dX10_turns_6 rfl (lv_at hl 1 rfl) ?_
      refine lv_bipush (v := nI 49) hx hb dX10_turns_7 (by decide) ?_
      refine nx_icmp_ge (a := i) (b := 49) (tgt := 25) hx hb dX10_turns_9 (by decide) (by omega) (by omega) (fun c_9 => ?_) (fun c_9 => ?_)
      · skip
        refine lv_aload_n hx hb dX10_turns_25 rfl (lv_at hl 0 rfl) ?_
        refine va_get (D := (dC, dI)) (ci := 10) (C := RX10) (T := TX10) (N := 22) hx hb hts hin10 hown hK hP 0 rfl rfl 18 (by decide) lk0 (fun _ h9 => h9) rfl dX10_turns_26 ?_
        refine lv_iconst (v := nI 0) hx hb dX10_turns_29 (by decide) ?_
        refine lv_lconst (v := 1) hx hb dX10_turns_30 (by decide) ?_
        refine nx_last hx hb hK hP (wsM_D hI) hS 10 1 rfl rfl (i := 0) (by omega) (by decide) dX10_turns_31 (fun H locs hP hS => ?_)
        have hP : va_P (dC, dI) vwCl (wsM aC am (va_up (va_up (va_up v 6 (nI 1)) 11 ca) 12 cb) S Z (va_up (va_up F 7 cc0) 8 cd) (va_up (va_up (va_up G 5 cg) 10 (vp_updL pf 0 1)) 11 (G 11))) H := hP
        refine lv_iconst (v := nI 1) hx hb dX10_turns_32 (by decide) ?_
        refine lv_istore_n (lv' := [(1, .int (nI 1)), (0, .ref (am 0))]) hx hb dX10_turns_33 rfl hl (by decide) rfl (fun ls hl => ?_)
        have L34 : ∀ (fuel34 : Nat) (n0 : Nat) (tf : Nat → Int64) (pf : Nat → Int64) (S Z : Nat → Int32) (H : Heap) (locs : List Loc) (ls : Array Slot), (1 ≤ n0) → (n0 ≤ 7) → (∀ j, 1 ≤ j → j < n0 → tf j = tnF (cmM (F 1) R nr A) (n0 - 1) j) → (pOK (cmM (F 1) R nr A) pf n0) → mOK S Z (va_up R 29 Mc) → va_P (dC, dI) vwCl (wsM aC am (va_up (va_up (va_up v 6 (nI 1)) 11 ca) 12 cb) S Z (va_up (va_up F 7 cc0) 8 cd) (va_up (va_up (va_up G 5 cg) 10 pf) 11 tf)) H → va_S (mA am) s.heap H locs → 7 - n0 < fuel34 → lv_has ls 8 [(0, .ref (am 0)), (1, .int (nI n0))] → W p l e ({ frames := 6, cells := 0, slots := 0, locals := 142 } : Room) s m ([.ref (am 0)] : List Value).toArray below meth c H locs 0 0 Q (F0 m 34 ls []) := by
          intro fuel34
          induction fuel34 with
          | zero => intro n0 tf pf S Z H locs ls h1 h7 htf hpk hZ hP hS hf34 hl; exact absurd hf34 (Nat.not_lt_zero _)
          | succ fuel34 ih34 =>
            intro n0 tf pf S Z H locs ls h1 h7 htf hpk hZ hP hS hf34 hl
            refine lv_iload_n hx hb dX10_turns_34 rfl (lv_at hl 1 rfl) ?_
            refine lv_bipush (v := nI 6) hx hb dX10_turns_35 (by decide) ?_
            refine nx_icmp_gt (a := n0) (b := 6) (tgt := 170) hx hb dX10_turns_37 (by decide) (by omega) (by omega) (fun c_37 => ?_) (fun c_37 => ?_)
            · skip
              subst hQ
              exact W.vret hx hb hret (fun tq htq hWq => ⟨⟨((va_up (va_up (va_up v 6 (nI 1)) 11 ca) 12 cb), va_up R 29 Mc, (va_up (va_up F 7 cc0) 8 cd), (va_up (va_up (va_up G 5 cg) 10 pf) 11 tf)), rfl, ⟨_, _, _, _, _, _, _, _, rfl, hcg, fun j a b => by have := htf j a (by omega); rwa [show n0 - 1 = 6 by omega] at this⟩, va_K.moved hWq.alike hK, _, _, hZ, by rw [htq]; exact hP⟩, hS.F htq⟩) hS.2.2 dX10_turns_170
            · skip
              refine lv_lconst (v := 0) hx hb dX10_turns_40 (by decide) ?_
              refine lv_lstore_n (lv' := [(2, .long 0), (0, .ref (am 0)), (1, .int (nI n0))]) hx hb dX10_turns_41 rfl hl (by decide) rfl (fun ls hl => ?_)
              refine lv_iconst (v := nI 2) hx hb dX10_turns_42 (by decide) ?_
              refine lv_istore (lv' := [(4, .int (nI 2)), (2, .long 0), (0, .ref (am 0)), (1, .int (nI n0))]) hx hb dX10_turns_43 hl (by decide) rfl (fun ls hl => ?_)
              have L45 : ∀ (fuel45 : Nat) (k0 : Nat) (pfk : Nat → Int64) (S Z : Nat → Int32) (H : Heap) (locs : List Loc) (ls : Array Slot), (2 ≤ k0) → (k0 ≤ n0 + 2) → (k0 ≤ n0 + 1 ∨ n0 = 1) → (pOKk (cmM (F 1) R nr A) pfk n0 k0) → mOK S Z (va_up R 29 Mc) → va_P (dC, dI) vwCl (wsM aC am (va_up (va_up (va_up v 6 (nI 1)) 11 ca) 12 cb) S Z (va_up (va_up F 7 cc0) 8 cd) (va_up (va_up (va_up G 5 cg) 10 pfk) 11 tf)) H → va_S (mA am) s.heap H locs → 9 - k0 < fuel45 → lv_has ls 8 [(0, .ref (am 0)), (1, .int (nI n0)), (2, .long (slF (fun q => (cmM (F 1) R nr A) q * pwF (tnF (cmM (F 1) R nr A) (n0 - 1)) (q - 1) n0) 2 (k0 - 2))), (4, .int (nI k0))] → W p l e ({ frames := 6, cells := 0, slots := 0, locals := 142 } : Room) s m ([.ref (am 0)] : List Value).toArray below meth c H locs 0 0 Q (F0 m 45 ls []) := by
                intro fuel45
                induction fuel45 with
                | zero => intro k0 pfk S Z H locs ls hk2 hk7 hkn hpkk hZ hP hS hf45 hl; exact absurd hf45 (Nat.not_lt_zero _)
                | succ fuel45 ih45 =>
                  intro k0 pfk S Z H locs ls hk2 hk7 hkn hpkk hZ hP hS hf45 hl
                  refine lv_iload hx hb dX10_turns_45 (lv_at hl 3 rfl) ?_
                  refine lv_iload_n hx hb dX10_turns_47 rfl (lv_at hl 1 rfl) ?_
                  refine nx_icmp_gt (a := k0) (b := n0) (tgt := 132) hx hb dX10_turns_48 (by decide) (by omega) (by omega) (fun c_48 => ?_) (fun c_48 => ?_)
                  · skip
                    refine lv_aload_n hx hb dX10_turns_132 rfl (lv_at hl 0 rfl) ?_
                    refine va_get (D := (dC, dI)) (ci := 10) (C := RX10) (T := TX10) (N := 22) hx hb hts hin10 hown hK hP 0 rfl rfl 19 (by decide) lk1 (fun _ h9 => h9) rfl dX10_turns_133 ?_
                    refine lv_iload_n hx hb dX10_turns_136 rfl (lv_at hl 1 rfl) ?_
                    refine lv_iload_n hx hb dX10_turns_137 rfl (lv_at hl 1 rfl) ?_
                    refine lv_iconst (v := nI 1) hx hb dX10_turns_138 (by decide) ?_
                    refine nx_icmp_ne (a := n0) (b := 1) (tgt := 146) hx hb dX10_turns_139 (by decide) (by omega) (by omega) (fun c_139 => ?_) (fun c_139 => ?_)
                    · skip
                      refine lv_lload_n hx hb dX10_turns_146 rfl (lv_at hl 2 rfl) ?_
                      refine lv_lneg hx hb dX10_turns_147 ?_
                      refine nx_tl (y := tnF (cmM (F 1) R nr A) n0 n0) (by rw [show tnF (cmM (F 1) R nr A) n0 n0 = tnV (cmM (F 1) R nr A) (tnF (cmM (F 1) R nr A) (n0 - 1)) n0 from tnF_at h1, tnV, if_neg c_139, show n0 - 1 = k0 - 2 by omega]) ?_
                      refine nx_last hx hb hK hP (wsM_D hI) hS 11 1 rfl rfl (i := n0) (by omega) (by decide) dX10_turns_148 (fun H locs hP hS => ?_)
                      have hP : va_P (dC, dI) vwCl (wsM aC am (va_up (va_up (va_up v 6 (nI 1)) 11 ca) 12 cb) S Z (va_up (va_up F 7 cc0) 8 cd) (va_up (va_up (va_up G 5 cg) 10 pfk) 11 (vp_updL tf n0 (tnF (cmM (F 1) R nr A) n0 n0)))) H := hP
                      refine lv_aload_n hx hb dX10_turns_149 rfl (lv_at hl 0 rfl) ?_
                      refine va_get (D := (dC, dI)) (ci := 10) (C := RX10) (T := TX10) (N := 22) hx hb hts hin10 hown hK hP 0 rfl rfl 18 (by decide) lk0 (fun _ h9 => h9) rfl dX10_turns_150 ?_
                      refine lv_bipush (v := nI 7) hx hb dX10_turns_153 (by decide) ?_
                      refine lv_iload_n hx hb dX10_turns_155 rfl (lv_at hl 1 rfl) ?_
                      refine lv_iadd hx hb dX10_turns_156 ?_
                      refine nx_ti (y := nI (7 + n0)) (nI_add _ _) ?_
                      refine lv_aload_n hx hb dX10_turns_157 rfl (lv_at hl 0 rfl) ?_
                      refine va_get (D := (dC, dI)) (ci := 10) (C := RX10) (T := TX10) (N := 22) hx hb hts hin10 hown hK hP 0 rfl rfl 19 (by decide) lk1 (fun _ h9 => h9) rfl dX10_turns_158 ?_
                      refine lv_iload_n hx hb dX10_turns_161 rfl (lv_at hl 1 rfl) ?_
                      refine nx_lald hx hb hK hP 11 1 rfl rfl (i := n0) (by omega) (by decide) dX10_turns_162 ?_
                      refine nx_tl (y := tnF (cmM (F 1) R nr A) n0 n0) (updL_s) ?_
                      refine nx_last hx hb hK hP (wsM_D hI) hS 10 1 rfl rfl (i := 7 + n0) (by omega) (by decide) dX10_turns_163 (fun H locs hP hS => ?_)
                      have hP : va_P (dC, dI) vwCl (wsM aC am (va_up (va_up (va_up v 6 (nI 1)) 11 ca) 12 cb) S Z (va_up (va_up F 7 cc0) 8 cd) (va_up (va_up (va_up G 5 cg) 10 (vp_updL pfk (7 + n0) (tnF (cmM (F 1) R nr A) n0 n0))) 11 (vp_updL tf n0 (tnF (cmM (F 1) R nr A) n0 n0)))) H := hP
                      refine lv_iinc (v := nI (n0 + 1)) (lv' := [(1, .int (nI (n0 + 1))), (0, .ref (am 0)), (2, .long (slF (fun q => (cmM (F 1) R nr A) q * pwF (tnF (cmM (F 1) R nr A) (n0 - 1)) (q - 1) n0) 2 (k0 - 2))), (4, .int (nI k0))]) hx hb dX10_turns_164 hl (k := 1) rfl (nI_add _ _) (by decide) rfl (fun ls hl => ?_)
                      refine lv_goto (tgt := 34) hx hb dX10_turns_167 (by decide) ?_
                      exact ih34 (n0 + 1) (vp_updL tf n0 (tnF (cmM (F 1) R nr A) n0 n0)) (vp_updL pfk (7 + n0) (tnF (cmM (F 1) R nr A) n0 n0)) _ _ _ _ _ (by omega) (by omega) (fun j a b => by rw [Nat.add_sub_cancel]; by_cases hj : j = n0 <;> first | (rw [hj, updL_s]; done) | (rw [updL_n hj, htf j a (by omega), tnF_le (show j ≤ n0 - 1 by omega), tnF_le (show j ≤ n0 by omega)])) (pOK_s hpkk c_37 h1 c_48) hZ hP hS (by omega) (lv_sub hl [1, 0] rfl)
                    · skip
                      refine lv_lconst (v := 1) hx hb dX10_turns_142 (by decide) ?_
                      refine lv_goto (tgt := 148) hx hb dX10_turns_143 (by decide) ?_
                      refine nx_tl (y := tnF (cmM (F 1) R nr A) n0 n0) (by rw [c_139]; rfl) ?_
                      refine nx_last hx hb hK hP (wsM_D hI) hS 11 1 rfl rfl (i := n0) (by omega) (by decide) dX10_turns_148 (fun H locs hP hS => ?_)
                      have hP : va_P (dC, dI) vwCl (wsM aC am (va_up (va_up (va_up v 6 (nI 1)) 11 ca) 12 cb) S Z (va_up (va_up F 7 cc0) 8 cd) (va_up (va_up (va_up G 5 cg) 10 pfk) 11 (vp_updL tf n0 (tnF (cmM (F 1) R nr A) n0 n0)))) H := hP
                      refine lv_aload_n hx hb dX10_turns_149 rfl (lv_at hl 0 rfl) ?_
                      refine va_get (D := (dC, dI)) (ci := 10) (C := RX10) (T := TX10) (N := 22) hx hb hts hin10 hown hK hP 0 rfl rfl 18 (by decide) lk0 (fun _ h9 => h9) rfl dX10_turns_150 ?_
                      refine lv_bipush (v := nI 7) hx hb dX10_turns_153 (by decide) ?_
                      refine lv_iload_n hx hb dX10_turns_155 rfl (lv_at hl 1 rfl) ?_
                      refine lv_iadd hx hb dX10_turns_156 ?_
                      refine nx_ti (y := nI (7 + n0)) (nI_add _ _) ?_
                      refine lv_aload_n hx hb dX10_turns_157 rfl (lv_at hl 0 rfl) ?_
                      refine va_get (D := (dC, dI)) (ci := 10) (C := RX10) (T := TX10) (N := 22) hx hb hts hin10 hown hK hP 0 rfl rfl 19 (by decide) lk1 (fun _ h9 => h9) rfl dX10_turns_158 ?_
                      refine lv_iload_n hx hb dX10_turns_161 rfl (lv_at hl 1 rfl) ?_
                      refine nx_lald hx hb hK hP 11 1 rfl rfl (i := n0) (by omega) (by decide) dX10_turns_162 ?_
                      refine nx_tl (y := tnF (cmM (F 1) R nr A) n0 n0) (updL_s) ?_
                      refine nx_last hx hb hK hP (wsM_D hI) hS 10 1 rfl rfl (i := 7 + n0) (by omega) (by decide) dX10_turns_163 (fun H locs hP hS => ?_)
                      have hP : va_P (dC, dI) vwCl (wsM aC am (va_up (va_up (va_up v 6 (nI 1)) 11 ca) 12 cb) S Z (va_up (va_up F 7 cc0) 8 cd) (va_up (va_up (va_up G 5 cg) 10 (vp_updL pfk (7 + n0) (tnF (cmM (F 1) R nr A) n0 n0))) 11 (vp_updL tf n0 (tnF (cmM (F 1) R nr A) n0 n0)))) H := hP
                      refine lv_iinc (v := nI (n0 + 1)) (lv' := [(1, .int (nI (n0 + 1))), (0, .ref (am 0)), (2, .long (slF (fun q => (cmM (F 1) R nr A) q * pwF (tnF (cmM (F 1) R nr A) (n0 - 1)) (q - 1) n0) 2 (k0 - 2))), (4, .int (nI k0))]) hx hb dX10_turns_164 hl (k := 1) rfl (nI_add _ _) (by decide) rfl (fun ls hl => ?_)
                      refine lv_goto (tgt := 34) hx hb dX10_turns_167 (by decide) ?_
                      exact ih34 (n0 + 1) (vp_updL tf n0 (tnF (cmM (F 1) R nr A) n0 n0)) (vp_updL pfk (7 + n0) (tnF (cmM (F 1) R nr A) n0 n0)) _ _ _ _ _ (by omega) (by omega) (fun j a b => by rw [Nat.add_sub_cancel]; by_cases hj : j = n0 <;> first | (rw [hj, updL_s]; done) | (rw [updL_n hj, htf j a (by omega), tnF_le (show j ≤ n0 - 1 by omega), tnF_le (show j ≤ n0 by omega)])) (pOK_s hpkk c_37 h1 c_48) hZ hP hS (by omega) (lv_sub hl [1, 0] rfl)
                  · skip
                    refine lv_lconst (v := 0) hx hb dX10_turns_51 (by decide) ?_
                    refine lv_lstore (lv' := [(5, .long 0), (0, .ref (am 0)), (1, .int (nI n0)), (2, .long (slF (fun q => (cmM (F 1) R nr A) q * pwF (tnF (cmM (F 1) R nr A) (n0 - 1)) (q - 1) n0) 2 (k0 - 2))), (4, .int (nI k0))]) hx hb dX10_turns_52 hl (by decide) rfl (fun ls hl => ?_)
                    refine lv_iconst (v := nI 1) hx hb dX10_turns_54 (by decide) ?_
                    refine lv_istore (lv' := [(7, .int (nI 1)), (5, .long 0), (0, .ref (am 0)), (1, .int (nI n0)), (2, .long (slF (fun q => (cmM (F 1) R nr A) q * pwF (tnF (cmM (F 1) R nr A) (n0 - 1)) (q - 1) n0) 2 (k0 - 2))), (4, .int (nI k0))]) hx hb dX10_turns_55 hl (by decide) rfl (fun ls hl => ?_)
                    have L57 : ∀ (fuel57 : Nat) (m0 : Nat) (S Z : Nat → Int32) (H : Heap) (locs : List Loc) (ls : Array Slot), (1 ≤ m0) → (m0 ≤ n0) → mOK S Z (va_up R 29 Mc) → va_P (dC, dI) vwCl (wsM aC am (va_up (va_up (va_up v 6 (nI 1)) 11 ca) 12 cb) S Z (va_up (va_up F 7 cc0) 8 cd) (va_up (va_up (va_up G 5 cg) 10 pfk) 11 tf)) H → va_S (mA am) s.heap H locs → 7 - m0 < fuel57 → lv_has ls 8 [(0, .ref (am 0)), (1, .int (nI n0)), (2, .long (slF (fun q => (cmM (F 1) R nr A) q * pwF (tnF (cmM (F 1) R nr A) (n0 - 1)) (q - 1) n0) 2 (k0 - 2))), (4, .int (nI k0)), (5, .long (slF (fun q => tnF (cmM (F 1) R nr A) (n0 - 1) q * pwF (tnF (cmM (F 1) R nr A) (n0 - 1)) (k0 - 2) (n0 - q)) 1 (m0 - 1))), (7, .int (nI m0))] → W p l e ({ frames := 6, cells := 0, slots := 0, locals := 142 } : Room) s m ([.ref (am 0)] : List Value).toArray below meth c H locs 0 0 Q (F0 m 57 ls []) := by
                      intro fuel57
                      induction fuel57 with
                      | zero => intro m0 S Z H locs ls hm1 hmn hZ hP hS hf57 hl; exact absurd hf57 (Nat.not_lt_zero _)
                      | succ fuel57 ih57 =>
                        intro m0 S Z H locs ls hm1 hmn hZ hP hS hf57 hl
                        refine lv_iload hx hb dX10_turns_57 (lv_at hl 5 rfl) ?_
                        refine lv_iload_n hx hb dX10_turns_59 rfl (lv_at hl 1 rfl) ?_
                        refine nx_icmp_ge (a := m0) (b := n0) (tgt := 99) hx hb dX10_turns_60 (by decide) (by omega) (by omega) (fun c_60 => ?_) (fun c_60 => ?_)
                        · skip
                          refine lv_aload_n hx hb dX10_turns_99 rfl (lv_at hl 0 rfl) ?_
                          refine va_get (D := (dC, dI)) (ci := 10) (C := RX10) (T := TX10) (N := 22) hx hb hts hin10 hown hK hP 0 rfl rfl 18 (by decide) lk0 (fun _ h9 => h9) rfl dX10_turns_100 ?_
                          refine lv_bipush (v := nI 7) hx hb dX10_turns_103 (by decide) ?_
                          refine lv_iload hx hb dX10_turns_105 (lv_at hl 3 rfl) ?_
                          refine lv_imul hx hb dX10_turns_107 ?_
                          refine nx_ti (y := nI (7 * k0)) (pk_mul _ _) ?_
                          refine lv_iload_n hx hb dX10_turns_108 rfl (lv_at hl 1 rfl) ?_
                          refine lv_iadd hx hb dX10_turns_109 ?_
                          refine nx_ti (y := nI (7 * k0 + n0)) (nI_add _ _) ?_
                          refine lv_lload hx hb dX10_turns_110 (lv_at hl 4 rfl) ?_
                          refine nx_tl (y := pwF (tnF (cmM (F 1) R nr A) (n0 - 1)) (k0 - 1) n0) (by rw [show k0 - 1 = (k0 - 2) + 1 by omega, pwF, show m0 = n0 by omega]) ?_
                          refine nx_last hx hb hK hP (wsM_D hI) hS 10 1 rfl rfl (i := 7 * k0 + n0) (by omega) (by decide) dX10_turns_112 (fun H locs hP hS => ?_)
                          have hP : va_P (dC, dI) vwCl (wsM aC am (va_up (va_up (va_up v 6 (nI 1)) 11 ca) 12 cb) S Z (va_up (va_up F 7 cc0) 8 cd) (va_up (va_up (va_up G 5 cg) 10 (vp_updL pfk (7 * k0 + n0) (pwF (tnF (cmM (F 1) R nr A) (n0 - 1)) (k0 - 1) n0))) 11 tf)) H := hP
                          refine lv_lload_n hx hb dX10_turns_113 rfl (lv_at hl 2 rfl) ?_
                          refine lv_aload_n hx hb dX10_turns_114 rfl (lv_at hl 0 rfl) ?_
                          refine va_get (D := (dC, dI)) (ci := 10) (C := RX10) (T := TX10) (N := 22) hx hb hts hin10 hown hK hP 0 rfl rfl 7 (by decide) lk2 (fun _ h9 => h9) rfl dX10_turns_115 ?_
                          refine lv_iload hx hb dX10_turns_118 (lv_at hl 3 rfl) ?_
                          refine nx_lald hx hb hK hP 5 1 rfl rfl (i := k0) (by omega) (by decide) dX10_turns_120 ?_
                          refine nx_tl (y := (cmM (F 1) R nr A) k0) (hcg k0 (by omega) (by omega)) ?_
                          refine lv_lload hx hb dX10_turns_121 (lv_at hl 4 rfl) ?_
                          refine nx_tl (y := pwF (tnF (cmM (F 1) R nr A) (n0 - 1)) (k0 - 1) n0) (by rw [show k0 - 1 = (k0 - 2) + 1 by omega, pwF, show m0 = n0 by omega]) ?_
                          refine lv_lmul hx hb dX10_turns_123 ?_
                          refine lv_ladd hx hb dX10_turns_124 ?_
                          refine lv_lstore_n (lv' := [(2, .long ((slF (fun q => (cmM (F 1) R nr A) q * pwF (tnF (cmM (F 1) R nr A) (n0 - 1)) (q - 1) n0) 2 (k0 - 2)) + (((cmM (F 1) R nr A) k0) * (pwF (tnF (cmM (F 1) R nr A) (n0 - 1)) (k0 - 1) n0)))), (0, .ref (am 0)), (1, .int (nI n0)), (4, .int (nI k0)), (5, .long (slF (fun q => tnF (cmM (F 1) R nr A) (n0 - 1) q * pwF (tnF (cmM (F 1) R nr A) (n0 - 1)) (k0 - 2) (n0 - q)) 1 (m0 - 1))), (7, .int (nI m0))]) hx hb dX10_turns_125 rfl hl (by decide) rfl (fun ls hl => ?_)
                          refine lv_iinc (v := nI (k0 + 1)) (lv' := [(4, .int (nI (k0 + 1))), (2, .long ((slF (fun q => (cmM (F 1) R nr A) q * pwF (tnF (cmM (F 1) R nr A) (n0 - 1)) (q - 1) n0) 2 (k0 - 2)) + (((cmM (F 1) R nr A) k0) * (pwF (tnF (cmM (F 1) R nr A) (n0 - 1)) (k0 - 1) n0)))), (0, .ref (am 0)), (1, .int (nI n0)), (5, .long (slF (fun q => tnF (cmM (F 1) R nr A) (n0 - 1) q * pwF (tnF (cmM (F 1) R nr A) (n0 - 1)) (k0 - 2) (n0 - q)) 1 (m0 - 1))), (7, .int (nI m0))]) hx hb dX10_turns_126 hl (k := 3) rfl (nI_add _ _) (by decide) rfl (fun ls hl => ?_)
                          refine lv_goto (tgt := 45) hx hb dX10_turns_129 (by decide) ?_
                          exact ih45 (k0 + 1) (vp_updL pfk (7 * k0 + n0) (pwF (tnF (cmM (F 1) R nr A) (n0 - 1)) (k0 - 1) n0)) _ _ _ _ _ (by omega) (by omega) (by omega) (pOKk_s hpkk c_37 h1 hk2 (by omega)) hZ hP hS (by omega) (by rw [show k0 + 1 - 2 = (k0 - 2) + 1 by omega, slF, show 2 + (k0 - 2) = k0 by omega]; exact lv_sub hl [2, 3, 1, 0] rfl)
                        · skip
                          refine lv_lload hx hb dX10_turns_63 (lv_at hl 4 rfl) ?_
                          refine lv_aload_n hx hb dX10_turns_65 rfl (lv_at hl 0 rfl) ?_
                          refine va_get (D := (dC, dI)) (ci := 10) (C := RX10) (T := TX10) (N := 22) hx hb hts hin10 hown hK hP 0 rfl rfl 19 (by decide) lk1 (fun _ h9 => h9) rfl dX10_turns_66 ?_
                          refine lv_iload hx hb dX10_turns_69 (lv_at hl 5 rfl) ?_
                          refine nx_lald hx hb hK hP 11 1 rfl rfl (i := m0) (by omega) (by decide) dX10_turns_71 ?_
                          refine nx_tl (y := tnF (cmM (F 1) R nr A) (n0 - 1) m0) (htf m0 hm1 c_60) ?_
                          refine lv_aload_n hx hb dX10_turns_72 rfl (lv_at hl 0 rfl) ?_
                          refine va_get (D := (dC, dI)) (ci := 10) (C := RX10) (T := TX10) (N := 22) hx hb hts hin10 hown hK hP 0 rfl rfl 18 (by decide) lk0 (fun _ h9 => h9) rfl dX10_turns_73 ?_
                          refine lv_bipush (v := nI 7) hx hb dX10_turns_76 (by decide) ?_
                          refine lv_iload hx hb dX10_turns_78 (lv_at hl 3 rfl) ?_
                          refine lv_iconst (v := nI 1) hx hb dX10_turns_80 (by decide) ?_
                          refine lv_isub hx hb dX10_turns_81 ?_
                          refine nx_ti (y := nI (k0 - 1)) (pk_sub (by omega)) ?_
                          refine lv_imul hx hb dX10_turns_82 ?_
                          refine nx_ti (y := nI (7 * (k0 - 1))) (pk_mul _ _) ?_
                          refine lv_iload_n hx hb dX10_turns_83 rfl (lv_at hl 1 rfl) ?_
                          refine lv_iadd hx hb dX10_turns_84 ?_
                          refine nx_ti (y := nI ((7 * (k0 - 1)) + n0)) (nI_add _ _) ?_
                          refine lv_iload hx hb dX10_turns_85 (lv_at hl 5 rfl) ?_
                          refine lv_isub hx hb dX10_turns_87 ?_
                          refine nx_ti (y := nI (((7 * (k0 - 1)) + n0) - m0)) (pk_sub (by omega)) ?_
                          refine nx_lald hx hb hK hP 10 1 rfl rfl (i := ((7 * (k0 - 1)) + n0) - m0) (by omega) (by decide) dX10_turns_88 ?_
                          refine nx_tl (y := pwF (tnF (cmM (F 1) R nr A) (n0 - 1)) (k0 - 2) (n0 - m0)) (by show pfk (7 * (k0 - 1) + n0 - m0) = _; rw [show 7 * (k0 - 1) + n0 - m0 = 7 * (k0 - 1) + (n0 - m0) by omega, hpkk.1 (k0 - 1) (n0 - m0) (by omega) (by omega) (by omega) (by omega) (by omega), show k0 - 1 - 1 = k0 - 2 by omega]) ?_
                          refine lv_lmul hx hb dX10_turns_89 ?_
                          refine lv_ladd hx hb dX10_turns_90 ?_
                          refine lv_lstore (lv' := [(5, .long ((slF (fun q => tnF (cmM (F 1) R nr A) (n0 - 1) q * pwF (tnF (cmM (F 1) R nr A) (n0 - 1)) (k0 - 2) (n0 - q)) 1 (m0 - 1)) + ((tnF (cmM (F 1) R nr A) (n0 - 1) m0) * (pwF (tnF (cmM (F 1) R nr A) (n0 - 1)) (k0 - 2) (n0 - m0))))), (0, .ref (am 0)), (1, .int (nI n0)), (2, .long (slF (fun q => (cmM (F 1) R nr A) q * pwF (tnF (cmM (F 1) R nr A) (n0 - 1)) (q - 1) n0) 2 (k0 - 2))), (4, .int (nI k0)), (7, .int (nI m0))]) hx hb dX10_turns_91 hl (by decide) rfl (fun ls hl => ?_)
                          refine lv_iinc (v := nI (m0 + 1)) (lv' := [(7, .int (nI (m0 + 1))), (5, .long ((slF (fun q => tnF (cmM (F 1) R nr A) (n0 - 1) q * pwF (tnF (cmM (F 1) R nr A) (n0 - 1)) (k0 - 2) (n0 - q)) 1 (m0 - 1)) + ((tnF (cmM (F 1) R nr A) (n0 - 1) m0) * (pwF (tnF (cmM (F 1) R nr A) (n0 - 1)) (k0 - 2) (n0 - m0))))), (0, .ref (am 0)), (1, .int (nI n0)), (2, .long (slF (fun q => (cmM (F 1) R nr A) q * pwF (tnF (cmM (F 1) R nr A) (n0 - 1)) (q - 1) n0) 2 (k0 - 2))), (4, .int (nI k0))]) hx hb dX10_turns_93 hl (k := 5) rfl (nI_add _ _) (by decide) rfl (fun ls hl => ?_)
                          refine lv_goto (tgt := 57) hx hb dX10_turns_96 (by decide) ?_
                          exact ih57 (m0 + 1) _ _ _ _ _ (by omega) (by omega) hZ hP hS (by omega) (by rw [show m0 + 1 - 1 = (m0 - 1) + 1 by omega, slF, show 1 + (m0 - 1) = m0 by omega]; exact lv_sub hl [2, 3, 4, 5, 1, 0] rfl)
                    exact L57 (7 - 1 + 1) 1 _ _ _ _ _ (by omega) (by omega) hZ hP hS (Nat.lt_succ_self _) (lv_sub hl [2, 3, 4, 5, 1, 0] rfl)
              exact L45 (9 - 2 + 1) 2 pf _ _ _ _ _ (by omega) (by omega) (by omega) (pOKk_0 hpk) hZ hP hS (Nat.lt_succ_self _) (lv_sub hl [2, 3, 1, 0] rfl)
        exact L34 (7 - 1 + 1) 1 (G 11) (vp_updL pf 0 1) _ _ _ _ _ (by omega) (by omega) (fun j a b => by omega) (⟨fun k j a b c0 d0 e0 => by omega, fun k j a b c0 d0 => by rw [updL_n (by omega)]; exact hz _ (by omega)⟩) hZ hP hS (Nat.lt_succ_self _) (lv_sub hl [1, 0] rfl)
      · skip
        refine lv_aload_n hx hb dX10_turns_12 rfl (lv_at hl 0 rfl) ?_
        refine va_get (D := (dC, dI)) (ci := 10) (C := RX10) (T := TX10) (N := 22) hx hb hts hin10 hown hK hP 0 rfl rfl 18 (by decide) lk0 (fun _ h9 => h9) rfl dX10_turns_13 ?_
        refine lv_iload_n hx hb dX10_turns_16 rfl (lv_at hl 1 rfl) ?_
        refine lv_lconst (v := 0) hx hb dX10_turns_17 (by decide) ?_
        refine nx_last hx hb hK hP (wsM_D hI) hS 10 1 rfl rfl (i := i) (by omega) (by decide) dX10_turns_18 (fun H locs hP hS => ?_)
        have hP : va_P (dC, dI) vwCl (wsM aC am (va_up (va_up (va_up v 6 (nI 1)) 11 ca) 12 cb) S Z (va_up (va_up F 7 cc0) 8 cd) (va_up (va_up (va_up G 5 cg) 10 (vp_updL pf i 0)) 11 (G 11))) H := hP
        refine lv_iinc (v := nI (i + 1)) (lv' := [(1, .int (nI (i + 1))), (0, .ref (am 0))]) hx hb dX10_turns_19 hl (k := 1) rfl (nI_add _ _) (by decide) rfl (fun ls hl => ?_)
        refine lv_goto (tgt := 6) hx hb dX10_turns_22 (by decide) ?_
        exact ih6 (i + 1) (vp_updL pf i 0) _ _ _ _ _ (by omega) (fun j hj => zup hz j hj) hZ hP hS (by omega) (lv_sub hl [1, 0] rfl)
  exact L6 (49 - 0 + 1) 0 (G 10) _ _ _ _ _ (by omega) (fun j hj => absurd hj (Nat.not_lt_zero j)) hZ hP hS (Nat.lt_succ_self _) (lv_sub hl [1, 0] rfl)

set_option maxHeartbeats 1000000 in
set_option maxRecDepth 100000 in
/-- turned -/
theorem k_turned (l : Launch) (dC : Nat → ClassId) (dI : Nat → Nat → Nat) (aC : Nat → ClassId) (am : Nat → Nat) (hI : mI am) (v : Nat → Int32) (R : Nat → List Int32) (F : Nat → Nat → Int32) (G : Nat → Nat → Int64) (A : Nat) (hE : vE A (F 1)) (hA : v 0 = nI A) (nr : Nat) (hn : v 4 = nI nr) (hn8 : nr ≤ 8) (hL : ∀ j, j < nr → lvs (R (10 + j)) ≤ 13) (hcc : ¬ v 6 = 0 → ∀ j, 1 ≤ j → j ≤ 6 → G 5 j = cmM (F 1) R nr A j) (a : Int32) : Met l yX10_turned wsX10_turned ({ frames := 7, cells := 0, slots := 0, locals := 169 } : Room) (va_Pc [.ref (am 0), .int a] (MB dC dI aC am (v, R, F, G))) (va_Ql (fun (x : Int64) (u : MS) => ∃ v6 a0 b c d M g pf tf, (va_up (va_up (va_up v 6 v6) 11 a0) 12 b, va_up R 29 M, va_up (va_up F 7 c) 8 d, va_up (va_up (va_up G 5 g) 10 pf) 11 tf) = u ∧ (¬ v6 = 0 → ∀ j, 1 ≤ j → j ≤ 6 → g j = cmM (F 1) R nr A j) ∧ x = pTurned (cmM (F 1) R nr A) a) (MB dC dI aC am) (mA am)) 0 0 (mA am) := by
  refine Met.ofW (cc := cX10_turned) (maxL := 2) (ret := (some .long)) (by decide) rfl ?_
  intro p e s m args below meth c s₁ B hml hv
  obtain ⟨rfl, hK, S, Z, hZ, hP⟩ := hv
  have hx := B.exec
  have hb := B.bytes
  have hret := B.returns
  have hts := atoms_spec (ws := wsX10_turned) B.pre
  have hown : s.vm.findClass RX10 = some m.cls := findClass_of_methodNamed B.named
  have hlocks := B.notSynchronized
  dsimp only at hZ hP
  have lk0 := hts (.fieldLink RX10 42 "LeafTreesModel" "turnedOf" "[J") (by decide +kernel)
  have lk1 := hts (.constantLong RX10 151 (-2)) (by decide +kernel)
  have hin10 : ∀ w ∈ u_ws RX10 TX10 22, w ∈ wsX10_turned := by decide +kernel
  have hS : va_S (mA am) s.heap s.heap [] := va_S.rf
  have hl := lv_entry [.ref (am 0), .int a] (n := 2) (Nat.le_of_ble_eq_true rfl)
  rw [lg_entry_eq]
  generalize (lg_sl [.ref (am 0), .int a] ++ List.replicate (2 - (lg_sl [.ref (am 0), .int a]).length) Slot.unset).toArray = ls at hl ⊢
  have hl : lv_has ls 2 [(0, .ref (am 0)), (1, .int a)] := hl
  refine nx_Q (R := ({ frames := 7, cells := 0, slots := 0, locals := 169 } : Room)) (fun Q hQ => ?_)
  skip
  refine lv_iload_n hx hb dX10_turned_0 rfl (lv_at hl 1 rfl) ?_
  refine lv_iconst (v := nI 1) hx hb dX10_turned_1 (by decide) ?_
  refine lv_bipush (v := nI 6) hx hb dX10_turned_2 (by decide) ?_
  refine ms_i (As := [.int a, .int (nI 1), .int (nI 6)]) (rest := []) ⟨hx, hb, hml, hown, hts⟩ (k_in l a (nI 1) (nI 6)) (va_cwS 3 hts gX10_turned_X10_in rfl rfl rfl (by decide +kernel) ⟨Nat.le_of_ble_eq_true rfl, Nat.le_of_ble_eq_true rfl⟩) rfl hl.1 rfl (Nat.le_of_ble_eq_true rfl) dX10_turned_4 ⟨Nat.le_of_ble_eq_true rfl, Nat.le_of_ble_eq_true rfl⟩ (fun x_4 h_4 => ?_)
  subst h_4
  refine nx_ti (y := bI (rN6 a)) (bI_iff rN6_in) ?_
  refine nx_bn (tgt := 14) hx hb dX10_turned_7 (by decide) (fun c_7 => ?_) (fun c_7 => ?_)
  · skip
    obtain ⟨j, hj1, hj6, rfl⟩ := rN6_of c_7
    have hcj := nI_clamp (n := j) (by omega)
    refine lv_aload_n hx hb dX10_turned_14 rfl (lv_at hl 0 rfl) ?_
    refine mc_v (As := []) (rest := []) ⟨hx, hb, hml, hown, hts⟩ (k_turns l dC dI aC am hI v R F G A hE hA nr hn hn8 hL hcc) (cwV 0 hts gX10_turned_X10_turns rfl rfl rfl (by decide +kernel) ⟨Nat.le_of_ble_eq_true rfl, Nat.le_of_ble_eq_true rfl⟩) hK hZ hP hS rfl hl.1 rfl (Nat.le_of_ble_eq_true rfl) dX10_turned_15 ⟨Nat.le_of_ble_eq_true rfl, Nat.le_of_ble_eq_true rfl⟩ (fun v1 R1 F1 G1 S Z H locs h_15 hZ hP hS => ?_)
    obtain ⟨ca, cb, cc0, cd, Mc, cg, cp, ct, hu_15, hcg, hct⟩ := h_15
    cases hu_15
    refine lv_aload_n hx hb dX10_turned_18 rfl (lv_at hl 0 rfl) ?_
    refine va_get (D := (dC, dI)) (ci := 10) (C := RX10) (T := TX10) (N := 22) hx hb hts hin10 hown hK hP 0 rfl rfl 19 (by decide) lk0 (fun _ h9 => h9) rfl dX10_turned_19 ?_
    refine lv_iload_n hx hb dX10_turned_22 rfl (lv_at hl 1 rfl) ?_
    refine nx_lald hx hb hK hP 11 1 rfl rfl (i := j) (by omega) (by decide) dX10_turned_23 ?_
    refine nx_tl (y := tnF (cmM (F 1) R nr A) 6 j) (hct j hj1 hj6) ?_
    subst hQ
    exact W.lret (v := tnF (cmM (F 1) R nr A) 6 j) hx hb hret (fun tq htq hWq => ⟨⟨_, ((va_up (va_up (va_up v 6 (nI 1)) 11 ca) 12 cb), va_up R 29 Mc, (va_up (va_up F 7 cc0) 8 cd), (va_up (va_up (va_up G 5 cg) 10 cp) 11 ct)), rfl, ⟨nI 1, ca, cb, cc0, cd, Mc, cg, cp, ct, rfl, fun _ => hcg, by rw [pTurned, if_pos c_7, hcj]⟩, va_K.moved hWq.alike hK, _, _, hZ, by rw [htq]; exact hP⟩, hS.F htq⟩) hS.2.2 dX10_turned_24
  · skip
    refine lv_ldc2 hx hb hown lk1 dX10_turned_10 ?_
    subst hQ
    exact W.lret (v := (-2)) hx hb hret (fun tq htq hWq => ⟨⟨_, (v, R, F, G), rfl, ⟨v 6, v 11, v 12, F 7, F 8, R 29, G 5, G 10, G 11, by rw [up_eta, up_eta, up_eta, up_eta, up_eta, up_eta, up_eta, up_eta, up_eta], hcc, by rw [pTurned, if_neg c_7]⟩, va_K.moved hWq.alike hK, _, _, hZ, by rw [htq]; exact hP⟩, hS.F htq⟩) hS.2.2 dX10_turned_13
