set_option maxHeartbeats 1000000 in
set_option maxRecDepth 100000 in
/-- lies -/
theorem k_lies (l : Launch) (dC : Nat → ClassId) (dI : Nat → Nat → Nat) (aC : Nat → ClassId) (am : Nat → Nat) (hI : mI am) (v : Nat → Int32) (R : Nat → List Int32) (F : Nat → Nat → Int32) (G : Nat → Nat → Int64) (A : Nat) (hE : vE A (F 1)) (k : Nat) (hk : k < 8) (r : Nat) (hr : r < 30) (hV : vR A (R r)) (hL : lvs (R (10 + k)) ≤ 13) (pl : Nat) (hp : pl ≤ 60) : Met l yX10_lies wsX10_lies ({ frames := 2, cells := 0, slots := 0, locals := 45 } : Room) (va_Pc [.ref (am 0), .int (nI k), .int (nI r), .int (nI pl)] (MB dC dI aC am (v, R, F, G))) (va_Qi (fun (x : Int32) (u : MS) => ∃ a b c d, (va_up (va_up v 11 a) 12 b, R, va_up (va_up F 7 c) 8 d, G) = u ∧ x = bI ((mt (F 1) (R (10 + k)) (R r) pl).isSome = true) ∧ ∀ q ac, mt (F 1) (R (10 + k)) (R r) pl = some (q, ac) → b = nI q ∧ mH c d ac) (MB dC dI aC am) (mA am)) 0 0 (mA am) := by
  refine Met.ofW (cc := cX10_lies) (maxL := 9) (ret := (some .boolean)) (by decide) rfl ?_
  intro p e s m args below meth c s₁ B hml hv
  obtain ⟨rfl, hK, S, Z, hZ, hP⟩ := hv
  have hx := B.exec
  have hb := B.bytes
  have hret := B.returns
  have hts := atoms_spec (ws := wsX10_lies) B.pre
  have hown : s.vm.findClass RX10 = some m.cls := findClass_of_methodNamed B.named
  have hlocks := B.notSynchronized
  dsimp only at hZ hP
  have lk0 := hts (.fieldLink RX10 114 "LeafTreesModel" "matched" "I") (by decide +kernel)
  have lk1 := hts (.fieldLink RX10 16 "LeafTreesModel" "size" "[I") (by decide +kernel)
  have lk2 := hts (.fieldLink RX10 117 "LeafTreesModel" "matchEnd" "I") (by decide +kernel)
  have lk3 := hts (.fieldLink RX10 13 "LeafTreesModel" "symbol" "[I") (by decide +kernel)
  have lk4 := hts (.fieldLink RX10 30 "LeafTreesModel" "matchFrom" "[I") (by decide +kernel)
  have lk5 := hts (.fieldLink RX10 33 "LeafTreesModel" "matchTo" "[I") (by decide +kernel)
  have hin10 : ∀ w ∈ u_ws RX10 TX10 22, w ∈ wsX10_lies := by decide +kernel
  have hS : va_S (mA am) s.heap s.heap [] := va_S.rf
  have hl := lv_entry [.ref (am 0), .int (nI k), .int (nI r), .int (nI pl)] (n := 9) (Nat.le_of_ble_eq_true rfl)
  rw [lg_entry_eq]
  generalize (lg_sl [.ref (am 0), .int (nI k), .int (nI r), .int (nI pl)] ++ List.replicate (9 - (lg_sl [.ref (am 0), .int (nI k), .int (nI r), .int (nI pl)]).length) Slot.unset).toArray = ls at hl ⊢
  have hl : lv_has ls 9 [(0, .ref (am 0)), (1, .int (nI k)), (2, .int (nI r)), (3, .int (nI pl))] := hl
  refine nx_Q (R := ({ frames := 2, cells := 0, slots := 0, locals := 45 } : Room)) (fun Q hQ => ?_)
  skip
  have hl1 := (hZ (10 + k) (by omega)).1
  have hl2 := (hZ r hr).1
  refine lv_bipush (v := nI 10) hx hb dX10_lies_0 (by decide) ?_
  refine lv_iload_n hx hb dX10_lies_2 rfl (lv_at hl 1 rfl) ?_
  refine lv_iadd hx hb dX10_lies_3 ?_
  refine nx_ti (y := nI (10 + k)) (nI_add _ _) ?_
  refine lv_istore (lv' := [(4, .int (nI (10 + k))), (0, .ref (am 0)), (1, .int (nI k)), (2, .int (nI r)), (3, .int (nI pl))]) hx hb dX10_lies_4 hl (by decide) rfl (fun ls hl => ?_)
  refine lv_iload_n hx hb dX10_lies_6 rfl (lv_at hl 4 rfl) ?_
  refine lv_istore (lv' := [(5, .int (nI pl)), (4, .int (nI (10 + k))), (0, .ref (am 0)), (1, .int (nI k)), (2, .int (nI r)), (3, .int (nI pl))]) hx hb dX10_lies_7 hl (by decide) rfl (fun ls hl => ?_)
  refine lv_aload_n hx hb dX10_lies_9 rfl (lv_at hl 2 rfl) ?_
  refine lv_iconst (v := nI 0) hx hb dX10_lies_10 (by decide) ?_
  refine va_put (D := (dC, dI)) (ci := 10) (v := .int (nI 0)) (ty := .int) (C := RX10) (T := TX10) (N := 22) hx hb hts hin10 tyX10 tyX10_ok nmX10 hown hK hP (wsM_D hI) hS 0 rfl rfl 11 (by decide) lk0 (fun _ h9 => h9) rfl (by decide +kernel) rfl rfl (Nat.le_of_ble_eq_true rfl) dX10_lies_11 (fun H locs hP _ hS => ?_)
  have hP : va_P (dC, dI) vwCl (wsM aC am (va_up v 11 (nI 0)) S Z F G) H := hP
  refine lv_iconst (v := nI 0) hx hb dX10_lies_14 (by decide) ?_
  refine lv_istore (lv' := [(6, .int (nI 0)), (5, .int (nI pl)), (4, .int (nI (10 + k))), (0, .ref (am 0)), (1, .int (nI k)), (2, .int (nI r)), (3, .int (nI pl))]) hx hb dX10_lies_15 hl (by decide) rfl (fun ls hl => ?_)
  have L17 : ∀ (fuel17 : Nat) (i : Nat) (j : Nat) (ac : List (Nat × Nat)) (mf : Nat → Int32) (mo : Nat → Int32) (S Z : Nat → Int32) (H : Heap) (locs : List Loc) (ls : Array Slot), (i ≤ (R (10 + k)).length) → (j ≤ 60) → (ac.length = cF (gD (R (10 + k))) i) → (mH mf mo ac) → (mtF (F 1) (R r) (gD (R (10 + k))) ((R (10 + k)).length - i) i j ac = mt (F 1) (R (10 + k)) (R r) pl) → mOK S Z R → va_P (dC, dI) vwCl (wsM aC am (va_up (va_up v 11 (nI ac.length)) 12 (v 12)) S Z (va_up (va_up F 7 mf) 8 mo) G) H → va_S (mA am) s.heap H locs → 60 - i < fuel17 → lv_has ls 9 [(0, .ref (am 0)), (2, .int (nI r)), (4, .int (nI (10 + k))), (5, .int (nI j)), (6, .int (nI i))] → W p l e ({ frames := 2, cells := 0, slots := 0, locals := 45 } : Room) s m ([.ref (am 0), .int (nI k), .int (nI r), .int (nI pl)] : List Value).toArray below meth c H locs 0 0 Q (F0 m 17 ls []) := by
    intro fuel17
    induction fuel17 with
    | zero => intro i j ac mf mo S Z H locs ls hi hj hac hm hres hZ hP hS hf17 hl; exact absurd hf17 (Nat.not_lt_zero _)
    | succ fuel17 ih17 =>
      intro i j ac mf mo S Z H locs ls hi hj hac hm hres hZ hP hS hf17 hl
      refine lv_iload hx hb dX10_lies_17 (lv_at hl 4 rfl) ?_
      refine lv_aload_n hx hb dX10_lies_19 rfl (lv_at hl 0 rfl) ?_
      refine va_get (D := (dC, dI)) (ci := 10) (C := RX10) (T := TX10) (N := 22) hx hb hts hin10 hown hK hP 0 rfl rfl 3 (by decide) lk1 (fun _ h9 => h9) rfl dX10_lies_20 ?_
      refine lv_iload hx hb dX10_lies_23 (lv_at hl 2 rfl) ?_
      refine nx_iald hx hb hK hP 3 0 rfl rfl (i := 10 + k) (by omega) (by decide) dX10_lies_25 ?_
      refine nx_ti (y := nI (R (10 + k)).length) ((hZ (10 + k) (by omega)).2.1) ?_
      refine nx_icmp_ge (a := i) (b := (R (10 + k)).length) (tgt := 147) hx hb dX10_lies_26 (by decide) (by omega) (by omega) (fun c_26 => ?_) (fun c_26 => ?_)
      · skip
        refine lv_aload_n hx hb dX10_lies_147 rfl (lv_at hl 0 rfl) ?_
        refine lv_iload hx hb dX10_lies_148 (lv_at hl 3 rfl) ?_
        refine va_put (D := (dC, dI)) (ci := 10) (v := .int (nI j)) (ty := .int) (C := RX10) (T := TX10) (N := 22) hx hb hts hin10 tyX10 tyX10_ok nmX10 hown hK hP (wsM_D hI) hS 0 rfl rfl 12 (by decide) lk2 (fun _ h9 => h9) rfl (by decide +kernel) rfl rfl (Nat.le_of_ble_eq_true rfl) dX10_lies_150 (fun H locs hP _ hS => ?_)
        have hP : va_P (dC, dI) vwCl (wsM aC am (va_up (va_up v 11 (nI ac.length)) 12 (nI j)) S Z (va_up (va_up F 7 mf) 8 mo) G) H := hP
        refine lv_iconst (v := nI 1) hx hb dX10_lies_153 (by decide) ?_
        subst hQ
        exact W.zret (v := nI 1) hx hb hret (rfl) (fun tq htq hWq => ⟨⟨_, ((va_up (va_up v 11 (nI ac.length)) 12 (nI j)), R, (va_up (va_up F 7 mf) 8 mo), G), rfl, ⟨_, _, _, _, rfl, (bI_t (by rw [← hres, mtF_0 c_26]; rfl)).symm, fun q a h => by rw [← hres, mtF_0 c_26] at h; cases h; exact ⟨rfl, hm⟩⟩, va_K.moved hWq.alike hK, _, _, hZ, by rw [htq]; exact hP⟩, hS.F htq⟩) hS.2.2 dX10_lies_154
      · skip
        refine lv_iload hx hb dX10_lies_29 (lv_at hl 3 rfl) ?_
        refine lv_aload_n hx hb dX10_lies_31 rfl (lv_at hl 0 rfl) ?_
        refine va_get (D := (dC, dI)) (ci := 10) (C := RX10) (T := TX10) (N := 22) hx hb hts hin10 hown hK hP 0 rfl rfl 3 (by decide) lk1 (fun _ h9 => h9) rfl dX10_lies_32 ?_
        refine lv_iload_n hx hb dX10_lies_35 rfl (lv_at hl 1 rfl) ?_
        refine nx_iald hx hb hK hP 3 0 rfl rfl (i := r) (by omega) (by decide) dX10_lies_36 ?_
        refine nx_ti (y := nI (R r).length) ((hZ r (by omega)).2.1) ?_
        refine nx_icmp_lt (a := j) (b := (R r).length) (tgt := 42) hx hb dX10_lies_37 (by decide) (by omega) (by omega) (fun c_37 => ?_) (fun c_37 => ?_)
        · skip
          refine lv_aload_n hx hb dX10_lies_42 rfl (lv_at hl 0 rfl) ?_
          refine va_get (D := (dC, dI)) (ci := 10) (C := RX10) (T := TX10) (N := 22) hx hb hts hin10 hown hK hP 0 rfl rfl 2 (by decide) lk3 (fun _ h9 => h9) rfl dX10_lies_43 ?_
          refine lv_bipush (v := nI 60) hx hb dX10_lies_46 (by decide) ?_
          refine lv_iload hx hb dX10_lies_48 (lv_at hl 2 rfl) ?_
          refine lv_imul hx hb dX10_lies_50 ?_
          refine nx_ti (y := nI (60 * (10 + k))) (pk_mul _ _) ?_
          refine lv_iload hx hb dX10_lies_51 (lv_at hl 4 rfl) ?_
          refine lv_iadd hx hb dX10_lies_53 ?_
          refine nx_ti (y := nI (60 * (10 + k) + i)) (nI_add _ _) ?_
          refine nx_iald hx hb hK hP 2 0 rfl rfl (i := 60 * (10 + k) + i) (by have := (hZ (10 + k) (by omega)).1; omega) (by decide) dX10_lies_54 ?_
          refine nx_ti (y := gD (R (10 + k)) i) ((hZ (10 + k) (by omega)).2.2 i (by omega)) ?_
          refine lv_istore (lv' := [(7, .int (gD (R (10 + k)) i)), (0, .ref (am 0)), (2, .int (nI r)), (4, .int (nI (10 + k))), (5, .int (nI j)), (6, .int (nI i))]) hx hb dX10_lies_55 hl (by decide) rfl (fun ls hl => ?_)
          refine lv_iload hx hb dX10_lies_57 (lv_at hl 0 rfl) ?_
          refine lv_iconst (v := (-1)) hx hb dX10_lies_59 (by decide) ?_
          refine lv_icmp_ne (tgt := 119) hx hb dX10_lies_60 (by decide) (fun c_60 => ?_) (fun c_60 => ?_)
          · skip
            refine lv_aload_n hx hb dX10_lies_119 rfl (lv_at hl 1 rfl) ?_
            refine va_get (D := (dC, dI)) (ci := 10) (C := RX10) (T := TX10) (N := 22) hx hb hts hin10 hown hK hP 0 rfl rfl 2 (by decide) lk3 (fun _ h9 => h9) rfl dX10_lies_120 ?_
            refine lv_bipush (v := nI 60) hx hb dX10_lies_123 (by decide) ?_
            refine lv_iload_n hx hb dX10_lies_125 rfl (lv_at hl 2 rfl) ?_
            refine lv_imul hx hb dX10_lies_126 ?_
            refine nx_ti (y := nI (60 * r)) (pk_mul _ _) ?_
            refine lv_iload hx hb dX10_lies_127 (lv_at hl 4 rfl) ?_
            refine lv_iadd hx hb dX10_lies_129 ?_
            refine nx_ti (y := nI (60 * r + j)) (nI_add _ _) ?_
            refine nx_iald hx hb hK hP 2 0 rfl rfl (i := 60 * r + j) (by have := (hZ r (by omega)).1; omega) (by decide) dX10_lies_130 ?_
            refine nx_ti (y := gD (R r) j) ((hZ r (by omega)).2.2 j (by omega)) ?_
            refine lv_iload hx hb dX10_lies_131 (lv_at hl 0 rfl) ?_
            refine lv_icmp_eq (tgt := 138) hx hb dX10_lies_133 (by decide) (fun c_133 => ?_) (fun c_133 => ?_)
            · skip
              refine lv_iinc (v := nI (j + 1)) (lv' := [(5, .int (nI (j + 1))), (7, .int (gD (R (10 + k)) i)), (0, .ref (am 0)), (2, .int (nI r)), (4, .int (nI (10 + k))), (6, .int (nI i))]) hx hb dX10_lies_138 hl (k := 4) rfl (nI_add _ _) (by decide) rfl (fun ls hl => ?_)
              refine lv_iinc (v := nI (i + 1)) (lv' := [(6, .int (nI (i + 1))), (5, .int (nI (j + 1))), (7, .int (gD (R (10 + k)) i)), (0, .ref (am 0)), (2, .int (nI r)), (4, .int (nI (10 + k)))]) hx hb dX10_lies_141 hl (k := 5) rfl (nI_add _ _) (by decide) rfl (fun ls hl => ?_)
              refine lv_goto (tgt := 17) hx hb dX10_lies_144 (by decide) ?_
              exact ih17 (i + 1) (j + 1) ac mf mo _ _ _ _ _ (by omega) (by omega) (by rw [hac, cF_f c_60]) hm ((mtF_eq c_26 c_37 c_60 c_133).symm.trans hres) hZ hP hS (by omega) (lv_sub hl [3, 4, 5, 1, 0] rfl)
            · skip
              refine lv_iconst (v := nI 0) hx hb dX10_lies_136 (by decide) ?_
              subst hQ
              exact W.zret (v := nI 0) hx hb hret (rfl) (fun tq htq hWq => ⟨⟨_, ((va_up (va_up v 11 (nI ac.length)) 12 (v 12)), R, (va_up (va_up F 7 mf) 8 mo), G), rfl, ⟨_, _, _, _, rfl, (bI_f (by rw [← hres, mtF_ne c_26 c_37 c_60 c_133]; decide)).symm, fun q a h => by rw [← hres, mtF_ne c_26 c_37 c_60 c_133] at h; cases h⟩, va_K.moved hWq.alike hK, _, _, hZ, by rw [htq]; exact hP⟩, hS.F htq⟩) hS.2.2 dX10_lies_137
          · skip
            have hcl : cF (gD (R (10 + k))) (i + 1) ≤ lvs (R (10 + k)) := cF_mono _ (by omega)
            rw [cF_t c_60] at hcl
            refine lv_aload_n hx hb dX10_lies_63 rfl (lv_at hl 1 rfl) ?_
            refine lv_iload_n hx hb dX10_lies_64 rfl (lv_at hl 2 rfl) ?_
            refine lv_iload hx hb dX10_lies_65 (lv_at hl 4 rfl) ?_
            have hoo : ∀ q, endL (F 1) (R r) j = some q → q < 2 ^ 31 := fun q hq => by have := endL_le (by omega) hq; omega
            refine mp_i (As := [.int (nI r), .int (nI j)]) (rest := []) ⟨hx, hb, hml, hown, hts⟩ (k_end l dC dI aC am (va_up (va_up v 11 (nI ac.length)) 12 (v 12)) R (va_up (va_up F 7 mf) 8 mo) G A hE r hr hV j hj) (cwV 2 hts gX10_lies_X10_end rfl rfl rfl (by decide +kernel) ⟨Nat.le_of_ble_eq_true rfl, Nat.le_of_ble_eq_true rfl⟩) hK hZ hP rfl hl.1 rfl (Nat.le_of_ble_eq_true rfl) dX10_lies_67 ⟨Nat.le_of_ble_eq_true rfl, Nat.le_of_ble_eq_true rfl⟩ (fun x_67 h_67 => ?_)
            subst h_67
            refine lv_istore (lv' := [(8, .int (eR (endL (F 1) (R r) j))), (7, .int (gD (R (10 + k)) i)), (0, .ref (am 0)), (2, .int (nI r)), (4, .int (nI (10 + k))), (5, .int (nI j)), (6, .int (nI i))]) hx hb dX10_lies_70 hl (by decide) rfl (fun ls hl => ?_)
            refine lv_iload hx hb dX10_lies_72 (lv_at hl 0 rfl) ?_
            refine lv_iconst (v := (-1)) hx hb dX10_lies_74 (by decide) ?_
            refine lv_icmp_ne (tgt := 80) hx hb dX10_lies_75 (by decide) (fun c_75 => ?_) (fun c_75 => ?_)
            · skip
              obtain ⟨q, hq⟩ : ∃ q, endL (F 1) (R r) j = some q := by
                cases he : endL (F 1) (R r) j with
                | none => exact absurd ((eR_m1 hoo).mpr he) c_75
                | some q => exact ⟨q, rfl⟩
              rw [hq] at hl
              have hl : lv_has ls 9 [(8, .int (nI q)), (7, .int (gD (R (10 + k)) i)), (0, .ref (am 0)), (2, .int (nI r)), (4, .int (nI (10 + k))), (5, .int (nI j)), (6, .int (nI i))] := hl
              have hqq := endL_le (by omega) hq
              refine lv_aload_n hx hb dX10_lies_80 rfl (lv_at hl 2 rfl) ?_
              refine va_get (D := (dC, dI)) (ci := 10) (C := RX10) (T := TX10) (N := 22) hx hb hts hin10 hown hK hP 0 rfl rfl 9 (by decide) lk4 (fun _ h9 => h9) rfl dX10_lies_81 ?_
              refine lv_aload_n hx hb dX10_lies_84 rfl (lv_at hl 2 rfl) ?_
              refine va_get (D := (dC, dI)) (ci := 10) (C := RX10) (T := TX10) (N := 22) hx hb hts hin10 hown hK hP 0 rfl rfl 11 (by decide) lk0 (fun _ h9 => h9) rfl dX10_lies_85 ?_
              refine lv_iload hx hb dX10_lies_88 (lv_at hl 5 rfl) ?_
              refine nx_iast hx hb hK hP (wsM_D hI) hS 7 0 rfl rfl (i := ac.length) (by omega) (by decide) dX10_lies_90 (fun H locs hP hS => ?_)
              have hP : va_P (dC, dI) vwCl (wsM aC am (va_up (va_up v 11 (nI ac.length)) 12 (v 12)) S Z (va_up (va_up F 7 (upd mf ac.length (nI j))) 8 mo) G) H := hP
              refine lv_aload_n hx hb dX10_lies_91 rfl (lv_at hl 2 rfl) ?_
              refine va_get (D := (dC, dI)) (ci := 10) (C := RX10) (T := TX10) (N := 22) hx hb hts hin10 hown hK hP 0 rfl rfl 10 (by decide) lk5 (fun _ h9 => h9) rfl dX10_lies_92 ?_
              refine lv_aload_n hx hb dX10_lies_95 rfl (lv_at hl 2 rfl) ?_
              refine va_get (D := (dC, dI)) (ci := 10) (C := RX10) (T := TX10) (N := 22) hx hb hts hin10 hown hK hP 0 rfl rfl 11 (by decide) lk0 (fun _ h9 => h9) rfl dX10_lies_96 ?_
              refine lv_iload hx hb dX10_lies_99 (lv_at hl 0 rfl) ?_
              refine nx_iast hx hb hK hP (wsM_D hI) hS 8 0 rfl rfl (i := ac.length) (by omega) (by decide) dX10_lies_101 (fun H locs hP hS => ?_)
              have hP : va_P (dC, dI) vwCl (wsM aC am (va_up (va_up v 11 (nI ac.length)) 12 (v 12)) S Z (va_up (va_up F 7 (upd mf ac.length (nI j))) 8 (upd mo ac.length (nI q))) G) H := hP
              refine lv_aload_n hx hb dX10_lies_102 rfl (lv_at hl 2 rfl) ?_
              refine lv_dup hx hb dX10_lies_103 rfl ?_
              refine va_get (D := (dC, dI)) (ci := 10) (C := RX10) (T := TX10) (N := 22) hx hb hts hin10 hown hK hP 0 rfl rfl 11 (by decide) lk0 (fun _ h9 => h9) rfl dX10_lies_104 ?_
              refine lv_iconst (v := nI 1) hx hb dX10_lies_107 (by decide) ?_
              refine lv_iadd hx hb dX10_lies_108 ?_
              refine nx_ti (y := nI (ac.length + 1)) (nI_add _ _) ?_
              refine va_put (D := (dC, dI)) (ci := 10) (v := .int (nI (ac.length + 1))) (ty := .int) (C := RX10) (T := TX10) (N := 22) hx hb hts hin10 tyX10 tyX10_ok nmX10 hown hK hP (wsM_D hI) hS 0 rfl rfl 11 (by decide) lk0 (fun _ h9 => h9) rfl (by decide +kernel) rfl rfl (Nat.le_of_ble_eq_true rfl) dX10_lies_109 (fun H locs hP _ hS => ?_)
              have hP : va_P (dC, dI) vwCl (wsM aC am (va_up (va_up v 11 (nI (ac.length + 1))) 12 (v 12)) S Z (va_up (va_up F 7 (upd mf ac.length (nI j))) 8 (upd mo ac.length (nI q))) G) H := hP
              refine lv_iload hx hb dX10_lies_112 (lv_at hl 0 rfl) ?_
              refine lv_istore (lv' := [(5, .int (nI q)), (8, .int (nI q)), (7, .int (gD (R (10 + k)) i)), (0, .ref (am 0)), (2, .int (nI r)), (4, .int (nI (10 + k))), (6, .int (nI i))]) hx hb dX10_lies_114 hl (by decide) rfl (fun ls hl => ?_)
              refine lv_goto (tgt := 141) hx hb dX10_lies_116 (by decide) ?_
              refine lv_iinc (v := nI (i + 1)) (lv' := [(6, .int (nI (i + 1))), (5, .int (nI q)), (8, .int (nI q)), (7, .int (gD (R (10 + k)) i)), (0, .ref (am 0)), (2, .int (nI r)), (4, .int (nI (10 + k)))]) hx hb dX10_lies_141 hl (k := 6) rfl (nI_add _ _) (by decide) rfl (fun ls hl => ?_)
              refine lv_goto (tgt := 17) hx hb dX10_lies_144 (by decide) ?_
              exact ih17 (i + 1) q (ac ++ [(j, q)]) (upd mf ac.length (nI j)) (upd mo ac.length (nI q)) _ _ _ _ _ (by omega) (by omega) (by rw [List.length_append, List.length_singleton, hac, cF_t c_60]) (mH_snoc hm j q) ((mtF_lf c_26 c_37 c_60 hq).symm.trans hres) hZ (by rw [List.length_append]; exact hP) hS (by omega) (lv_sub hl [4, 5, 6, 1, 0] rfl)
            · skip
              refine lv_iconst (v := nI 0) hx hb dX10_lies_78 (by decide) ?_
              subst hQ
              exact W.zret (v := nI 0) hx hb hret (rfl) (fun tq htq hWq => ⟨⟨_, ((va_up (va_up v 11 (nI ac.length)) 12 (v 12)), R, (va_up (va_up F 7 mf) 8 mo), G), rfl, ⟨_, _, _, _, rfl, (bI_f (by rw [← hres, mtF_no c_26 c_37 c_60 ((eR_m1 hoo).mp c_75)]; decide)).symm, fun q a h => by rw [← hres, mtF_no c_26 c_37 c_60 ((eR_m1 hoo).mp c_75)] at h; cases h⟩, va_K.moved hWq.alike hK, _, _, hZ, by rw [htq]; exact hP⟩, hS.F htq⟩) hS.2.2 dX10_lies_79
        · skip
          refine lv_iconst (v := nI 0) hx hb dX10_lies_40 (by decide) ?_
          subst hQ
          exact W.zret (v := nI 0) hx hb hret (rfl) (fun tq htq hWq => ⟨⟨_, ((va_up (va_up v 11 (nI ac.length)) 12 (v 12)), R, (va_up (va_up F 7 mf) 8 mo), G), rfl, ⟨_, _, _, _, rfl, (bI_f (by rw [← hres, mtF_out c_26 c_37]; decide)).symm, fun q a h => by rw [← hres, mtF_out c_26 c_37] at h; cases h⟩, va_K.moved hWq.alike hK, _, _, hZ, by rw [htq]; exact hP⟩, hS.F htq⟩) hS.2.2 dX10_lies_41
  exact L17 (60 - 0 + 1) 0 pl [] (F 7) (F 8) _ _ _ _ _ (by omega) (by omega) rfl (fun i hi => absurd hi (Nat.not_lt_zero i)) rfl hZ hP hS (Nat.lt_succ_self _) (lv_sub hl [3, 5, 2, 1, 0] rfl)

set_option maxHeartbeats 1000000 in
set_option maxRecDepth 100000 in
/-- firstPlace -/
theorem k_firstPlace (l : Launch) (dC : Nat → ClassId) (dI : Nat → Nat → Nat) (aC : Nat → ClassId) (am : Nat → Nat) (hI : mI am) (v : Nat → Int32) (R : Nat → List Int32) (F : Nat → Nat → Int32) (G : Nat → Nat → Int64) (A : Nat) (hE : vE A (F 1)) (k : Nat) (hk : k < 8) (r : Nat) (hr : r < 30) (hV : vR A (R r)) (hL : lvs (R (10 + k)) ≤ 13) : Met l yX10_firstPlace wsX10_firstPlace ({ frames := 3, cells := 0, slots := 0, locals := 73 } : Room) (va_Pc [.ref (am 0), .int (nI k), .int (nI r)] (MB dC dI aC am (v, R, F, G))) (va_Qi (fun (x : Int32) (u : MS) => ∃ a b c d, (va_up (va_up v 11 a) 12 b, R, va_up (va_up F 7 c) 8 d, G) = u ∧ x = fpR (F 1) (R (10 + k)) (R r)) (MB dC dI aC am) (mA am)) 0 0 (mA am) := by
  refine Met.ofW (cc := cX10_firstPlace) (maxL := 4) (ret := (some .int)) (by decide) rfl ?_
  intro p e s m args below meth c s₁ B hml hv
  obtain ⟨rfl, hK, S, Z, hZ, hP⟩ := hv
  have hx := B.exec
  have hb := B.bytes
  have hret := B.returns
  have hts := atoms_spec (ws := wsX10_firstPlace) B.pre
  have hown : s.vm.findClass RX10 = some m.cls := findClass_of_methodNamed B.named
  have hlocks := B.notSynchronized
  dsimp only at hZ hP
  have lk0 := hts (.fieldLink RX10 16 "LeafTreesModel" "size" "[I") (by decide +kernel)
  have hin10 : ∀ w ∈ u_ws RX10 TX10 22, w ∈ wsX10_firstPlace := by decide +kernel
  have hS : va_S (mA am) s.heap s.heap [] := va_S.rf
  have hl := lv_entry [.ref (am 0), .int (nI k), .int (nI r)] (n := 4) (Nat.le_of_ble_eq_true rfl)
  rw [lg_entry_eq]
  generalize (lg_sl [.ref (am 0), .int (nI k), .int (nI r)] ++ List.replicate (4 - (lg_sl [.ref (am 0), .int (nI k), .int (nI r)]).length) Slot.unset).toArray = ls at hl ⊢
  have hl : lv_has ls 4 [(0, .ref (am 0)), (1, .int (nI k)), (2, .int (nI r))] := hl
  refine nx_Q (R := ({ frames := 3, cells := 0, slots := 0, locals := 73 } : Room)) (fun Q hQ => ?_)
  skip
  have hl2 := (hZ r hr).1
  refine lv_iconst (v := nI 0) hx hb dX10_firstPlace_0 (by decide) ?_
  refine lv_istore_n (lv' := [(3, .int (nI 0)), (0, .ref (am 0)), (1, .int (nI k)), (2, .int (nI r))]) hx hb dX10_firstPlace_1 rfl hl (by decide) rfl (fun ls hl => ?_)
  have L2 : ∀ (fuel2 : Nat) (i : Nat) (wa : Int32) (wb : Int32) (wc : Nat → Int32) (wd : Nat → Int32) (S Z : Nat → Int32) (H : Heap) (locs : List Loc) (ls : Array Slot), (i ≤ (R r).length) → (fnd (fun q => mt (F 1) (R (10 + k)) (R r) q) ((R r).length - i) i = fnd (fun q => mt (F 1) (R (10 + k)) (R r) q) (R r).length 0) → mOK S Z R → va_P (dC, dI) vwCl (wsM aC am (va_up (va_up v 11 wa) 12 wb) S Z (va_up (va_up F 7 wc) 8 wd) G) H → va_S (mA am) s.heap H locs → 60 - i < fuel2 → lv_has ls 4 [(0, .ref (am 0)), (1, .int (nI k)), (2, .int (nI r)), (3, .int (nI i))] → W p l e ({ frames := 3, cells := 0, slots := 0, locals := 73 } : Room) s m ([.ref (am 0), .int (nI k), .int (nI r)] : List Value).toArray below meth c H locs 0 0 Q (F0 m 2 ls []) := by
    intro fuel2
    induction fuel2 with
    | zero => intro i wa wb wc wd S Z H locs ls hi hres hZ hP hS hf2 hl; exact absurd hf2 (Nat.not_lt_zero _)
    | succ fuel2 ih2 =>
      intro i wa wb wc wd S Z H locs ls hi hres hZ hP hS hf2 hl
      refine lv_iload_n hx hb dX10_firstPlace_2 rfl (lv_at hl 3 rfl) ?_
      refine lv_aload_n hx hb dX10_firstPlace_3 rfl (lv_at hl 0 rfl) ?_
      refine va_get (D := (dC, dI)) (ci := 10) (C := RX10) (T := TX10) (N := 22) hx hb hts hin10 hown hK hP 0 rfl rfl 3 (by decide) lk0 (fun _ h9 => h9) rfl dX10_firstPlace_4 ?_
      refine lv_iload_n hx hb dX10_firstPlace_7 rfl (lv_at hl 2 rfl) ?_
      refine nx_iald hx hb hK hP 3 0 rfl rfl (i := r) (by omega) (by decide) dX10_firstPlace_8 ?_
      refine nx_ti (y := nI (R r).length) ((hZ r (by omega)).2.1) ?_
      refine nx_icmp_ge (a := i) (b := (R r).length) (tgt := 30) hx hb dX10_firstPlace_9 (by decide) (by omega) (by omega) (fun c_9 => ?_) (fun c_9 => ?_)
      · skip
        refine lv_iconst (v := (-1)) hx hb dX10_firstPlace_30 (by decide) ?_
        subst hQ
        exact W.iret (v := (-1)) hx hb hret (fun tq htq hWq => ⟨⟨_, ((va_up (va_up v 11 wa) 12 wb), R, (va_up (va_up F 7 wc) 8 wd), G), rfl, ⟨_, _, _, _, rfl, by rw [fpR, ← hres, fnd_0 c_9]⟩, va_K.moved hWq.alike hK, _, _, hZ, by rw [htq]; exact hP⟩, hS.F htq⟩) hS.2.2 dX10_firstPlace_31
      · skip
        refine lv_aload_n hx hb dX10_firstPlace_12 rfl (lv_at hl 0 rfl) ?_
        refine lv_iload_n hx hb dX10_firstPlace_13 rfl (lv_at hl 1 rfl) ?_
        refine lv_iload_n hx hb dX10_firstPlace_14 rfl (lv_at hl 2 rfl) ?_
        refine lv_iload_n hx hb dX10_firstPlace_15 rfl (lv_at hl 3 rfl) ?_
        refine mc_i (As := [.int (nI k), .int (nI r), .int (nI i)]) (rest := []) ⟨hx, hb, hml, hown, hts⟩ (k_lies l dC dI aC am hI (va_up (va_up v 11 wa) 12 wb) R (va_up (va_up F 7 wc) 8 wd) G A hE k hk r hr hV hL i (by omega)) (cwV 3 hts gX10_firstPlace_X10_lies rfl rfl rfl (by decide +kernel) ⟨Nat.le_of_ble_eq_true rfl, Nat.le_of_ble_eq_true rfl⟩) hK hZ hP hS rfl hl.1 rfl (Nat.le_of_ble_eq_true rfl) dX10_firstPlace_16 ⟨Nat.le_of_ble_eq_true rfl, Nat.le_of_ble_eq_true rfl⟩ (fun x_16 v1 R1 F1 G1 S Z H locs h_16 hZ hP hS => ?_)
        obtain ⟨la2, lb2, lc2, ld2, hu_16, hx_16, hm_16⟩ := h_16
        subst hx_16
        have hP : va_P (dC, dI) vwCl (wsM aC am (va_up (va_up v 11 la2) 12 lb2) S Z (va_up (va_up F 7 lc2) 8 ld2) G) H := by cases hu_16; exact hP
        have hZ : mOK S Z R := by cases hu_16; exact hZ
        refine nx_bz (tgt := 24) hx hb dX10_firstPlace_19 (by decide) (fun c_19 => ?_) (fun c_19 => ?_)
        · skip
          have c_19 : ¬ (mt (F 1) (R (10 + k)) (R r) i).isSome = true := c_19
          refine lv_iinc (v := nI (i + 1)) (lv' := [(3, .int (nI (i + 1))), (0, .ref (am 0)), (1, .int (nI k)), (2, .int (nI r))]) hx hb dX10_firstPlace_24 hl (k := 3) rfl (nI_add _ _) (by decide) rfl (fun ls hl => ?_)
          refine lv_goto (tgt := 2) hx hb dX10_firstPlace_27 (by decide) ?_
          exact ih2 (i + 1) la2 lb2 lc2 ld2 _ _ _ _ _ (by omega) ((fnd_n c_9 (by simpa using c_19)).symm.trans hres) hZ hP hS (by omega) (lv_sub hl [1, 2, 3, 0] rfl)
        · skip
          have c_19 : (mt (F 1) (R (10 + k)) (R r) i).isSome = true := c_19
          obtain ⟨z, hz⟩ := Option.isSome_iff_exists.mp c_19
          refine lv_iload_n hx hb dX10_firstPlace_22 rfl (lv_at hl 3 rfl) ?_
          subst hQ
          exact W.iret (v := nI i) hx hb hret (fun tq htq hWq => ⟨⟨_, ((va_up (va_up v 11 la2) 12 lb2), R, (va_up (va_up F 7 lc2) 8 ld2), G), rfl, ⟨_, _, _, _, rfl, by rw [fpR, ← hres, fnd_y c_9 hz]⟩, va_K.moved hWq.alike hK, _, _, hZ, by rw [htq]; exact hP⟩, hS.F htq⟩) hS.2.2 dX10_firstPlace_23
  exact L2 (60 - 0 + 1) 0 (v 11) (v 12) (F 7) (F 8) _ _ _ _ _ (by omega) rfl hZ hP hS (Nat.lt_succ_self _) (lv_sub hl [1, 2, 3, 0] rfl)
