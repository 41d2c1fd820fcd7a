set_option maxHeartbeats 1000000 in
set_option maxRecDepth 100000 in
/-- comes -/
theorem k_comes (l : Launch) (dC : Nat → ClassId) (dI : Nat → Nat → Nat) (aC : Nat → ClassId) (am : Nat → Nat) (hI : mI am) (v : Nat → Int32) (R : Nat → List Int32) (F : Nat → Nat → Int32) (G : Nat → Nat → Int64) (r : Nat) (hr : r < 30) (hl0 : (R r).length < 60) (z : Int32) : Met l yX10_comes wsX10_comes ({ frames := 0, cells := 0, slots := 0, locals := 0 } : Room) (va_Pc [.ref (am 0), .int (nI r), .int z] (MB dC dI aC am (v, R, F, G))) (va_Qv (fun (u : MS) => (v, va_up R r (R r ++ [z]), F, G) = u) (MB dC dI aC am) (mA am)) 0 0 (mA am) := by
  refine Met.ofW (cc := cX10_comes) (maxL := 3) (ret := none) (by decide) rfl ?_
  intro p e s m args below meth c s₁ B hml hv
  obtain ⟨rfl, hK, S, Z, hZ, hP⟩ := hv
  have hx := B.exec
  have hb := B.bytes
  have hret := B.returns
  have hts := atoms_spec (ws := wsX10_comes) B.pre
  have hown : s.vm.findClass RX10 = some m.cls := findClass_of_methodNamed B.named
  have hlocks := B.notSynchronized
  dsimp only at hZ hP
  have lk0 := hts (.fieldLink RX10 13 "LeafTreesModel" "symbol" "[I") (by decide +kernel)
  have lk1 := hts (.fieldLink RX10 16 "LeafTreesModel" "size" "[I") (by decide +kernel)
  have hin10 : ∀ w ∈ u_ws RX10 TX10 22, w ∈ wsX10_comes := by decide +kernel
  have hS : va_S (mA am) s.heap s.heap [] := va_S.rf
  have hl := lv_entry [.ref (am 0), .int (nI r), .int z] (n := 3) (Nat.le_of_ble_eq_true rfl)
  rw [lg_entry_eq]
  generalize (lg_sl [.ref (am 0), .int (nI r), .int z] ++ List.replicate (3 - (lg_sl [.ref (am 0), .int (nI r), .int z]).length) Slot.unset).toArray = ls at hl ⊢
  have hl : lv_has ls 3 [(0, .ref (am 0)), (1, .int (nI r)), (2, .int z)] := hl
  refine nx_Q (R := ({ frames := 0, cells := 0, slots := 0, locals := 0 } : Room)) (fun Q hQ => ?_)
  skip
  refine lv_aload_n hx hb dX10_comes_0 rfl (lv_at hl 0 rfl) ?_
  refine va_get (D := (dC, dI)) (ci := 10) (C := RX10) (T := TX10) (N := 22) hx hb hts hin10 hown hK hP 0 rfl rfl 2 (by decide) lk0 (fun _ h9 => h9) rfl dX10_comes_1 ?_
  refine lv_bipush (v := nI 60) hx hb dX10_comes_4 (by decide) ?_
  refine lv_iload_n hx hb dX10_comes_6 rfl (lv_at hl 1 rfl) ?_
  refine lv_imul hx hb dX10_comes_7 ?_
  refine nx_ti (y := nI (60 * r)) (pk_mul _ _) ?_
  refine lv_aload_n hx hb dX10_comes_8 rfl (lv_at hl 0 rfl) ?_
  refine va_get (D := (dC, dI)) (ci := 10) (C := RX10) (T := TX10) (N := 22) hx hb hts hin10 hown hK hP 0 rfl rfl 3 (by decide) lk1 (fun _ h9 => h9) rfl dX10_comes_9 ?_
  refine lv_iload_n hx hb dX10_comes_12 rfl (lv_at hl 1 rfl) ?_
  refine nx_iald hx hb hK hP 3 0 rfl rfl (i := r) (by omega) (by decide) dX10_comes_13 ?_
  refine nx_ti (y := nI (R r).length) ((hZ r (by omega)).2.1) ?_
  refine lv_iadd hx hb dX10_comes_14 ?_
  refine nx_ti (y := nI (60 * r + (R r).length)) (nI_add _ _) ?_
  refine lv_iload_n hx hb dX10_comes_15 rfl (lv_at hl 2 rfl) ?_
  refine nx_iast hx hb hK hP (wsM_D hI) hS 2 0 rfl rfl (i := 60 * r + (R r).length) (by omega) (by decide) dX10_comes_16 (fun H locs hP hS => ?_)
  have hP : va_P (dC, dI) vwCl (wsM aC am v (upd S (60 * r + (R r).length) z) Z F G) H := hP
  refine lv_aload_n hx hb dX10_comes_17 rfl (lv_at hl 0 rfl) ?_
  refine va_get (D := (dC, dI)) (ci := 10) (C := RX10) (T := TX10) (N := 22) hx hb hts hin10 hown hK hP 0 rfl rfl 3 (by decide) lk1 (fun _ h9 => h9) rfl dX10_comes_18 ?_
  refine lv_iload_n hx hb dX10_comes_21 rfl (lv_at hl 1 rfl) ?_
  refine lv_dup2_11 hx hb dX10_comes_22 rfl rfl ?_
  refine nx_iald hx hb hK hP 3 0 rfl rfl (i := r) (by omega) (by decide) dX10_comes_23 ?_
  refine nx_ti (y := nI (R r).length) ((hZ r hr).2.1) ?_
  refine lv_iconst (v := nI 1) hx hb dX10_comes_24 (by decide) ?_
  refine lv_iadd hx hb dX10_comes_25 ?_
  refine nx_ti (y := nI ((R r).length + 1)) (nI_add _ _) ?_
  refine nx_iast hx hb hK hP (wsM_D hI) hS 3 0 rfl rfl (i := r) (by omega) (by decide) dX10_comes_26 (fun H locs hP hS => ?_)
  have hP : va_P (dC, dI) vwCl (wsM aC am v (upd S (60 * r + (R r).length) z) (upd Z r (nI ((R r).length + 1))) F G) H := hP
  have hZ := mOK_snoc hZ hr hl0 z
  subst hQ
  exact W.vret hx hb hret (fun tq htq hWq => ⟨⟨(v, va_up R r (R r ++ [z]), F, G), rfl, rfl, va_K.moved hWq.alike hK, _, _, hZ, by rw [htq]; exact hP⟩, hS.F htq⟩) hS.2.2 dX10_comes_27

set_option maxHeartbeats 1000000 in
set_option maxRecDepth 100000 in
/-- copy -/
theorem k_copy (l : Launch) (dC : Nat → ClassId) (dI : Nat → Nat → Nat) (aC : Nat → ClassId) (am : Nat → Nat) (hI : mI am) (v : Nat → Int32) (R : Nat → List Int32) (F : Nat → Nat → Int32) (G : Nat → Nat → Int64) (fr : Nat) (hfr : fr < 30) (to : Nat) (hto : to < 30) (hne : fr ≠ to) : Met l yX10_copy wsX10_copy ({ frames := 0, cells := 0, slots := 0, locals := 0 } : Room) (va_Pc [.ref (am 0), .int (nI fr), .int (nI to)] (MB dC dI aC am (v, R, F, G))) (va_Qv (fun (u : MS) => (v, va_up R to (R fr), F, G) = u) (MB dC dI aC am) (mA am)) 0 0 (mA am) := by
  refine Met.ofW (cc := cX10_copy) (maxL := 4) (ret := none) (by decide) rfl ?_
  intro p e s m args below meth c s₁ B hml hv
  obtain ⟨rfl, hK, S, Z, hZ, hP⟩ := hv
  have hx := B.exec
  have hb := B.bytes
  have hret := B.returns
  have hts := atoms_spec (ws := wsX10_copy) B.pre
  have hown : s.vm.findClass RX10 = some m.cls := findClass_of_methodNamed B.named
  have hlocks := B.notSynchronized
  dsimp only at hZ hP
  have lk0 := hts (.fieldLink RX10 16 "LeafTreesModel" "size" "[I") (by decide +kernel)
  have lk1 := hts (.fieldLink RX10 13 "LeafTreesModel" "symbol" "[I") (by decide +kernel)
  have hin10 : ∀ w ∈ u_ws RX10 TX10 22, w ∈ wsX10_copy := by decide +kernel
  have hS : va_S (mA am) s.heap s.heap [] := va_S.rf
  have hl := lv_entry [.ref (am 0), .int (nI fr), .int (nI to)] (n := 4) (Nat.le_of_ble_eq_true rfl)
  rw [lg_entry_eq]
  generalize (lg_sl [.ref (am 0), .int (nI fr), .int (nI to)] ++ List.replicate (4 - (lg_sl [.ref (am 0), .int (nI fr), .int (nI to)]).length) Slot.unset).toArray = ls at hl ⊢
  have hl : lv_has ls 4 [(0, .ref (am 0)), (1, .int (nI fr)), (2, .int (nI to))] := hl
  refine nx_Q (R := ({ frames := 0, cells := 0, slots := 0, locals := 0 } : Room)) (fun Q hQ => ?_)
  skip
  have hlen := (hZ fr hfr).1
  refine lv_iconst (v := nI 0) hx hb dX10_copy_0 (by decide) ?_
  refine lv_istore_n (lv' := [(3, .int (nI 0)), (0, .ref (am 0)), (1, .int (nI fr)), (2, .int (nI to))]) hx hb dX10_copy_1 rfl hl (by decide) rfl (fun ls hl => ?_)
  have L2 : ∀ (fuel2 : Nat) (i : Nat) (S Z : Nat → Int32) (H : Heap) (locs : List Loc) (ls : Array Slot), (i ≤ (R fr).length) → (∀ j, j < i → S (60 * to + j) = gD (R fr) j) → mOKe to S Z R → va_P (dC, dI) vwCl (wsM aC am v S Z F G) H → va_S (mA am) s.heap H locs → 60 - i < fuel2 → lv_has ls 4 [(0, .ref (am 0)), (1, .int (nI fr)), (2, .int (nI to)), (3, .int (nI i))] → W p l e ({ frames := 0, cells := 0, slots := 0, locals := 0 } : Room) s m ([.ref (am 0), .int (nI fr), .int (nI to)] : List Value).toArray below meth c H locs 0 0 Q (F0 m 2 ls []) := by
    intro fuel2
    induction fuel2 with
    | zero => intro i S Z H locs ls hi hc hZ hP hS hf2 hl; exact absurd hf2 (Nat.not_lt_zero _)
    | succ fuel2 ih2 =>
      intro i S Z H locs ls hi hc hZ hP hS hf2 hl
      refine lv_iload_n hx hb dX10_copy_2 rfl (lv_at hl 3 rfl) ?_
      refine lv_aload_n hx hb dX10_copy_3 rfl (lv_at hl 0 rfl) ?_
      refine va_get (D := (dC, dI)) (ci := 10) (C := RX10) (T := TX10) (N := 22) hx hb hts hin10 hown hK hP 0 rfl rfl 3 (by decide) lk0 (fun _ h9 => h9) rfl dX10_copy_4 ?_
      refine lv_iload_n hx hb dX10_copy_7 rfl (lv_at hl 1 rfl) ?_
      refine nx_iald hx hb hK hP 3 0 rfl rfl (i := fr) (by omega) (by decide) dX10_copy_8 ?_
      refine nx_ti (y := nI (R fr).length) ((hZ fr (by omega) (by omega)).2.1) ?_
      refine nx_icmp_ge (a := i) (b := (R fr).length) (tgt := 40) hx hb dX10_copy_9 (by decide) (by omega) (by omega) (fun c_9 => ?_) (fun c_9 => ?_)
      · skip
        refine lv_aload_n hx hb dX10_copy_40 rfl (lv_at hl 0 rfl) ?_
        refine va_get (D := (dC, dI)) (ci := 10) (C := RX10) (T := TX10) (N := 22) hx hb hts hin10 hown hK hP 0 rfl rfl 3 (by decide) lk0 (fun _ h9 => h9) rfl dX10_copy_41 ?_
        refine lv_iload_n hx hb dX10_copy_44 rfl (lv_at hl 2 rfl) ?_
        refine lv_aload_n hx hb dX10_copy_45 rfl (lv_at hl 0 rfl) ?_
        refine va_get (D := (dC, dI)) (ci := 10) (C := RX10) (T := TX10) (N := 22) hx hb hts hin10 hown hK hP 0 rfl rfl 3 (by decide) lk0 (fun _ h9 => h9) rfl dX10_copy_46 ?_
        refine lv_iload_n hx hb dX10_copy_49 rfl (lv_at hl 1 rfl) ?_
        refine nx_iald hx hb hK hP 3 0 rfl rfl (i := fr) (by omega) (by decide) dX10_copy_50 ?_
        refine nx_ti (y := nI (R fr).length) ((hZ fr (by omega) (by omega)).2.1) ?_
        refine nx_iast hx hb hK hP (wsM_D hI) hS 3 0 rfl rfl (i := to) (by omega) (by decide) dX10_copy_51 (fun H locs hP hS => ?_)
        have hP : va_P (dC, dI) vwCl (wsM aC am v S (upd Z to (nI (R fr).length)) F G) H := hP
        have hZ := mOK_put hZ hlen (fun j hj => hc j (by omega))
        subst hQ
        exact W.vret hx hb hret (fun tq htq hWq => ⟨⟨(v, va_up R to (R fr), F, G), rfl, rfl, va_K.moved hWq.alike hK, _, _, hZ, by rw [htq]; exact hP⟩, hS.F htq⟩) hS.2.2 dX10_copy_52
      · skip
        refine lv_aload_n hx hb dX10_copy_12 rfl (lv_at hl 0 rfl) ?_
        refine va_get (D := (dC, dI)) (ci := 10) (C := RX10) (T := TX10) (N := 22) hx hb hts hin10 hown hK hP 0 rfl rfl 2 (by decide) lk1 (fun _ h9 => h9) rfl dX10_copy_13 ?_
        refine lv_bipush (v := nI 60) hx hb dX10_copy_16 (by decide) ?_
        refine lv_iload_n hx hb dX10_copy_18 rfl (lv_at hl 2 rfl) ?_
        refine lv_imul hx hb dX10_copy_19 ?_
        refine nx_ti (y := nI (60 * to)) (pk_mul _ _) ?_
        refine lv_iload_n hx hb dX10_copy_20 rfl (lv_at hl 3 rfl) ?_
        refine lv_iadd hx hb dX10_copy_21 ?_
        refine nx_ti (y := nI (60 * to + i)) (nI_add _ _) ?_
        refine lv_aload_n hx hb dX10_copy_22 rfl (lv_at hl 0 rfl) ?_
        refine va_get (D := (dC, dI)) (ci := 10) (C := RX10) (T := TX10) (N := 22) hx hb hts hin10 hown hK hP 0 rfl rfl 2 (by decide) lk1 (fun _ h9 => h9) rfl dX10_copy_23 ?_
        refine lv_bipush (v := nI 60) hx hb dX10_copy_26 (by decide) ?_
        refine lv_iload_n hx hb dX10_copy_28 rfl (lv_at hl 1 rfl) ?_
        refine lv_imul hx hb dX10_copy_29 ?_
        refine nx_ti (y := nI (60 * fr)) (pk_mul _ _) ?_
        refine lv_iload_n hx hb dX10_copy_30 rfl (lv_at hl 3 rfl) ?_
        refine lv_iadd hx hb dX10_copy_31 ?_
        refine nx_ti (y := nI (60 * fr + i)) (nI_add _ _) ?_
        refine nx_iald hx hb hK hP 2 0 rfl rfl (i := 60 * fr + i) (by have := (hZ fr (by omega) (by omega)).1; omega) (by decide) dX10_copy_32 ?_
        refine nx_ti (y := gD (R fr) i) ((hZ fr (by omega) (by omega)).2.2 i (by omega)) ?_
        refine nx_iast hx hb hK hP (wsM_D hI) hS 2 0 rfl rfl (i := 60 * to + i) (by omega) (by decide) dX10_copy_33 (fun H locs hP hS => ?_)
        have hP : va_P (dC, dI) vwCl (wsM aC am v (upd S (60 * to + i) (gD (R fr) i)) Z F G) H := hP
        refine lv_iinc (v := nI (i + 1)) (lv' := [(3, .int (nI (i + 1))), (0, .ref (am 0)), (1, .int (nI fr)), (2, .int (nI to))]) hx hb dX10_copy_34 hl (k := 3) rfl (nI_add _ _) (by decide) rfl (fun ls hl => ?_)
        refine lv_goto (tgt := 2) hx hb dX10_copy_37 (by decide) ?_
        exact ih2 (i + 1) _ _ _ _ _ (by omega) (st_ext hc) (mOKe_st hZ (by omega) _) hP hS (by omega) (lv_sub hl [1, 2, 3, 0] rfl)
  exact L2 (60 - 0 + 1) 0 _ _ _ _ _ (by omega) (fun j hj => absurd hj (Nat.not_lt_zero j)) (fun k hk _ => hZ k hk) hP hS (Nat.lt_succ_self _) (lv_sub hl [1, 2, 3, 0] rfl)

set_option maxHeartbeats 1000000 in
set_option maxRecDepth 100000 in
/-- adds -/
theorem k_adds (l : Launch) (dC : Nat → ClassId) (dI : Nat → Nat → Nat) (aC : Nat → ClassId) (am : Nat → Nat) (hI : mI am) (v : Nat → Int32) (R : Nat → List Int32) (F : Nat → Nat → Int32) (G : Nat → Nat → Int64) (to : Nat) (hto : to < 30) (fr : Nat) (hfr : fr < 30) (hne : fr ≠ to) (bg en : Nat) (hbe : bg ≤ en) (hen : en ≤ (R fr).length) : Met l yX10_adds wsX10_adds ({ frames := 1, cells := 0, slots := 0, locals := 22 } : Room) (va_Pc [.ref (am 0), .int (nI to), .int (nI fr), .int (nI bg), .int (nI en)] (MB dC dI aC am (v, R, F, G))) (va_Qi (fun (x : Int32) (u : MS) => x = bI ((R to).length + (en - bg) ≤ 60) ∧ (v, if (R to).length + (en - bg) ≤ 60 then va_up R to (R to ++ slc (R fr) bg en) else R, F, G) = u) (MB dC dI aC am) (mA am)) 0 0 (mA am) := by
  refine Met.ofW (cc := cX10_adds) (maxL := 6) (ret := (some .boolean)) (by decide) rfl ?_
  intro p e s m args below meth c s₁ B hml hv
  obtain ⟨rfl, hK, S, Z, hZ, hP⟩ := hv
  have hx := B.exec
  have hb := B.bytes
  have hret := B.returns
  have hts := atoms_spec (ws := wsX10_adds) B.pre
  have hown : s.vm.findClass RX10 = some m.cls := findClass_of_methodNamed B.named
  have hlocks := B.notSynchronized
  dsimp only at hZ hP
  have lk0 := hts (.fieldLink RX10 16 "LeafTreesModel" "size" "[I") (by decide +kernel)
  have lk1 := hts (.fieldLink RX10 13 "LeafTreesModel" "symbol" "[I") (by decide +kernel)
  have hin10 : ∀ w ∈ u_ws RX10 TX10 22, w ∈ wsX10_adds := by decide +kernel
  have hS : va_S (mA am) s.heap s.heap [] := va_S.rf
  have hl := lv_entry [.ref (am 0), .int (nI to), .int (nI fr), .int (nI bg), .int (nI en)] (n := 6) (Nat.le_of_ble_eq_true rfl)
  rw [lg_entry_eq]
  generalize (lg_sl [.ref (am 0), .int (nI to), .int (nI fr), .int (nI bg), .int (nI en)] ++ List.replicate (6 - (lg_sl [.ref (am 0), .int (nI to), .int (nI fr), .int (nI bg), .int (nI en)]).length) Slot.unset).toArray = ls at hl ⊢
  have hl : lv_has ls 6 [(0, .ref (am 0)), (1, .int (nI to)), (2, .int (nI fr)), (3, .int (nI bg)), (4, .int (nI en))] := hl
  refine nx_Q (R := ({ frames := 1, cells := 0, slots := 0, locals := 22 } : Room)) (fun Q hQ => ?_)
  skip
  have hlenf := (hZ fr hfr).1
  have hlent := (hZ to hto).1
  refine lv_aload_n hx hb dX10_adds_0 rfl (lv_at hl 0 rfl) ?_
  refine va_get (D := (dC, dI)) (ci := 10) (C := RX10) (T := TX10) (N := 22) hx hb hts hin10 hown hK hP 0 rfl rfl 3 (by decide) lk0 (fun _ h9 => h9) rfl dX10_adds_1 ?_
  refine lv_iload_n hx hb dX10_adds_4 rfl (lv_at hl 1 rfl) ?_
  refine nx_iald hx hb hK hP 3 0 rfl rfl (i := to) (by omega) (by decide) dX10_adds_5 ?_
  refine nx_ti (y := nI (R to).length) ((hZ to (by omega)).2.1) ?_
  refine lv_iload hx hb dX10_adds_6 (lv_at hl 4 rfl) ?_
  refine lv_iadd hx hb dX10_adds_8 ?_
  refine nx_ti (y := nI ((R to).length + en)) (nI_add _ _) ?_
  refine lv_iload_n hx hb dX10_adds_9 rfl (lv_at hl 3 rfl) ?_
  refine lv_isub hx hb dX10_adds_10 ?_
  refine nx_ti (y := nI (((R to).length + en) - bg)) (pk_sub (by omega)) ?_
  refine lv_bipush (v := nI 60) hx hb dX10_adds_11 (by decide) ?_
  refine nx_icmp_le (a := (((R to).length + en) - bg)) (b := 60) (tgt := 18) hx hb dX10_adds_13 (by decide) (by omega) (by omega) (fun c_13 => ?_) (fun c_13 => ?_)
  · skip
    refine lv_iload_n hx hb dX10_adds_18 rfl (lv_at hl 3 rfl) ?_
    refine lv_istore (lv' := [(5, .int (nI bg)), (0, .ref (am 0)), (1, .int (nI to)), (2, .int (nI fr)), (3, .int (nI bg)), (4, .int (nI en))]) hx hb dX10_adds_19 hl (by decide) rfl (fun ls hl => ?_)
    have L21 : ∀ (fuel21 : Nat) (i : Nat) (S Z : Nat → Int32) (H : Heap) (locs : List Loc) (ls : Array Slot), (bg ≤ i) → (i ≤ en) → mOK S Z (va_up R to (R to ++ slc (R fr) bg i)) → va_P (dC, dI) vwCl (wsM aC am v S Z F G) H → va_S (mA am) s.heap H locs → 60 - i < fuel21 → lv_has ls 6 [(0, .ref (am 0)), (1, .int (nI to)), (2, .int (nI fr)), (4, .int (nI en)), (5, .int (nI i))] → W p l e ({ frames := 1, cells := 0, slots := 0, locals := 22 } : Room) s m ([.ref (am 0), .int (nI to), .int (nI fr), .int (nI bg), .int (nI en)] : List Value).toArray below meth c H locs 0 0 Q (F0 m 21 ls []) := by
      intro fuel21
      induction fuel21 with
      | zero => intro i S Z H locs ls hbi hie hZ hP hS hf21 hl; exact absurd hf21 (Nat.not_lt_zero _)
      | succ fuel21 ih21 =>
        intro i S Z H locs ls hbi hie hZ hP hS hf21 hl
        refine lv_iload hx hb dX10_adds_21 (lv_at hl 4 rfl) ?_
        refine lv_iload hx hb dX10_adds_23 (lv_at hl 3 rfl) ?_
        refine nx_icmp_ge (a := i) (b := en) (tgt := 51) hx hb dX10_adds_25 (by decide) (by omega) (by omega) (fun c_25 => ?_) (fun c_25 => ?_)
        · skip
          refine lv_iconst (v := nI 1) hx hb dX10_adds_51 (by decide) ?_
          subst hQ
          exact W.zret (v := nI 1) hx hb hret (rfl) (fun tq htq hWq => ⟨⟨_, (v, va_up R to (R to ++ slc (R fr) bg i), F, G), rfl, ⟨(bI_t (by omega)).symm, by rw [if_pos (by omega), show i = en by omega]⟩, va_K.moved hWq.alike hK, _, _, hZ, by rw [htq]; exact hP⟩, hS.F htq⟩) hS.2.2 dX10_adds_52
        · skip
          refine lv_aload_n hx hb dX10_adds_28 rfl (lv_at hl 0 rfl) ?_
          refine lv_iload_n hx hb dX10_adds_29 rfl (lv_at hl 1 rfl) ?_
          refine lv_aload_n hx hb dX10_adds_30 rfl (lv_at hl 0 rfl) ?_
          refine va_get (D := (dC, dI)) (ci := 10) (C := RX10) (T := TX10) (N := 22) hx hb hts hin10 hown hK hP 0 rfl rfl 2 (by decide) lk1 (fun _ h9 => h9) rfl dX10_adds_31 ?_
          refine lv_bipush (v := nI 60) hx hb dX10_adds_34 (by decide) ?_
          refine lv_iload_n hx hb dX10_adds_36 rfl (lv_at hl 2 rfl) ?_
          refine lv_imul hx hb dX10_adds_37 ?_
          refine nx_ti (y := nI (60 * fr)) (pk_mul _ _) ?_
          refine lv_iload hx hb dX10_adds_38 (lv_at hl 4 rfl) ?_
          refine lv_iadd hx hb dX10_adds_40 ?_
          refine nx_ti (y := nI (60 * fr + i)) (nI_add _ _) ?_
          refine nx_iald hx hb hK hP 2 0 rfl rfl (i := 60 * fr + i) (by omega) (by decide) dX10_adds_41 ?_
          refine nx_ti (y := gD ((va_up R to (R to ++ slc (R fr) bg i)) fr) i) ((hZ fr (by omega)).2.2 i (by rw [upn hne]; omega)) ?_
          refine nx_ti (y := gD (R fr) i) (by rw [upn hne]) ?_
          refine mc_v (As := [.int (nI to), .int (gD (R fr) i)]) (rest := []) ⟨hx, hb, hml, hown, hts⟩ (k_comes l dC dI aC am hI v (va_up R to (R to ++ slc (R fr) bg i)) F G to hto (by rw [va_up_self, List.length_append, slc_len (by omega)]; omega) (gD (R fr) i)) (cwV 2 hts gX10_adds_X10_comes rfl rfl rfl (by decide +kernel) ⟨Nat.le_of_ble_eq_true rfl, Nat.le_of_ble_eq_true rfl⟩) hK hZ hP hS rfl hl.1 rfl (Nat.le_of_ble_eq_true rfl) dX10_adds_42 ⟨Nat.le_of_ble_eq_true rfl, Nat.le_of_ble_eq_true rfl⟩ (fun v1 R1 F1 G1 S Z H locs h_42 hZ hP hS => ?_)
          cases h_42
          rw [up_up, va_up_self, List.append_assoc, slc_snoc hbi (by omega)] at hZ
          refine lv_iinc (v := nI (i + 1)) (lv' := [(5, .int (nI (i + 1))), (0, .ref (am 0)), (1, .int (nI to)), (2, .int (nI fr)), (4, .int (nI en))]) hx hb dX10_adds_45 hl (k := 4) rfl (nI_add _ _) (by decide) rfl (fun ls hl => ?_)
          refine lv_goto (tgt := 21) hx hb dX10_adds_48 (by decide) ?_
          exact ih21 (i + 1) _ _ _ _ _ (by omega) (by omega) hZ hP hS (by omega) (lv_sub hl [1, 2, 3, 4, 0] rfl)
    exact L21 (60 - bg + 1) bg _ _ _ _ _ (by omega) (by omega) (by rw [slc_nil, List.append_nil, up_eta]; exact hZ) hP hS (Nat.lt_succ_self _) (lv_sub hl [1, 2, 3, 5, 0] rfl)
  · skip
    refine lv_iconst (v := nI 0) hx hb dX10_adds_16 (by decide) ?_
    subst hQ
    exact W.zret (v := nI 0) hx hb hret (rfl) (fun tq htq hWq => ⟨⟨_, (v, R, F, G), rfl, ⟨(bI_f (by omega)).symm, by rw [if_neg (by omega)]⟩, va_K.moved hWq.alike hK, _, _, hZ, by rw [htq]; exact hP⟩, hS.F htq⟩) hS.2.2 dX10_adds_17

set_option maxHeartbeats 1000000 in
set_option maxRecDepth 100000 in
/-- isSame -/
theorem k_isSame (l : Launch) (dC : Nat → ClassId) (dI : Nat → Nat → Nat) (aC : Nat → ClassId) (am : Nat → Nat) (v : Nat → Int32) (R : Nat → List Int32) (F : Nat → Nat → Int32) (G : Nat → Nat → Int64) (a : Nat) (ha : a < 30) (b : Nat) (hb0 : b < 30) : Met l yX10_isSame wsX10_isSame ({ frames := 0, cells := 0, slots := 0, locals := 0 } : Room) (va_Pc [.ref (am 0), .int (nI a), .int (nI b)] (MB dC dI aC am (v, R, F, G))) (vp_Si (fun x => x = bI (R a = R b))) 0 0 (fun _ => False) := by
  refine Met.ofW (cc := cX10_isSame) (maxL := 5) (ret := (some .boolean)) (by decide) rfl ?_
  intro p e s m args below meth c s₁ B hml hv
  obtain ⟨rfl, hK, S, Z, hZ, hP⟩ := hv
  have hx := B.exec
  have hb := B.bytes
  have hret := B.returns
  have hts := atoms_spec (ws := wsX10_isSame) B.pre
  have hown : s.vm.findClass RX10 = some m.cls := findClass_of_methodNamed B.named
  have hlocks := B.notSynchronized
  dsimp only at hZ hP
  have lk0 := hts (.fieldLink RX10 16 "LeafTreesModel" "size" "[I") (by decide +kernel)
  have lk1 := hts (.fieldLink RX10 13 "LeafTreesModel" "symbol" "[I") (by decide +kernel)
  have hin10 : ∀ w ∈ u_ws RX10 TX10 22, w ∈ wsX10_isSame := by decide +kernel
  have hl := lv_entry [.ref (am 0), .int (nI a), .int (nI b)] (n := 5) (Nat.le_of_ble_eq_true rfl)
  rw [lg_entry_eq]
  generalize (lg_sl [.ref (am 0), .int (nI a), .int (nI b)] ++ List.replicate (5 - (lg_sl [.ref (am 0), .int (nI a), .int (nI b)]).length) Slot.unset).toArray = ls at hl ⊢
  have hl : lv_has ls 5 [(0, .ref (am 0)), (1, .int (nI a)), (2, .int (nI b))] := hl
  refine nx_Q (R := ({ frames := 0, cells := 0, slots := 0, locals := 0 } : Room)) (fun Q hQ => ?_)
  have hla := (hZ a ha).1
  have hlb := (hZ b hb0).1
  refine lv_aload_n hx hb dX10_isSame_0 rfl (lv_at hl 0 rfl) ?_
  refine va_get (D := (dC, dI)) (ci := 10) (C := RX10) (T := TX10) (N := 22) hx hb hts hin10 hown hK hP 0 rfl rfl 3 (by decide) lk0 (fun _ h9 => h9) rfl dX10_isSame_1 ?_
  refine lv_iload_n hx hb dX10_isSame_4 rfl (lv_at hl 1 rfl) ?_
  refine nx_iald hx hb hK hP 3 0 rfl rfl (i := a) (by omega) (by decide) dX10_isSame_5 ?_
  refine nx_ti (y := nI (R a).length) ((hZ a (by omega)).2.1) ?_
  refine lv_aload_n hx hb dX10_isSame_6 rfl (lv_at hl 0 rfl) ?_
  refine va_get (D := (dC, dI)) (ci := 10) (C := RX10) (T := TX10) (N := 22) hx hb hts hin10 hown hK hP 0 rfl rfl 3 (by decide) lk0 (fun _ h9 => h9) rfl dX10_isSame_7 ?_
  refine lv_iload_n hx hb dX10_isSame_10 rfl (lv_at hl 2 rfl) ?_
  refine nx_iald hx hb hK hP 3 0 rfl rfl (i := b) (by omega) (by decide) dX10_isSame_11 ?_
  refine nx_ti (y := nI (R b).length) ((hZ b (by omega)).2.1) ?_
  refine nx_icmp_ne (a := (R a).length) (b := (R b).length) (tgt := 19) hx hb dX10_isSame_12 (by decide) (by omega) (by omega) (fun c_12 => ?_) (fun c_12 => ?_)
  · skip
    refine lv_iconst (v := nI 0) hx hb dX10_isSame_19 (by decide) ?_
    refine nx_ti (y := bI ((R a).length = (R b).length ∧ eqF (gD (R a)) (gD (R b)) 0 = true)) ((bI_f (fun h => c_12 h.1)).symm) ?_
    refine lv_istore_n (lv' := [(3, .int (bI ((R a).length = (R b).length ∧ eqF (gD (R a)) (gD (R b)) 0 = true))), (0, .ref (am 0)), (1, .int (nI a)), (2, .int (nI b))]) hx hb dX10_isSame_20 rfl hl (by decide) rfl (fun ls hl => ?_)
    refine lv_iconst (v := nI 0) hx hb dX10_isSame_21 (by decide) ?_
    refine lv_istore (lv' := [(4, .int (nI 0)), (3, .int (bI ((R a).length = (R b).length ∧ eqF (gD (R a)) (gD (R b)) 0 = true))), (0, .ref (am 0)), (1, .int (nI a)), (2, .int (nI b))]) hx hb dX10_isSame_22 hl (by decide) rfl (fun ls hl => ?_)
    have L24 : ∀ (fuel24 : Nat) (i : Nat) (ls : Array Slot), (i ≤ (R a).length) → 60 - i < fuel24 → lv_has ls 5 [(0, .ref (am 0)), (1, .int (nI a)), (2, .int (nI b)), (3, .int (bI ((R a).length = (R b).length ∧ eqF (gD (R a)) (gD (R b)) i = true))), (4, .int (nI i))] → W p l e ({ frames := 0, cells := 0, slots := 0, locals := 0 } : Room) s m ([.ref (am 0), .int (nI a), .int (nI b)] : List Value).toArray below meth c s.heap [] 0 0 Q (F0 m 24 ls []) := by
      intro fuel24
      induction fuel24 with
      | zero => intro i ls hi hf24 hl; exact absurd hf24 (Nat.not_lt_zero _)
      | succ fuel24 ih24 =>
        intro i ls hi hf24 hl
        refine lv_iload hx hb dX10_isSame_24 (lv_at hl 4 rfl) ?_
        refine lv_aload_n hx hb dX10_isSame_26 rfl (lv_at hl 0 rfl) ?_
        refine va_get (D := (dC, dI)) (ci := 10) (C := RX10) (T := TX10) (N := 22) hx hb hts hin10 hown hK hP 0 rfl rfl 3 (by decide) lk0 (fun _ h9 => h9) rfl dX10_isSame_27 ?_
        refine lv_iload_n hx hb dX10_isSame_30 rfl (lv_at hl 1 rfl) ?_
        refine nx_iald hx hb hK hP 3 0 rfl rfl (i := a) (by omega) (by decide) dX10_isSame_31 ?_
        refine nx_ti (y := nI (R a).length) ((hZ a (by omega)).2.1) ?_
        refine nx_icmp_ge (a := i) (b := (R a).length) (tgt := 78) hx hb dX10_isSame_32 (by decide) (by omega) (by omega) (fun c_32 => ?_) (fun c_32 => ?_)
        · skip
          refine lv_iload_n hx hb dX10_isSame_78 rfl (lv_at hl 3 rfl) ?_
          subst hQ
          exact W.zret (v := bI ((R a).length = (R b).length ∧ eqF (gD (R a)) (gD (R b)) i = true)) hx hb hret (bI_nar) (fun tq htq hWq => ⟨_, rfl, bI_iff (same_iff (by omega)), htq⟩) (fun q h => by cases h) dX10_isSame_79
        · skip
          refine lv_iload_n hx hb dX10_isSame_35 rfl (lv_at hl 3 rfl) ?_
          refine nx_bz (tgt := 78) hx hb dX10_isSame_36 (by decide) (fun c_36 => ?_) (fun c_36 => ?_)
          · skip
            refine lv_iload_n hx hb dX10_isSame_78 rfl (lv_at hl 3 rfl) ?_
            subst hQ
            exact W.zret (v := bI ((R a).length = (R b).length ∧ eqF (gD (R a)) (gD (R b)) i = true)) hx hb hret (bI_nar) (fun tq htq hWq => ⟨_, rfl, bI_iff ⟨fun h => absurd h c_36, fun h => absurd (same_of i h) c_36⟩, htq⟩) (fun q h => by cases h) dX10_isSame_79
          · skip
            refine lv_aload_n hx hb dX10_isSame_39 rfl (lv_at hl 0 rfl) ?_
            refine va_get (D := (dC, dI)) (ci := 10) (C := RX10) (T := TX10) (N := 22) hx hb hts hin10 hown hK hP 0 rfl rfl 2 (by decide) lk1 (fun _ h9 => h9) rfl dX10_isSame_40 ?_
            refine lv_bipush (v := nI 60) hx hb dX10_isSame_43 (by decide) ?_
            refine lv_iload_n hx hb dX10_isSame_45 rfl (lv_at hl 1 rfl) ?_
            refine lv_imul hx hb dX10_isSame_46 ?_
            refine nx_ti (y := nI (60 * a)) (pk_mul _ _) ?_
            refine lv_iload hx hb dX10_isSame_47 (lv_at hl 4 rfl) ?_
            refine lv_iadd hx hb dX10_isSame_49 ?_
            refine nx_ti (y := nI (60 * a + i)) (nI_add _ _) ?_
            refine nx_iald hx hb hK hP 2 0 rfl rfl (i := 60 * a + i) (by have := (hZ a (by omega)).1; omega) (by decide) dX10_isSame_50 ?_
            refine nx_ti (y := gD (R a) i) ((hZ a (by omega)).2.2 i (by omega)) ?_
            refine lv_aload_n hx hb dX10_isSame_51 rfl (lv_at hl 0 rfl) ?_
            refine va_get (D := (dC, dI)) (ci := 10) (C := RX10) (T := TX10) (N := 22) hx hb hts hin10 hown hK hP 0 rfl rfl 2 (by decide) lk1 (fun _ h9 => h9) rfl dX10_isSame_52 ?_
            refine lv_bipush (v := nI 60) hx hb dX10_isSame_55 (by decide) ?_
            refine lv_iload_n hx hb dX10_isSame_57 rfl (lv_at hl 2 rfl) ?_
            refine lv_imul hx hb dX10_isSame_58 ?_
            refine nx_ti (y := nI (60 * b)) (pk_mul _ _) ?_
            refine lv_iload hx hb dX10_isSame_59 (lv_at hl 4 rfl) ?_
            refine lv_iadd hx hb dX10_isSame_61 ?_
            refine nx_ti (y := nI (60 * b + i)) (nI_add _ _) ?_
            refine nx_iald hx hb hK hP 2 0 rfl rfl (i := 60 * b + i) (by have := (hZ b (by omega)).1; omega) (by decide) dX10_isSame_62 ?_
            refine nx_ti (y := gD (R b) i) ((hZ b (by omega)).2.2 i (by omega)) ?_
            refine lv_icmp_ne (tgt := 70) hx hb dX10_isSame_63 (by decide) (fun c_63 => ?_) (fun c_63 => ?_)
            · skip
              refine lv_iconst (v := nI 0) hx hb dX10_isSame_70 (by decide) ?_
              refine nx_ti (y := bI ((R a).length = (R b).length ∧ eqF (gD (R a)) (gD (R b)) (i + 1) = true)) ((bI_f (fun h => c_63 (by have := h.2; simp only [eqF, Bool.and_eq_true, decide_eq_true_eq] at this; exact this.2))).symm) ?_
              refine lv_istore_n (lv' := [(3, .int (bI ((R a).length = (R b).length ∧ eqF (gD (R a)) (gD (R b)) (i + 1) = true))), (0, .ref (am 0)), (1, .int (nI a)), (2, .int (nI b)), (4, .int (nI i))]) hx hb dX10_isSame_71 rfl hl (by decide) rfl (fun ls hl => ?_)
              refine lv_iinc (v := nI (i + 1)) (lv' := [(4, .int (nI (i + 1))), (3, .int (bI ((R a).length = (R b).length ∧ eqF (gD (R a)) (gD (R b)) (i + 1) = true))), (0, .ref (am 0)), (1, .int (nI a)), (2, .int (nI b))]) hx hb dX10_isSame_72 hl (k := 4) rfl (nI_add _ _) (by decide) rfl (fun ls hl => ?_)
              refine lv_goto (tgt := 24) hx hb dX10_isSame_75 (by decide) ?_
              exact ih24 (i + 1) _ (by omega) (by omega) (lv_sub hl [2, 3, 4, 1, 0] rfl)
            · skip
              refine lv_iconst (v := nI 1) hx hb dX10_isSame_66 (by decide) ?_
              refine lv_goto (tgt := 71) hx hb dX10_isSame_67 (by decide) ?_
              refine nx_ti (y := bI ((R a).length = (R b).length ∧ eqF (gD (R a)) (gD (R b)) (i + 1) = true)) ((bI_t ⟨c_36.1, by simp only [eqF, Bool.and_eq_true, decide_eq_true_eq]; exact ⟨c_36.2, c_63⟩⟩).symm) ?_
              refine lv_istore_n (lv' := [(3, .int (bI ((R a).length = (R b).length ∧ eqF (gD (R a)) (gD (R b)) (i + 1) = true))), (0, .ref (am 0)), (1, .int (nI a)), (2, .int (nI b)), (4, .int (nI i))]) hx hb dX10_isSame_71 rfl hl (by decide) rfl (fun ls hl => ?_)
              refine lv_iinc (v := nI (i + 1)) (lv' := [(4, .int (nI (i + 1))), (3, .int (bI ((R a).length = (R b).length ∧ eqF (gD (R a)) (gD (R b)) (i + 1) = true))), (0, .ref (am 0)), (1, .int (nI a)), (2, .int (nI b))]) hx hb dX10_isSame_72 hl (k := 4) rfl (nI_add _ _) (by decide) rfl (fun ls hl => ?_)
              refine lv_goto (tgt := 24) hx hb dX10_isSame_75 (by decide) ?_
              exact ih24 (i + 1) _ (by omega) (by omega) (lv_sub hl [2, 3, 4, 1, 0] rfl)
    exact L24 (60 - 0 + 1) 0 _ (by omega) (Nat.lt_succ_self _) (lv_sub hl [2, 3, 4, 1, 0] rfl)
  · skip
    refine lv_iconst (v := nI 1) hx hb dX10_isSame_15 (by decide) ?_
    refine lv_goto (tgt := 20) hx hb dX10_isSame_16 (by decide) ?_
    refine nx_ti (y := bI ((R a).length = (R b).length ∧ eqF (gD (R a)) (gD (R b)) 0 = true)) ((bI_t ⟨c_12, rfl⟩).symm) ?_
    refine lv_istore_n (lv' := [(3, .int (bI ((R a).length = (R b).length ∧ eqF (gD (R a)) (gD (R b)) 0 = true))), (0, .ref (am 0)), (1, .int (nI a)), (2, .int (nI b))]) hx hb dX10_isSame_20 rfl hl (by decide) rfl (fun ls hl => ?_)
    refine lv_iconst (v := nI 0) hx hb dX10_isSame_21 (by decide) ?_
    refine lv_istore (lv' := [(4, .int (nI 0)), (3, .int (bI ((R a).length = (R b).length ∧ eqF (gD (R a)) (gD (R b)) 0 = true))), (0, .ref (am 0)), (1, .int (nI a)), (2, .int (nI b))]) hx hb dX10_isSame_22 hl (by decide) rfl (fun ls hl => ?_)
    have L24 : ∀ (fuel24 : Nat) (i : Nat) (ls : Array Slot), (i ≤ (R a).length) → 60 - i < fuel24 → lv_has ls 5 [(0, .ref (am 0)), (1, .int (nI a)), (2, .int (nI b)), (3, .int (bI ((R a).length = (R b).length ∧ eqF (gD (R a)) (gD (R b)) i = true))), (4, .int (nI i))] → W p l e ({ frames := 0, cells := 0, slots := 0, locals := 0 } : Room) s m ([.ref (am 0), .int (nI a), .int (nI b)] : List Value).toArray below meth c s.heap [] 0 0 Q (F0 m 24 ls []) := by
      intro fuel24
      induction fuel24 with
      | zero => intro i ls hi hf24 hl; exact absurd hf24 (Nat.not_lt_zero _)
      | succ fuel24 ih24 =>
        intro i ls hi hf24 hl
        refine lv_iload hx hb dX10_isSame_24 (lv_at hl 4 rfl) ?_
        refine lv_aload_n hx hb dX10_isSame_26 rfl (lv_at hl 0 rfl) ?_
        refine va_get (D := (dC, dI)) (ci := 10) (C := RX10) (T := TX10) (N := 22) hx hb hts hin10 hown hK hP 0 rfl rfl 3 (by decide) lk0 (fun _ h9 => h9) rfl dX10_isSame_27 ?_
        refine lv_iload_n hx hb dX10_isSame_30 rfl (lv_at hl 1 rfl) ?_
        refine nx_iald hx hb hK hP 3 0 rfl rfl (i := a) (by omega) (by decide) dX10_isSame_31 ?_
        refine nx_ti (y := nI (R a).length) ((hZ a (by omega)).2.1) ?_
        refine nx_icmp_ge (a := i) (b := (R a).length) (tgt := 78) hx hb dX10_isSame_32 (by decide) (by omega) (by omega) (fun c_32 => ?_) (fun c_32 => ?_)
        · skip
          refine lv_iload_n hx hb dX10_isSame_78 rfl (lv_at hl 3 rfl) ?_
          subst hQ
          exact W.zret (v := bI ((R a).length = (R b).length ∧ eqF (gD (R a)) (gD (R b)) i = true)) hx hb hret (bI_nar) (fun tq htq hWq => ⟨_, rfl, bI_iff (same_iff (by omega)), htq⟩) (fun q h => by cases h) dX10_isSame_79
        · skip
          refine lv_iload_n hx hb dX10_isSame_35 rfl (lv_at hl 3 rfl) ?_
          refine nx_bz (tgt := 78) hx hb dX10_isSame_36 (by decide) (fun c_36 => ?_) (fun c_36 => ?_)
          · skip
            refine lv_iload_n hx hb dX10_isSame_78 rfl (lv_at hl 3 rfl) ?_
            subst hQ
            exact W.zret (v := bI ((R a).length = (R b).length ∧ eqF (gD (R a)) (gD (R b)) i = true)) hx hb hret (bI_nar) (fun tq htq hWq => ⟨_, rfl, bI_iff ⟨fun h => absurd h c_36, fun h => absurd (same_of i h) c_36⟩, htq⟩) (fun q h => by cases h) dX10_isSame_79
          · skip
            refine lv_aload_n hx hb dX10_isSame_39 rfl (lv_at hl 0 rfl) ?_
            refine va_get (D := (dC, dI)) (ci := 10) (C := RX10) (T := TX10) (N := 22) hx hb hts hin10 hown hK hP 0 rfl rfl 2 (by decide) lk1 (fun _ h9 => h9) rfl dX10_isSame_40 ?_
            refine lv_bipush (v := nI 60) hx hb dX10_isSame_43 (by decide) ?_
            refine lv_iload_n hx hb dX10_isSame_45 rfl (lv_at hl 1 rfl) ?_
            refine lv_imul hx hb dX10_isSame_46 ?_
            refine nx_ti (y := nI (60 * a)) (pk_mul _ _) ?_
            refine lv_iload hx hb dX10_isSame_47 (lv_at hl 4 rfl) ?_
            refine lv_iadd hx hb dX10_isSame_49 ?_
            refine nx_ti (y := nI (60 * a + i)) (nI_add _ _) ?_
            refine nx_iald hx hb hK hP 2 0 rfl rfl (i := 60 * a + i) (by have := (hZ a (by omega)).1; omega) (by decide) dX10_isSame_50 ?_
            refine nx_ti (y := gD (R a) i) ((hZ a (by omega)).2.2 i (by omega)) ?_
            refine lv_aload_n hx hb dX10_isSame_51 rfl (lv_at hl 0 rfl) ?_
            refine va_get (D := (dC, dI)) (ci := 10) (C := RX10) (T := TX10) (N := 22) hx hb hts hin10 hown hK hP 0 rfl rfl 2 (by decide) lk1 (fun _ h9 => h9) rfl dX10_isSame_52 ?_
            refine lv_bipush (v := nI 60) hx hb dX10_isSame_55 (by decide) ?_
            refine lv_iload_n hx hb dX10_isSame_57 rfl (lv_at hl 2 rfl) ?_
            refine lv_imul hx hb dX10_isSame_58 ?_
            refine nx_ti (y := nI (60 * b)) (pk_mul _ _) ?_
            refine lv_iload hx hb dX10_isSame_59 (lv_at hl 4 rfl) ?_
            refine lv_iadd hx hb dX10_isSame_61 ?_
            refine nx_ti (y := nI (60 * b + i)) (nI_add _ _) ?_
            refine nx_iald hx hb hK hP 2 0 rfl rfl (i := 60 * b + i) (by have := (hZ b (by omega)).1; omega) (by decide) dX10_isSame_62 ?_
            refine nx_ti (y := gD (R b) i) ((hZ b (by omega)).2.2 i (by omega)) ?_
            refine lv_icmp_ne (tgt := 70) hx hb dX10_isSame_63 (by decide) (fun c_63 => ?_) (fun c_63 => ?_)
            · skip
              refine lv_iconst (v := nI 0) hx hb dX10_isSame_70 (by decide) ?_
              refine nx_ti (y := bI ((R a).length = (R b).length ∧ eqF (gD (R a)) (gD (R b)) (i + 1) = true)) ((bI_f (fun h => c_63 (by have := h.2; simp only [eqF, Bool.and_eq_true, decide_eq_true_eq] at this; exact this.2))).symm) ?_
              refine lv_istore_n (lv' := [(3, .int (bI ((R a).length = (R b).length ∧ eqF (gD (R a)) (gD (R b)) (i + 1) = true))), (0, .ref (am 0)), (1, .int (nI a)), (2, .int (nI b)), (4, .int (nI i))]) hx hb dX10_isSame_71 rfl hl (by decide) rfl (fun ls hl => ?_)
              refine lv_iinc (v := nI (i + 1)) (lv' := [(4, .int (nI (i + 1))), (3, .int (bI ((R a).length = (R b).length ∧ eqF (gD (R a)) (gD (R b)) (i + 1) = true))), (0, .ref (am 0)), (1, .int (nI a)), (2, .int (nI b))]) hx hb dX10_isSame_72 hl (k := 4) rfl (nI_add _ _) (by decide) rfl (fun ls hl => ?_)
              refine lv_goto (tgt := 24) hx hb dX10_isSame_75 (by decide) ?_
              exact ih24 (i + 1) _ (by omega) (by omega) (lv_sub hl [2, 3, 4, 1, 0] rfl)
            · skip
              refine lv_iconst (v := nI 1) hx hb dX10_isSame_66 (by decide) ?_
              refine lv_goto (tgt := 71) hx hb dX10_isSame_67 (by decide) ?_
              refine nx_ti (y := bI ((R a).length = (R b).length ∧ eqF (gD (R a)) (gD (R b)) (i + 1) = true)) ((bI_t ⟨c_36.1, by simp only [eqF, Bool.and_eq_true, decide_eq_true_eq]; exact ⟨c_36.2, c_63⟩⟩).symm) ?_
              refine lv_istore_n (lv' := [(3, .int (bI ((R a).length = (R b).length ∧ eqF (gD (R a)) (gD (R b)) (i + 1) = true))), (0, .ref (am 0)), (1, .int (nI a)), (2, .int (nI b)), (4, .int (nI i))]) hx hb dX10_isSame_71 rfl hl (by decide) rfl (fun ls hl => ?_)
              refine lv_iinc (v := nI (i + 1)) (lv' := [(4, .int (nI (i + 1))), (3, .int (bI ((R a).length = (R b).length ∧ eqF (gD (R a)) (gD (R b)) (i + 1) = true))), (0, .ref (am 0)), (1, .int (nI a)), (2, .int (nI b))]) hx hb dX10_isSame_72 hl (k := 4) rfl (nI_add _ _) (by decide) rfl (fun ls hl => ?_)
              refine lv_goto (tgt := 24) hx hb dX10_isSame_75 (by decide) ?_
              exact ih24 (i + 1) _ (by omega) (by omega) (lv_sub hl [2, 3, 4, 1, 0] rfl)
    exact L24 (60 - 0 + 1) 0 _ (by omega) (Nat.lt_succ_self _) (lv_sub hl [2, 3, 4, 1, 0] rfl)

set_option maxHeartbeats 1000000 in
set_option maxRecDepth 100000 in
/-- isLeft -/
theorem k_isLeft (l : Launch) (dC : Nat → ClassId) (dI : Nat → Nat → Nat) (aC : Nat → ClassId) (am : Nat → Nat) (v : Nat → Int32) (R : Nat → List Int32) (F : Nat → Nat → Int32) (G : Nat → Nat → Int64) (A : Nat) (hE : vE A (F 1)) (a : Int32) (hV : ∀ r, r < 10 → vR A (R r)) : Met l yX10_isLeft wsX10_isLeft ({ frames := 4, cells := 0, slots := 0, locals := 87 } : Room) (va_Pc [.ref (am 0), .int a] (MB dC dI aC am (v, R, F, G))) (vp_Si (fun x => x = bI ((rIn a 10 ∧ isT (F 1) (R a.toNatClampNeg)) ∧ 1 ≤ (R a.toNatClampNeg).length - lvs (R a.toNatClampNeg) ∧ (R a.toNatClampNeg).length - lvs (R a.toNatClampNeg) ≤ 4))) 0 0 (fun _ => False) := by
  refine Met.ofW (cc := cX10_isLeft) (maxL := 2) (ret := (some .boolean)) (by decide) rfl ?_
  intro p e s m args below meth c s₁ B hml hv
  obtain ⟨rfl, hK, S, Z, hZ, hP⟩ := hv
  have hx := B.exec
  have hb := B.bytes
  have hret := B.returns
  have hts := atoms_spec (ws := wsX10_isLeft) B.pre
  have hown : s.vm.findClass RX10 = some m.cls := findClass_of_methodNamed B.named
  have hlocks := B.notSynchronized
  dsimp only at hZ hP
  have lk0 := hts (.fieldLink RX10 16 "LeafTreesModel" "size" "[I") (by decide +kernel)
  have hin10 : ∀ w ∈ u_ws RX10 TX10 22, w ∈ wsX10_isLeft := by decide +kernel
  have hl := lv_entry [.ref (am 0), .int a] (n := 2) (Nat.le_of_ble_eq_true rfl)
  rw [lg_entry_eq]
  generalize (lg_sl [.ref (am 0), .int a] ++ List.replicate (2 - (lg_sl [.ref (am 0), .int a]).length) Slot.unset).toArray = ls at hl ⊢
  have hl : lv_has ls 2 [(0, .ref (am 0)), (1, .int a)] := hl
  refine nx_Q (R := ({ frames := 4, cells := 0, slots := 0, locals := 87 } : Room)) (fun Q hQ => ?_)
  refine lv_aload_n hx hb dX10_isLeft_0 rfl (lv_at hl 0 rfl) ?_
  refine lv_iload_n hx hb dX10_isLeft_1 rfl (lv_at hl 1 rfl) ?_
  refine mp_i (As := [.int a]) (rest := []) ⟨hx, hb, hml, hown, hts⟩ (k_isTreeRow l dC dI aC am v R F G A hE a hV) (cwV 1 hts gX10_isLeft_X10_isTreeRow rfl rfl rfl (by decide +kernel) ⟨Nat.le_of_ble_eq_true rfl, Nat.le_of_ble_eq_true rfl⟩) hK hZ hP rfl hl.1 rfl (Nat.le_of_ble_eq_true rfl) dX10_isLeft_2 ⟨Nat.le_of_ble_eq_true rfl, Nat.le_of_ble_eq_true rfl⟩ (fun x_2 h_2 => ?_)
  subst h_2
  refine nx_bz (tgt := 32) hx hb dX10_isLeft_5 (by decide) (fun c_5 => ?_) (fun c_5 => ?_)
  · skip
    refine lv_iconst (v := nI 0) hx hb dX10_isLeft_32 (by decide) ?_
    subst hQ
    exact W.zret (v := nI 0) hx hb hret (rfl) (fun tq htq hWq => ⟨_, rfl, (bI_f (fun h => c_5 h.1)).symm, htq⟩) (fun q h => by cases h) dX10_isLeft_33
  · skip
    obtain ⟨r, hr, rfl⟩ := rIn_of c_5.1 (by decide)
    have ht := c_5.2
    rw [nI_clamp (by omega)] at ht
    have hlen := (hZ r (by omega)).1
    have hlv := lvs_le (R r)
    refine lv_aload_n hx hb dX10_isLeft_8 rfl (lv_at hl 0 rfl) ?_
    refine va_get (D := (dC, dI)) (ci := 10) (C := RX10) (T := TX10) (N := 22) hx hb hts hin10 hown hK hP 0 rfl rfl 3 (by decide) lk0 (fun _ h9 => h9) rfl dX10_isLeft_9 ?_
    refine lv_iload_n hx hb dX10_isLeft_12 rfl (lv_at hl 1 rfl) ?_
    refine nx_iald hx hb hK hP 3 0 rfl rfl (i := r) (by omega) (by decide) dX10_isLeft_13 ?_
    refine nx_ti (y := nI (R r).length) ((hZ r (by omega)).2.1) ?_
    refine lv_aload_n hx hb dX10_isLeft_14 rfl (lv_at hl 0 rfl) ?_
    refine lv_iload_n hx hb dX10_isLeft_15 rfl (lv_at hl 1 rfl) ?_
    refine mp_i (As := [.int (nI r)]) (rest := [.int (nI (R r).length)]) ⟨hx, hb, hml, hown, hts⟩ (k_leaves l dC dI aC am v R F G r (by omega)) (cwV 1 hts gX10_isLeft_X10_leaves rfl rfl rfl (by decide +kernel) ⟨Nat.le_of_ble_eq_true rfl, Nat.le_of_ble_eq_true rfl⟩) hK hZ hP rfl hl.1 rfl (Nat.le_of_ble_eq_true rfl) dX10_isLeft_16 ⟨Nat.le_of_ble_eq_true rfl, Nat.le_of_ble_eq_true rfl⟩ (fun x_16 h_16 => ?_)
    subst h_16
    refine lv_isub hx hb dX10_isLeft_19 ?_
    refine nx_ti (y := nI ((R r).length - (lvs (R r)))) (pk_sub hlv) ?_
    refine lv_iconst (v := nI 1) hx hb dX10_isLeft_20 (by decide) ?_
    refine lv_iconst (v := nI 4) hx hb dX10_isLeft_21 (by decide) ?_
    refine ms_i (As := [.int (nI ((R r).length - (lvs (R r)))), .int (nI 1), .int (nI 4)]) (rest := []) ⟨hx, hb, hml, hown, hts⟩ (k_in l (nI ((R r).length - lvs (R r))) (nI 1) (nI 4)) (va_cwS 3 hts gX10_isLeft_X10_in rfl rfl rfl (by decide +kernel) ⟨Nat.le_of_ble_eq_true rfl, Nat.le_of_ble_eq_true rfl⟩) rfl hl.1 rfl (Nat.le_of_ble_eq_true rfl) dX10_isLeft_22 ⟨Nat.le_of_ble_eq_true rfl, Nat.le_of_ble_eq_true rfl⟩ (fun x_22 h_22 => ?_)
    subst h_22
    refine nx_bz (tgt := 32) hx hb dX10_isLeft_25 (by decide) (fun c_25 => ?_) (fun c_25 => ?_)
    · skip
      rw [nI_ltI (by omega) (by omega), nI_ltI (by omega) (by omega)] at c_25
      refine lv_iconst (v := nI 0) hx hb dX10_isLeft_32 (by decide) ?_
      subst hQ
      exact W.zret (v := nI 0) hx hb hret (rfl) (fun tq htq hWq => ⟨_, rfl, (bI_f (fun h => by have h2 := h.2; rw [nI_clamp (by omega)] at h2; omega)).symm, htq⟩) (fun q h => by cases h) dX10_isLeft_33
    · skip
      rw [nI_ltI (by omega) (by omega), nI_ltI (by omega) (by omega)] at c_25
      refine lv_iconst (v := nI 1) hx hb dX10_isLeft_28 (by decide) ?_
      refine lv_goto (tgt := 33) hx hb dX10_isLeft_29 (by decide) ?_
      subst hQ
      exact W.zret (v := nI 1) hx hb hret (rfl) (fun tq htq hWq => ⟨_, rfl, (bI_t ⟨c_5, by rw [nI_clamp (by omega)]; omega⟩).symm, htq⟩) (fun q h => by cases h) dX10_isLeft_33
