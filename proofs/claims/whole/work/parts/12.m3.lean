set_option maxHeartbeats 1000000 in
set_option maxRecDepth 100000 in
/-- act -/
theorem k_act (l : Launch) (dC : Nat → ClassId) (dI : Nat → Nat → Nat) (aC : Nat → ClassId) (am : Nat → Nat) (hI : mI am) (v : Nat → Int32) (R : Nat → List Int32) (F : Nat → Nat → Int32) (G : Nat → Nat → Int64) (A : Nat) (hA : v 0 = nI A) (hA4 : A ≤ 4) (a : Int32) : Met l yX10_act wsX10_act ({ frames := 1, cells := 0, slots := 0, locals := 22 } : Room) (va_Pc [.ref (am 0), .int a] (MB dC dI aC am (v, R, F, G))) (va_Qi (fun (x : Int32) (u : MS) => x = (if ¬ a < nI 2 ∧ ¬ nI 3 < a then (if A = 4 then -4 else nI A) else -2) ∧ (if (¬ a < nI 2 ∧ ¬ nI 3 < a) ∧ A ≠ 4 then (va_up (va_up v 0 (nI (A + 1))) 6 (nI 0), R, va_up F 1 (upd (F 1) A a), G) else (v, R, F, G)) = u) (MB dC dI aC am) (mA am)) 0 0 (mA am) := by
  refine Met.ofW (cc := cX10_act) (maxL := 2) (ret := (some .int)) (by decide) rfl ?_
  intro p e s m args below meth c s₁ B hml hv
  obtain ⟨rfl, hK, S, Z, hZ, hP⟩ := hv
  have hx := B.exec
  have hb := B.bytes
  have hret := B.returns
  have hts := atoms_spec (ws := wsX10_act) B.pre
  have hown : s.vm.findClass RX10 = some m.cls := findClass_of_methodNamed B.named
  have hlocks := B.notSynchronized
  dsimp only at hZ hP
  have lk0 := hts (.fieldLink RX10 55 "LeafTreesModel" "acts" "I") (by decide +kernel)
  have lk1 := hts (.fieldLink RX10 7 "LeafTreesModel" "entries" "[I") (by decide +kernel)
  have lk2 := hts (.fieldLink RX10 59 "LeafTreesModel" "isCounted" "Z") (by decide +kernel)
  have hin10 : ∀ w ∈ u_ws RX10 TX10 22, w ∈ wsX10_act := by decide +kernel
  have hS : va_S (mA am) s.heap s.heap [] := va_S.rf
  have hl := lv_entry [.ref (am 0), .int a] (n := 2) (Nat.le_of_ble_eq_true rfl)
  rw [lg_entry_eq]
  generalize (lg_sl [.ref (am 0), .int a] ++ List.replicate (2 - (lg_sl [.ref (am 0), .int a]).length) Slot.unset).toArray = ls at hl ⊢
  have hl : lv_has ls 2 [(0, .ref (am 0)), (1, .int a)] := hl
  refine nx_Q (R := ({ frames := 1, cells := 0, slots := 0, locals := 22 } : Room)) (fun Q hQ => ?_)
  skip
  refine lv_iload_n hx hb dX10_act_0 rfl (lv_at hl 1 rfl) ?_
  refine lv_iconst (v := nI 2) hx hb dX10_act_1 (by decide) ?_
  refine lv_iconst (v := nI 3) hx hb dX10_act_2 (by decide) ?_
  refine ms_i (As := [.int a, .int (nI 2), .int (nI 3)]) (rest := []) ⟨hx, hb, hml, hown, hts⟩ (k_in l a (nI 2) (nI 3)) (va_cwS 3 hts gX10_act_X10_in rfl rfl rfl (by decide +kernel) ⟨Nat.le_of_ble_eq_true rfl, Nat.le_of_ble_eq_true rfl⟩) rfl hl.1 rfl (Nat.le_of_ble_eq_true rfl) dX10_act_3 ⟨Nat.le_of_ble_eq_true rfl, Nat.le_of_ble_eq_true rfl⟩ (fun x_3 h_3 => ?_)
  subst h_3
  refine nx_bn (tgt := 12) hx hb dX10_act_6 (by decide) (fun c_6 => ?_) (fun c_6 => ?_)
  · skip
    refine lv_aload_n hx hb dX10_act_12 rfl (lv_at hl 0 rfl) ?_
    refine va_get (D := (dC, dI)) (ci := 10) (C := RX10) (T := TX10) (N := 22) hx hb hts hin10 hown hK hP 0 rfl rfl 0 (by decide) lk0 (fun _ h9 => h9) rfl dX10_act_13 ?_
    refine nx_ti (y := nI A) (hA) ?_
    refine lv_iconst (v := nI 4) hx hb dX10_act_16 (by decide) ?_
    refine nx_icmp_ne (a := A) (b := 4) (tgt := 23) hx hb dX10_act_17 (by decide) (by omega) (by omega) (fun c_17 => ?_) (fun c_17 => ?_)
    · skip
      refine lv_aload_n hx hb dX10_act_23 rfl (lv_at hl 0 rfl) ?_
      refine va_get (D := (dC, dI)) (ci := 10) (C := RX10) (T := TX10) (N := 22) hx hb hts hin10 hown hK hP 0 rfl rfl 1 (by decide) lk1 (fun _ h9 => h9) rfl dX10_act_24 ?_
      refine lv_aload_n hx hb dX10_act_27 rfl (lv_at hl 0 rfl) ?_
      refine va_get (D := (dC, dI)) (ci := 10) (C := RX10) (T := TX10) (N := 22) hx hb hts hin10 hown hK hP 0 rfl rfl 0 (by decide) lk0 (fun _ h9 => h9) rfl dX10_act_28 ?_
      refine nx_ti (y := nI A) (hA) ?_
      refine lv_iload_n hx hb dX10_act_31 rfl (lv_at hl 1 rfl) ?_
      refine nx_iast hx hb hK hP (wsM_D hI) hS 1 0 rfl rfl (i := A) (by omega) (by decide) dX10_act_32 (fun H locs hP hS => ?_)
      have hP : va_P (dC, dI) vwCl (wsM aC am v S Z (va_up F 1 (upd (F 1) A a)) G) H := hP
      refine lv_aload_n hx hb dX10_act_33 rfl (lv_at hl 0 rfl) ?_
      refine lv_dup hx hb dX10_act_34 rfl ?_
      refine va_get (D := (dC, dI)) (ci := 10) (C := RX10) (T := TX10) (N := 22) hx hb hts hin10 hown hK hP 0 rfl rfl 0 (by decide) lk0 (fun _ h9 => h9) rfl dX10_act_35 ?_
      refine nx_ti (y := nI A) (hA) ?_
      refine lv_iconst (v := nI 1) hx hb dX10_act_38 (by decide) ?_
      refine lv_iadd hx hb dX10_act_39 ?_
      refine nx_ti (y := nI (A + 1)) (nI_add _ _) ?_
      refine va_put (D := (dC, dI)) (ci := 10) (v := .int (nI (A + 1))) (ty := .int) (C := RX10) (T := TX10) (N := 22) hx hb hts hin10 tyX10 tyX10_ok nmX10 hown hK hP (wsM_D hI) hS 0 rfl rfl 0 (by decide) lk0 (fun _ h9 => h9) rfl (by decide +kernel) rfl rfl (Nat.le_of_ble_eq_true rfl) dX10_act_40 (fun H locs hP _ hS => ?_)
      have hP : va_P (dC, dI) vwCl (wsM aC am (va_up v 0 (nI (A + 1))) S Z (va_up F 1 (upd (F 1) A a)) G) H := hP
      refine lv_aload_n hx hb dX10_act_43 rfl (lv_at hl 0 rfl) ?_
      refine lv_iconst (v := nI 0) hx hb dX10_act_44 (by decide) ?_
      refine va_put (D := (dC, dI)) (ci := 10) (v := .int (nI 0)) (ty := .boolean) (C := RX10) (T := TX10) (N := 22) hx hb hts hin10 tyX10 tyX10_ok nmX10 hown hK hP (wsM_D hI) hS 0 rfl rfl 6 (by decide) lk2 (fun _ h9 => h9) rfl (by decide +kernel) rfl rfl (Nat.le_of_ble_eq_true rfl) dX10_act_45 (fun H locs hP _ hS => ?_)
      have hP : va_P (dC, dI) vwCl (wsM aC am (va_up (va_up v 0 (nI (A + 1))) 6 (nI 0)) S Z (va_up F 1 (upd (F 1) A a)) G) H := hP
      refine lv_aload_n hx hb dX10_act_48 rfl (lv_at hl 0 rfl) ?_
      refine va_get (D := (dC, dI)) (ci := 10) (C := RX10) (T := TX10) (N := 22) hx hb hts hin10 hown hK hP 0 rfl rfl 0 (by decide) lk0 (fun _ h9 => h9) rfl dX10_act_49 ?_
      refine lv_iconst (v := nI 1) hx hb dX10_act_52 (by decide) ?_
      refine lv_isub hx hb dX10_act_53 ?_
      refine nx_ti (y := nI ((A + 1) - 1)) (pk_sub (by omega)) ?_
      subst hQ
      exact W.iret (v := nI ((A + 1) - 1)) hx hb hret (fun tq htq hWq => ⟨⟨_, ((va_up (va_up v 0 (nI (A + 1))) 6 (nI 0)), R, (va_up F 1 (upd (F 1) A a)), G), rfl, ⟨by rw [if_pos c_6, if_neg c_17]; rfl, by rw [if_pos ⟨c_6, c_17⟩]⟩, va_K.moved hWq.alike hK, _, _, hZ, by rw [htq]; exact hP⟩, hS.F htq⟩) hS.2.2 dX10_act_54
    · skip
      refine lv_bipush (v := (-4)) hx hb dX10_act_20 (by decide) ?_
      subst hQ
      exact W.iret (v := (-4)) hx hb hret (fun tq htq hWq => ⟨⟨_, (v, R, F, G), rfl, ⟨by rw [if_pos c_6, if_pos c_17], by rw [if_neg (fun h => h.2 c_17)]⟩, va_K.moved hWq.alike hK, _, _, hZ, by rw [htq]; exact hP⟩, hS.F htq⟩) hS.2.2 dX10_act_22
  · skip
    refine lv_bipush (v := (-2)) hx hb dX10_act_9 (by decide) ?_
    subst hQ
    exact W.iret (v := (-2)) hx hb hret (fun tq htq hWq => ⟨⟨_, (v, R, F, G), rfl, ⟨by rw [if_neg c_6], by rw [if_neg (fun h => c_6 h.1)]⟩, va_K.moved hWq.alike hK, _, _, hZ, by rw [htq]; exact hP⟩, hS.F htq⟩) hS.2.2 dX10_act_11

set_option maxHeartbeats 1000000 in
set_option maxRecDepth 100000 in
/-- put -/
theorem k_put (l : Launch) (dC : Nat → ClassId) (dI : Nat → Nat → Nat) (aC : Nat → ClassId) (am : Nat → Nat) (hI : mI am) (v : Nat → Int32) (R : Nat → List Int32) (F : Nat → Nat → Int32) (G : Nat → Nat → Int64) (A : Nat) (hA : v 0 = nI A) (hA4 : A ≤ 4) (a z : Int32) : Met l yX10_put wsX10_put ({ frames := 2, cells := 0, slots := 0, locals := 42 } : Room) (va_Pc [.ref (am 0), .int a, .int z] (MB dC dI aC am (v, R, F, G))) (va_Qi (fun (x : Int32) (u : MS) => x = (pPut A R a z).1 ∧ (v, (pPut A R a z).2, F, G) = u) (MB dC dI aC am) (mA am)) 0 0 (mA am) := by
  refine Met.ofW (cc := cX10_put) (maxL := 3) (ret := (some .int)) (by decide) rfl ?_
  intro p e s m args below meth c s₁ B hml hv
  obtain ⟨rfl, hK, S, Z, hZ, hP⟩ := hv
  have hx := B.exec
  have hb := B.bytes
  have hret := B.returns
  have hts := atoms_spec (ws := wsX10_put) B.pre
  have hown : s.vm.findClass RX10 = some m.cls := findClass_of_methodNamed B.named
  have hlocks := B.notSynchronized
  dsimp only at hZ hP
  have lk0 := hts (.fieldLink RX10 55 "LeafTreesModel" "acts" "I") (by decide +kernel)
  have lk1 := hts (.fieldLink RX10 16 "LeafTreesModel" "size" "[I") (by decide +kernel)
  have hin10 : ∀ w ∈ u_ws RX10 TX10 22, w ∈ wsX10_put := by decide +kernel
  have hS : va_S (mA am) s.heap s.heap [] := va_S.rf
  have hl := lv_entry [.ref (am 0), .int a, .int z] (n := 3) (Nat.le_of_ble_eq_true rfl)
  rw [lg_entry_eq]
  generalize (lg_sl [.ref (am 0), .int a, .int z] ++ List.replicate (3 - (lg_sl [.ref (am 0), .int a, .int z]).length) Slot.unset).toArray = ls at hl ⊢
  have hl : lv_has ls 3 [(0, .ref (am 0)), (1, .int a), (2, .int z)] := hl
  refine nx_Q (R := ({ frames := 2, cells := 0, slots := 0, locals := 42 } : Room)) (fun Q hQ => ?_)
  skip
  refine lv_iload_n hx hb dX10_put_0 rfl (lv_at hl 1 rfl) ?_
  refine ms_i (As := [.int a]) (rest := []) ⟨hx, hb, hml, hown, hts⟩ (k_isRow l a) (va_cwS 1 hts gX10_put_X10_isRow rfl rfl rfl (by decide +kernel) ⟨Nat.le_of_ble_eq_true rfl, Nat.le_of_ble_eq_true rfl⟩) rfl hl.1 rfl (Nat.le_of_ble_eq_true rfl) dX10_put_1 ⟨Nat.le_of_ble_eq_true rfl, Nat.le_of_ble_eq_true rfl⟩ (fun x_1 h_1 => ?_)
  subst h_1
  refine nx_bz (tgt := 21) hx hb dX10_put_4 (by decide) (fun c_4 => ?_) (fun c_4 => ?_)
  · skip
    refine lv_bipush (v := (-2)) hx hb dX10_put_21 (by decide) ?_
    subst hQ
    exact W.iret (v := (-2)) hx hb hret (fun tq htq hWq => ⟨⟨_, (v, R, F, G), rfl, by rw [pPut, if_neg (fun h => c_4 h.1)]; exact ⟨rfl, rfl⟩, va_K.moved hWq.alike hK, _, _, hZ, by rw [htq]; exact hP⟩, hS.F htq⟩) hS.2.2 dX10_put_23
  · skip
    obtain ⟨r, hr, rfl⟩ := rIn_of c_4 (by decide)
    have hcl := nI_clamp (n := r) (by omega)
    refine lv_iload_n hx hb dX10_put_7 rfl (lv_at hl 2 rfl) ?_
    refine lv_iconst (v := (-1)) hx hb dX10_put_8 (by decide) ?_
    refine lv_aload_n hx hb dX10_put_9 rfl (lv_at hl 0 rfl) ?_
    refine va_get (D := (dC, dI)) (ci := 10) (C := RX10) (T := TX10) (N := 22) hx hb hts hin10 hown hK hP 0 rfl rfl 0 (by decide) lk0 (fun _ h9 => h9) rfl dX10_put_10 ?_
    refine nx_ti (y := nI A) (hA) ?_
    refine lv_iconst (v := nI 1) hx hb dX10_put_13 (by decide) ?_
    refine lv_isub hx hb dX10_put_14 ?_
    refine ms_i (As := [.int z, .int (-1), .int ((nI A) - (nI 1))]) (rest := []) ⟨hx, hb, hml, hown, hts⟩ (k_in l z (-1) (nI A - nI 1)) (va_cwS 3 hts gX10_put_X10_in rfl rfl rfl (by decide +kernel) ⟨Nat.le_of_ble_eq_true rfl, Nat.le_of_ble_eq_true rfl⟩) rfl hl.1 rfl (Nat.le_of_ble_eq_true rfl) dX10_put_15 ⟨Nat.le_of_ble_eq_true rfl, Nat.le_of_ble_eq_true rfl⟩ (fun x_15 h_15 => ?_)
    subst h_15
    refine nx_ti (y := bI (vSd A z)) (bI_iff (in_sym (by omega))) ?_
    refine nx_bn (tgt := 24) hx hb dX10_put_18 (by decide) (fun c_18 => ?_) (fun c_18 => ?_)
    · skip
      have hlen := (hZ r (by omega)).1
      refine lv_aload_n hx hb dX10_put_24 rfl (lv_at hl 0 rfl) ?_
      refine va_get (D := (dC, dI)) (ci := 10) (C := RX10) (T := TX10) (N := 22) hx hb hts hin10 hown hK hP 0 rfl rfl 3 (by decide) lk1 (fun _ h9 => h9) rfl dX10_put_25 ?_
      refine lv_iload_n hx hb dX10_put_28 rfl (lv_at hl 1 rfl) ?_
      refine nx_iald hx hb hK hP 3 0 rfl rfl (i := r) (by omega) (by decide) dX10_put_29 ?_
      refine nx_ti (y := nI (R r).length) ((hZ r (by omega)).2.1) ?_
      refine lv_bipush (v := nI 60) hx hb dX10_put_30 (by decide) ?_
      refine nx_icmp_ne (a := (R r).length) (b := 60) (tgt := 38) hx hb dX10_put_32 (by decide) (by omega) (by omega) (fun c_32 => ?_) (fun c_32 => ?_)
      · skip
        refine lv_aload_n hx hb dX10_put_38 rfl (lv_at hl 0 rfl) ?_
        refine lv_iload_n hx hb dX10_put_39 rfl (lv_at hl 1 rfl) ?_
        refine lv_iload_n hx hb dX10_put_40 rfl (lv_at hl 2 rfl) ?_
        refine mc_v (As := [.int (nI r), .int z]) (rest := []) ⟨hx, hb, hml, hown, hts⟩ (k_comes l dC dI aC am hI v R F G r (by omega) (by have := (hZ r (by omega)).1; omega) z) (cwV 2 hts gX10_put_X10_comes rfl rfl rfl (by decide +kernel) ⟨Nat.le_of_ble_eq_true rfl, Nat.le_of_ble_eq_true rfl⟩) hK hZ hP hS rfl hl.1 rfl (Nat.le_of_ble_eq_true rfl) dX10_put_41 ⟨Nat.le_of_ble_eq_true rfl, Nat.le_of_ble_eq_true rfl⟩ (fun v1 R1 F1 G1 S Z H locs h_41 hZ hP hS => ?_)
        cases h_41
        refine lv_aload_n hx hb dX10_put_44 rfl (lv_at hl 0 rfl) ?_
        refine va_get (D := (dC, dI)) (ci := 10) (C := RX10) (T := TX10) (N := 22) hx hb hts hin10 hown hK hP 0 rfl rfl 3 (by decide) lk1 (fun _ h9 => h9) rfl dX10_put_45 ?_
        refine lv_iload_n hx hb dX10_put_48 rfl (lv_at hl 1 rfl) ?_
        refine nx_iald hx hb hK hP 3 0 rfl rfl (i := r) (by omega) (by decide) dX10_put_49 ?_
        refine nx_ti (y := nI ((va_up R r (R r ++ [z])) r).length) ((hZ r (by omega)).2.1) ?_
        subst hQ
        exact W.iret (v := nI ((va_up R r (R r ++ [z])) r).length) hx hb hret (fun tq htq hWq => ⟨⟨_, (v, va_up R r (R r ++ [z]), F, G), rfl, by rw [pPut, if_pos ⟨c_4, c_18⟩, hcl, if_neg c_32, va_up_self, List.length_append]; exact ⟨rfl, rfl⟩, va_K.moved hWq.alike hK, _, _, hZ, by rw [htq]; exact hP⟩, hS.F htq⟩) hS.2.2 dX10_put_50
      · skip
        refine lv_bipush (v := (-4)) hx hb dX10_put_35 (by decide) ?_
        subst hQ
        exact W.iret (v := (-4)) hx hb hret (fun tq htq hWq => ⟨⟨_, (v, R, F, G), rfl, by rw [pPut, if_pos ⟨c_4, c_18⟩, hcl, if_pos c_32]; exact ⟨rfl, rfl⟩, va_K.moved hWq.alike hK, _, _, hZ, by rw [htq]; exact hP⟩, hS.F htq⟩) hS.2.2 dX10_put_37
    · skip
      refine lv_bipush (v := (-2)) hx hb dX10_put_21 (by decide) ?_
      subst hQ
      exact W.iret (v := (-2)) hx hb hret (fun tq htq hWq => ⟨⟨_, (v, R, F, G), rfl, by rw [pPut, if_neg (fun h => c_18 h.2)]; exact ⟨rfl, rfl⟩, va_K.moved hWq.alike hK, _, _, hZ, by rw [htq]; exact hP⟩, hS.F htq⟩) hS.2.2 dX10_put_23

set_option maxHeartbeats 1000000 in
set_option maxRecDepth 100000 in
/-- empty -/
theorem k_empty (l : Launch) (dC : Nat → ClassId) (dI : Nat → Nat → Nat) (aC : Nat → ClassId) (am : Nat → Nat) (hI : mI am) (v : Nat → Int32) (R : Nat → List Int32) (F : Nat → Nat → Int32) (G : Nat → Nat → Int64) (a : Int32) : Met l yX10_empty wsX10_empty ({ frames := 2, cells := 0, slots := 0, locals := 42 } : Room) (va_Pc [.ref (am 0), .int a] (MB dC dI aC am (v, R, F, G))) (va_Qi (fun (x : Int32) (u : MS) => x = (pEmpty R a).1 ∧ (v, (pEmpty R a).2, F, G) = u) (MB dC dI aC am) (mA am)) 0 0 (mA am) := by
  refine Met.ofW (cc := cX10_empty) (maxL := 3) (ret := (some .int)) (by decide) rfl ?_
  intro p e s m args below meth c s₁ B hml hv
  obtain ⟨rfl, hK, S, Z, hZ, hP⟩ := hv
  have hx := B.exec
  have hb := B.bytes
  have hret := B.returns
  have hts := atoms_spec (ws := wsX10_empty) B.pre
  have hown : s.vm.findClass RX10 = some m.cls := findClass_of_methodNamed B.named
  have hlocks := B.notSynchronized
  dsimp only at hZ hP
  have lk0 := hts (.fieldLink RX10 16 "LeafTreesModel" "size" "[I") (by decide +kernel)
  have hin10 : ∀ w ∈ u_ws RX10 TX10 22, w ∈ wsX10_empty := by decide +kernel
  have hS : va_S (mA am) s.heap s.heap [] := va_S.rf
  have hl := lv_entry [.ref (am 0), .int a] (n := 3) (Nat.le_of_ble_eq_true rfl)
  rw [lg_entry_eq]
  generalize (lg_sl [.ref (am 0), .int a] ++ List.replicate (3 - (lg_sl [.ref (am 0), .int a]).length) Slot.unset).toArray = ls at hl ⊢
  have hl : lv_has ls 3 [(0, .ref (am 0)), (1, .int a)] := hl
  refine nx_Q (R := ({ frames := 2, cells := 0, slots := 0, locals := 42 } : Room)) (fun Q hQ => ?_)
  skip
  refine lv_iload_n hx hb dX10_empty_0 rfl (lv_at hl 1 rfl) ?_
  refine ms_i (As := [.int a]) (rest := []) ⟨hx, hb, hml, hown, hts⟩ (k_isRow l a) (va_cwS 1 hts gX10_empty_X10_isRow rfl rfl rfl (by decide +kernel) ⟨Nat.le_of_ble_eq_true rfl, Nat.le_of_ble_eq_true rfl⟩) rfl hl.1 rfl (Nat.le_of_ble_eq_true rfl) dX10_empty_1 ⟨Nat.le_of_ble_eq_true rfl, Nat.le_of_ble_eq_true rfl⟩ (fun x_1 h_1 => ?_)
  subst h_1
  refine nx_bn (tgt := 10) hx hb dX10_empty_4 (by decide) (fun c_4 => ?_) (fun c_4 => ?_)
  · skip
    obtain ⟨r, hr, rfl⟩ := rIn_of c_4 (by decide)
    have hcl := nI_clamp (n := r) (by omega)
    refine lv_aload_n hx hb dX10_empty_10 rfl (lv_at hl 0 rfl) ?_
    refine va_get (D := (dC, dI)) (ci := 10) (C := RX10) (T := TX10) (N := 22) hx hb hts hin10 hown hK hP 0 rfl rfl 3 (by decide) lk0 (fun _ h9 => h9) rfl dX10_empty_11 ?_
    refine lv_iload_n hx hb dX10_empty_14 rfl (lv_at hl 1 rfl) ?_
    refine nx_iald hx hb hK hP 3 0 rfl rfl (i := r) (by omega) (by decide) dX10_empty_15 ?_
    refine nx_ti (y := nI (R r).length) ((hZ r (by omega)).2.1) ?_
    refine lv_istore_n (lv' := [(2, .int (nI (R r).length)), (0, .ref (am 0)), (1, .int (nI r))]) hx hb dX10_empty_16 rfl hl (by decide) rfl (fun ls hl => ?_)
    refine lv_aload_n hx hb dX10_empty_17 rfl (lv_at hl 1 rfl) ?_
    refine va_get (D := (dC, dI)) (ci := 10) (C := RX10) (T := TX10) (N := 22) hx hb hts hin10 hown hK hP 0 rfl rfl 3 (by decide) lk0 (fun _ h9 => h9) rfl dX10_empty_18 ?_
    refine lv_iload_n hx hb dX10_empty_21 rfl (lv_at hl 2 rfl) ?_
    refine lv_iconst (v := nI 0) hx hb dX10_empty_22 (by decide) ?_
    refine nx_iast hx hb hK hP (wsM_D hI) hS 3 0 rfl rfl (i := r) (by omega) (by decide) dX10_empty_23 (fun H locs hP hS => ?_)
    have hP : va_P (dC, dI) vwCl (wsM aC am v S (upd Z r (nI 0)) F G) H := hP
    have hZ := mOK_clear hZ r
    refine lv_iload_n hx hb dX10_empty_24 rfl (lv_at hl 0 rfl) ?_
    subst hQ
    exact W.iret (v := nI (R r).length) hx hb hret (fun tq htq hWq => ⟨⟨_, (v, va_up R r [], F, G), rfl, by rw [pEmpty, if_pos c_4, hcl]; exact ⟨rfl, rfl⟩, va_K.moved hWq.alike hK, _, _, hZ, by rw [htq]; exact hP⟩, hS.F htq⟩) hS.2.2 dX10_empty_25
  · skip
    refine lv_bipush (v := (-2)) hx hb dX10_empty_7 (by decide) ?_
    subst hQ
    exact W.iret (v := (-2)) hx hb hret (fun tq htq hWq => ⟨⟨_, (v, R, F, G), rfl, by rw [pEmpty, if_neg c_4]; exact ⟨rfl, rfl⟩, va_K.moved hWq.alike hK, _, _, hZ, by rw [htq]; exact hP⟩, hS.F htq⟩) hS.2.2 dX10_empty_9

set_option maxHeartbeats 1000000 in
set_option maxRecDepth 100000 in
/-- at -/
theorem k_at (l : Launch) (dC : Nat → ClassId) (dI : Nat → Nat → Nat) (aC : Nat → ClassId) (am : Nat → Nat) (v : Nat → Int32) (R : Nat → List Int32) (F : Nat → Nat → Int32) (G : Nat → Nat → Int64) (a i : Int32) : Met l yX10_at wsX10_at ({ frames := 2, cells := 0, slots := 0, locals := 42 } : Room) (va_Pc [.ref (am 0), .int a, .int i] (MB dC dI aC am (v, R, F, G))) (vp_Si (fun x => x = pAt R a i)) 0 0 (fun _ => False) := by
  refine Met.ofW (cc := cX10_at) (maxL := 3) (ret := (some .int)) (by decide) rfl ?_
  intro p e s m args below meth c s₁ B hml hv
  obtain ⟨rfl, hK, S, Z, hZ, hP⟩ := hv
  have hx := B.exec
  have hb := B.bytes
  have hret := B.returns
  have hts := atoms_spec (ws := wsX10_at) B.pre
  have hown : s.vm.findClass RX10 = some m.cls := findClass_of_methodNamed B.named
  have hlocks := B.notSynchronized
  dsimp only at hZ hP
  have lk0 := hts (.fieldLink RX10 16 "LeafTreesModel" "size" "[I") (by decide +kernel)
  have lk1 := hts (.fieldLink RX10 13 "LeafTreesModel" "symbol" "[I") (by decide +kernel)
  have hin10 : ∀ w ∈ u_ws RX10 TX10 22, w ∈ wsX10_at := by decide +kernel
  have hl := lv_entry [.ref (am 0), .int a, .int i] (n := 3) (Nat.le_of_ble_eq_true rfl)
  rw [lg_entry_eq]
  generalize (lg_sl [.ref (am 0), .int a, .int i] ++ List.replicate (3 - (lg_sl [.ref (am 0), .int a, .int i]).length) Slot.unset).toArray = ls at hl ⊢
  have hl : lv_has ls 3 [(0, .ref (am 0)), (1, .int a), (2, .int i)] := hl
  refine nx_Q (R := ({ frames := 2, cells := 0, slots := 0, locals := 42 } : Room)) (fun Q hQ => ?_)
  refine lv_iload_n hx hb dX10_at_0 rfl (lv_at hl 1 rfl) ?_
  refine ms_i (As := [.int a]) (rest := []) ⟨hx, hb, hml, hown, hts⟩ (k_isRow l a) (va_cwS 1 hts gX10_at_X10_isRow rfl rfl rfl (by decide +kernel) ⟨Nat.le_of_ble_eq_true rfl, Nat.le_of_ble_eq_true rfl⟩) rfl hl.1 rfl (Nat.le_of_ble_eq_true rfl) dX10_at_1 ⟨Nat.le_of_ble_eq_true rfl, Nat.le_of_ble_eq_true rfl⟩ (fun x_1 h_1 => ?_)
  subst h_1
  refine nx_bn (tgt := 12) hx hb dX10_at_4 (by decide) (fun c_4 => ?_) (fun c_4 => ?_)
  · skip
    obtain ⟨r, hr, rfl⟩ := rIn_of c_4 (by decide)
    have hcl := nI_clamp (n := r) (by omega)
    have hlen := (hZ r (by omega)).1
    refine lv_iload_n hx hb dX10_at_12 rfl (lv_at hl 2 rfl) ?_
    refine lv_iconst (v := nI 0) hx hb dX10_at_13 (by decide) ?_
    refine lv_aload_n hx hb dX10_at_14 rfl (lv_at hl 0 rfl) ?_
    refine va_get (D := (dC, dI)) (ci := 10) (C := RX10) (T := TX10) (N := 22) hx hb hts hin10 hown hK hP 0 rfl rfl 3 (by decide) lk0 (fun _ h9 => h9) rfl dX10_at_15 ?_
    refine lv_iload_n hx hb dX10_at_18 rfl (lv_at hl 1 rfl) ?_
    refine nx_iald hx hb hK hP 3 0 rfl rfl (i := r) (by omega) (by decide) dX10_at_19 ?_
    refine nx_ti (y := nI (R r).length) ((hZ r (by omega)).2.1) ?_
    refine lv_iconst (v := nI 1) hx hb dX10_at_20 (by decide) ?_
    refine lv_isub hx hb dX10_at_21 ?_
    refine ms_i (As := [.int i, .int (nI 0), .int ((nI (R r).length) - (nI 1))]) (rest := []) ⟨hx, hb, hml, hown, hts⟩ (k_in l i (nI 0) (nI (R r).length - nI 1)) (va_cwS 3 hts gX10_at_X10_in rfl rfl rfl (by decide +kernel) ⟨Nat.le_of_ble_eq_true rfl, Nat.le_of_ble_eq_true rfl⟩) rfl hl.1 rfl (Nat.le_of_ble_eq_true rfl) dX10_at_22 ⟨Nat.le_of_ble_eq_true rfl, Nat.le_of_ble_eq_true rfl⟩ (fun x_22 h_22 => ?_)
    subst h_22
    refine nx_ti (y := bI (rIn i (R r).length)) (bI_iff (in_ix (by omega))) ?_
    refine nx_bz (tgt := 42) hx hb dX10_at_25 (by decide) (fun c_25 => ?_) (fun c_25 => ?_)
    · skip
      refine lv_bipush (v := (-100)) hx hb dX10_at_42 (by decide) ?_
      subst hQ
      exact W.iret (v := (-100)) hx hb hret (fun tq htq hWq => ⟨_, rfl, by rw [pAt, if_pos c_4, hcl, if_neg c_25], htq⟩) (fun q h => by cases h) dX10_at_44
    · skip
      obtain ⟨j, hj, rfl⟩ := rIn_of c_25 (by omega)
      have hcj := nI_clamp (n := j) (by omega)
      refine lv_aload_n hx hb dX10_at_28 rfl (lv_at hl 0 rfl) ?_
      refine va_get (D := (dC, dI)) (ci := 10) (C := RX10) (T := TX10) (N := 22) hx hb hts hin10 hown hK hP 0 rfl rfl 2 (by decide) lk1 (fun _ h9 => h9) rfl dX10_at_29 ?_
      refine lv_bipush (v := nI 60) hx hb dX10_at_32 (by decide) ?_
      refine lv_iload_n hx hb dX10_at_34 rfl (lv_at hl 1 rfl) ?_
      refine lv_imul hx hb dX10_at_35 ?_
      refine nx_ti (y := nI (60 * r)) (pk_mul _ _) ?_
      refine lv_iload_n hx hb dX10_at_36 rfl (lv_at hl 2 rfl) ?_
      refine lv_iadd hx hb dX10_at_37 ?_
      refine nx_ti (y := nI (60 * r + j)) (nI_add _ _) ?_
      refine nx_iald hx hb hK hP 2 0 rfl rfl (i := 60 * r + j) (by have := (hZ r (by omega)).1; omega) (by decide) dX10_at_38 ?_
      refine nx_ti (y := gD (R r) j) ((hZ r (by omega)).2.2 j (by omega)) ?_
      refine lv_goto (tgt := 44) hx hb dX10_at_39 (by decide) ?_
      subst hQ
      exact W.iret (v := gD (R r) j) hx hb hret (fun tq htq hWq => ⟨_, rfl, by rw [pAt, if_pos c_4, hcl, if_pos c_25, hcj], htq⟩) (fun q h => by cases h) dX10_at_44
  · skip
    refine lv_bipush (v := (-2)) hx hb dX10_at_7 (by decide) ?_
    refine lv_goto (tgt := 44) hx hb dX10_at_9 (by decide) ?_
    subst hQ
    exact W.iret (v := (-2)) hx hb hret (fun tq htq hWq => ⟨_, rfl, by rw [pAt, if_neg c_4], htq⟩) (fun q h => by cases h) dX10_at_44

set_option maxHeartbeats 1000000 in
set_option maxRecDepth 100000 in
/-- same -/
theorem k_same (l : Launch) (dC : Nat → ClassId) (dI : Nat → Nat → Nat) (aC : Nat → ClassId) (am : Nat → Nat) (v : Nat → Int32) (R : Nat → List Int32) (F : Nat → Nat → Int32) (G : Nat → Nat → Int64) (A : Nat) (hE : vE A (F 1)) (hV : ∀ r, r < 10 → vR A (R r)) (a b : Int32) : Met l yX10_same wsX10_same ({ frames := 4, cells := 0, slots := 0, locals := 87 } : Room) (va_Pc [.ref (am 0), .int a, .int b] (MB dC dI aC am (v, R, F, G))) (vp_Si (fun x => x = pSame (F 1) R a b)) 0 0 (fun _ => False) := by
  refine Met.ofW (cc := cX10_same) (maxL := 3) (ret := (some .int)) (by decide) rfl ?_
  intro p e s m args below meth c s₁ B hml hv
  obtain ⟨rfl, hK, S, Z, hZ, hP⟩ := hv
  have hx := B.exec
  have hb := B.bytes
  have hret := B.returns
  have hts := atoms_spec (ws := wsX10_same) B.pre
  have hown : s.vm.findClass RX10 = some m.cls := findClass_of_methodNamed B.named
  have hlocks := B.notSynchronized
  dsimp only at hZ hP
  have hl := lv_entry [.ref (am 0), .int a, .int b] (n := 3) (Nat.le_of_ble_eq_true rfl)
  rw [lg_entry_eq]
  generalize (lg_sl [.ref (am 0), .int a, .int b] ++ List.replicate (3 - (lg_sl [.ref (am 0), .int a, .int b]).length) Slot.unset).toArray = ls at hl ⊢
  have hl : lv_has ls 3 [(0, .ref (am 0)), (1, .int a), (2, .int b)] := hl
  refine nx_Q (R := ({ frames := 4, cells := 0, slots := 0, locals := 87 } : Room)) (fun Q hQ => ?_)
  refine lv_aload_n hx hb dX10_same_0 rfl (lv_at hl 0 rfl) ?_
  refine lv_iload_n hx hb dX10_same_1 rfl (lv_at hl 1 rfl) ?_
  refine mp_i (As := [.int a]) (rest := []) ⟨hx, hb, hml, hown, hts⟩ (k_isTreeRow l dC dI aC am v R F G A hE a hV) (cwV 1 hts gX10_same_X10_isTreeRow rfl rfl rfl (by decide +kernel) ⟨Nat.le_of_ble_eq_true rfl, Nat.le_of_ble_eq_true rfl⟩) hK hZ hP rfl hl.1 rfl (Nat.le_of_ble_eq_true rfl) dX10_same_2 ⟨Nat.le_of_ble_eq_true rfl, Nat.le_of_ble_eq_true rfl⟩ (fun x_2 h_2 => ?_)
  subst h_2
  refine nx_bz (tgt := 16) hx hb dX10_same_5 (by decide) (fun c_5 => ?_) (fun c_5 => ?_)
  · skip
    refine lv_bipush (v := (-2)) hx hb dX10_same_16 (by decide) ?_
    refine lv_goto (tgt := 35) hx hb dX10_same_18 (by decide) ?_
    subst hQ
    exact W.iret (v := (-2)) hx hb hret (fun tq htq hWq => ⟨_, rfl, by rw [pSame, if_neg (fun h => c_5 h.1)], htq⟩) (fun q h => by cases h) dX10_same_35
  · skip
    refine lv_aload_n hx hb dX10_same_8 rfl (lv_at hl 0 rfl) ?_
    refine lv_iload_n hx hb dX10_same_9 rfl (lv_at hl 2 rfl) ?_
    refine mp_i (As := [.int b]) (rest := []) ⟨hx, hb, hml, hown, hts⟩ (k_isTreeRow l dC dI aC am v R F G A hE b hV) (cwV 1 hts gX10_same_X10_isTreeRow rfl rfl rfl (by decide +kernel) ⟨Nat.le_of_ble_eq_true rfl, Nat.le_of_ble_eq_true rfl⟩) hK hZ hP rfl hl.1 rfl (Nat.le_of_ble_eq_true rfl) dX10_same_10 ⟨Nat.le_of_ble_eq_true rfl, Nat.le_of_ble_eq_true rfl⟩ (fun x_10 h_10 => ?_)
    subst h_10
    refine nx_bn (tgt := 21) hx hb dX10_same_13 (by decide) (fun c_13 => ?_) (fun c_13 => ?_)
    · skip
      obtain ⟨q, hq, rfl⟩ := rIn_of c_5.1 (by decide)
      obtain ⟨r, hr, rfl⟩ := rIn_of c_13.1 (by decide)
      have hcq := nI_clamp (n := q) (by omega)
      have hcr := nI_clamp (n := r) (by omega)
      refine lv_aload_n hx hb dX10_same_21 rfl (lv_at hl 0 rfl) ?_
      refine lv_iload_n hx hb dX10_same_22 rfl (lv_at hl 1 rfl) ?_
      refine lv_iload_n hx hb dX10_same_23 rfl (lv_at hl 2 rfl) ?_
      refine mp_i (As := [.int (nI q), .int (nI r)]) (rest := []) ⟨hx, hb, hml, hown, hts⟩ (k_isSame l dC dI aC am v R F G q (by omega) r (by omega)) (cwV 2 hts gX10_same_X10_isSame rfl rfl rfl (by decide +kernel) ⟨Nat.le_of_ble_eq_true rfl, Nat.le_of_ble_eq_true rfl⟩) hK hZ hP rfl hl.1 rfl (Nat.le_of_ble_eq_true rfl) dX10_same_24 ⟨Nat.le_of_ble_eq_true rfl, Nat.le_of_ble_eq_true rfl⟩ (fun x_24 h_24 => ?_)
      subst h_24
      refine nx_bz (tgt := 34) hx hb dX10_same_27 (by decide) (fun c_27 => ?_) (fun c_27 => ?_)
      · skip
        refine lv_iconst (v := nI 0) hx hb dX10_same_34 (by decide) ?_
        subst hQ
        exact W.iret (v := nI 0) hx hb hret (fun tq htq hWq => ⟨_, rfl, by rw [pSame, if_pos ⟨c_5, c_13⟩, hcq, hcr, bI_f c_27]; rfl, htq⟩) (fun q h => by cases h) dX10_same_35
      · skip
        refine lv_iconst (v := nI 1) hx hb dX10_same_30 (by decide) ?_
        refine lv_goto (tgt := 35) hx hb dX10_same_31 (by decide) ?_
        subst hQ
        exact W.iret (v := nI 1) hx hb hret (fun tq htq hWq => ⟨_, rfl, by rw [pSame, if_pos ⟨c_5, c_13⟩, hcq, hcr, bI_t c_27]; rfl, htq⟩) (fun q h => by cases h) dX10_same_35
    · skip
      refine lv_bipush (v := (-2)) hx hb dX10_same_16 (by decide) ?_
      refine lv_goto (tgt := 35) hx hb dX10_same_18 (by decide) ?_
      subst hQ
      exact W.iret (v := (-2)) hx hb hret (fun tq htq hWq => ⟨_, rfl, by rw [pSame, if_neg (fun h => c_13 h.2)], htq⟩) (fun q h => by cases h) dX10_same_35

set_option maxHeartbeats 1000000 in
set_option maxRecDepth 100000 in
/-- unrule -/
theorem k_unrule (l : Launch) (dC : Nat → ClassId) (dI : Nat → Nat → Nat) (aC : Nat → ClassId) (am : Nat → Nat) (hI : mI am) (v : Nat → Int32) (R : Nat → List Int32) (F : Nat → Nat → Int32) (G : Nat → Nat → Int64) (n : Nat) (hn : v 4 = nI n) : Met l yX10_unrule wsX10_unrule ({ frames := 0, cells := 0, slots := 0, locals := 0 } : Room) (va_Pc [.ref (am 0)] (MB dC dI aC am (v, R, F, G))) (va_Qi (fun (x : Int32) (u : MS) => x = nI n ∧ (va_up (va_up v 4 (nI 0)) 6 (nI 0), R, F, G) = u) (MB dC dI aC am) (mA am)) 0 0 (mA am) := by
  refine Met.ofW (cc := cX10_unrule) (maxL := 2) (ret := (some .int)) (by decide) rfl ?_
  intro p e s m args below meth c s₁ B hml hv
  obtain ⟨rfl, hK, S, Z, hZ, hP⟩ := hv
  have hx := B.exec
  have hb := B.bytes
  have hret := B.returns
  have hts := atoms_spec (ws := wsX10_unrule) B.pre
  have hown : s.vm.findClass RX10 = some m.cls := findClass_of_methodNamed B.named
  have hlocks := B.notSynchronized
  dsimp only at hZ hP
  have lk0 := hts (.fieldLink RX10 102 "LeafTreesModel" "rules" "I") (by decide +kernel)
  have lk1 := hts (.fieldLink RX10 59 "LeafTreesModel" "isCounted" "Z") (by decide +kernel)
  have hin10 : ∀ w ∈ u_ws RX10 TX10 22, w ∈ wsX10_unrule := by decide +kernel
  have hS : va_S (mA am) s.heap s.heap [] := va_S.rf
  have hl := lv_entry [.ref (am 0)] (n := 2) (Nat.le_of_ble_eq_true rfl)
  rw [lg_entry_eq]
  generalize (lg_sl [.ref (am 0)] ++ List.replicate (2 - (lg_sl [.ref (am 0)]).length) Slot.unset).toArray = ls at hl ⊢
  have hl : lv_has ls 2 [(0, .ref (am 0))] := hl
  refine nx_Q (R := ({ frames := 0, cells := 0, slots := 0, locals := 0 } : Room)) (fun Q hQ => ?_)
  skip
  refine lv_aload_n hx hb dX10_unrule_0 rfl (lv_at hl 0 rfl) ?_
  refine va_get (D := (dC, dI)) (ci := 10) (C := RX10) (T := TX10) (N := 22) hx hb hts hin10 hown hK hP 0 rfl rfl 4 (by decide) lk0 (fun _ h9 => h9) rfl dX10_unrule_1 ?_
  refine nx_ti (y := nI n) (hn) ?_
  refine lv_istore_n (lv' := [(1, .int (nI n)), (0, .ref (am 0))]) hx hb dX10_unrule_4 rfl hl (by decide) rfl (fun ls hl => ?_)
  refine lv_aload_n hx hb dX10_unrule_5 rfl (lv_at hl 1 rfl) ?_
  refine lv_iconst (v := nI 0) hx hb dX10_unrule_6 (by decide) ?_
  refine va_put (D := (dC, dI)) (ci := 10) (v := .int (nI 0)) (ty := .int) (C := RX10) (T := TX10) (N := 22) hx hb hts hin10 tyX10 tyX10_ok nmX10 hown hK hP (wsM_D hI) hS 0 rfl rfl 4 (by decide) lk0 (fun _ h9 => h9) rfl (by decide +kernel) rfl rfl (Nat.le_of_ble_eq_true rfl) dX10_unrule_7 (fun H locs hP _ hS => ?_)
  have hP : va_P (dC, dI) vwCl (wsM aC am (va_up v 4 (nI 0)) S Z F G) H := hP
  refine lv_aload_n hx hb dX10_unrule_10 rfl (lv_at hl 1 rfl) ?_
  refine lv_iconst (v := nI 0) hx hb dX10_unrule_11 (by decide) ?_
  refine va_put (D := (dC, dI)) (ci := 10) (v := .int (nI 0)) (ty := .boolean) (C := RX10) (T := TX10) (N := 22) hx hb hts hin10 tyX10 tyX10_ok nmX10 hown hK hP (wsM_D hI) hS 0 rfl rfl 6 (by decide) lk1 (fun _ h9 => h9) rfl (by decide +kernel) rfl rfl (Nat.le_of_ble_eq_true rfl) dX10_unrule_12 (fun H locs hP _ hS => ?_)
  have hP : va_P (dC, dI) vwCl (wsM aC am (va_up (va_up v 4 (nI 0)) 6 (nI 0)) S Z F G) H := hP
  refine lv_iload_n hx hb dX10_unrule_15 rfl (lv_at hl 0 rfl) ?_
  subst hQ
  exact W.iret (v := nI n) hx hb hret (fun tq htq hWq => ⟨⟨_, ((va_up (va_up v 4 (nI 0)) 6 (nI 0)), R, F, G), rfl, ⟨rfl, rfl⟩, va_K.moved hWq.alike hK, _, _, hZ, by rw [htq]; exact hP⟩, hS.F htq⟩) hS.2.2 dX10_unrule_16

set_option maxHeartbeats 1000000 in
set_option maxRecDepth 100000 in
/-- isRule -/
theorem k_isRule (l : Launch) (dC : Nat → ClassId) (dI : Nat → Nat → Nat) (aC : Nat → ClassId) (am : Nat → Nat) (v : Nat → Int32) (R : Nat → List Int32) (F : Nat → Nat → Int32) (G : Nat → Nat → Int64) (n : Nat) (hn : v 4 = nI n) (hn8 : n ≤ 8) (k : Int32) : Met l yX10_isRule wsX10_isRule ({ frames := 1, cells := 0, slots := 0, locals := 22 } : Room) (va_Pc [.ref (am 0), .int k] (MB dC dI aC am (v, R, F, G))) (vp_Si (fun x => x = bI (rIn k n))) 0 0 (fun _ => False) := by
  refine Met.ofW (cc := cX10_isRule) (maxL := 2) (ret := (some .boolean)) (by decide) rfl ?_
  intro p e s m args below meth c s₁ B hml hv
  obtain ⟨rfl, hK, S, Z, hZ, hP⟩ := hv
  have hx := B.exec
  have hb := B.bytes
  have hret := B.returns
  have hts := atoms_spec (ws := wsX10_isRule) B.pre
  have hown : s.vm.findClass RX10 = some m.cls := findClass_of_methodNamed B.named
  have hlocks := B.notSynchronized
  dsimp only at hZ hP
  have lk0 := hts (.fieldLink RX10 102 "LeafTreesModel" "rules" "I") (by decide +kernel)
  have hin10 : ∀ w ∈ u_ws RX10 TX10 22, w ∈ wsX10_isRule := by decide +kernel
  have hl := lv_entry [.ref (am 0), .int k] (n := 2) (Nat.le_of_ble_eq_true rfl)
  rw [lg_entry_eq]
  generalize (lg_sl [.ref (am 0), .int k] ++ List.replicate (2 - (lg_sl [.ref (am 0), .int k]).length) Slot.unset).toArray = ls at hl ⊢
  have hl : lv_has ls 2 [(0, .ref (am 0)), (1, .int k)] := hl
  refine nx_Q (R := ({ frames := 1, cells := 0, slots := 0, locals := 22 } : Room)) (fun Q hQ => ?_)
  refine lv_iload_n hx hb dX10_isRule_0 rfl (lv_at hl 1 rfl) ?_
  refine lv_iconst (v := nI 0) hx hb dX10_isRule_1 (by decide) ?_
  refine lv_aload_n hx hb dX10_isRule_2 rfl (lv_at hl 0 rfl) ?_
  refine va_get (D := (dC, dI)) (ci := 10) (C := RX10) (T := TX10) (N := 22) hx hb hts hin10 hown hK hP 0 rfl rfl 4 (by decide) lk0 (fun _ h9 => h9) rfl dX10_isRule_3 ?_
  refine nx_ti (y := nI n) (hn) ?_
  refine lv_iconst (v := nI 1) hx hb dX10_isRule_6 (by decide) ?_
  refine lv_isub hx hb dX10_isRule_7 ?_
  refine ms_i (As := [.int k, .int (nI 0), .int ((nI n) - (nI 1))]) (rest := []) ⟨hx, hb, hml, hown, hts⟩ (k_in l k (nI 0) (nI n - nI 1)) (va_cwS 3 hts gX10_isRule_X10_in rfl rfl rfl (by decide +kernel) ⟨Nat.le_of_ble_eq_true rfl, Nat.le_of_ble_eq_true rfl⟩) rfl hl.1 rfl (Nat.le_of_ble_eq_true rfl) dX10_isRule_8 ⟨Nat.le_of_ble_eq_true rfl, Nat.le_of_ble_eq_true rfl⟩ (fun x_8 h_8 => ?_)
  subst h_8
  subst hQ
  exact W.zret (v := bI (¬ k < nI 0 ∧ ¬ (nI n - nI 1) < k)) hx hb hret (bI_nar) (fun tq htq hWq => ⟨_, rfl, bI_iff (in_ix (by omega)), htq⟩) (fun q h => by cases h) dX10_isRule_11

set_option maxHeartbeats 1000000 in
set_option maxRecDepth 100000 in
/-- comesRule -/
theorem k_comesRule (l : Launch) (dC : Nat → ClassId) (dI : Nat → Nat → Nat) (aC : Nat → ClassId) (am : Nat → Nat) (hI : mI am) (v : Nat → Int32) (R : Nat → List Int32) (F : Nat → Nat → Int32) (G : Nat → Nat → Int64) (n : Nat) (hn : v 4 = nI n) (hn8 : n ≤ 8) (r : Nat) (hr : r < 10) (q : Nat) (hq : q < 10) : Met l yX10_comesRule wsX10_comesRule ({ frames := 1, cells := 0, slots := 0, locals := 23 } : Room) (va_Pc [.ref (am 0), .int (nI r), .int (nI q)] (MB dC dI aC am (v, R, F, G))) (va_Qi (fun (x : Int32) (u : MS) => x = (if n = 8 then -4 else nI n) ∧ (if n = 8 then (v, R, F, G) else (va_up (va_up v 4 (nI (n + 1))) 6 (nI 0), va_up (va_up R (10 + n) (R r)) (18 + n) (R q), va_up F 4 (upd (F 4) n (nI 0)), G)) = u) (MB dC dI aC am) (mA am)) 0 0 (mA am) := by
  refine Met.ofW (cc := cX10_comesRule) (maxL := 3) (ret := (some .int)) (by decide) rfl ?_
  intro p e s m args below meth c s₁ B hml hv
  obtain ⟨rfl, hK, S, Z, hZ, hP⟩ := hv
  have hx := B.exec
  have hb := B.bytes
  have hret := B.returns
  have hts := atoms_spec (ws := wsX10_comesRule) B.pre
  have hown : s.vm.findClass RX10 = some m.cls := findClass_of_methodNamed B.named
  have hlocks := B.notSynchronized
  dsimp only at hZ hP
  have lk0 := hts (.fieldLink RX10 102 "LeafTreesModel" "rules" "I") (by decide +kernel)
  have lk1 := hts (.fieldLink RX10 19 "LeafTreesModel" "isNought" "[Z") (by decide +kernel)
  have lk2 := hts (.fieldLink RX10 16 "LeafTreesModel" "size" "[I") (by decide +kernel)
  have lk3 := hts (.fieldLink RX10 59 "LeafTreesModel" "isCounted" "Z") (by decide +kernel)
  have hin10 : ∀ w ∈ u_ws RX10 TX10 22, w ∈ wsX10_comesRule := by decide +kernel
  have hS : va_S (mA am) s.heap s.heap [] := va_S.rf
  have hl := lv_entry [.ref (am 0), .int (nI r), .int (nI q)] (n := 3) (Nat.le_of_ble_eq_true rfl)
  rw [lg_entry_eq]
  generalize (lg_sl [.ref (am 0), .int (nI r), .int (nI q)] ++ List.replicate (3 - (lg_sl [.ref (am 0), .int (nI r), .int (nI q)]).length) Slot.unset).toArray = ls at hl ⊢
  have hl : lv_has ls 3 [(0, .ref (am 0)), (1, .int (nI r)), (2, .int (nI q))] := hl
  refine nx_Q (R := ({ frames := 1, cells := 0, slots := 0, locals := 23 } : Room)) (fun Q hQ => ?_)
  skip
  refine lv_aload_n hx hb dX10_comesRule_0 rfl (lv_at hl 0 rfl) ?_
  refine va_get (D := (dC, dI)) (ci := 10) (C := RX10) (T := TX10) (N := 22) hx hb hts hin10 hown hK hP 0 rfl rfl 4 (by decide) lk0 (fun _ h9 => h9) rfl dX10_comesRule_1 ?_
  refine nx_ti (y := nI n) (hn) ?_
  refine lv_bipush (v := nI 8) hx hb dX10_comesRule_4 (by decide) ?_
  refine nx_icmp_ne (a := n) (b := 8) (tgt := 12) hx hb dX10_comesRule_6 (by decide) (by omega) (by omega) (fun c_6 => ?_) (fun c_6 => ?_)
  · skip
    refine lv_aload_n hx hb dX10_comesRule_12 rfl (lv_at hl 0 rfl) ?_
    refine lv_iload_n hx hb dX10_comesRule_13 rfl (lv_at hl 1 rfl) ?_
    refine lv_bipush (v := nI 10) hx hb dX10_comesRule_14 (by decide) ?_
    refine lv_aload_n hx hb dX10_comesRule_16 rfl (lv_at hl 0 rfl) ?_
    refine va_get (D := (dC, dI)) (ci := 10) (C := RX10) (T := TX10) (N := 22) hx hb hts hin10 hown hK hP 0 rfl rfl 4 (by decide) lk0 (fun _ h9 => h9) rfl dX10_comesRule_17 ?_
    refine nx_ti (y := nI n) (hn) ?_
    refine lv_iadd hx hb dX10_comesRule_20 ?_
    refine nx_ti (y := nI (10 + n)) (nI_add _ _) ?_
    refine mc_v (As := [.int (nI r), .int (nI (10 + n))]) (rest := []) ⟨hx, hb, hml, hown, hts⟩ (k_copy l dC dI aC am hI v R F G r (by omega) (10 + n) (by omega) (by omega)) (cwV 2 hts gX10_comesRule_X10_copy rfl rfl rfl (by decide +kernel) ⟨Nat.le_of_ble_eq_true rfl, Nat.le_of_ble_eq_true rfl⟩) hK hZ hP hS rfl hl.1 rfl (Nat.le_of_ble_eq_true rfl) dX10_comesRule_21 ⟨Nat.le_of_ble_eq_true rfl, Nat.le_of_ble_eq_true rfl⟩ (fun v1 R1 F1 G1 S Z H locs h_21 hZ hP hS => ?_)
    cases h_21
    refine lv_aload_n hx hb dX10_comesRule_24 rfl (lv_at hl 0 rfl) ?_
    refine va_get (D := (dC, dI)) (ci := 10) (C := RX10) (T := TX10) (N := 22) hx hb hts hin10 hown hK hP 0 rfl rfl 5 (by decide) lk1 (fun _ h9 => h9) rfl dX10_comesRule_25 ?_
    refine lv_aload_n hx hb dX10_comesRule_28 rfl (lv_at hl 0 rfl) ?_
    refine va_get (D := (dC, dI)) (ci := 10) (C := RX10) (T := TX10) (N := 22) hx hb hts hin10 hown hK hP 0 rfl rfl 4 (by decide) lk0 (fun _ h9 => h9) rfl dX10_comesRule_29 ?_
    refine nx_ti (y := nI n) (hn) ?_
    refine lv_iload_n hx hb dX10_comesRule_32 rfl (lv_at hl 2 rfl) ?_
    refine lv_iconst (v := (-1)) hx hb dX10_comesRule_33 (by decide) ?_
    refine lv_icmp_ne (tgt := 41) hx hb dX10_comesRule_34 (by decide) (fun c_34 => ?_) (fun c_34 => ?_)
    · skip
      refine lv_iconst (v := nI 0) hx hb dX10_comesRule_41 (by decide) ?_
      refine nx_zast hx hb hK hP (wsM_D hI) hS 4 2 rfl rfl (i := n) (rfl) (by omega) (by decide) dX10_comesRule_42 (fun H locs hP hS => ?_)
      have hP : va_P (dC, dI) vwCl (wsM aC am v S Z (va_up F 4 (upd (F 4) n (nI 0))) G) H := hP
      refine lv_aload_n hx hb dX10_comesRule_43 rfl (lv_at hl 0 rfl) ?_
      refine va_get (D := (dC, dI)) (ci := 10) (C := RX10) (T := TX10) (N := 22) hx hb hts hin10 hown hK hP 0 rfl rfl 3 (by decide) lk2 (fun _ h9 => h9) rfl dX10_comesRule_44 ?_
      refine lv_bipush (v := nI 18) hx hb dX10_comesRule_47 (by decide) ?_
      refine lv_aload_n hx hb dX10_comesRule_49 rfl (lv_at hl 0 rfl) ?_
      refine va_get (D := (dC, dI)) (ci := 10) (C := RX10) (T := TX10) (N := 22) hx hb hts hin10 hown hK hP 0 rfl rfl 4 (by decide) lk0 (fun _ h9 => h9) rfl dX10_comesRule_50 ?_
      refine nx_ti (y := nI n) (hn) ?_
      refine lv_iadd hx hb dX10_comesRule_53 ?_
      refine nx_ti (y := nI (18 + n)) (nI_add _ _) ?_
      refine lv_iconst (v := nI 0) hx hb dX10_comesRule_54 (by decide) ?_
      refine nx_iast hx hb hK hP (wsM_D hI) hS 3 0 rfl rfl (i := 18 + n) (by omega) (by decide) dX10_comesRule_55 (fun H locs hP hS => ?_)
      have hP : va_P (dC, dI) vwCl (wsM aC am v S (upd Z (18 + n) (nI 0)) (va_up F 4 (upd (F 4) n (nI 0))) G) H := hP
      have hZ := mOK_clear hZ (18 + n)
      refine lv_iload_n hx hb dX10_comesRule_56 rfl (lv_at hl 2 rfl) ?_
      refine lv_iconst (v := (-1)) hx hb dX10_comesRule_57 (by decide) ?_
      refine lv_icmp_eq (tgt := 73) hx hb dX10_comesRule_58 (by decide) (fun c_58 => ?_) (fun c_58 => ?_)
      · skip
        exact absurd c_58 (nI_neM1 (by omega))
      · skip
        refine lv_aload_n hx hb dX10_comesRule_61 rfl (lv_at hl 0 rfl) ?_
        refine lv_iload_n hx hb dX10_comesRule_62 rfl (lv_at hl 2 rfl) ?_
        refine lv_bipush (v := nI 18) hx hb dX10_comesRule_63 (by decide) ?_
        refine lv_aload_n hx hb dX10_comesRule_65 rfl (lv_at hl 0 rfl) ?_
        refine va_get (D := (dC, dI)) (ci := 10) (C := RX10) (T := TX10) (N := 22) hx hb hts hin10 hown hK hP 0 rfl rfl 4 (by decide) lk0 (fun _ h9 => h9) rfl dX10_comesRule_66 ?_
        refine nx_ti (y := nI n) (hn) ?_
        refine lv_iadd hx hb dX10_comesRule_69 ?_
        refine nx_ti (y := nI (18 + n)) (nI_add _ _) ?_
        refine mc_v (As := [.int (nI q), .int (nI (18 + n))]) (rest := []) ⟨hx, hb, hml, hown, hts⟩ (k_copy l dC dI aC am hI v (va_up (va_up R (10 + n) (R r)) (18 + n) []) (va_up F 4 (upd (F 4) n (nI 0))) G q (by omega) (18 + n) (by omega) (by omega)) (cwV 2 hts gX10_comesRule_X10_copy rfl rfl rfl (by decide +kernel) ⟨Nat.le_of_ble_eq_true rfl, Nat.le_of_ble_eq_true rfl⟩) hK hZ hP hS rfl hl.1 rfl (Nat.le_of_ble_eq_true rfl) dX10_comesRule_70 ⟨Nat.le_of_ble_eq_true rfl, Nat.le_of_ble_eq_true rfl⟩ (fun v2 R2 F2 G2 S Z H locs h_70 hZ hP hS => ?_)
        cases h_70
        rw [up_up, upn (show q ≠ 18 + n by omega), upn (show q ≠ 10 + n by omega)] at hZ
        refine lv_aload_n hx hb dX10_comesRule_73 rfl (lv_at hl 0 rfl) ?_
        refine lv_dup hx hb dX10_comesRule_74 rfl ?_
        refine va_get (D := (dC, dI)) (ci := 10) (C := RX10) (T := TX10) (N := 22) hx hb hts hin10 hown hK hP 0 rfl rfl 4 (by decide) lk0 (fun _ h9 => h9) rfl dX10_comesRule_75 ?_
        refine nx_ti (y := nI n) (hn) ?_
        refine lv_iconst (v := nI 1) hx hb dX10_comesRule_78 (by decide) ?_
        refine lv_iadd hx hb dX10_comesRule_79 ?_
        refine nx_ti (y := nI (n + 1)) (nI_add _ _) ?_
        refine va_put (D := (dC, dI)) (ci := 10) (v := .int (nI (n + 1))) (ty := .int) (C := RX10) (T := TX10) (N := 22) hx hb hts hin10 tyX10 tyX10_ok nmX10 hown hK hP (wsM_D hI) hS 0 rfl rfl 4 (by decide) lk0 (fun _ h9 => h9) rfl (by decide +kernel) rfl rfl (Nat.le_of_ble_eq_true rfl) dX10_comesRule_80 (fun H locs hP _ hS => ?_)
        have hP : va_P (dC, dI) vwCl (wsM aC am (va_up v 4 (nI (n + 1))) S Z (va_up F 4 (upd (F 4) n (nI 0))) G) H := hP
        refine lv_aload_n hx hb dX10_comesRule_83 rfl (lv_at hl 0 rfl) ?_
        refine lv_iconst (v := nI 0) hx hb dX10_comesRule_84 (by decide) ?_
        refine va_put (D := (dC, dI)) (ci := 10) (v := .int (nI 0)) (ty := .boolean) (C := RX10) (T := TX10) (N := 22) hx hb hts hin10 tyX10 tyX10_ok nmX10 hown hK hP (wsM_D hI) hS 0 rfl rfl 6 (by decide) lk3 (fun _ h9 => h9) rfl (by decide +kernel) rfl rfl (Nat.le_of_ble_eq_true rfl) dX10_comesRule_85 (fun H locs hP _ hS => ?_)
        have hP : va_P (dC, dI) vwCl (wsM aC am (va_up (va_up v 4 (nI (n + 1))) 6 (nI 0)) S Z (va_up F 4 (upd (F 4) n (nI 0))) G) H := hP
        refine lv_aload_n hx hb dX10_comesRule_88 rfl (lv_at hl 0 rfl) ?_
        refine va_get (D := (dC, dI)) (ci := 10) (C := RX10) (T := TX10) (N := 22) hx hb hts hin10 hown hK hP 0 rfl rfl 4 (by decide) lk0 (fun _ h9 => h9) rfl dX10_comesRule_89 ?_
        refine lv_iconst (v := nI 1) hx hb dX10_comesRule_92 (by decide) ?_
        refine lv_isub hx hb dX10_comesRule_93 ?_
        refine nx_ti (y := nI ((n + 1) - 1)) (pk_sub (by omega)) ?_
        subst hQ
        exact W.iret (v := nI ((n + 1) - 1)) hx hb hret (fun tq htq hWq => ⟨⟨_, ((va_up (va_up v 4 (nI (n + 1))) 6 (nI 0)), va_up (va_up R (10 + n) (R r)) (18 + n) (R q), (va_up F 4 (upd (F 4) n (nI 0))), G), rfl, ⟨by rw [if_neg c_6]; rfl, by rw [if_neg c_6]⟩, va_K.moved hWq.alike hK, _, _, hZ, by rw [htq]; exact hP⟩, hS.F htq⟩) hS.2.2 dX10_comesRule_94
    · skip
      exact absurd c_34 (nI_neM1 (by omega))
  · skip
    refine lv_bipush (v := (-4)) hx hb dX10_comesRule_9 (by decide) ?_
    subst hQ
    exact W.iret (v := (-4)) hx hb hret (fun tq htq hWq => ⟨⟨_, (v, R, F, G), rfl, ⟨by rw [if_pos c_6], by rw [if_pos c_6]⟩, va_K.moved hWq.alike hK, _, _, hZ, by rw [htq]; exact hP⟩, hS.F htq⟩) hS.2.2 dX10_comesRule_11

set_option maxHeartbeats 1000000 in
set_option maxRecDepth 100000 in
/-- comesRule -/
theorem k_comesRuleN (l : Launch) (dC : Nat → ClassId) (dI : Nat → Nat → Nat) (aC : Nat → ClassId) (am : Nat → Nat) (hI : mI am) (v : Nat → Int32) (R : Nat → List Int32) (F : Nat → Nat → Int32) (G : Nat → Nat → Int64) (n : Nat) (hn : v 4 = nI n) (hn8 : n ≤ 8) (r : Nat) (hr : r < 10) : Met l yX10_comesRule wsX10_comesRule ({ frames := 1, cells := 0, slots := 0, locals := 23 } : Room) (va_Pc [.ref (am 0), .int (nI r), .int (-1)] (MB dC dI aC am (v, R, F, G))) (va_Qi (fun (x : Int32) (u : MS) => x = (if n = 8 then -4 else nI n) ∧ (if n = 8 then (v, R, F, G) else (va_up (va_up v 4 (nI (n + 1))) 6 (nI 0), va_up (va_up R (10 + n) (R r)) (18 + n) [], va_up F 4 (upd (F 4) n (nI 1)), G)) = u) (MB dC dI aC am) (mA am)) 0 0 (mA am) := by
  refine Met.ofW (cc := cX10_comesRule) (maxL := 3) (ret := (some .int)) (by decide) rfl ?_
  intro p e s m args below meth c s₁ B hml hv
  obtain ⟨rfl, hK, S, Z, hZ, hP⟩ := hv
  have hx := B.exec
  have hb := B.bytes
  have hret := B.returns
  have hts := atoms_spec (ws := wsX10_comesRule) B.pre
  have hown : s.vm.findClass RX10 = some m.cls := findClass_of_methodNamed B.named
  have hlocks := B.notSynchronized
  dsimp only at hZ hP
  have lk0 := hts (.fieldLink RX10 102 "LeafTreesModel" "rules" "I") (by decide +kernel)
  have lk1 := hts (.fieldLink RX10 19 "LeafTreesModel" "isNought" "[Z") (by decide +kernel)
  have lk2 := hts (.fieldLink RX10 16 "LeafTreesModel" "size" "[I") (by decide +kernel)
  have lk3 := hts (.fieldLink RX10 59 "LeafTreesModel" "isCounted" "Z") (by decide +kernel)
  have hin10 : ∀ w ∈ u_ws RX10 TX10 22, w ∈ wsX10_comesRule := by decide +kernel
  have hS : va_S (mA am) s.heap s.heap [] := va_S.rf
  have hl := lv_entry [.ref (am 0), .int (nI r), .int (-1)] (n := 3) (Nat.le_of_ble_eq_true rfl)
  rw [lg_entry_eq]
  generalize (lg_sl [.ref (am 0), .int (nI r), .int (-1)] ++ List.replicate (3 - (lg_sl [.ref (am 0), .int (nI r), .int (-1)]).length) Slot.unset).toArray = ls at hl ⊢
  have hl : lv_has ls 3 [(0, .ref (am 0)), (1, .int (nI r)), (2, .int (-1))] := hl
  refine nx_Q (R := ({ frames := 1, cells := 0, slots := 0, locals := 23 } : Room)) (fun Q hQ => ?_)
  skip
  refine lv_aload_n hx hb dX10_comesRule_0 rfl (lv_at hl 0 rfl) ?_
  refine va_get (D := (dC, dI)) (ci := 10) (C := RX10) (T := TX10) (N := 22) hx hb hts hin10 hown hK hP 0 rfl rfl 4 (by decide) lk0 (fun _ h9 => h9) rfl dX10_comesRule_1 ?_
  refine nx_ti (y := nI n) (hn) ?_
  refine lv_bipush (v := nI 8) hx hb dX10_comesRule_4 (by decide) ?_
  refine nx_icmp_ne (a := n) (b := 8) (tgt := 12) hx hb dX10_comesRule_6 (by decide) (by omega) (by omega) (fun c_6 => ?_) (fun c_6 => ?_)
  · skip
    refine lv_aload_n hx hb dX10_comesRule_12 rfl (lv_at hl 0 rfl) ?_
    refine lv_iload_n hx hb dX10_comesRule_13 rfl (lv_at hl 1 rfl) ?_
    refine lv_bipush (v := nI 10) hx hb dX10_comesRule_14 (by decide) ?_
    refine lv_aload_n hx hb dX10_comesRule_16 rfl (lv_at hl 0 rfl) ?_
    refine va_get (D := (dC, dI)) (ci := 10) (C := RX10) (T := TX10) (N := 22) hx hb hts hin10 hown hK hP 0 rfl rfl 4 (by decide) lk0 (fun _ h9 => h9) rfl dX10_comesRule_17 ?_
    refine nx_ti (y := nI n) (hn) ?_
    refine lv_iadd hx hb dX10_comesRule_20 ?_
    refine nx_ti (y := nI (10 + n)) (nI_add _ _) ?_
    refine mc_v (As := [.int (nI r), .int (nI (10 + n))]) (rest := []) ⟨hx, hb, hml, hown, hts⟩ (k_copy l dC dI aC am hI v R F G r (by omega) (10 + n) (by omega) (by omega)) (cwV 2 hts gX10_comesRule_X10_copy rfl rfl rfl (by decide +kernel) ⟨Nat.le_of_ble_eq_true rfl, Nat.le_of_ble_eq_true rfl⟩) hK hZ hP hS rfl hl.1 rfl (Nat.le_of_ble_eq_true rfl) dX10_comesRule_21 ⟨Nat.le_of_ble_eq_true rfl, Nat.le_of_ble_eq_true rfl⟩ (fun v1 R1 F1 G1 S Z H locs h_21 hZ hP hS => ?_)
    cases h_21
    refine lv_aload_n hx hb dX10_comesRule_24 rfl (lv_at hl 0 rfl) ?_
    refine va_get (D := (dC, dI)) (ci := 10) (C := RX10) (T := TX10) (N := 22) hx hb hts hin10 hown hK hP 0 rfl rfl 5 (by decide) lk1 (fun _ h9 => h9) rfl dX10_comesRule_25 ?_
    refine lv_aload_n hx hb dX10_comesRule_28 rfl (lv_at hl 0 rfl) ?_
    refine va_get (D := (dC, dI)) (ci := 10) (C := RX10) (T := TX10) (N := 22) hx hb hts hin10 hown hK hP 0 rfl rfl 4 (by decide) lk0 (fun _ h9 => h9) rfl dX10_comesRule_29 ?_
    refine nx_ti (y := nI n) (hn) ?_
    refine lv_iload_n hx hb dX10_comesRule_32 rfl (lv_at hl 2 rfl) ?_
    refine lv_iconst (v := (-1)) hx hb dX10_comesRule_33 (by decide) ?_
    refine lv_icmp_ne (tgt := 41) hx hb dX10_comesRule_34 (by decide) (fun c_34 => ?_) (fun c_34 => ?_)
    · skip
      exact absurd rfl c_34
    · skip
      refine lv_iconst (v := nI 1) hx hb dX10_comesRule_37 (by decide) ?_
      refine lv_goto (tgt := 42) hx hb dX10_comesRule_38 (by decide) ?_
      refine nx_zast hx hb hK hP (wsM_D hI) hS 4 2 rfl rfl (i := n) (rfl) (by omega) (by decide) dX10_comesRule_42 (fun H locs hP hS => ?_)
      have hP : va_P (dC, dI) vwCl (wsM aC am v S Z (va_up F 4 (upd (F 4) n (nI 1))) G) H := hP
      refine lv_aload_n hx hb dX10_comesRule_43 rfl (lv_at hl 0 rfl) ?_
      refine va_get (D := (dC, dI)) (ci := 10) (C := RX10) (T := TX10) (N := 22) hx hb hts hin10 hown hK hP 0 rfl rfl 3 (by decide) lk2 (fun _ h9 => h9) rfl dX10_comesRule_44 ?_
      refine lv_bipush (v := nI 18) hx hb dX10_comesRule_47 (by decide) ?_
      refine lv_aload_n hx hb dX10_comesRule_49 rfl (lv_at hl 0 rfl) ?_
      refine va_get (D := (dC, dI)) (ci := 10) (C := RX10) (T := TX10) (N := 22) hx hb hts hin10 hown hK hP 0 rfl rfl 4 (by decide) lk0 (fun _ h9 => h9) rfl dX10_comesRule_50 ?_
      refine nx_ti (y := nI n) (hn) ?_
      refine lv_iadd hx hb dX10_comesRule_53 ?_
      refine nx_ti (y := nI (18 + n)) (nI_add _ _) ?_
      refine lv_iconst (v := nI 0) hx hb dX10_comesRule_54 (by decide) ?_
      refine nx_iast hx hb hK hP (wsM_D hI) hS 3 0 rfl rfl (i := 18 + n) (by omega) (by decide) dX10_comesRule_55 (fun H locs hP hS => ?_)
      have hP : va_P (dC, dI) vwCl (wsM aC am v S (upd Z (18 + n) (nI 0)) (va_up F 4 (upd (F 4) n (nI 1))) G) H := hP
      have hZ := mOK_clear hZ (18 + n)
      refine lv_iload_n hx hb dX10_comesRule_56 rfl (lv_at hl 2 rfl) ?_
      refine lv_iconst (v := (-1)) hx hb dX10_comesRule_57 (by decide) ?_
      refine lv_icmp_eq (tgt := 73) hx hb dX10_comesRule_58 (by decide) (fun c_58 => ?_) (fun c_58 => ?_)
      · skip
        refine lv_aload_n hx hb dX10_comesRule_73 rfl (lv_at hl 0 rfl) ?_
        refine lv_dup hx hb dX10_comesRule_74 rfl ?_
        refine va_get (D := (dC, dI)) (ci := 10) (C := RX10) (T := TX10) (N := 22) hx hb hts hin10 hown hK hP 0 rfl rfl 4 (by decide) lk0 (fun _ h9 => h9) rfl dX10_comesRule_75 ?_
        refine nx_ti (y := nI n) (hn) ?_
        refine lv_iconst (v := nI 1) hx hb dX10_comesRule_78 (by decide) ?_
        refine lv_iadd hx hb dX10_comesRule_79 ?_
        refine nx_ti (y := nI (n + 1)) (nI_add _ _) ?_
        refine va_put (D := (dC, dI)) (ci := 10) (v := .int (nI (n + 1))) (ty := .int) (C := RX10) (T := TX10) (N := 22) hx hb hts hin10 tyX10 tyX10_ok nmX10 hown hK hP (wsM_D hI) hS 0 rfl rfl 4 (by decide) lk0 (fun _ h9 => h9) rfl (by decide +kernel) rfl rfl (Nat.le_of_ble_eq_true rfl) dX10_comesRule_80 (fun H locs hP _ hS => ?_)
        have hP : va_P (dC, dI) vwCl (wsM aC am (va_up v 4 (nI (n + 1))) S (upd Z (18 + n) (nI 0)) (va_up F 4 (upd (F 4) n (nI 1))) G) H := hP
        refine lv_aload_n hx hb dX10_comesRule_83 rfl (lv_at hl 0 rfl) ?_
        refine lv_iconst (v := nI 0) hx hb dX10_comesRule_84 (by decide) ?_
        refine va_put (D := (dC, dI)) (ci := 10) (v := .int (nI 0)) (ty := .boolean) (C := RX10) (T := TX10) (N := 22) hx hb hts hin10 tyX10 tyX10_ok nmX10 hown hK hP (wsM_D hI) hS 0 rfl rfl 6 (by decide) lk3 (fun _ h9 => h9) rfl (by decide +kernel) rfl rfl (Nat.le_of_ble_eq_true rfl) dX10_comesRule_85 (fun H locs hP _ hS => ?_)
        have hP : va_P (dC, dI) vwCl (wsM aC am (va_up (va_up v 4 (nI (n + 1))) 6 (nI 0)) S (upd Z (18 + n) (nI 0)) (va_up F 4 (upd (F 4) n (nI 1))) G) H := hP
        refine lv_aload_n hx hb dX10_comesRule_88 rfl (lv_at hl 0 rfl) ?_
        refine va_get (D := (dC, dI)) (ci := 10) (C := RX10) (T := TX10) (N := 22) hx hb hts hin10 hown hK hP 0 rfl rfl 4 (by decide) lk0 (fun _ h9 => h9) rfl dX10_comesRule_89 ?_
        refine lv_iconst (v := nI 1) hx hb dX10_comesRule_92 (by decide) ?_
        refine lv_isub hx hb dX10_comesRule_93 ?_
        refine nx_ti (y := nI ((n + 1) - 1)) (pk_sub (by omega)) ?_
        subst hQ
        exact W.iret (v := nI ((n + 1) - 1)) hx hb hret (fun tq htq hWq => ⟨⟨_, ((va_up (va_up v 4 (nI (n + 1))) 6 (nI 0)), va_up (va_up R (10 + n) (R r)) (18 + n) [], (va_up F 4 (upd (F 4) n (nI 1))), G), rfl, ⟨by rw [if_neg c_6]; rfl, by rw [if_neg c_6]⟩, va_K.moved hWq.alike hK, _, _, hZ, by rw [htq]; exact hP⟩, hS.F htq⟩) hS.2.2 dX10_comesRule_94
      · skip
        exact absurd rfl c_58
  · skip
    refine lv_bipush (v := (-4)) hx hb dX10_comesRule_9 (by decide) ?_
    subst hQ
    exact W.iret (v := (-4)) hx hb hret (fun tq htq hWq => ⟨⟨_, (v, R, F, G), rfl, ⟨by rw [if_pos c_6], by rw [if_pos c_6]⟩, va_K.moved hWq.alike hK, _, _, hZ, by rw [htq]; exact hP⟩, hS.F htq⟩) hS.2.2 dX10_comesRule_11

set_option maxHeartbeats 1000000 in
set_option maxRecDepth 100000 in
/-- rule -/
theorem k_rule (l : Launch) (dC : Nat → ClassId) (dI : Nat → Nat → Nat) (aC : Nat → ClassId) (am : Nat → Nat) (hI : mI am) (v : Nat → Int32) (R : Nat → List Int32) (F : Nat → Nat → Int32) (G : Nat → Nat → Int64) (A : Nat) (hE : vE A (F 1)) (hV : ∀ r, r < 10 → vR A (R r)) (n : Nat) (hn : v 4 = nI n) (hn8 : n ≤ 8) (a b : Int32) : Met l yX10_rule wsX10_rule ({ frames := 5, cells := 0, slots := 0, locals := 108 } : Room) (va_Pc [.ref (am 0), .int a, .int b] (MB dC dI aC am (v, R, F, G))) (va_Qi (fun (x : Int32) (u : MS) => x = pRule (F 1) R n a b ∧ uRule v R F G n a b = u) (MB dC dI aC am) (mA am)) 0 0 (mA am) := by
  refine Met.ofW (cc := cX10_rule) (maxL := 3) (ret := (some .int)) (by decide) rfl ?_
  intro p e s m args below meth c s₁ B hml hv
  obtain ⟨rfl, hK, S, Z, hZ, hP⟩ := hv
  have hx := B.exec
  have hb := B.bytes
  have hret := B.returns
  have hts := atoms_spec (ws := wsX10_rule) B.pre
  have hown : s.vm.findClass RX10 = some m.cls := findClass_of_methodNamed B.named
  have hlocks := B.notSynchronized
  dsimp only at hZ hP
  have hS : va_S (mA am) s.heap s.heap [] := va_S.rf
  have hl := lv_entry [.ref (am 0), .int a, .int b] (n := 3) (Nat.le_of_ble_eq_true rfl)
  rw [lg_entry_eq]
  generalize (lg_sl [.ref (am 0), .int a, .int b] ++ List.replicate (3 - (lg_sl [.ref (am 0), .int a, .int b]).length) Slot.unset).toArray = ls at hl ⊢
  have hl : lv_has ls 3 [(0, .ref (am 0)), (1, .int a), (2, .int b)] := hl
  refine nx_Q (R := ({ frames := 5, cells := 0, slots := 0, locals := 108 } : Room)) (fun Q hQ => ?_)
  skip
  refine lv_aload_n hx hb dX10_rule_0 rfl (lv_at hl 0 rfl) ?_
  refine lv_iload_n hx hb dX10_rule_1 rfl (lv_at hl 1 rfl) ?_
  refine mp_i (As := [.int a]) (rest := []) ⟨hx, hb, hml, hown, hts⟩ (k_isLeft l dC dI aC am v R F G A hE a hV) (cwV 1 hts gX10_rule_X10_isLeft rfl rfl rfl (by decide +kernel) ⟨Nat.le_of_ble_eq_true rfl, Nat.le_of_ble_eq_true rfl⟩) hK hZ hP rfl hl.1 rfl (Nat.le_of_ble_eq_true rfl) dX10_rule_2 ⟨Nat.le_of_ble_eq_true rfl, Nat.le_of_ble_eq_true rfl⟩ (fun x_2 h_2 => ?_)
  subst h_2
  refine nx_bz (tgt := 16) hx hb dX10_rule_5 (by decide) (fun c_5 => ?_) (fun c_5 => ?_)
  · skip
    refine lv_bipush (v := (-2)) hx hb dX10_rule_16 (by decide) ?_
    subst hQ
    exact W.iret (v := (-2)) hx hb hret (fun tq htq hWq => ⟨⟨_, (v, R, F, G), rfl, ⟨by rw [pRule, if_neg (fun h => c_5 h.1)], by rw [uRule, if_neg (fun h => c_5 h.1)]⟩, va_K.moved hWq.alike hK, _, _, hZ, by rw [htq]; exact hP⟩, hS.F htq⟩) hS.2.2 dX10_rule_18
  · skip
    refine lv_aload_n hx hb dX10_rule_8 rfl (lv_at hl 0 rfl) ?_
    refine lv_iload_n hx hb dX10_rule_9 rfl (lv_at hl 2 rfl) ?_
    refine mp_i (As := [.int b]) (rest := []) ⟨hx, hb, hml, hown, hts⟩ (k_isTreeRow l dC dI aC am v R F G A hE b hV) (cwV 1 hts gX10_rule_X10_isTreeRow rfl rfl rfl (by decide +kernel) ⟨Nat.le_of_ble_eq_true rfl, Nat.le_of_ble_eq_true rfl⟩) hK hZ hP rfl hl.1 rfl (Nat.le_of_ble_eq_true rfl) dX10_rule_10 ⟨Nat.le_of_ble_eq_true rfl, Nat.le_of_ble_eq_true rfl⟩ (fun x_10 h_10 => ?_)
    subst h_10
    refine nx_bn (tgt := 19) hx hb dX10_rule_13 (by decide) (fun c_13 => ?_) (fun c_13 => ?_)
    · skip
      obtain ⟨q, hq, rfl⟩ := rIn_of c_5.1.1 (by decide)
      obtain ⟨r, hr, rfl⟩ := rIn_of c_13.1 (by decide)
      have hcq := nI_clamp (n := q) (by omega)
      have hcr := nI_clamp (n := r) (by omega)
      have hl1 := lvs_le (R q)
      have hl2 := lvs_le (R r)
      have hl3 := (hZ q (by omega)).1
      have hl4 := (hZ r (by omega)).1
      refine lv_aload_n hx hb dX10_rule_19 rfl (lv_at hl 0 rfl) ?_
      refine lv_iload_n hx hb dX10_rule_20 rfl (lv_at hl 1 rfl) ?_
      refine mp_i (As := [.int (nI q)]) (rest := []) ⟨hx, hb, hml, hown, hts⟩ (k_leaves l dC dI aC am v R F G q (by omega)) (cwV 1 hts gX10_rule_X10_leaves rfl rfl rfl (by decide +kernel) ⟨Nat.le_of_ble_eq_true rfl, Nat.le_of_ble_eq_true rfl⟩) hK hZ hP rfl hl.1 rfl (Nat.le_of_ble_eq_true rfl) dX10_rule_21 ⟨Nat.le_of_ble_eq_true rfl, Nat.le_of_ble_eq_true rfl⟩ (fun x_21 h_21 => ?_)
      subst h_21
      refine lv_aload_n hx hb dX10_rule_24 rfl (lv_at hl 0 rfl) ?_
      refine lv_iload_n hx hb dX10_rule_25 rfl (lv_at hl 2 rfl) ?_
      refine mp_i (As := [.int (nI r)]) (rest := [.int (nI (lvs (R q)))]) ⟨hx, hb, hml, hown, hts⟩ (k_leaves l dC dI aC am v R F G r (by omega)) (cwV 1 hts gX10_rule_X10_leaves rfl rfl rfl (by decide +kernel) ⟨Nat.le_of_ble_eq_true rfl, Nat.le_of_ble_eq_true rfl⟩) hK hZ hP rfl hl.1 rfl (Nat.le_of_ble_eq_true rfl) dX10_rule_26 ⟨Nat.le_of_ble_eq_true rfl, Nat.le_of_ble_eq_true rfl⟩ (fun x_26 h_26 => ?_)
      subst h_26
      refine nx_icmp_eq (a := (lvs (R q))) (b := (lvs (R r))) (tgt := 37) hx hb dX10_rule_29 (by decide) (by omega) (by omega) (fun c_29 => ?_) (fun c_29 => ?_)
      · skip
        refine lv_aload_n hx hb dX10_rule_37 rfl (lv_at hl 0 rfl) ?_
        refine lv_iload_n hx hb dX10_rule_38 rfl (lv_at hl 1 rfl) ?_
        refine lv_iload_n hx hb dX10_rule_39 rfl (lv_at hl 2 rfl) ?_
        refine mc_i (As := [.int (nI q), .int (nI r)]) (rest := []) ⟨hx, hb, hml, hown, hts⟩ (k_comesRule l dC dI aC am hI v R F G n hn hn8 q hq r hr) (cwV 2 hts gX10_rule_X10_comesRule rfl rfl rfl (by decide +kernel) ⟨Nat.le_of_ble_eq_true rfl, Nat.le_of_ble_eq_true rfl⟩) hK hZ hP hS rfl hl.1 rfl (Nat.le_of_ble_eq_true rfl) dX10_rule_40 ⟨Nat.le_of_ble_eq_true rfl, Nat.le_of_ble_eq_true rfl⟩ (fun x_40 v1 R1 F1 G1 S Z H locs h_40 hZ hP hS => ?_)
        obtain ⟨hxx, huu⟩ := h_40
        subst hxx
        subst hQ
        exact W.iret (v := (if n = 8 then -4 else nI n)) hx hb hret (fun tq htq hWq => ⟨⟨_, (v1, R1, F1, G1), rfl, ⟨by rw [pRule, if_pos (show lf (F 1) R (nI q) ∧ tr (F 1) R (nI r) from ⟨c_5, c_13⟩), hcq, hcr, pRule2, if_neg (show ¬ (lvs (R q) ≠ lvs (R r)) from fun h => h c_29)], by rw [← huu, uRule, if_pos (show lf (F 1) R (nI q) ∧ tr (F 1) R (nI r) from ⟨c_5, c_13⟩), hcq, hcr, uRule2]; by_cases h8 : n = 8 <;> simp [h8, c_29]⟩, va_K.moved hWq.alike hK, _, _, hZ, by rw [htq]; exact hP⟩, hS.F htq⟩) hS.2.2 dX10_rule_43
      · skip
        refine lv_bipush (v := (-3)) hx hb dX10_rule_32 (by decide) ?_
        refine lv_goto (tgt := 43) hx hb dX10_rule_34 (by decide) ?_
        subst hQ
        exact W.iret (v := (-3)) hx hb hret (fun tq htq hWq => ⟨⟨_, (v, R, F, G), rfl, ⟨by rw [pRule, if_pos ⟨c_5, c_13⟩, hcq, hcr, pRule2, if_pos c_29], by rw [uRule, if_pos ⟨c_5, c_13⟩, hcq, hcr, uRule2, if_neg (fun h => c_29 h.1)]⟩, va_K.moved hWq.alike hK, _, _, hZ, by rw [htq]; exact hP⟩, hS.F htq⟩) hS.2.2 dX10_rule_43
    · skip
      refine lv_bipush (v := (-2)) hx hb dX10_rule_16 (by decide) ?_
      subst hQ
      exact W.iret (v := (-2)) hx hb hret (fun tq htq hWq => ⟨⟨_, (v, R, F, G), rfl, ⟨by rw [pRule, if_neg (fun h => c_13 h.2)], by rw [uRule, if_neg (fun h => c_13 h.2)]⟩, va_K.moved hWq.alike hK, _, _, hZ, by rw [htq]; exact hP⟩, hS.F htq⟩) hS.2.2 dX10_rule_18

set_option maxHeartbeats 1000000 in
set_option maxRecDepth 100000 in
/-- nought -/
theorem k_nought (l : Launch) (dC : Nat → ClassId) (dI : Nat → Nat → Nat) (aC : Nat → ClassId) (am : Nat → Nat) (hI : mI am) (v : Nat → Int32) (R : Nat → List Int32) (F : Nat → Nat → Int32) (G : Nat → Nat → Int64) (A : Nat) (hE : vE A (F 1)) (hV : ∀ r, r < 10 → vR A (R r)) (n : Nat) (hn : v 4 = nI n) (hn8 : n ≤ 8) (a : Int32) : Met l yX10_nought wsX10_nought ({ frames := 5, cells := 0, slots := 0, locals := 108 } : Room) (va_Pc [.ref (am 0), .int a] (MB dC dI aC am (v, R, F, G))) (va_Qi (fun (x : Int32) (u : MS) => x = pNought (F 1) R n a ∧ uNought v R F G n a = u) (MB dC dI aC am) (mA am)) 0 0 (mA am) := by
  refine Met.ofW (cc := cX10_nought) (maxL := 2) (ret := (some .int)) (by decide) rfl ?_
  intro p e s m args below meth c s₁ B hml hv
  obtain ⟨rfl, hK, S, Z, hZ, hP⟩ := hv
  have hx := B.exec
  have hb := B.bytes
  have hret := B.returns
  have hts := atoms_spec (ws := wsX10_nought) B.pre
  have hown : s.vm.findClass RX10 = some m.cls := findClass_of_methodNamed B.named
  have hlocks := B.notSynchronized
  dsimp only at hZ hP
  have hS : va_S (mA am) s.heap s.heap [] := va_S.rf
  have hl := lv_entry [.ref (am 0), .int a] (n := 2) (Nat.le_of_ble_eq_true rfl)
  rw [lg_entry_eq]
  generalize (lg_sl [.ref (am 0), .int a] ++ List.replicate (2 - (lg_sl [.ref (am 0), .int a]).length) Slot.unset).toArray = ls at hl ⊢
  have hl : lv_has ls 2 [(0, .ref (am 0)), (1, .int a)] := hl
  refine nx_Q (R := ({ frames := 5, cells := 0, slots := 0, locals := 108 } : Room)) (fun Q hQ => ?_)
  skip
  refine lv_aload_n hx hb dX10_nought_0 rfl (lv_at hl 0 rfl) ?_
  refine lv_iload_n hx hb dX10_nought_1 rfl (lv_at hl 1 rfl) ?_
  refine mp_i (As := [.int a]) (rest := []) ⟨hx, hb, hml, hown, hts⟩ (k_isLeft l dC dI aC am v R F G A hE a hV) (cwV 1 hts gX10_nought_X10_isLeft rfl rfl rfl (by decide +kernel) ⟨Nat.le_of_ble_eq_true rfl, Nat.le_of_ble_eq_true rfl⟩) hK hZ hP rfl hl.1 rfl (Nat.le_of_ble_eq_true rfl) dX10_nought_2 ⟨Nat.le_of_ble_eq_true rfl, Nat.le_of_ble_eq_true rfl⟩ (fun x_2 h_2 => ?_)
  subst h_2
  refine nx_bz (tgt := 17) hx hb dX10_nought_5 (by decide) (fun c_5 => ?_) (fun c_5 => ?_)
  · skip
    refine lv_bipush (v := (-2)) hx hb dX10_nought_17 (by decide) ?_
    subst hQ
    exact W.iret (v := (-2)) hx hb hret (fun tq htq hWq => ⟨⟨_, (v, R, F, G), rfl, ⟨by rw [pNought, if_neg c_5], by rw [uNought, if_neg c_5]⟩, va_K.moved hWq.alike hK, _, _, hZ, by rw [htq]; exact hP⟩, hS.F htq⟩) hS.2.2 dX10_nought_19
  · skip
    obtain ⟨q, hq, rfl⟩ := rIn_of c_5.1.1 (by decide)
    have hcq := nI_clamp (n := q) (by omega)
    refine lv_aload_n hx hb dX10_nought_8 rfl (lv_at hl 0 rfl) ?_
    refine lv_iload_n hx hb dX10_nought_9 rfl (lv_at hl 1 rfl) ?_
    refine lv_iconst (v := (-1)) hx hb dX10_nought_10 (by decide) ?_
    refine mc_i (As := [.int (nI q), .int (-1)]) (rest := []) ⟨hx, hb, hml, hown, hts⟩ (k_comesRuleN l dC dI aC am hI v R F G n hn hn8 q hq) (cwV 2 hts gX10_nought_X10_comesRule rfl rfl rfl (by decide +kernel) ⟨Nat.le_of_ble_eq_true rfl, Nat.le_of_ble_eq_true rfl⟩) hK hZ hP hS rfl hl.1 rfl (Nat.le_of_ble_eq_true rfl) dX10_nought_11 ⟨Nat.le_of_ble_eq_true rfl, Nat.le_of_ble_eq_true rfl⟩ (fun x_11 v1 R1 F1 G1 S Z H locs h_11 hZ hP hS => ?_)
    obtain ⟨hxx, huu⟩ := h_11
    subst hxx
    refine lv_goto (tgt := 19) hx hb dX10_nought_14 (by decide) ?_
    subst hQ
    exact W.iret (v := (if n = 8 then -4 else nI n)) hx hb hret (fun tq htq hWq => ⟨⟨_, (v1, R1, F1, G1), rfl, ⟨by rw [pNought, if_pos c_5], by rw [← huu, uNought, if_pos c_5, hcq, uNought2]; by_cases h8 : n = 8 <;> simp [h8]⟩, va_K.moved hWq.alike hK, _, _, hZ, by rw [htq]; exact hP⟩, hS.F htq⟩) hS.2.2 dX10_nought_19
