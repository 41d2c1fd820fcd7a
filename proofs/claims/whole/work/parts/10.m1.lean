set_option maxHeartbeats 1000000 in
set_option maxRecDepth 100000 in
/-- in -/
theorem k_in (l : Launch) (a lo hi : Int32) : Met l yX10_in wsX10_in ({ frames := 0, cells := 0, slots := 0, locals := 0 } : Room) (va_Pc [.int a, .int lo, .int hi] (fun _ => True)) (vp_Si (fun x => x = bI (¬ a < lo ∧ ¬ hi < a))) 0 0 (fun _ => False) := by
  refine Met.ofW (cc := cX10_in) (maxL := 3) (ret := (some .boolean)) (by decide) rfl ?_
  intro p e s m args below meth c s₁ B hml hv
  obtain ⟨rfl, -⟩ := hv
  have hx := B.exec
  have hb := B.bytes
  have hret := B.returns
  have hts := atoms_spec (ws := wsX10_in) B.pre
  have hown : s.vm.findClass RX10 = some m.cls := findClass_of_methodNamed B.named
  have hlocks := B.notSynchronized
  have hl := lv_entry [.int a, .int lo, .int hi] (n := 3) (Nat.le_of_ble_eq_true rfl)
  rw [lg_entry_eq]
  generalize (lg_sl [.int a, .int lo, .int hi] ++ List.replicate (3 - (lg_sl [.int a, .int lo, .int hi]).length) Slot.unset).toArray = ls at hl ⊢
  have hl : lv_has ls 3 [(0, .int a), (1, .int lo), (2, .int hi)] := hl
  refine nx_Q (R := ({ frames := 0, cells := 0, slots := 0, locals := 0 } : Room)) (fun Q hQ => ?_)
  refine lv_iload_n hx hb dX10_in_0 rfl (lv_at hl 0 rfl) ?_
  refine lv_iload_n hx hb dX10_in_1 rfl (lv_at hl 1 rfl) ?_
  refine lv_icmp_lt (tgt := 14) hx hb dX10_in_2 (by decide) (fun c_2 => ?_) (fun c_2 => ?_)
  · skip
    refine lv_iconst (v := nI 0) hx hb dX10_in_14 (by decide) ?_
    subst hQ
    exact W.zret (v := nI 0) hx hb hret (rfl) (fun tq htq hWq => ⟨_, rfl, (bI_f (fun h => h.1 c_2)).symm, htq⟩) (fun q h => by cases h) dX10_in_15
  · skip
    refine lv_iload_n hx hb dX10_in_5 rfl (lv_at hl 0 rfl) ?_
    refine lv_iload_n hx hb dX10_in_6 rfl (lv_at hl 2 rfl) ?_
    refine lv_icmp_gt (tgt := 14) hx hb dX10_in_7 (by decide) (fun c_7 => ?_) (fun c_7 => ?_)
    · skip
      refine lv_iconst (v := nI 0) hx hb dX10_in_14 (by decide) ?_
      subst hQ
      exact W.zret (v := nI 0) hx hb hret (rfl) (fun tq htq hWq => ⟨_, rfl, (bI_f (fun h => h.2 c_7)).symm, htq⟩) (fun q h => by cases h) dX10_in_15
    · skip
      refine lv_iconst (v := nI 1) hx hb dX10_in_10 (by decide) ?_
      refine lv_goto (tgt := 15) hx hb dX10_in_11 (by decide) ?_
      subst hQ
      exact W.zret (v := nI 1) hx hb hret (rfl) (fun tq htq hWq => ⟨_, rfl, (bI_t ⟨c_2, c_7⟩).symm, htq⟩) (fun q h => by cases h) dX10_in_15

set_option maxHeartbeats 1000000 in
set_option maxRecDepth 100000 in
/-- isRow -/
theorem k_isRow (l : Launch) (a : Int32) : Met l yX10_isRow wsX10_isRow ({ frames := 1, cells := 0, slots := 0, locals := 22 } : Room) (va_Pc [.int a] (fun _ => True)) (vp_Si (fun x => x = bI (rIn a 10))) 0 0 (fun _ => False) := by
  refine Met.ofW (cc := cX10_isRow) (maxL := 1) (ret := (some .boolean)) (by decide) rfl ?_
  intro p e s m args below meth c s₁ B hml hv
  obtain ⟨rfl, -⟩ := hv
  have hx := B.exec
  have hb := B.bytes
  have hret := B.returns
  have hts := atoms_spec (ws := wsX10_isRow) B.pre
  have hown : s.vm.findClass RX10 = some m.cls := findClass_of_methodNamed B.named
  have hlocks := B.notSynchronized
  have hl := lv_entry [.int a] (n := 1) (Nat.le_of_ble_eq_true rfl)
  rw [lg_entry_eq]
  generalize (lg_sl [.int a] ++ List.replicate (1 - (lg_sl [.int a]).length) Slot.unset).toArray = ls at hl ⊢
  have hl : lv_has ls 1 [(0, .int a)] := hl
  refine nx_Q (R := ({ frames := 1, cells := 0, slots := 0, locals := 22 } : Room)) (fun Q hQ => ?_)
  refine lv_iload_n hx hb dX10_isRow_0 rfl (lv_at hl 0 rfl) ?_
  refine lv_iconst (v := nI 0) hx hb dX10_isRow_1 (by decide) ?_
  refine lv_bipush (v := nI 9) hx hb dX10_isRow_2 (by decide) ?_
  refine ms_i (As := [.int a, .int (nI 0), .int (nI 9)]) (rest := []) ⟨hx, hb, hml, hown, hts⟩ (k_in l a (nI 0) (nI 9)) (va_cwS 3 hts gX10_isRow_X10_in rfl rfl rfl (by decide +kernel) ⟨Nat.le_of_ble_eq_true rfl, Nat.le_of_ble_eq_true rfl⟩) rfl hl.1 rfl (Nat.le_of_ble_eq_true rfl) dX10_isRow_4 ⟨Nat.le_of_ble_eq_true rfl, Nat.le_of_ble_eq_true rfl⟩ (fun x_4 h_4 => ?_)
  subst h_4
  subst hQ
  exact W.zret (v := bI (¬ a < nI 0 ∧ ¬ nI 9 < a)) hx hb hret (bI_nar) (fun tq htq hWq => ⟨_, rfl, bI_iff (rIn_in (by decide)), htq⟩) (fun q h => by cases h) dX10_isRow_7

set_option maxHeartbeats 1000000 in
set_option maxRecDepth 100000 in
/-- wants -/
theorem k_wants (l : Launch) (dC : Nat → ClassId) (dI : Nat → Nat → Nat) (aC : Nat → ClassId) (am : Nat → Nat) (v : Nat → Int32) (R : Nat → List Int32) (F : Nat → Nat → Int32) (G : Nat → Nat → Int64) (A : Nat) (hE : vE A (F 1)) (z : Int32) (hs : vS A z) : Met l yX10_wants wsX10_wants ({ frames := 0, cells := 0, slots := 0, locals := 0 } : Room) (va_Pc [.ref (am 0), .int z] (MB dC dI aC am (v, R, F, G))) (vp_Si (fun x => x = nI (wt (F 1) z))) 0 0 (fun _ => False) := by
  refine Met.ofW (cc := cX10_wants) (maxL := 2) (ret := (some .int)) (by decide) rfl ?_
  intro p e s m args below meth c s₁ B hml hv
  obtain ⟨rfl, hK, S, Z, hZ, hP⟩ := hv
  have hx := B.exec
  have hb := B.bytes
  have hret := B.returns
  have hts := atoms_spec (ws := wsX10_wants) B.pre
  have hown : s.vm.findClass RX10 = some m.cls := findClass_of_methodNamed B.named
  have hlocks := B.notSynchronized
  dsimp only at hZ hP
  have lk0 := hts (.fieldLink RX10 7 "LeafTreesModel" "entries" "[I") (by decide +kernel)
  have hin10 : ∀ w ∈ u_ws RX10 TX10 22, w ∈ wsX10_wants := by decide +kernel
  have hl := lv_entry [.ref (am 0), .int z] (n := 2) (Nat.le_of_ble_eq_true rfl)
  rw [lg_entry_eq]
  generalize (lg_sl [.ref (am 0), .int z] ++ List.replicate (2 - (lg_sl [.ref (am 0), .int z]).length) Slot.unset).toArray = ls at hl ⊢
  have hl : lv_has ls 2 [(0, .ref (am 0)), (1, .int z)] := hl
  refine nx_Q (R := ({ frames := 0, cells := 0, slots := 0, locals := 0 } : Room)) (fun Q hQ => ?_)
  refine lv_iload_n hx hb dX10_wants_0 rfl (lv_at hl 1 rfl) ?_
  refine lv_iconst (v := (-1)) hx hb dX10_wants_1 (by decide) ?_
  refine lv_icmp_ne (tgt := 9) hx hb dX10_wants_2 (by decide) (fun c_2 => ?_) (fun c_2 => ?_)
  · skip
    obtain ⟨a, ha, rfl⟩ := vS_pos hs c_2
    have h4 := hE.1
    refine lv_aload_n hx hb dX10_wants_9 rfl (lv_at hl 0 rfl) ?_
    refine va_get (D := (dC, dI)) (ci := 10) (C := RX10) (T := TX10) (N := 22) hx hb hts hin10 hown hK hP 0 rfl rfl 1 (by decide) lk0 (fun _ h9 => h9) rfl dX10_wants_10 ?_
    refine lv_iload_n hx hb dX10_wants_13 rfl (lv_at hl 1 rfl) ?_
    refine nx_iald hx hb hK hP 1 0 rfl rfl (i := a) (by omega) (by decide) dX10_wants_14 ?_
    subst hQ
    exact W.iret (v := F 1 a) hx hb hret (fun tq htq hWq => ⟨_, rfl, (wt_nI hE ha).1.symm, htq⟩) (fun q h => by cases h) dX10_wants_15
  · skip
    subst c_2
    refine lv_iconst (v := nI 0) hx hb dX10_wants_5 (by decide) ?_
    refine lv_goto (tgt := 15) hx hb dX10_wants_6 (by decide) ?_
    subst hQ
    exact W.iret (v := nI 0) hx hb hret (fun tq htq hWq => ⟨_, rfl, rfl, htq⟩) (fun q h => by cases h) dX10_wants_15

set_option maxHeartbeats 1000000 in
set_option maxRecDepth 100000 in
/-- end -/
theorem k_end (l : Launch) (dC : Nat → ClassId) (dI : Nat → Nat → Nat) (aC : Nat → ClassId) (am : Nat → Nat) (v : Nat → Int32) (R : Nat → List Int32) (F : Nat → Nat → Int32) (G : Nat → Nat → Int64) (A : Nat) (hE : vE A (F 1)) (r : Nat) (hr : r < 30) (hV : vR A (R r)) (fr : Nat) (hfr : fr ≤ 60) : Met l yX10_end wsX10_end ({ frames := 1, cells := 0, slots := 0, locals := 21 } : Room) (va_Pc [.ref (am 0), .int (nI r), .int (nI fr)] (MB dC dI aC am (v, R, F, G))) (vp_Si (fun x => x = eR (endL (F 1) (R r) fr))) 0 0 (fun _ => False) := by
  refine Met.ofW (cc := cX10_end) (maxL := 5) (ret := (some .int)) (by decide) rfl ?_
  intro p e s m args below meth c s₁ B hml hv
  obtain ⟨rfl, hK, S, Z, hZ, hP⟩ := hv
  have hx := B.exec
  have hb := B.bytes
  have hret := B.returns
  have hts := atoms_spec (ws := wsX10_end) B.pre
  have hown : s.vm.findClass RX10 = some m.cls := findClass_of_methodNamed B.named
  have hlocks := B.notSynchronized
  dsimp only at hZ hP
  have lk0 := hts (.fieldLink RX10 16 "LeafTreesModel" "size" "[I") (by decide +kernel)
  have lk1 := hts (.fieldLink RX10 13 "LeafTreesModel" "symbol" "[I") (by decide +kernel)
  have hin10 : ∀ w ∈ u_ws RX10 TX10 22, w ∈ wsX10_end := by decide +kernel
  have hl := lv_entry [.ref (am 0), .int (nI r), .int (nI fr)] (n := 5) (Nat.le_of_ble_eq_true rfl)
  rw [lg_entry_eq]
  generalize (lg_sl [.ref (am 0), .int (nI r), .int (nI fr)] ++ List.replicate (5 - (lg_sl [.ref (am 0), .int (nI r), .int (nI fr)]).length) Slot.unset).toArray = ls at hl ⊢
  have hl : lv_has ls 5 [(0, .ref (am 0)), (1, .int (nI r)), (2, .int (nI fr))] := hl
  refine nx_Q (R := ({ frames := 1, cells := 0, slots := 0, locals := 21 } : Room)) (fun Q hQ => ?_)
  have hlen := (hZ r hr).1
  refine lv_iconst (v := nI 1) hx hb dX10_end_0 (by decide) ?_
  refine lv_istore_n (lv' := [(3, .int (nI 1)), (0, .ref (am 0)), (1, .int (nI r)), (2, .int (nI fr))]) hx hb dX10_end_1 rfl hl (by decide) rfl (fun ls hl => ?_)
  refine lv_iload_n hx hb dX10_end_2 rfl (lv_at hl 3 rfl) ?_
  refine lv_istore (lv' := [(4, .int (nI fr)), (3, .int (nI 1)), (0, .ref (am 0)), (1, .int (nI r)), (2, .int (nI fr))]) hx hb dX10_end_3 hl (by decide) rfl (fun ls hl => ?_)
  have L5 : ∀ (fuel5 : Nat) (k : Nat) (j : Nat) (ls : Array Slot), (j ≤ 60) → (k ≤ 1 + 3 * j) → (tE (wt (F 1)) (gD (R r)) ((R r).length - j) k j = endL (F 1) (R r) fr) → 60 - j < fuel5 → lv_has ls 5 [(0, .ref (am 0)), (1, .int (nI r)), (3, .int (nI k)), (4, .int (nI j))] → W p l e ({ frames := 1, cells := 0, slots := 0, locals := 21 } : Room) s m ([.ref (am 0), .int (nI r), .int (nI fr)] : List Value).toArray below meth c s.heap [] 0 0 Q (F0 m 5 ls []) := by
    intro fuel5
    induction fuel5 with
    | zero => intro k j ls hj hk hres hf5 hl; exact absurd hf5 (Nat.not_lt_zero _)
    | succ fuel5 ih5 =>
      intro k j ls hj hk hres hf5 hl
      refine lv_iload_n hx hb dX10_end_5 rfl (lv_at hl 2 rfl) ?_
      refine nx_if_le (tgt := 47) hx hb dX10_end_6 (by decide) (by omega) (fun c_6 => ?_) (fun c_6 => ?_)
      · skip
        refine lv_iload_n hx hb dX10_end_47 rfl (lv_at hl 2 rfl) ?_
        refine nx_if_ne (tgt := 56) hx hb dX10_end_48 (by decide) (by omega) (fun c_48 => ?_) (fun c_48 => ?_)
        · skip
          exact absurd c_6 c_48
        · skip
          refine lv_iload hx hb dX10_end_51 (lv_at hl 3 rfl) ?_
          refine lv_goto (tgt := 57) hx hb dX10_end_53 (by decide) ?_
          subst hQ
          exact W.iret (v := nI j) hx hb hret (fun tq htq hWq => ⟨_, rfl, by rw [← hres, c_6, tE_0]; rfl, htq⟩) (fun q h => by cases h) dX10_end_57
      · skip
        refine lv_iload hx hb dX10_end_9 (lv_at hl 3 rfl) ?_
        refine lv_aload_n hx hb dX10_end_11 rfl (lv_at hl 0 rfl) ?_
        refine va_get (D := (dC, dI)) (ci := 10) (C := RX10) (T := TX10) (N := 22) hx hb hts hin10 hown hK hP 0 rfl rfl 3 (by decide) lk0 (fun _ h9 => h9) rfl dX10_end_12 ?_
        refine lv_iload_n hx hb dX10_end_15 rfl (lv_at hl 1 rfl) ?_
        refine nx_iald hx hb hK hP 3 0 rfl rfl (i := r) (by omega) (by decide) dX10_end_16 ?_
        refine nx_ti (y := nI (R r).length) ((hZ r (by omega)).2.1) ?_
        refine nx_icmp_ge (a := j) (b := (R r).length) (tgt := 47) hx hb dX10_end_17 (by decide) (by omega) (by omega) (fun c_17 => ?_) (fun c_17 => ?_)
        · skip
          refine lv_iload_n hx hb dX10_end_47 rfl (lv_at hl 2 rfl) ?_
          refine nx_if_ne (tgt := 56) hx hb dX10_end_48 (by decide) (by omega) (fun c_48 => ?_) (fun c_48 => ?_)
          · skip
            refine lv_iconst (v := (-1)) hx hb dX10_end_56 (by decide) ?_
            subst hQ
            exact W.iret (v := (-1)) hx hb hret (fun tq htq hWq => ⟨_, rfl, by rw [← hres, show (R r).length - j = 0 by omega, tE_n _ _ c_6]; rfl, htq⟩) (fun q h => by cases h) dX10_end_57
          · skip
            exact absurd c_6 (by omega)
        · skip
          refine lv_iload_n hx hb dX10_end_20 rfl (lv_at hl 2 rfl) ?_
          refine lv_aload_n hx hb dX10_end_21 rfl (lv_at hl 0 rfl) ?_
          refine lv_aload_n hx hb dX10_end_22 rfl (lv_at hl 0 rfl) ?_
          refine va_get (D := (dC, dI)) (ci := 10) (C := RX10) (T := TX10) (N := 22) hx hb hts hin10 hown hK hP 0 rfl rfl 2 (by decide) lk1 (fun _ h9 => h9) rfl dX10_end_23 ?_
          refine lv_bipush (v := nI 60) hx hb dX10_end_26 (by decide) ?_
          refine lv_iload_n hx hb dX10_end_28 rfl (lv_at hl 1 rfl) ?_
          refine lv_imul hx hb dX10_end_29 ?_
          refine nx_ti (y := nI (60 * r)) (pk_mul _ _) ?_
          refine lv_iload hx hb dX10_end_30 (lv_at hl 3 rfl) ?_
          refine lv_iadd hx hb dX10_end_32 ?_
          refine nx_ti (y := nI (60 * r + j)) (nI_add _ _) ?_
          refine nx_iald hx hb hK hP 2 0 rfl rfl (i := 60 * r + j) (by have := (hZ r (by omega)).1; omega) (by decide) dX10_end_33 ?_
          refine nx_ti (y := gD (R r) j) ((hZ r (by omega)).2.2 j (by omega)) ?_
          refine mp_i (As := [.int (gD (R r) j)]) (rest := [.int (nI k)]) ⟨hx, hb, hml, hown, hts⟩ (k_wants l dC dI aC am v R F G A hE (gD (R r) j) (hV j c_17)) (cwV 1 hts gX10_end_X10_wants rfl rfl rfl (by decide +kernel) ⟨Nat.le_of_ble_eq_true rfl, Nat.le_of_ble_eq_true rfl⟩) hK hZ hP rfl hl.1 rfl (Nat.le_of_ble_eq_true rfl) dX10_end_34 ⟨Nat.le_of_ble_eq_true rfl, Nat.le_of_ble_eq_true rfl⟩ (fun x_34 h_34 => ?_)
          subst h_34
          refine lv_iconst (v := nI 1) hx hb dX10_end_37 (by decide) ?_
          refine lv_isub hx hb dX10_end_38 ?_
          refine lv_iadd hx hb dX10_end_39 ?_
          refine nx_ti (y := nI (k + wt (F 1) (gD (R r) j) - 1)) (nI_adj c_6) ?_
          refine lv_istore_n (lv' := [(3, .int (nI (k + wt (F 1) (gD (R r) j) - 1))), (0, .ref (am 0)), (1, .int (nI r)), (4, .int (nI j))]) hx hb dX10_end_40 rfl hl (by decide) rfl (fun ls hl => ?_)
          refine lv_iinc (v := nI (j + 1)) (lv' := [(4, .int (nI (j + 1))), (3, .int (nI (k + wt (F 1) (gD (R r) j) - 1))), (0, .ref (am 0)), (1, .int (nI r))]) hx hb dX10_end_41 hl (k := 3) rfl (nI_add _ _) (by decide) rfl (fun ls hl => ?_)
          refine lv_goto (tgt := 5) hx hb dX10_end_44 (by decide) ?_
          exact ih5 (k + wt (F 1) (gD (R r) j) - 1) (j + 1) _ (by omega) (by have := wt_le hE (hV j c_17); omega) ((tE_step _ _ c_6 c_17).symm.trans hres) (by omega) (lv_sub hl [2, 3, 1, 0] rfl)
  exact L5 (60 - fr + 1) 1 fr _ (by omega) (by omega) rfl (Nat.lt_succ_self _) (lv_sub hl [2, 3, 1, 0] rfl)

set_option maxHeartbeats 1000000 in
set_option maxRecDepth 100000 in
/-- isTree -/
theorem k_isTree (l : Launch) (dC : Nat → ClassId) (dI : Nat → Nat → Nat) (aC : Nat → ClassId) (am : Nat → Nat) (v : Nat → Int32) (R : Nat → List Int32) (F : Nat → Nat → Int32) (G : Nat → Nat → Int64) (A : Nat) (hE : vE A (F 1)) (r : Nat) (hr : r < 30) (hV : vR A (R r)) : Met l yX10_isTree wsX10_isTree ({ frames := 2, cells := 0, slots := 0, locals := 45 } : Room) (va_Pc [.ref (am 0), .int (nI r)] (MB dC dI aC am (v, R, F, G))) (vp_Si (fun x => x = bI (isT (F 1) (R r)))) 0 0 (fun _ => False) := by
  refine Met.ofW (cc := cX10_isTree) (maxL := 2) (ret := (some .boolean)) (by decide) rfl ?_
  intro p e s m args below meth c s₁ B hml hv
  obtain ⟨rfl, hK, S, Z, hZ, hP⟩ := hv
  have hx := B.exec
  have hb := B.bytes
  have hret := B.returns
  have hts := atoms_spec (ws := wsX10_isTree) B.pre
  have hown : s.vm.findClass RX10 = some m.cls := findClass_of_methodNamed B.named
  have hlocks := B.notSynchronized
  dsimp only at hZ hP
  have lk0 := hts (.fieldLink RX10 16 "LeafTreesModel" "size" "[I") (by decide +kernel)
  have hin10 : ∀ w ∈ u_ws RX10 TX10 22, w ∈ wsX10_isTree := by decide +kernel
  have hl := lv_entry [.ref (am 0), .int (nI r)] (n := 2) (Nat.le_of_ble_eq_true rfl)
  rw [lg_entry_eq]
  generalize (lg_sl [.ref (am 0), .int (nI r)] ++ List.replicate (2 - (lg_sl [.ref (am 0), .int (nI r)]).length) Slot.unset).toArray = ls at hl ⊢
  have hl : lv_has ls 2 [(0, .ref (am 0)), (1, .int (nI r))] := hl
  refine nx_Q (R := ({ frames := 2, cells := 0, slots := 0, locals := 45 } : Room)) (fun Q hQ => ?_)
  have hlen := (hZ r hr).1
  have hq : eR (endL (F 1) (R r) 0) = nI (R r).length ↔ isT (F 1) (R r) := eR_eq (by omega) (fun e he => by have := endL_le (Nat.zero_le _) he; omega)
  refine lv_aload_n hx hb dX10_isTree_0 rfl (lv_at hl 0 rfl) ?_
  refine va_get (D := (dC, dI)) (ci := 10) (C := RX10) (T := TX10) (N := 22) hx hb hts hin10 hown hK hP 0 rfl rfl 3 (by decide) lk0 (fun _ h9 => h9) rfl dX10_isTree_1 ?_
  refine lv_iload_n hx hb dX10_isTree_4 rfl (lv_at hl 1 rfl) ?_
  refine nx_iald hx hb hK hP 3 0 rfl rfl (i := r) (by omega) (by decide) dX10_isTree_5 ?_
  refine nx_ti (y := nI (R r).length) ((hZ r (by omega)).2.1) ?_
  refine nx_if_le (tgt := 28) hx hb dX10_isTree_6 (by decide) (by omega) (fun c_6 => ?_) (fun c_6 => ?_)
  · skip
    refine lv_iconst (v := nI 0) hx hb dX10_isTree_28 (by decide) ?_
    subst hQ
    exact W.zret (v := nI 0) hx hb hret (rfl) (fun tq htq hWq => ⟨_, rfl, (bI_f (fun h => absurd (isT_pos h) (by omega))).symm, htq⟩) (fun q h => by cases h) dX10_isTree_29
  · skip
    refine lv_aload_n hx hb dX10_isTree_9 rfl (lv_at hl 0 rfl) ?_
    refine lv_iload_n hx hb dX10_isTree_10 rfl (lv_at hl 1 rfl) ?_
    refine lv_iconst (v := nI 0) hx hb dX10_isTree_11 (by decide) ?_
    refine mp_i (As := [.int (nI r), .int (nI 0)]) (rest := []) ⟨hx, hb, hml, hown, hts⟩ (k_end l dC dI aC am v R F G A hE r hr hV 0 (by decide)) (cwV 2 hts gX10_isTree_X10_end rfl rfl rfl (by decide +kernel) ⟨Nat.le_of_ble_eq_true rfl, Nat.le_of_ble_eq_true rfl⟩) hK hZ hP rfl hl.1 rfl (Nat.le_of_ble_eq_true rfl) dX10_isTree_12 ⟨Nat.le_of_ble_eq_true rfl, Nat.le_of_ble_eq_true rfl⟩ (fun x_12 h_12 => ?_)
    subst h_12
    refine lv_aload_n hx hb dX10_isTree_15 rfl (lv_at hl 0 rfl) ?_
    refine va_get (D := (dC, dI)) (ci := 10) (C := RX10) (T := TX10) (N := 22) hx hb hts hin10 hown hK hP 0 rfl rfl 3 (by decide) lk0 (fun _ h9 => h9) rfl dX10_isTree_16 ?_
    refine lv_iload_n hx hb dX10_isTree_19 rfl (lv_at hl 1 rfl) ?_
    refine nx_iald hx hb hK hP 3 0 rfl rfl (i := r) (by omega) (by decide) dX10_isTree_20 ?_
    refine nx_ti (y := nI (R r).length) ((hZ r (by omega)).2.1) ?_
    refine lv_icmp_ne (tgt := 28) hx hb dX10_isTree_21 (by decide) (fun c_21 => ?_) (fun c_21 => ?_)
    · skip
      refine lv_iconst (v := nI 0) hx hb dX10_isTree_28 (by decide) ?_
      subst hQ
      exact W.zret (v := nI 0) hx hb hret (rfl) (fun tq htq hWq => ⟨_, rfl, (bI_f (fun h => c_21 (hq.mpr h))).symm, htq⟩) (fun q h => by cases h) dX10_isTree_29
    · skip
      refine lv_iconst (v := nI 1) hx hb dX10_isTree_24 (by decide) ?_
      refine lv_goto (tgt := 29) hx hb dX10_isTree_25 (by decide) ?_
      subst hQ
      exact W.zret (v := nI 1) hx hb hret (rfl) (fun tq htq hWq => ⟨_, rfl, (bI_t (hq.mp c_21)).symm, htq⟩) (fun q h => by cases h) dX10_isTree_29

set_option maxHeartbeats 1000000 in
set_option maxRecDepth 100000 in
/-- isTreeRow -/
theorem k_isTreeRow (l : Launch) (dC : Nat → ClassId) (dI : Nat → Nat → Nat) (aC : Nat → ClassId) (am : Nat → Nat) (v : Nat → Int32) (R : Nat → List Int32) (F : Nat → Nat → Int32) (G : Nat → Nat → Int64) (A : Nat) (hE : vE A (F 1)) (a : Int32) (hV : ∀ r, r < 10 → vR A (R r)) : Met l yX10_isTreeRow wsX10_isTreeRow ({ frames := 3, cells := 0, slots := 0, locals := 66 } : Room) (va_Pc [.ref (am 0), .int a] (MB dC dI aC am (v, R, F, G))) (vp_Si (fun x => x = bI (rIn a 10 ∧ isT (F 1) (R a.toNatClampNeg)))) 0 0 (fun _ => False) := by
  refine Met.ofW (cc := cX10_isTreeRow) (maxL := 2) (ret := (some .boolean)) (by decide) rfl ?_
  intro p e s m args below meth c s₁ B hml hv
  obtain ⟨rfl, hK, S, Z, hZ, hP⟩ := hv
  have hx := B.exec
  have hb := B.bytes
  have hret := B.returns
  have hts := atoms_spec (ws := wsX10_isTreeRow) B.pre
  have hown : s.vm.findClass RX10 = some m.cls := findClass_of_methodNamed B.named
  have hlocks := B.notSynchronized
  dsimp only at hZ hP
  have hl := lv_entry [.ref (am 0), .int a] (n := 2) (Nat.le_of_ble_eq_true rfl)
  rw [lg_entry_eq]
  generalize (lg_sl [.ref (am 0), .int a] ++ List.replicate (2 - (lg_sl [.ref (am 0), .int a]).length) Slot.unset).toArray = ls at hl ⊢
  have hl : lv_has ls 2 [(0, .ref (am 0)), (1, .int a)] := hl
  refine nx_Q (R := ({ frames := 3, cells := 0, slots := 0, locals := 66 } : Room)) (fun Q hQ => ?_)
  refine lv_iload_n hx hb dX10_isTreeRow_0 rfl (lv_at hl 1 rfl) ?_
  refine ms_i (As := [.int a]) (rest := []) ⟨hx, hb, hml, hown, hts⟩ (k_isRow l a) (va_cwS 1 hts gX10_isTreeRow_X10_isRow rfl rfl rfl (by decide +kernel) ⟨Nat.le_of_ble_eq_true rfl, Nat.le_of_ble_eq_true rfl⟩) rfl hl.1 rfl (Nat.le_of_ble_eq_true rfl) dX10_isTreeRow_1 ⟨Nat.le_of_ble_eq_true rfl, Nat.le_of_ble_eq_true rfl⟩ (fun x_1 h_1 => ?_)
  subst h_1
  refine nx_bz (tgt := 19) hx hb dX10_isTreeRow_4 (by decide) (fun c_4 => ?_) (fun c_4 => ?_)
  · skip
    refine lv_iconst (v := nI 0) hx hb dX10_isTreeRow_19 (by decide) ?_
    subst hQ
    exact W.zret (v := nI 0) hx hb hret (rfl) (fun tq htq hWq => ⟨_, rfl, (bI_f (fun h => c_4 h.1)).symm, htq⟩) (fun q h => by cases h) dX10_isTreeRow_20
  · skip
    obtain ⟨r, hr, rfl⟩ := rIn_of c_4 (by decide)
    refine lv_aload_n hx hb dX10_isTreeRow_7 rfl (lv_at hl 0 rfl) ?_
    refine lv_iload_n hx hb dX10_isTreeRow_8 rfl (lv_at hl 1 rfl) ?_
    refine mp_i (As := [.int (nI r)]) (rest := []) ⟨hx, hb, hml, hown, hts⟩ (k_isTree l dC dI aC am v R F G A hE r (by omega) (hV r hr)) (cwV 1 hts gX10_isTreeRow_X10_isTree rfl rfl rfl (by decide +kernel) ⟨Nat.le_of_ble_eq_true rfl, Nat.le_of_ble_eq_true rfl⟩) hK hZ hP rfl hl.1 rfl (Nat.le_of_ble_eq_true rfl) dX10_isTreeRow_9 ⟨Nat.le_of_ble_eq_true rfl, Nat.le_of_ble_eq_true rfl⟩ (fun x_9 h_9 => ?_)
    subst h_9
    refine nx_bz (tgt := 19) hx hb dX10_isTreeRow_12 (by decide) (fun c_12 => ?_) (fun c_12 => ?_)
    · skip
      refine lv_iconst (v := nI 0) hx hb dX10_isTreeRow_19 (by decide) ?_
      subst hQ
      exact W.zret (v := nI 0) hx hb hret (rfl) (fun tq htq hWq => ⟨_, rfl, (bI_f (fun h => c_12 (by have h2 := h.2; rw [nI_clamp (by omega)] at h2; exact h2))).symm, htq⟩) (fun q h => by cases h) dX10_isTreeRow_20
    · skip
      refine lv_iconst (v := nI 1) hx hb dX10_isTreeRow_15 (by decide) ?_
      refine lv_goto (tgt := 20) hx hb dX10_isTreeRow_16 (by decide) ?_
      subst hQ
      exact W.zret (v := nI 1) hx hb hret (rfl) (fun tq htq hWq => ⟨_, rfl, (bI_t ⟨c_4, by rw [nI_clamp (by omega)]; exact c_12⟩).symm, htq⟩) (fun q h => by cases h) dX10_isTreeRow_20

set_option maxHeartbeats 1000000 in
set_option maxRecDepth 100000 in
/-- leaves -/
theorem k_leaves (l : Launch) (dC : Nat → ClassId) (dI : Nat → Nat → Nat) (aC : Nat → ClassId) (am : Nat → Nat) (v : Nat → Int32) (R : Nat → List Int32) (F : Nat → Nat → Int32) (G : Nat → Nat → Int64) (r : Nat) (hr : r < 30) : Met l yX10_leaves wsX10_leaves ({ frames := 0, cells := 0, slots := 0, locals := 0 } : Room) (va_Pc [.ref (am 0), .int (nI r)] (MB dC dI aC am (v, R, F, G))) (vp_Si (fun x => x = nI (lvs (R r)))) 0 0 (fun _ => False) := by
  refine Met.ofW (cc := cX10_leaves) (maxL := 4) (ret := (some .int)) (by decide) rfl ?_
  intro p e s m args below meth c s₁ B hml hv
  obtain ⟨rfl, hK, S, Z, hZ, hP⟩ := hv
  have hx := B.exec
  have hb := B.bytes
  have hret := B.returns
  have hts := atoms_spec (ws := wsX10_leaves) B.pre
  have hown : s.vm.findClass RX10 = some m.cls := findClass_of_methodNamed B.named
  have hlocks := B.notSynchronized
  dsimp only at hZ hP
  have lk0 := hts (.fieldLink RX10 16 "LeafTreesModel" "size" "[I") (by decide +kernel)
  have lk1 := hts (.fieldLink RX10 13 "LeafTreesModel" "symbol" "[I") (by decide +kernel)
  have hin10 : ∀ w ∈ u_ws RX10 TX10 22, w ∈ wsX10_leaves := by decide +kernel
  have hl := lv_entry [.ref (am 0), .int (nI r)] (n := 4) (Nat.le_of_ble_eq_true rfl)
  rw [lg_entry_eq]
  generalize (lg_sl [.ref (am 0), .int (nI r)] ++ List.replicate (4 - (lg_sl [.ref (am 0), .int (nI r)]).length) Slot.unset).toArray = ls at hl ⊢
  have hl : lv_has ls 4 [(0, .ref (am 0)), (1, .int (nI r))] := hl
  refine nx_Q (R := ({ frames := 0, cells := 0, slots := 0, locals := 0 } : Room)) (fun Q hQ => ?_)
  have hlen := (hZ r hr).1
  refine lv_iconst (v := nI 0) hx hb dX10_leaves_0 (by decide) ?_
  refine lv_istore_n (lv' := [(2, .int (nI 0)), (0, .ref (am 0)), (1, .int (nI r))]) hx hb dX10_leaves_1 rfl hl (by decide) rfl (fun ls hl => ?_)
  refine lv_iconst (v := nI 0) hx hb dX10_leaves_2 (by decide) ?_
  refine lv_istore_n (lv' := [(3, .int (nI 0)), (2, .int (nI 0)), (0, .ref (am 0)), (1, .int (nI r))]) hx hb dX10_leaves_3 rfl hl (by decide) rfl (fun ls hl => ?_)
  have L4 : ∀ (fuel4 : Nat) (i : Nat) (ls : Array Slot), (i ≤ (R r).length) → 60 - i < fuel4 → lv_has ls 4 [(0, .ref (am 0)), (1, .int (nI r)), (2, .int (nI (cF (gD (R r)) i))), (3, .int (nI i))] → W p l e ({ frames := 0, cells := 0, slots := 0, locals := 0 } : Room) s m ([.ref (am 0), .int (nI r)] : List Value).toArray below meth c s.heap [] 0 0 Q (F0 m 4 ls []) := by
    intro fuel4
    induction fuel4 with
    | zero => intro i ls hi hf4 hl; exact absurd hf4 (Nat.not_lt_zero _)
    | succ fuel4 ih4 =>
      intro i ls hi hf4 hl
      refine lv_iload_n hx hb dX10_leaves_4 rfl (lv_at hl 3 rfl) ?_
      refine lv_aload_n hx hb dX10_leaves_5 rfl (lv_at hl 0 rfl) ?_
      refine va_get (D := (dC, dI)) (ci := 10) (C := RX10) (T := TX10) (N := 22) hx hb hts hin10 hown hK hP 0 rfl rfl 3 (by decide) lk0 (fun _ h9 => h9) rfl dX10_leaves_6 ?_
      refine lv_iload_n hx hb dX10_leaves_9 rfl (lv_at hl 1 rfl) ?_
      refine nx_iald hx hb hK hP 3 0 rfl rfl (i := r) (by omega) (by decide) dX10_leaves_10 ?_
      refine nx_ti (y := nI (R r).length) ((hZ r (by omega)).2.1) ?_
      refine nx_icmp_ge (a := i) (b := (R r).length) (tgt := 43) hx hb dX10_leaves_11 (by decide) (by omega) (by omega) (fun c_11 => ?_) (fun c_11 => ?_)
      · skip
        refine lv_iload_n hx hb dX10_leaves_43 rfl (lv_at hl 2 rfl) ?_
        subst hQ
        exact W.iret (v := nI (cF (gD (R r)) i)) hx hb hret (fun tq htq hWq => ⟨_, rfl, by rw [lvs, show (R r).length = i by omega], htq⟩) (fun q h => by cases h) dX10_leaves_44
      · skip
        refine lv_iload_n hx hb dX10_leaves_14 rfl (lv_at hl 2 rfl) ?_
        refine lv_aload_n hx hb dX10_leaves_15 rfl (lv_at hl 0 rfl) ?_
        refine va_get (D := (dC, dI)) (ci := 10) (C := RX10) (T := TX10) (N := 22) hx hb hts hin10 hown hK hP 0 rfl rfl 2 (by decide) lk1 (fun _ h9 => h9) rfl dX10_leaves_16 ?_
        refine lv_bipush (v := nI 60) hx hb dX10_leaves_19 (by decide) ?_
        refine lv_iload_n hx hb dX10_leaves_21 rfl (lv_at hl 1 rfl) ?_
        refine lv_imul hx hb dX10_leaves_22 ?_
        refine nx_ti (y := nI (60 * r)) (pk_mul _ _) ?_
        refine lv_iload_n hx hb dX10_leaves_23 rfl (lv_at hl 3 rfl) ?_
        refine lv_iadd hx hb dX10_leaves_24 ?_
        refine nx_ti (y := nI (60 * r + i)) (nI_add _ _) ?_
        refine nx_iald hx hb hK hP 2 0 rfl rfl (i := 60 * r + i) (by have := (hZ r (by omega)).1; omega) (by decide) dX10_leaves_25 ?_
        refine nx_ti (y := gD (R r) i) ((hZ r (by omega)).2.2 i (by omega)) ?_
        refine lv_iconst (v := (-1)) hx hb dX10_leaves_26 (by decide) ?_
        refine lv_icmp_ne (tgt := 34) hx hb dX10_leaves_27 (by decide) (fun c_27 => ?_) (fun c_27 => ?_)
        · skip
          refine lv_iconst (v := nI 0) hx hb dX10_leaves_34 (by decide) ?_
          refine lv_iadd hx hb dX10_leaves_35 ?_
          refine nx_ti (y := nI (cF (gD (R r)) i + 0)) (nI_add _ _) ?_
          refine nx_ti (y := nI (cF (gD (R r)) (i + 1))) (by rw [cF_f c_27]; rfl) ?_
          refine lv_istore_n (lv' := [(2, .int (nI (cF (gD (R r)) (i + 1)))), (0, .ref (am 0)), (1, .int (nI r)), (3, .int (nI i))]) hx hb dX10_leaves_36 rfl hl (by decide) rfl (fun ls hl => ?_)
          refine lv_iinc (v := nI (i + 1)) (lv' := [(3, .int (nI (i + 1))), (2, .int (nI (cF (gD (R r)) (i + 1)))), (0, .ref (am 0)), (1, .int (nI r))]) hx hb dX10_leaves_37 hl (k := 3) rfl (nI_add _ _) (by decide) rfl (fun ls hl => ?_)
          refine lv_goto (tgt := 4) hx hb dX10_leaves_40 (by decide) ?_
          exact ih4 (i + 1) _ (by omega) (by omega) (lv_sub hl [2, 3, 1, 0] rfl)
        · skip
          refine lv_iconst (v := nI 1) hx hb dX10_leaves_30 (by decide) ?_
          refine lv_goto (tgt := 35) hx hb dX10_leaves_31 (by decide) ?_
          refine lv_iadd hx hb dX10_leaves_35 ?_
          refine nx_ti (y := nI (cF (gD (R r)) i + 1)) (nI_add _ _) ?_
          refine nx_ti (y := nI (cF (gD (R r)) (i + 1))) (by rw [cF_t c_27]) ?_
          refine lv_istore_n (lv' := [(2, .int (nI (cF (gD (R r)) (i + 1)))), (0, .ref (am 0)), (1, .int (nI r)), (3, .int (nI i))]) hx hb dX10_leaves_36 rfl hl (by decide) rfl (fun ls hl => ?_)
          refine lv_iinc (v := nI (i + 1)) (lv' := [(3, .int (nI (i + 1))), (2, .int (nI (cF (gD (R r)) (i + 1)))), (0, .ref (am 0)), (1, .int (nI r))]) hx hb dX10_leaves_37 hl (k := 3) rfl (nI_add _ _) (by decide) rfl (fun ls hl => ?_)
          refine lv_goto (tgt := 4) hx hb dX10_leaves_40 (by decide) ?_
          exact ih4 (i + 1) _ (by omega) (by omega) (lv_sub hl [2, 3, 1, 0] rfl)
  exact L4 (60 - 0 + 1) 0 _ (by omega) (Nat.lt_succ_self _) (lv_sub hl [2, 3, 1, 0] rfl)
