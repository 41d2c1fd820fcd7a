set_option maxHeartbeats 1000000 in
set_option maxRecDepth 100000 in
/-- Census.treesUnder -/
theorem x_treesUnder (l : Launch) (dC : Nat → ClassId) (dI : Nat → Nat → Nat) (aC : Nat → ClassId) (ad cap : Nat → Nat) (hI : xI ad) (hcb : ∀ j, j < 6 → cap j ≤ 8192) (v : Nat → Int32) (R : Nat → List Int32) (F : Nat → Nat → Int32) (G : Nat → Nat → Int64) (n : Nat) (hn2 : 2 ≤ n) (hn : n ≤ 6) (e0 : Nat) (he : e0 = 2 ∨ e0 = 3) (zs : Nat → Nat) (hzs : ∀ j, j < n → v (11 + j) = nI (zs j) ∧ zs j ≤ cap j ∧ zs j ≤ Bd j) (Sx : Nat → (Int64 → Int64) → Int64) (hSx : ∀ j, j < n → ∀ g, SS (G (14 + 2 * j)) (G (15 + 2 * j)) g (zs j) = Sx j g) (z0 : Nat) (hz : n < 6 → tsOK n z0 v cap) (hz4 : n < 6 → z0 + bT e0 n ≤ 4095) (nd : Nat) (hnd : v 10 = nI nd) (hn36 : nd ≤ 36) (a : Int32) : Met l yX0_treesUnder wsX0_treesUnder ({ frames := 5, cells := 155648, slots := 622592, locals := 166 } : Room) (va_Pc [.ref (ad 6), .int a, .int (nI e0), .int (nI n)] (XB dC dI aC ad cap (v, R, F, G))) (GQl dC dI aC ad cap (fun x cap1 u => x = tU (fun x y w => kdF (F 4) (G 3) (G 4) (G 5) a x y w nd) (G 26 0) Sx e0 n (fun _ => 1) ∧ ∃ v1 G1 zz, (v1, R, F, G1) = u ∧ kRel n v v1 G G1 ∧ (n < 6 → tsOK n zz v1 cap1 ∧ ∀ g, SS (G1 (14 + 2 * n)) (G1 (15 + 2 * n)) g zz = SS (G (14 + 2 * n)) (G (15 + 2 * n)) g z0 + tU (fun x y w => kdF (F 4) (G 3) (G 4) (G 5) a x y w nd) (G 26 0) Sx e0 n g) ∧ zz ≤ z0 + bT e0 n ∧ ∀ i, i ≠ n → cap1 i = cap i)) 155648 622592 (xA ad) := by
  refine Met.ofW (cc := cX0_treesUnder) (maxL := 9) (ret := (some .long)) (by decide) rfl ?_
  intro p e s m args below meth c s₁ B hml hv
  obtain ⟨rfl, hK, Z, S, hZ, hP⟩ := hv
  have hx := B.exec
  have hb := B.bytes
  have hret := B.returns
  have hts := atoms_spec (ws := wsX0_treesUnder) B.pre
  have hown : s.vm.findClass RX0 = some m.cls := findClass_of_methodNamed B.named
  have hlocks := B.notSynchronized
  dsimp only at hZ hP
  have lk0 := hts (.fieldLink RX0 26 "LeafTrees$Census" "tallies" "[LLeafTrees$Tally;") (by decide +kernel)
  have hin0 : ∀ w ∈ u_ws RX0 TX0 6, w ∈ wsX0_treesUnder := by decide +kernel
  obtain ⟨a0, ha0⟩ : ∃ a0, a0 = ad := ⟨ad, rfl⟩
  obtain ⟨c0, hc0⟩ : ∃ c0, c0 = cap := ⟨cap, rfl⟩
  have hAd : ∀ k, k < 38 ∨ 50 ≤ k → ad k = a0 k := fun k _ => by rw [ha0]
  have hcp : ∀ j, j < 6 → c0 j ≤ cap j := fun j _ => by rw [hc0]; exact Nat.le_refl _
  have hA0 : ∀ q, xA ad q → xG a0 s.heap.size q := fun q h => Or.inl (by rw [ha0]; exact h)
  have hS : va_S (xG a0 s.heap.size) s.heap s.heap [] := va_S.rf
  have hl := lv_entry [.ref (ad 6), .int a, .int (nI e0), .int (nI n)] (n := 9) (Nat.le_of_ble_eq_true rfl)
  rw [lg_entry_eq]
  generalize (lg_sl [.ref (ad 6), .int a, .int (nI e0), .int (nI n)] ++ List.replicate (9 - (lg_sl [.ref (ad 6), .int a, .int (nI e0), .int (nI n)]).length) Slot.unset).toArray = ls at hl ⊢
  have hl : lv_has ls 9 [(0, .ref (ad 6)), (1, .int a), (2, .int (nI e0)), (3, .int (nI n))] := hl
  generalize ([.ref (ad 6), .int a, .int (nI e0), .int (nI n)] : List Value).toArray = ag at hts lk0 ⊢
  refine nx_Q (R := ({ frames := 5, cells := 155648, slots := 622592, locals := 166 } : Room)) (fun Q hQ => ?_)
  refine xg_more (cells' := cs cap - cs c0) (slots' := 4 * (cs cap - cs c0)) (Nat.zero_le _) (Nat.zero_le _) ?_
  have hzc : ∀ j, j < n → zs j ≤ c0 j := fun j h => by rw [hc0]; exact (hzs j h).2.1
  have hun : ∀ g i j, ¬ uC e0 n i j → u3 (fun x y w => kdF (F 4) (G 3) (G 4) (G 5) a x y w nd) (G 26 0) Sx e0 n g i j = 0 := fun g i j h => if_neg h
  refine lv_lconst (v := 0) hx hb dX0_treesUnder_0 (by decide) ?_
  refine lv_lstore (lv' := [(4, .long 0), (0, .ref (ad 6)), (1, .int a), (2, .int (nI e0)), (3, .int (nI n))]) hx hb dX0_treesUnder_1 hl (by decide) rfl (fun ls hl => ?_)
  refine lv_iconst (v := nI 1) hx hb dX0_treesUnder_3 (by decide) ?_
  refine lv_istore (lv' := [(6, .int (nI 1)), (4, .long 0), (0, .ref (ad 6)), (1, .int a), (2, .int (nI e0)), (3, .int (nI n))]) hx hb dX0_treesUnder_4 hl (by decide) rfl (fun ls hl => ?_)
  have L6 : ∀ (fuel6 : Nat) (i : Nat) (zz : Nat) (va : Nat → Int32) (Ga : Nat → Nat → Int64) (ad : Nat → Nat) (cap : Nat → Nat) (Z : Nat → Int32) (S : Nat → Nat → Int32) (H : Heap) (locs : List Loc) (ls : Array Slot), (i + 1 ≤ n) → (kRel n v va G Ga) → (n < 6 → tsOK n zz va cap ∧ ∀ g, SS (Ga (14 + 2 * n)) (Ga (15 + 2 * n)) g zz = SS (G (14 + 2 * n)) (G (15 + 2 * n)) g z0 + (sI (u2 (fun x y w => kdF (F 4) (G 3) (G 4) (G 5) a x y w nd) (G 26 0) Sx e0 n g) i)) → (zz ≤ z0 + sN (b2 e0 n) i) → (∀ t, t ≠ n → cap t = c0 t) → xI ad → (∀ k, k < 38 ∨ 50 ≤ k → ad k = a0 k) → (∀ j, j < 6 → c0 j ≤ cap j) → (∀ j, j < 6 → cap j ≤ 8192) → (∀ q, xA ad q → xG a0 s.heap.size q) → xOK Z S R → va_P (dC, dI) vwCl (wsX aC ad cap va Z S F Ga) H → va_S (xG a0 s.heap.size) s.heap H locs → n - i < fuel6 → lv_has ls 9 [(0, .ref (ad 6)), (1, .int a), (2, .int (nI e0)), (3, .int (nI n)), (4, .long (sI (u2 (fun x y w => kdF (F 4) (G 3) (G 4) (G 5) a x y w nd) (G 26 0) Sx e0 n (fun _ => 1)) i)), (6, .int (nI (i + 1)))] → W p l e ({ frames := 5, cells := 155648, slots := 622592, locals := 166 } : Room) s m ag below meth c H locs (cs cap - cs c0) (4 * (cs cap - cs c0)) Q (F0 m 6 ls []) := by
    intro fuel6
    induction fuel6 with
    | zero => intro i zz va Ga ad cap Z S H locs ls hi hk ht hzb hce hI hAd hcp hcb hA0 hZ hP hS hf6 hl; exact absurd hf6 (Nat.not_lt_zero _)
    | succ fuel6 ih6 =>
      intro i zz va Ga ad cap Z S H locs ls hi hk ht hzb hce hI hAd hcp hcb hA0 hZ hP hS hf6 hl
      refine lv_iload hx hb dX0_treesUnder_6 (lv_at hl 5 rfl) ?_
      refine lv_iload_n hx hb dX0_treesUnder_8 rfl (lv_at hl 3 rfl) ?_
      refine nx_icmp_ge (a := (i + 1)) (b := n) (tgt := 100) hx hb dX0_treesUnder_9 (by decide) (by omega) (by omega) (fun c_9 => ?_) (fun c_9 => ?_)
      · skip
        refine lv_lload hx hb dX0_treesUnder_100 (lv_at hl 4 rfl) ?_
        have hcs := cs_le hcb
        subst hQ
        exact xg_lret (r := sI (u2 (fun x y w => kdF (F 4) (G 3) (G 4) (G 5) a x y w nd) (G 26 0) Sx e0 n (fun _ => 1)) i) hx hb hret hlocks hK hZ hP hA0 hS ⟨hI, hAd, hcp, hcb⟩ (⟨by rw [show i = n - 1 by omega]; rfl, va, Ga, zz, rfl, hk, fun h => ⟨(ht h).1, fun g => by rw [(ht h).2 g, show i = n - 1 by omega]; rfl⟩, by rw [show i = n - 1 by omega] at hzb; exact hzb, fun t h => (hce t h).trans (congrFun hc0 t)⟩) (by omega) (by omega) ha0 hc0 dX0_treesUnder_102
      · skip
        refine lv_iconst (v := nI 1) hx hb dX0_treesUnder_12 (by decide) ?_
        refine lv_istore (lv' := [(7, .int (nI 1)), (0, .ref (ad 6)), (1, .int a), (2, .int (nI e0)), (3, .int (nI n)), (4, .long (sI (u2 (fun x y w => kdF (F 4) (G 3) (G 4) (G 5) a x y w nd) (G 26 0) Sx e0 n (fun _ => 1)) i)), (6, .int (nI (i + 1)))]) hx hb dX0_treesUnder_13 hl (by decide) rfl (fun ls hl => ?_)
        have L15 : ∀ (fuel15 : Nat) (j : Nat) (zz : Nat) (va : Nat → Int32) (Ga : Nat → Nat → Int64) (ad : Nat → Nat) (cap : Nat → Nat) (Z : Nat → Int32) (S : Nat → Nat → Int32) (H : Heap) (locs : List Loc) (ls : Array Slot), (j ≤ n - (i + 1)) → (kRel n v va G Ga) → (n < 6 → tsOK n zz va cap ∧ ∀ g, SS (Ga (14 + 2 * n)) (Ga (15 + 2 * n)) g zz = SS (G (14 + 2 * n)) (G (15 + 2 * n)) g z0 + (sI (u2 (fun x y w => kdF (F 4) (G 3) (G 4) (G 5) a x y w nd) (G 26 0) Sx e0 n g) i + sI (u3 (fun x y w => kdF (F 4) (G 3) (G 4) (G 5) a x y w nd) (G 26 0) Sx e0 n g i) j)) → (zz ≤ z0 + sN (b2 e0 n) i + sN (b3 e0 n i) j) → (∀ t, t ≠ n → cap t = c0 t) → xI ad → (∀ k, k < 38 ∨ 50 ≤ k → ad k = a0 k) → (∀ j, j < 6 → c0 j ≤ cap j) → (∀ j, j < 6 → cap j ≤ 8192) → (∀ q, xA ad q → xG a0 s.heap.size q) → xOK Z S R → va_P (dC, dI) vwCl (wsX aC ad cap va Z S F Ga) H → va_S (xG a0 s.heap.size) s.heap H locs → n - j < fuel15 → lv_has ls 9 [(0, .ref (ad 6)), (1, .int a), (2, .int (nI e0)), (3, .int (nI n)), (4, .long (sI (u2 (fun x y w => kdF (F 4) (G 3) (G 4) (G 5) a x y w nd) (G 26 0) Sx e0 n (fun _ => 1)) i + sI (u3 (fun x y w => kdF (F 4) (G 3) (G 4) (G 5) a x y w nd) (G 26 0) Sx e0 n (fun _ => 1) i) j)), (6, .int (nI (i + 1))), (7, .int (nI (j + 1)))] → W p l e ({ frames := 5, cells := 155648, slots := 622592, locals := 166 } : Room) s m ag below meth c H locs (cs cap - cs c0) (4 * (cs cap - cs c0)) Q (F0 m 15 ls []) := by
          intro fuel15
          induction fuel15 with
          | zero => intro j zz va Ga ad cap Z S H locs ls hj hk ht hzb hce hI hAd hcp hcb hA0 hZ hP hS hf15 hl; exact absurd hf15 (Nat.not_lt_zero _)
          | succ fuel15 ih15 =>
            intro j zz va Ga ad cap Z S H locs ls hj hk ht hzb hce hI hAd hcp hcb hA0 hZ hP hS hf15 hl
            refine lv_iload hx hb dX0_treesUnder_15 (lv_at hl 6 rfl) ?_
            refine lv_iload_n hx hb dX0_treesUnder_17 rfl (lv_at hl 3 rfl) ?_
            refine lv_iload hx hb dX0_treesUnder_18 (lv_at hl 5 rfl) ?_
            refine lv_isub hx hb dX0_treesUnder_20 ?_
            refine nx_ti (y := nI (n - (i + 1))) (pk_sub (by omega)) ?_
            refine nx_icmp_gt (a := (j + 1)) (b := (n - (i + 1))) (tgt := 94) hx hb dX0_treesUnder_21 (by decide) (by omega) (by omega) (fun c_21 => ?_) (fun c_21 => ?_)
            · skip
              refine lv_iinc (v := nI (i + 1 + 1)) (lv' := [(6, .int (nI (i + 1 + 1))), (0, .ref (ad 6)), (1, .int a), (2, .int (nI e0)), (3, .int (nI n)), (4, .long (sI (u2 (fun x y w => kdF (F 4) (G 3) (G 4) (G 5) a x y w nd) (G 26 0) Sx e0 n (fun _ => 1)) i + sI (u3 (fun x y w => kdF (F 4) (G 3) (G 4) (G 5) a x y w nd) (G 26 0) Sx e0 n (fun _ => 1) i) j)), (7, .int (nI (j + 1)))]) hx hb dX0_treesUnder_94 hl (k := 5) rfl (nI_add _ _) (by decide) rfl (fun ls hl => ?_)
              refine lv_goto (tgt := 6) hx hb dX0_treesUnder_97 (by decide) ?_
              exact ih6 (i + 1) zz va Ga ad cap _ _ _ _ _ (by omega) (by omega) (fun h => ⟨(ht h).1, fun g => by rw [(ht h).2 g, show j = n - (i + 1) by omega]; rfl⟩) (by rw [show j = n - (i + 1) by omega] at hzb; show zz ≤ z0 + (sN (b2 e0 n) i + sN (b3 e0 n i) (n - (i + 1))); omega) (by omega) hI hAd hcp hcb hA0 hZ hP hS (by omega) (by rw [show j = n - (i + 1) by omega] at hl; exact lv_sub hl [1, 2, 3, 4, 5, 0] rfl)
            · skip
              refine lv_iload_n hx hb dX0_treesUnder_24 rfl (lv_at hl 3 rfl) ?_
              refine lv_iload hx hb dX0_treesUnder_25 (lv_at hl 5 rfl) ?_
              refine lv_isub hx hb dX0_treesUnder_27 ?_
              refine nx_ti (y := nI (n - (i + 1))) (pk_sub (by omega)) ?_
              refine lv_iload hx hb dX0_treesUnder_28 (lv_at hl 6 rfl) ?_
              refine lv_isub hx hb dX0_treesUnder_30 ?_
              refine nx_ti (y := nI ((n - (i + 1)) - (j + 1))) (pk_sub (by omega)) ?_
              refine lv_istore (lv' := [(8, .int (nI ((n - (i + 1)) - (j + 1)))), (0, .ref (ad 6)), (1, .int a), (2, .int (nI e0)), (3, .int (nI n)), (4, .long (sI (u2 (fun x y w => kdF (F 4) (G 3) (G 4) (G 5) a x y w nd) (G 26 0) Sx e0 n (fun _ => 1)) i + sI (u3 (fun x y w => kdF (F 4) (G 3) (G 4) (G 5) a x y w nd) (G 26 0) Sx e0 n (fun _ => 1) i) j)), (6, .int (nI (i + 1))), (7, .int (nI (j + 1)))]) hx hb dX0_treesUnder_31 hl (by decide) rfl (fun ls hl => ?_)
              refine lv_iload hx hb dX0_treesUnder_33 (lv_at hl 0 rfl) ?_
              refine nx_if_le (tgt := 42) hx hb dX0_treesUnder_35 (by decide) (by omega) (fun c_35 => ?_) (fun c_35 => ?_)
              · skip
                refine lv_iconst (v := nI 0) hx hb dX0_treesUnder_42 (by decide) ?_
                refine lv_iload_n hx hb dX0_treesUnder_43 rfl (lv_at hl 3 rfl) ?_
                refine lv_iconst (v := nI 2) hx hb dX0_treesUnder_44 (by decide) ?_
                refine nx_icmp_le (a := e0) (b := 2) (tgt := 52) hx hb dX0_treesUnder_45 (by decide) (by omega) (by omega) (fun c_45 => ?_) (fun c_45 => ?_)
                · skip
                  refine lv_iconst (v := nI 0) hx hb dX0_treesUnder_52 (by decide) ?_
                  refine nx_icmp_ne (a := 0) (b := 0) (tgt := 88) hx hb dX0_treesUnder_53 (by decide) (by omega) (by omega) (fun c_53 => ?_) (fun c_53 => ?_)
                  · skip
                    exact absurd rfl c_53
                  · skip
                    refine lv_lload hx hb dX0_treesUnder_56 (lv_at hl 5 rfl) ?_
                    refine lv_aload_n hx hb dX0_treesUnder_58 rfl (lv_at hl 1 rfl) ?_
                    refine lv_iload_n hx hb dX0_treesUnder_59 rfl (lv_at hl 2 rfl) ?_
                    refine lv_iload_n hx hb dX0_treesUnder_60 rfl (lv_at hl 4 rfl) ?_
                    refine lv_aload_n hx hb dX0_treesUnder_61 rfl (lv_at hl 1 rfl) ?_
                    refine va_get (D := (dC, dI)) (ci := 0) (C := RX0) (T := TX0) (N := 6) hx hb hts hin0 hown hK hP 6 rfl rfl 5 (by decide) lk0 (fun _ h9 => h9) rfl dX0_treesUnder_62 ?_
                    refine lv_iload hx hb dX0_treesUnder_65 (lv_at hl 6 rfl) ?_
                    refine nx_aald (C := "LeafTrees$Tally") hx hb hK hP 21 5 rfl rfl (i := i + 1) (by omega) (by decide) (show xTals ad (i + 1) = some (ad (32 + (i + 1))) from if_pos (by omega)) dX0_treesUnder_67 ?_
                    refine lv_aload_n hx hb dX0_treesUnder_68 rfl (lv_at hl 1 rfl) ?_
                    refine va_get (D := (dC, dI)) (ci := 0) (C := RX0) (T := TX0) (N := 6) hx hb hts hin0 hown hK hP 6 rfl rfl 5 (by decide) lk0 (fun _ h9 => h9) rfl dX0_treesUnder_69 ?_
                    refine lv_iload hx hb dX0_treesUnder_72 (lv_at hl 7 rfl) ?_
                    refine nx_aald (C := "LeafTrees$Tally") hx hb hK hP 21 5 rfl rfl (i := j + 1) (by omega) (by decide) (show xTals ad (j + 1) = some (ad (32 + (j + 1))) from if_pos (by omega)) dX0_treesUnder_74 ?_
                    refine lv_aload_n hx hb dX0_treesUnder_75 rfl (lv_at hl 1 rfl) ?_
                    refine va_get (D := (dC, dI)) (ci := 0) (C := RX0) (T := TX0) (N := 6) hx hb hts hin0 hown hK hP 6 rfl rfl 5 (by decide) lk0 (fun _ h9 => h9) rfl dX0_treesUnder_76 ?_
                    refine lv_iload hx hb dX0_treesUnder_79 (lv_at hl 0 rfl) ?_
                    refine nx_aald (C := "LeafTrees$Tally") hx hb hK hP 21 5 rfl rfl (i := (n - (i + 1)) - (j + 1)) (by omega) (by decide) (show xTals ad ((n - (i + 1)) - (j + 1)) = some (ad (32 + ((n - (i + 1)) - (j + 1)))) from if_pos (by omega)) dX0_treesUnder_81 ?_
                    have hC : uC e0 n i j := by unfold uC; omega
                    have hpB : zs (i + 1) * (zs (j + 1) * zs (n - (i + 1) - (j + 1))) ≤ b3 e0 n i j := by rw [b3, if_pos hC, Nat.mul_assoc]; exact Nat.mul_le_mul (hzs _ (by omega)).2.2 (Nat.mul_le_mul (hzs _ (by omega)).2.2 (hzs _ (by omega)).2.2)
                    have hbp := bT_part (e := e0) (n := n) (i := i) (j := j) (by omega) (by omega)
                    have hJ : ∀ g, sI (j1 (fun x y w => kdF (F 4) (Ga 3) (Ga 4) (Ga 5) a x y w nd) (Ga 26 0) (Ga (14 + 2 * (i + 1))) (Ga (15 + 2 * (i + 1))) (Ga (14 + 2 * (j + 1))) (Ga (15 + 2 * (j + 1))) (Ga (14 + 2 * (n - (i + 1) - (j + 1)))) (Ga (15 + 2 * (n - (i + 1) - (j + 1)))) (zs (j + 1)) (zs (n - (i + 1) - (j + 1))) g) (zs (i + 1)) = u3 (fun x y w => kdF (F 4) (G 3) (G 4) (G 5) a x y w nd) (G 26 0) Sx e0 n g i j := by
                      intro g
                      rw [hk.2 (3) (fun _ => by omega), hk.2 (4) (fun _ => by omega), hk.2 (5) (fun _ => by omega), hk.2 (26) (fun _ => by omega), hk.2 (14 + 2 * (i + 1)) (fun _ => by omega), hk.2 (15 + 2 * (i + 1)) (fun _ => by omega), hk.2 (14 + 2 * (j + 1)) (fun _ => by omega), hk.2 (15 + 2 * (j + 1)) (fun _ => by omega), hk.2 (14 + 2 * (n - (i + 1) - (j + 1))) (fun _ => by omega), hk.2 (15 + 2 * (n - (i + 1) - (j + 1))) (fun _ => by omega), j_SS, u3, if_pos hC, hSx (i + 1) (by omega)]
                      refine congrArg _ (funext fun x => ?_)
                      rw [hSx (j + 1) (by omega)]
                      exact congrArg _ (funext fun y => hSx _ (by omega) _)
                    refine xg_l (b := ad 6) (As := [.int a, .int (nI n), .ref (ad (32 + (i + 1))), .ref (ad (32 + (j + 1))), .ref (ad (32 + ((n - (i + 1)) - (j + 1))))]) (rest := [.long (sI (u2 (fun x y w => kdF (F 4) (G 3) (G 4) (G 5) a x y w nd) (G 26 0) Sx e0 n (fun _ => 1)) i + sI (u3 (fun x y w => kdF (F 4) (G 3) (G 4) (G 5) a x y w nd) (G 26 0) Sx e0 n (fun _ => 1) i) j)]) ⟨hx, hb, hml, hown, hts⟩ (x_join l dC dI aC ad cap hI hcb va R F Ga n hn (i + 1) (j + 1) (n - (i + 1) - (j + 1)) (by omega) (by omega) (by omega) zz (zs (i + 1)) (zs (j + 1)) (zs (n - (i + 1) - (j + 1))) (fun h => (ht h).1) (fun h => by have h9 := hz4 h; omega) ⟨(hk.1 _ (fun _ => by omega)).trans (hzs (i + 1) (by omega)).1, by rw [hce _ (by omega)]; exact hzc (i + 1) (by omega)⟩ ⟨(hk.1 _ (fun _ => by omega)).trans (hzs (j + 1) (by omega)).1, by rw [hce _ (by omega)]; exact hzc (j + 1) (by omega)⟩ ⟨(hk.1 _ (fun _ => by omega)).trans (hzs (n - (i + 1) - (j + 1)) (by omega)).1, by rw [hce _ (by omega)]; exact hzc (n - (i + 1) - (j + 1)) (by omega)⟩ nd ((hk.1 10 (fun _ => by omega)).trans hnd) hn36 a) (cwV 5 hts gX0_treesUnder_X0_join rfl rfl rfl (by decide +kernel) ⟨Nat.le_of_ble_eq_true rfl, Nat.le_of_ble_eq_true rfl⟩) (xPre (q0 := 6) (ci := 0) rfl rfl hK hZ hP) hS hA0 (cs_mono hcp) rfl hl.1 rfl (Nat.le_of_ble_eq_true rfl) dX0_treesUnder_82 (xg_le hcb (by decide) (by decide)) (fun x_82 ad cap v1 R1 F1 G1 Z S H locs h_82 hgr hZ hP hA0 hS => ?_)
                    obtain ⟨hI, hq, hcp2, hcb⟩ := hgr
                    rw [← hq 6 (by omega)] at hl
                    have hAd : ∀ k, k < 38 ∨ 50 ≤ k → ad k = a0 k := fun k h => (hq k h).trans (hAd k h)
                    have hcp : ∀ j, j < 6 → c0 j ≤ cap j := fun j h => Nat.le_trans (hcp j h) (hcp2 j h)
                    obtain ⟨hx_82, vy, Gy, zy, hu_82, hr, hs1, hs2, hs3⟩ := h_82
                    rw [hJ] at hx_82
                    subst hx_82
                    have hs1 : n < 6 → tsOK n zy vy cap ∧ ∀ g, SS (Gy (14 + 2 * n)) (Gy (15 + 2 * n)) g zy = SS (Ga (14 + 2 * n)) (Ga (15 + 2 * n)) g zz + u3 (fun x y w => kdF (F 4) (G 3) (G 4) (G 5) a x y w nd) (G 26 0) Sx e0 n g i j := fun h => ⟨(hs1 h).1, fun g => by rw [(hs1 h).2 g, hJ g]⟩
                    have hP : va_P (dC, dI) vwCl (wsX aC ad cap vy Z S F Gy) H := by cases hu_82; exact hP
                    have hZ : xOK Z S R := by cases hu_82; exact hZ
                    refine lv_ladd hx hb dX0_treesUnder_85 ?_
                    refine lv_lstore (lv' := [(4, .long ((sI (u2 (fun x y w => kdF (F 4) (G 3) (G 4) (G 5) a x y w nd) (G 26 0) Sx e0 n (fun _ => 1)) i + sI (u3 (fun x y w => kdF (F 4) (G 3) (G 4) (G 5) a x y w nd) (G 26 0) Sx e0 n (fun _ => 1) i) j) + (u3 (fun x y w => kdF (F 4) (G 3) (G 4) (G 5) a x y w nd) (G 26 0) Sx e0 n (fun _ => 1) i j))), (8, .int (nI ((n - (i + 1)) - (j + 1)))), (0, .ref (ad 6)), (1, .int a), (2, .int (nI e0)), (3, .int (nI n)), (6, .int (nI (i + 1))), (7, .int (nI (j + 1)))]) hx hb dX0_treesUnder_86 hl (by decide) rfl (fun ls hl => ?_)
                    refine lv_iinc (v := nI (j + 1 + 1)) (lv' := [(7, .int (nI (j + 1 + 1))), (4, .long ((sI (u2 (fun x y w => kdF (F 4) (G 3) (G 4) (G 5) a x y w nd) (G 26 0) Sx e0 n (fun _ => 1)) i + sI (u3 (fun x y w => kdF (F 4) (G 3) (G 4) (G 5) a x y w nd) (G 26 0) Sx e0 n (fun _ => 1) i) j) + (u3 (fun x y w => kdF (F 4) (G 3) (G 4) (G 5) a x y w nd) (G 26 0) Sx e0 n (fun _ => 1) i j))), (8, .int (nI ((n - (i + 1)) - (j + 1)))), (0, .ref (ad 6)), (1, .int a), (2, .int (nI e0)), (3, .int (nI n)), (6, .int (nI (i + 1)))]) hx hb dX0_treesUnder_88 hl (k := 7) rfl (nI_add _ _) (by decide) rfl (fun ls hl => ?_)
                    refine lv_goto (tgt := 15) hx hb dX0_treesUnder_91 (by decide) ?_
                    exact ih15 (j + 1) zy vy Gy ad cap _ _ _ _ _ (by omega) (kRel_tr hk hr) (fun h => ⟨(hs1 h).1, fun g => by rw [(hs1 h).2 g, (ht h).2 g, sI_s]; exact Int64.add_assoc _ _ _⟩) (by show zy ≤ z0 + sN (b2 e0 n) i + (sN (b3 e0 n i) j + b3 e0 n i j); omega) (fun t h => (hs3 t h).trans (hce t h)) hI hAd hcp hcb hA0 hZ hP hS (by omega) (by rw [sI_s]; exact lv_sub hl [3, 4, 5, 6, 1, 7, 0] rfl)
                · skip
                  refine lv_iconst (v := nI 1) hx hb dX0_treesUnder_48 (by decide) ?_
                  refine lv_goto (tgt := 53) hx hb dX0_treesUnder_49 (by decide) ?_
                  refine nx_icmp_ne (a := 0) (b := 1) (tgt := 88) hx hb dX0_treesUnder_53 (by decide) (by omega) (by omega) (fun c_53 => ?_) (fun c_53 => ?_)
                  · skip
                    have hC : ¬ uC e0 n i j := by unfold uC; omega
                    refine lv_iinc (v := nI (j + 1 + 1)) (lv' := [(7, .int (nI (j + 1 + 1))), (8, .int (nI ((n - (i + 1)) - (j + 1)))), (0, .ref (ad 6)), (1, .int a), (2, .int (nI e0)), (3, .int (nI n)), (4, .long (sI (u2 (fun x y w => kdF (F 4) (G 3) (G 4) (G 5) a x y w nd) (G 26 0) Sx e0 n (fun _ => 1)) i + sI (u3 (fun x y w => kdF (F 4) (G 3) (G 4) (G 5) a x y w nd) (G 26 0) Sx e0 n (fun _ => 1) i) j)), (6, .int (nI (i + 1)))]) hx hb dX0_treesUnder_88 hl (k := 7) rfl (nI_add _ _) (by decide) rfl (fun ls hl => ?_)
                    refine lv_goto (tgt := 15) hx hb dX0_treesUnder_91 (by decide) ?_
                    exact ih15 (j + 1) zz va Ga ad cap _ _ _ _ _ (by omega) (by omega) (fun h => ⟨(ht h).1, fun g => by rw [(ht h).2 g, sI_s, hun _ _ _ hC, Int64.add_zero]⟩) (by have h9 : sN (b3 e0 n i) j ≤ sN (b3 e0 n i) (j + 1) := sN_le (by omega); omega) (by omega) hI hAd hcp hcb hA0 hZ hP hS (by omega) (by rw [sI_s, hun _ _ _ hC, Int64.add_zero]; exact lv_sub hl [2, 3, 4, 5, 6, 7, 0] rfl)
                  · skip
                    exact absurd c_53 (by decide)
              · skip
                refine lv_iconst (v := nI 1) hx hb dX0_treesUnder_38 (by decide) ?_
                refine lv_goto (tgt := 43) hx hb dX0_treesUnder_39 (by decide) ?_
                refine lv_iload_n hx hb dX0_treesUnder_43 rfl (lv_at hl 3 rfl) ?_
                refine lv_iconst (v := nI 2) hx hb dX0_treesUnder_44 (by decide) ?_
                refine nx_icmp_le (a := e0) (b := 2) (tgt := 52) hx hb dX0_treesUnder_45 (by decide) (by omega) (by omega) (fun c_45 => ?_) (fun c_45 => ?_)
                · skip
                  refine lv_iconst (v := nI 0) hx hb dX0_treesUnder_52 (by decide) ?_
                  refine nx_icmp_ne (a := 1) (b := 0) (tgt := 88) hx hb dX0_treesUnder_53 (by decide) (by omega) (by omega) (fun c_53 => ?_) (fun c_53 => ?_)
                  · skip
                    have hC : ¬ uC e0 n i j := by unfold uC; omega
                    refine lv_iinc (v := nI (j + 1 + 1)) (lv' := [(7, .int (nI (j + 1 + 1))), (8, .int (nI ((n - (i + 1)) - (j + 1)))), (0, .ref (ad 6)), (1, .int a), (2, .int (nI e0)), (3, .int (nI n)), (4, .long (sI (u2 (fun x y w => kdF (F 4) (G 3) (G 4) (G 5) a x y w nd) (G 26 0) Sx e0 n (fun _ => 1)) i + sI (u3 (fun x y w => kdF (F 4) (G 3) (G 4) (G 5) a x y w nd) (G 26 0) Sx e0 n (fun _ => 1) i) j)), (6, .int (nI (i + 1)))]) hx hb dX0_treesUnder_88 hl (k := 7) rfl (nI_add _ _) (by decide) rfl (fun ls hl => ?_)
                    refine lv_goto (tgt := 15) hx hb dX0_treesUnder_91 (by decide) ?_
                    exact ih15 (j + 1) zz va Ga ad cap _ _ _ _ _ (by omega) (by omega) (fun h => ⟨(ht h).1, fun g => by rw [(ht h).2 g, sI_s, hun _ _ _ hC, Int64.add_zero]⟩) (by have h9 : sN (b3 e0 n i) j ≤ sN (b3 e0 n i) (j + 1) := sN_le (by omega); omega) (by omega) hI hAd hcp hcb hA0 hZ hP hS (by omega) (by rw [sI_s, hun _ _ _ hC, Int64.add_zero]; exact lv_sub hl [2, 3, 4, 5, 6, 7, 0] rfl)
                  · skip
                    exact absurd c_53 (by decide)
                · skip
                  refine lv_iconst (v := nI 1) hx hb dX0_treesUnder_48 (by decide) ?_
                  refine lv_goto (tgt := 53) hx hb dX0_treesUnder_49 (by decide) ?_
                  refine nx_icmp_ne (a := 1) (b := 1) (tgt := 88) hx hb dX0_treesUnder_53 (by decide) (by omega) (by omega) (fun c_53 => ?_) (fun c_53 => ?_)
                  · skip
                    exact absurd rfl c_53
                  · skip
                    refine lv_lload hx hb dX0_treesUnder_56 (lv_at hl 5 rfl) ?_
                    refine lv_aload_n hx hb dX0_treesUnder_58 rfl (lv_at hl 1 rfl) ?_
                    refine lv_iload_n hx hb dX0_treesUnder_59 rfl (lv_at hl 2 rfl) ?_
                    refine lv_iload_n hx hb dX0_treesUnder_60 rfl (lv_at hl 4 rfl) ?_
                    refine lv_aload_n hx hb dX0_treesUnder_61 rfl (lv_at hl 1 rfl) ?_
                    refine va_get (D := (dC, dI)) (ci := 0) (C := RX0) (T := TX0) (N := 6) hx hb hts hin0 hown hK hP 6 rfl rfl 5 (by decide) lk0 (fun _ h9 => h9) rfl dX0_treesUnder_62 ?_
                    refine lv_iload hx hb dX0_treesUnder_65 (lv_at hl 6 rfl) ?_
                    refine nx_aald (C := "LeafTrees$Tally") hx hb hK hP 21 5 rfl rfl (i := i + 1) (by omega) (by decide) (show xTals ad (i + 1) = some (ad (32 + (i + 1))) from if_pos (by omega)) dX0_treesUnder_67 ?_
                    refine lv_aload_n hx hb dX0_treesUnder_68 rfl (lv_at hl 1 rfl) ?_
                    refine va_get (D := (dC, dI)) (ci := 0) (C := RX0) (T := TX0) (N := 6) hx hb hts hin0 hown hK hP 6 rfl rfl 5 (by decide) lk0 (fun _ h9 => h9) rfl dX0_treesUnder_69 ?_
                    refine lv_iload hx hb dX0_treesUnder_72 (lv_at hl 7 rfl) ?_
                    refine nx_aald (C := "LeafTrees$Tally") hx hb hK hP 21 5 rfl rfl (i := j + 1) (by omega) (by decide) (show xTals ad (j + 1) = some (ad (32 + (j + 1))) from if_pos (by omega)) dX0_treesUnder_74 ?_
                    refine lv_aload_n hx hb dX0_treesUnder_75 rfl (lv_at hl 1 rfl) ?_
                    refine va_get (D := (dC, dI)) (ci := 0) (C := RX0) (T := TX0) (N := 6) hx hb hts hin0 hown hK hP 6 rfl rfl 5 (by decide) lk0 (fun _ h9 => h9) rfl dX0_treesUnder_76 ?_
                    refine lv_iload hx hb dX0_treesUnder_79 (lv_at hl 0 rfl) ?_
                    refine nx_aald (C := "LeafTrees$Tally") hx hb hK hP 21 5 rfl rfl (i := (n - (i + 1)) - (j + 1)) (by omega) (by decide) (show xTals ad ((n - (i + 1)) - (j + 1)) = some (ad (32 + ((n - (i + 1)) - (j + 1)))) from if_pos (by omega)) dX0_treesUnder_81 ?_
                    have hC : uC e0 n i j := by unfold uC; omega
                    have hpB : zs (i + 1) * (zs (j + 1) * zs (n - (i + 1) - (j + 1))) ≤ b3 e0 n i j := by rw [b3, if_pos hC, Nat.mul_assoc]; exact Nat.mul_le_mul (hzs _ (by omega)).2.2 (Nat.mul_le_mul (hzs _ (by omega)).2.2 (hzs _ (by omega)).2.2)
                    have hbp := bT_part (e := e0) (n := n) (i := i) (j := j) (by omega) (by omega)
                    have hJ : ∀ g, sI (j1 (fun x y w => kdF (F 4) (Ga 3) (Ga 4) (Ga 5) a x y w nd) (Ga 26 0) (Ga (14 + 2 * (i + 1))) (Ga (15 + 2 * (i + 1))) (Ga (14 + 2 * (j + 1))) (Ga (15 + 2 * (j + 1))) (Ga (14 + 2 * (n - (i + 1) - (j + 1)))) (Ga (15 + 2 * (n - (i + 1) - (j + 1)))) (zs (j + 1)) (zs (n - (i + 1) - (j + 1))) g) (zs (i + 1)) = u3 (fun x y w => kdF (F 4) (G 3) (G 4) (G 5) a x y w nd) (G 26 0) Sx e0 n g i j := by
                      intro g
                      rw [hk.2 (3) (fun _ => by omega), hk.2 (4) (fun _ => by omega), hk.2 (5) (fun _ => by omega), hk.2 (26) (fun _ => by omega), hk.2 (14 + 2 * (i + 1)) (fun _ => by omega), hk.2 (15 + 2 * (i + 1)) (fun _ => by omega), hk.2 (14 + 2 * (j + 1)) (fun _ => by omega), hk.2 (15 + 2 * (j + 1)) (fun _ => by omega), hk.2 (14 + 2 * (n - (i + 1) - (j + 1))) (fun _ => by omega), hk.2 (15 + 2 * (n - (i + 1) - (j + 1))) (fun _ => by omega), j_SS, u3, if_pos hC, hSx (i + 1) (by omega)]
                      refine congrArg _ (funext fun x => ?_)
                      rw [hSx (j + 1) (by omega)]
                      exact congrArg _ (funext fun y => hSx _ (by omega) _)
                    refine xg_l (b := ad 6) (As := [.int a, .int (nI n), .ref (ad (32 + (i + 1))), .ref (ad (32 + (j + 1))), .ref (ad (32 + ((n - (i + 1)) - (j + 1))))]) (rest := [.long (sI (u2 (fun x y w => kdF (F 4) (G 3) (G 4) (G 5) a x y w nd) (G 26 0) Sx e0 n (fun _ => 1)) i + sI (u3 (fun x y w => kdF (F 4) (G 3) (G 4) (G 5) a x y w nd) (G 26 0) Sx e0 n (fun _ => 1) i) j)]) ⟨hx, hb, hml, hown, hts⟩ (x_join l dC dI aC ad cap hI hcb va R F Ga n hn (i + 1) (j + 1) (n - (i + 1) - (j + 1)) (by omega) (by omega) (by omega) zz (zs (i + 1)) (zs (j + 1)) (zs (n - (i + 1) - (j + 1))) (fun h => (ht h).1) (fun h => by have h9 := hz4 h; omega) ⟨(hk.1 _ (fun _ => by omega)).trans (hzs (i + 1) (by omega)).1, by rw [hce _ (by omega)]; exact hzc (i + 1) (by omega)⟩ ⟨(hk.1 _ (fun _ => by omega)).trans (hzs (j + 1) (by omega)).1, by rw [hce _ (by omega)]; exact hzc (j + 1) (by omega)⟩ ⟨(hk.1 _ (fun _ => by omega)).trans (hzs (n - (i + 1) - (j + 1)) (by omega)).1, by rw [hce _ (by omega)]; exact hzc (n - (i + 1) - (j + 1)) (by omega)⟩ nd ((hk.1 10 (fun _ => by omega)).trans hnd) hn36 a) (cwV 5 hts gX0_treesUnder_X0_join rfl rfl rfl (by decide +kernel) ⟨Nat.le_of_ble_eq_true rfl, Nat.le_of_ble_eq_true rfl⟩) (xPre (q0 := 6) (ci := 0) rfl rfl hK hZ hP) hS hA0 (cs_mono hcp) rfl hl.1 rfl (Nat.le_of_ble_eq_true rfl) dX0_treesUnder_82 (xg_le hcb (by decide) (by decide)) (fun x_82 ad cap v2 R2 F2 G2 Z S H locs h_82 hgr hZ hP hA0 hS => ?_)
                    obtain ⟨hI, hq, hcp2, hcb⟩ := hgr
                    rw [← hq 6 (by omega)] at hl
                    have hAd : ∀ k, k < 38 ∨ 50 ≤ k → ad k = a0 k := fun k h => (hq k h).trans (hAd k h)
                    have hcp : ∀ j, j < 6 → c0 j ≤ cap j := fun j h => Nat.le_trans (hcp j h) (hcp2 j h)
                    obtain ⟨hx_82, vy, Gy, zy, hu_82, hr, hs1, hs2, hs3⟩ := h_82
                    rw [hJ] at hx_82
                    subst hx_82
                    have hs1 : n < 6 → tsOK n zy vy cap ∧ ∀ g, SS (Gy (14 + 2 * n)) (Gy (15 + 2 * n)) g zy = SS (Ga (14 + 2 * n)) (Ga (15 + 2 * n)) g zz + u3 (fun x y w => kdF (F 4) (G 3) (G 4) (G 5) a x y w nd) (G 26 0) Sx e0 n g i j := fun h => ⟨(hs1 h).1, fun g => by rw [(hs1 h).2 g, hJ g]⟩
                    have hP : va_P (dC, dI) vwCl (wsX aC ad cap vy Z S F Gy) H := by cases hu_82; exact hP
                    have hZ : xOK Z S R := by cases hu_82; exact hZ
                    refine lv_ladd hx hb dX0_treesUnder_85 ?_
                    refine lv_lstore (lv' := [(4, .long ((sI (u2 (fun x y w => kdF (F 4) (G 3) (G 4) (G 5) a x y w nd) (G 26 0) Sx e0 n (fun _ => 1)) i + sI (u3 (fun x y w => kdF (F 4) (G 3) (G 4) (G 5) a x y w nd) (G 26 0) Sx e0 n (fun _ => 1) i) j) + (u3 (fun x y w => kdF (F 4) (G 3) (G 4) (G 5) a x y w nd) (G 26 0) Sx e0 n (fun _ => 1) i j))), (8, .int (nI ((n - (i + 1)) - (j + 1)))), (0, .ref (ad 6)), (1, .int a), (2, .int (nI e0)), (3, .int (nI n)), (6, .int (nI (i + 1))), (7, .int (nI (j + 1)))]) hx hb dX0_treesUnder_86 hl (by decide) rfl (fun ls hl => ?_)
                    refine lv_iinc (v := nI (j + 1 + 1)) (lv' := [(7, .int (nI (j + 1 + 1))), (4, .long ((sI (u2 (fun x y w => kdF (F 4) (G 3) (G 4) (G 5) a x y w nd) (G 26 0) Sx e0 n (fun _ => 1)) i + sI (u3 (fun x y w => kdF (F 4) (G 3) (G 4) (G 5) a x y w nd) (G 26 0) Sx e0 n (fun _ => 1) i) j) + (u3 (fun x y w => kdF (F 4) (G 3) (G 4) (G 5) a x y w nd) (G 26 0) Sx e0 n (fun _ => 1) i j))), (8, .int (nI ((n - (i + 1)) - (j + 1)))), (0, .ref (ad 6)), (1, .int a), (2, .int (nI e0)), (3, .int (nI n)), (6, .int (nI (i + 1)))]) hx hb dX0_treesUnder_88 hl (k := 7) rfl (nI_add _ _) (by decide) rfl (fun ls hl => ?_)
                    refine lv_goto (tgt := 15) hx hb dX0_treesUnder_91 (by decide) ?_
                    exact ih15 (j + 1) zy vy Gy ad cap _ _ _ _ _ (by omega) (kRel_tr hk hr) (fun h => ⟨(hs1 h).1, fun g => by rw [(hs1 h).2 g, (ht h).2 g, sI_s]; exact Int64.add_assoc _ _ _⟩) (by show zy ≤ z0 + sN (b2 e0 n) i + (sN (b3 e0 n i) j + b3 e0 n i j); omega) (fun t h => (hs3 t h).trans (hce t h)) hI hAd hcp hcb hA0 hZ hP hS (by omega) (by rw [sI_s]; exact lv_sub hl [3, 4, 5, 6, 1, 7, 0] rfl)
        exact L15 (n - 0 + 1) 0 zz va Ga ad cap _ _ _ _ _ (by omega) (by omega) (fun h => ⟨(ht h).1, fun g => by rw [(ht h).2 g, sI_z]⟩) hzb (by omega) hI hAd hcp hcb hA0 hZ hP hS (Nat.lt_succ_self _) (by rw [sI_z]; exact lv_sub hl [1, 2, 3, 4, 5, 6, 0] rfl)
  exact L6 (n - 0 + 1) 0 z0 v G ad cap _ _ _ _ _ (by omega) kRel_rf (fun h => ⟨hz h, fun g => sI_z.symm⟩) (Nat.le_refl _) (fun t _ => by rw [hc0]) hI hAd hcp hcb hA0 hZ hP hS (Nat.lt_succ_self _) (lv_sub hl [2, 3, 4, 5, 1, 0] rfl)
