set_option maxHeartbeats 1000000 in
set_option maxRecDepth 100000 in
/-- Series.rowsOf -/
theorem x_rowsOf (l : Launch) (dC : Nat → ClassId) (dI : Nat → Nat → Nat) (aC : Nat → ClassId) (ad cap : Nat → Nat) (v : Nat → Int32) (R : Nat → List Int32) (F : Nat → Nat → Int32) (G : Nat → Nat → Int64) (T : Nat → Int64) (k n : Nat) (hk : k + 2 ≤ 6) (hn : n ≤ 6) (hA : ∀ j, 1 ≤ j → j < n → G 6 j = T j) (hB : ∀ j, 1 ≤ j → j < n → G (7 + (k + 1)) j = pwF T k j) : Met l yX5_rowsOf wsX5_rowsOf ({ frames := 0, cells := 0, slots := 0, locals := 0 } : Room) (va_Pc [.ref (ad 7), .int (nI (2 + k)), .int (nI n)] (XB dC dI aC ad cap (v, R, F, G))) (vp_Sl (fun x => x = pwF T (k + 1) n)) 0 0 (fun _ => False) := by
  refine Met.ofW (cc := cX5_rowsOf) (maxL := 6) (ret := (some .long)) (by decide) rfl ?_
  intro p e s m args below meth c s₁ B hml hv
  obtain ⟨rfl, hK, Z, S, hZ, hP⟩ := hv
  have hx := B.exec
  have hb := B.bytes
  have hret := B.returns
  have hts := atoms_spec (ws := wsX5_rowsOf) B.pre
  have hown : s.vm.findClass RX5 = some m.cls := findClass_of_methodNamed B.named
  have hlocks := B.notSynchronized
  dsimp only at hZ hP
  have lk0 := hts (.fieldLink RX5 9 "LeafTrees$Series" "turnedAbout" "[J") (by decide +kernel)
  have lk1 := hts (.fieldLink RX5 17 "LeafTrees$Series" "powers" "[[J") (by decide +kernel)
  have hin5 : ∀ w ∈ u_ws RX5 TX5 2, w ∈ wsX5_rowsOf := by decide +kernel
  have hl := lv_entry [.ref (ad 7), .int (nI (2 + k)), .int (nI n)] (n := 6) (Nat.le_of_ble_eq_true rfl)
  rw [lg_entry_eq]
  generalize (lg_sl [.ref (ad 7), .int (nI (2 + k)), .int (nI n)] ++ List.replicate (6 - (lg_sl [.ref (ad 7), .int (nI (2 + k)), .int (nI n)]).length) Slot.unset).toArray = ls at hl ⊢
  have hl : lv_has ls 6 [(0, .ref (ad 7)), (1, .int (nI (2 + k))), (2, .int (nI n))] := hl
  refine nx_Q (R := ({ frames := 0, cells := 0, slots := 0, locals := 0 } : Room)) (fun Q hQ => ?_)
  refine lv_lconst (v := 0) hx hb dX5_rowsOf_0 (by decide) ?_
  refine lv_lstore_n (lv' := [(3, .long 0), (0, .ref (ad 7)), (1, .int (nI (2 + k))), (2, .int (nI n))]) hx hb dX5_rowsOf_1 rfl hl (by decide) rfl (fun ls hl => ?_)
  refine lv_iconst (v := nI 1) hx hb dX5_rowsOf_2 (by decide) ?_
  refine lv_istore (lv' := [(5, .int (nI 1)), (3, .long 0), (0, .ref (ad 7)), (1, .int (nI (2 + k))), (2, .int (nI n))]) hx hb dX5_rowsOf_3 hl (by decide) rfl (fun ls hl => ?_)
  have L5 : ∀ (fuel5 : Nat) (i : Nat) (ls : Array Slot), (i ≤ n - 1) → n - i < fuel5 → lv_has ls 6 [(0, .ref (ad 7)), (1, .int (nI (2 + k))), (2, .int (nI n)), (3, .long (slF (fun m => T m * pwF T k (n - m)) 1 i)), (5, .int (nI (1 + i)))] → W p l e ({ frames := 0, cells := 0, slots := 0, locals := 0 } : Room) s m ([.ref (ad 7), .int (nI (2 + k)), .int (nI n)] : List Value).toArray below meth c s.heap [] 0 0 Q (F0 m 5 ls []) := by
    intro fuel5
    induction fuel5 with
    | zero => intro i ls hi hf5 hl; exact absurd hf5 (Nat.not_lt_zero _)
    | succ fuel5 ih5 =>
      intro i ls hi hf5 hl
      refine lv_iload hx hb dX5_rowsOf_5 (lv_at hl 4 rfl) ?_
      refine lv_iload_n hx hb dX5_rowsOf_7 rfl (lv_at hl 2 rfl) ?_
      refine nx_icmp_ge (a := (1 + i)) (b := n) (tgt := 41) hx hb dX5_rowsOf_8 (by decide) (by omega) (by omega) (fun c_8 => ?_) (fun c_8 => ?_)
      · skip
        refine lv_lload_n hx hb dX5_rowsOf_41 rfl (lv_at hl 3 rfl) ?_
        subst hQ
        exact W.lret (v := slF (fun m => T m * pwF T k (n - m)) 1 i) hx hb hret (fun tq htq hWq => ⟨_, rfl, by rw [pwF, show i = n - 1 by omega], htq⟩) (fun q h => by cases h) dX5_rowsOf_42
      · skip
        refine lv_lload_n hx hb dX5_rowsOf_11 rfl (lv_at hl 3 rfl) ?_
        refine lv_aload_n hx hb dX5_rowsOf_12 rfl (lv_at hl 0 rfl) ?_
        refine va_get (D := (dC, dI)) (ci := 5) (C := RX5) (T := TX5) (N := 2) hx hb hts hin5 hown hK hP 7 rfl rfl 0 (by decide) lk0 (fun _ h9 => h9) rfl dX5_rowsOf_13 ?_
        refine lv_iload hx hb dX5_rowsOf_16 (lv_at hl 4 rfl) ?_
        refine nx_lald hx hb hK hP 22 1 rfl rfl (i := 1 + i) (by omega) (by decide) dX5_rowsOf_18 ?_
        refine nx_tl (y := T (1 + i)) (hA (1 + i) (by omega) (by omega)) ?_
        refine lv_aload_n hx hb dX5_rowsOf_19 rfl (lv_at hl 0 rfl) ?_
        refine va_get (D := (dC, dI)) (ci := 5) (C := RX5) (T := TX5) (N := 2) hx hb hts hin5 hown hK hP 7 rfl rfl 1 (by decide) lk1 (fun _ h9 => h9) rfl dX5_rowsOf_20 ?_
        refine lv_iload_n hx hb dX5_rowsOf_23 rfl (lv_at hl 1 rfl) ?_
        refine lv_iconst (v := nI 1) hx hb dX5_rowsOf_24 (by decide) ?_
        refine lv_isub hx hb dX5_rowsOf_25 ?_
        refine nx_ti (y := nI ((2 + k) - 1)) (pk_sub (by omega)) ?_
        refine nx_aalA hx hb hK hP 23 6 rfl rfl (i := (2 + k) - 1) (by omega) (by decide) (show xPows ad ((2 + k) - 1) = some (ad (25 + ((2 + k) - 1))) from if_pos (by omega)) dX5_rowsOf_26 ?_
        refine lv_iload_n hx hb dX5_rowsOf_27 rfl (lv_at hl 2 rfl) ?_
        refine lv_iload hx hb dX5_rowsOf_28 (lv_at hl 4 rfl) ?_
        refine lv_isub hx hb dX5_rowsOf_30 ?_
        refine nx_ti (y := nI (n - (1 + i))) (pk_sub (by omega)) ?_
        refine nx_lald hx hb hK hP (25 + ((2 + k) - 1)) 1 (xw_pw ((2 + k) - 1) (by omega)) rfl (i := n - (1 + i)) (by omega) (by decide) dX5_rowsOf_31 ?_
        refine nx_tl (y := pwF T k (n - (1 + i))) (by rw [show 2 + k - 1 = k + 1 by omega]; exact hB _ (by omega) (by omega)) ?_
        refine lv_lmul hx hb dX5_rowsOf_32 ?_
        refine lv_ladd hx hb dX5_rowsOf_33 ?_
        refine lv_lstore_n (lv' := [(3, .long ((slF (fun m => T m * pwF T k (n - m)) 1 i) + ((T (1 + i)) * (pwF T k (n - (1 + i)))))), (0, .ref (ad 7)), (1, .int (nI (2 + k))), (2, .int (nI n)), (5, .int (nI (1 + i)))]) hx hb dX5_rowsOf_34 rfl hl (by decide) rfl (fun ls hl => ?_)
        refine lv_iinc (v := nI (1 + i + 1)) (lv' := [(5, .int (nI (1 + i + 1))), (3, .long ((slF (fun m => T m * pwF T k (n - m)) 1 i) + ((T (1 + i)) * (pwF T k (n - (1 + i)))))), (0, .ref (ad 7)), (1, .int (nI (2 + k))), (2, .int (nI n))]) hx hb dX5_rowsOf_35 hl (k := 4) rfl (nI_add _ _) (by decide) rfl (fun ls hl => ?_)
        refine lv_goto (tgt := 5) hx hb dX5_rowsOf_38 (by decide) ?_
        exact ih5 (i + 1) _ (by omega) (by omega) (by rw [slF]; exact lv_sub hl [2, 3, 4, 1, 0] rfl)
  exact L5 (n - 0 + 1) 0 _ (by omega) (Nat.lt_succ_self _) (lv_sub hl [2, 3, 4, 1, 0] rfl)

set_option maxHeartbeats 1000000 in
set_option maxRecDepth 100000 in
/-- Series.turn -/
theorem x_turn (l : Launch) (dC : Nat → ClassId) (dI : Nat → Nat → Nat) (aC : Nat → ClassId) (ad cap : Nat → Nat) (hI : xI ad) (v : Nat → Int32) (R : Nat → List Int32) (F : Nat → Nat → Int32) (G : Nat → Nat → Int64) (hz : srZ G) : Met l yX5_turn wsX5_turn ({ frames := 1, cells := 0, slots := 0, locals := 25 } : Room) (va_Pc [.ref (ad 7), .ref (ad 8)] (XB dC dI aC ad cap (v, R, F, G))) (va_Qv (fun (u : MS) => ∃ G1, (v, R, F, G1) = u ∧ (∀ j, 1 ≤ j → j ≤ 6 → G1 6 j = tnF (G 0) 6 j) ∧ srZ G1 ∧ ∀ k, k < 6 ∨ 14 ≤ k → G1 k = G k) (XB dC dI aC ad cap) (xA ad)) 0 0 (xA ad) := by
  refine Met.ofW (cc := cX5_turn) (maxL := 6) (ret := none) (by decide) rfl ?_
  intro p e s m args below meth c s₁ B hml hv
  obtain ⟨rfl, hK, Z, S, hZ, hP⟩ := hv
  have hx := B.exec
  have hb := B.bytes
  have hret := B.returns
  have hts := atoms_spec (ws := wsX5_turn) B.pre
  have hown : s.vm.findClass RX5 = some m.cls := findClass_of_methodNamed B.named
  have hlocks := B.notSynchronized
  dsimp only at hZ hP
  have lk0 := hts (.fieldLink RX5 9 "LeafTrees$Series" "turnedAbout" "[J") (by decide +kernel)
  have lk1 := hts (.fieldLink RX5 17 "LeafTrees$Series" "powers" "[[J") (by decide +kernel)
  have hin5 : ∀ w ∈ u_ws RX5 TX5 2, w ∈ wsX5_turn := by decide +kernel
  have hS : va_S (xA ad) s.heap s.heap [] := va_S.rf
  have hl := lv_entry [.ref (ad 7), .ref (ad 8)] (n := 6) (Nat.le_of_ble_eq_true rfl)
  rw [lg_entry_eq]
  generalize (lg_sl [.ref (ad 7), .ref (ad 8)] ++ List.replicate (6 - (lg_sl [.ref (ad 7), .ref (ad 8)]).length) Slot.unset).toArray = ls at hl ⊢
  have hl : lv_has ls 6 [(0, .ref (ad 7)), (1, .ref (ad 8))] := hl
  refine nx_Q (R := ({ frames := 1, cells := 0, slots := 0, locals := 25 } : Room)) (fun Q hQ => ?_)
  have hT0 := tnF_0 (G 0) 6
  refine lv_aload_n hx hb dX5_turn_0 rfl (lv_at hl 0 rfl) ?_
  refine va_get (D := (dC, dI)) (ci := 5) (C := RX5) (T := TX5) (N := 2) hx hb hts hin5 hown hK hP 7 rfl rfl 0 (by decide) lk0 (fun _ h9 => h9) rfl dX5_turn_1 ?_
  refine lv_iconst (v := nI 1) hx hb dX5_turn_4 (by decide) ?_
  refine lv_lconst (v := 1) hx hb dX5_turn_5 (by decide) ?_
  refine nx_last hx hb hK hP (wsX_D hI) hS 22 1 rfl rfl (i := 1) (by omega) (by decide) dX5_turn_6 (fun H locs hP hS => ?_)
  have hP : va_P (dC, dI) vwCl (wsX aC ad cap v Z S F (va_up G 6 (vp_updL (G 6) 1 1))) H := hP
  refine lv_aload_n hx hb dX5_turn_7 rfl (lv_at hl 0 rfl) ?_
  refine va_get (D := (dC, dI)) (ci := 5) (C := RX5) (T := TX5) (N := 2) hx hb hts hin5 hown hK hP 7 rfl rfl 1 (by decide) lk1 (fun _ h9 => h9) rfl dX5_turn_8 ?_
  refine lv_iconst (v := nI 1) hx hb dX5_turn_11 (by decide) ?_
  refine nx_aalA hx hb hK hP 23 6 rfl rfl (i := 1) (by omega) (by decide) (show xPows ad 1 = some (ad 26) from if_pos (by omega)) dX5_turn_12 ?_
  refine lv_iconst (v := nI 1) hx hb dX5_turn_13 (by decide) ?_
  refine lv_lconst (v := 1) hx hb dX5_turn_14 (by decide) ?_
  refine nx_last hx hb hK hP (wsX_D hI) hS (25 + 1) 1 (xw_pw 1 (by omega)) rfl (i := 1) (by omega) (by decide) dX5_turn_15 (fun H locs hP hS => ?_)
  rw [xs_pw 1 (by omega)] at hP
  refine lv_iconst (v := nI 2) hx hb dX5_turn_16 (by decide) ?_
  refine lv_istore_n (lv' := [(2, .int (nI 2)), (0, .ref (ad 7)), (1, .ref (ad 8))]) hx hb dX5_turn_17 rfl hl (by decide) rfl (fun ls hl => ?_)
  have L18 : ∀ (fuel18 : Nat) (n : Nat) (Ga : Nat → Nat → Int64) (Z : Nat → Int32) (S : Nat → Nat → Int32) (H : Heap) (locs : List Loc) (ls : Array Slot), (2 ≤ n ∧ n ≤ 7) → (srI (tnF (G 0) 6) n Ga) → (∀ k, k < 6 ∨ 14 ≤ k → Ga k = G k) → xOK Z S R → va_P (dC, dI) vwCl (wsX aC ad cap v Z S F Ga) H → va_S (xA ad) s.heap H locs → 7 - n < fuel18 → lv_has ls 6 [(0, .ref (ad 7)), (1, .ref (ad 8)), (2, .int (nI n))] → W p l e ({ frames := 1, cells := 0, slots := 0, locals := 25 } : Room) s m ([.ref (ad 7), .ref (ad 8)] : List Value).toArray below meth c H locs 0 0 Q (F0 m 18 ls []) := by
    intro fuel18
    induction fuel18 with
    | zero => intro n Ga Z S H locs ls hn hq hG hZ hP hS hf18 hl; exact absurd hf18 (Nat.not_lt_zero _)
    | succ fuel18 ih18 =>
      intro n Ga Z S H locs ls hn hq hG hZ hP hS hf18 hl
      refine lv_iload_n hx hb dX5_turn_18 rfl (lv_at hl 2 rfl) ?_
      refine lv_bipush (v := nI 6) hx hb dX5_turn_19 (by decide) ?_
      refine nx_icmp_gt (a := n) (b := 6) (tgt := 98) hx hb dX5_turn_21 (by decide) (by omega) (by omega) (fun c_21 => ?_) (fun c_21 => ?_)
      · skip
        subst hQ
        exact W.vret hx hb hret (fun tq htq hWq => ⟨⟨(v, R, F, Ga), rfl, ⟨_, rfl, fun j h1 h2 => hq.1 j h1 (by omega), hq.2.2, hG⟩, va_K.moved hWq.alike hK, _, _, hZ, by rw [htq]; exact hP⟩, hS.F htq⟩) hS.2.2 dX5_turn_98
      · skip
        refine lv_lconst (v := 0) hx hb dX5_turn_24 (by decide) ?_
        refine lv_lstore_n (lv' := [(3, .long 0), (0, .ref (ad 7)), (1, .ref (ad 8)), (2, .int (nI n))]) hx hb dX5_turn_25 rfl hl (by decide) rfl (fun ls hl => ?_)
        refine lv_iconst (v := nI 2) hx hb dX5_turn_26 (by decide) ?_
        refine lv_istore (lv' := [(5, .int (nI 2)), (3, .long 0), (0, .ref (ad 7)), (1, .ref (ad 8)), (2, .int (nI n))]) hx hb dX5_turn_27 hl (by decide) rfl (fun ls hl => ?_)
        have L29 : ∀ (fuel29 : Nat) (k : Nat) (Gk : Nat → Nat → Int64) (Z : Nat → Int32) (S : Nat → Nat → Int32) (H : Heap) (locs : List Loc) (ls : Array Slot), (k ≤ n - 1) → (srI (tnF (G 0) 6) n Gk) → (∀ q, 2 ≤ q → q < 2 + k → Gk (7 + q) n = pwF (tnF (G 0) 6) (q - 1) n) → (∀ k, k < 6 ∨ 14 ≤ k → Gk k = G k) → xOK Z S R → va_P (dC, dI) vwCl (wsX aC ad cap v Z S F Gk) H → va_S (xA ad) s.heap H locs → n - k < fuel29 → lv_has ls 6 [(0, .ref (ad 7)), (1, .ref (ad 8)), (2, .int (nI n)), (3, .long (slF (fun q => G 0 q * pwF (tnF (G 0) 6) (q - 1) n) 2 k)), (5, .int (nI (2 + k)))] → W p l e ({ frames := 1, cells := 0, slots := 0, locals := 25 } : Room) s m ([.ref (ad 7), .ref (ad 8)] : List Value).toArray below meth c H locs 0 0 Q (F0 m 29 ls []) := by
          intro fuel29
          induction fuel29 with
          | zero => intro k Gk Z S H locs ls hk hq hB hG hZ hP hS hf29 hl; exact absurd hf29 (Nat.not_lt_zero _)
          | succ fuel29 ih29 =>
            intro k Gk Z S H locs ls hk hq hB hG hZ hP hS hf29 hl
            refine lv_iload hx hb dX5_turn_29 (lv_at hl 4 rfl) ?_
            refine lv_iload_n hx hb dX5_turn_31 rfl (lv_at hl 2 rfl) ?_
            refine nx_icmp_gt (a := (2 + k)) (b := n) (tgt := 74) hx hb dX5_turn_32 (by decide) (by omega) (by omega) (fun c_32 => ?_) (fun c_32 => ?_)
            · skip
              refine lv_aload_n hx hb dX5_turn_74 rfl (lv_at hl 0 rfl) ?_
              refine va_get (D := (dC, dI)) (ci := 5) (C := RX5) (T := TX5) (N := 2) hx hb hts hin5 hown hK hP 7 rfl rfl 0 (by decide) lk0 (fun _ h9 => h9) rfl dX5_turn_75 ?_
              refine lv_iload_n hx hb dX5_turn_78 rfl (lv_at hl 2 rfl) ?_
              refine lv_lload_n hx hb dX5_turn_79 rfl (lv_at hl 3 rfl) ?_
              refine lv_lneg hx hb dX5_turn_80 ?_
              refine nx_last hx hb hK hP (wsX_D hI) hS 22 1 rfl rfl (i := n) (by omega) (by decide) dX5_turn_81 (fun H locs hP hS => ?_)
              have hP : va_P (dC, dI) vwCl (wsX aC ad cap v Z S F (va_up Gk 6 (vp_updL (Gk 6) n (-(slF (fun q => G 0 q * pwF (tnF (G 0) 6) (q - 1) n) 2 k))))) H := hP
              refine lv_aload_n hx hb dX5_turn_82 rfl (lv_at hl 0 rfl) ?_
              refine va_get (D := (dC, dI)) (ci := 5) (C := RX5) (T := TX5) (N := 2) hx hb hts hin5 hown hK hP 7 rfl rfl 1 (by decide) lk1 (fun _ h9 => h9) rfl dX5_turn_83 ?_
              refine lv_iconst (v := nI 1) hx hb dX5_turn_86 (by decide) ?_
              refine nx_aalA hx hb hK hP 23 6 rfl rfl (i := 1) (by omega) (by decide) (show xPows ad 1 = some (ad 26) from if_pos (by omega)) dX5_turn_87 ?_
              refine lv_iload_n hx hb dX5_turn_88 rfl (lv_at hl 2 rfl) ?_
              refine lv_lload_n hx hb dX5_turn_89 rfl (lv_at hl 3 rfl) ?_
              refine lv_lneg hx hb dX5_turn_90 ?_
              refine nx_last hx hb hK hP (wsX_D hI) hS (25 + 1) 1 (xw_pw 1 (by omega)) rfl (i := n) (by omega) (by decide) dX5_turn_91 (fun H locs hP hS => ?_)
              rw [xs_pw 1 (by omega)] at hP
              refine lv_iinc (v := nI (n + 1)) (lv' := [(2, .int (nI (n + 1))), (0, .ref (ad 7)), (1, .ref (ad 8)), (3, .long (slF (fun q => G 0 q * pwF (tnF (G 0) 6) (q - 1) n) 2 k)), (5, .int (nI (2 + k)))]) hx hb dX5_turn_92 hl (k := 2) rfl (nI_add _ _) (by decide) rfl (fun ls hl => ?_)
              refine lv_goto (tgt := 18) hx hb dX5_turn_95 (by decide) ?_
              exact ih18 (n + 1) (va_up (va_up Gk 6 (vp_updL (Gk 6) n (-(slF (fun q => G 0 q * pwF (tnF (G 0) 6) (q - 1) n) 2 k)))) (7 + 1) (vp_updL (va_up Gk 6 (vp_updL (Gk 6) n (-(slF (fun q => G 0 q * pwF (tnF (G 0) 6) (q - 1) n) 2 k))) (7 + 1)) n (-(slF (fun q => G 0 q * pwF (tnF (G 0) 6) (q - 1) n) 2 k)))) _ _ _ _ _ (by omega) (sr_s hq hn.1 hT0 (fun q h1 h2 => hB q h1 (by omega)) (by rw [show k = n - 1 by omega]; exact tn_at hn.1 (by omega))) (fun k h => by rw [upn (by omega), upn (by omega)]; exact hG k h) hZ hP hS (by omega) (lv_sub hl [1, 2, 0] rfl)
            · skip
              refine lv_aload_n hx hb dX5_turn_35 rfl (lv_at hl 0 rfl) ?_
              refine va_get (D := (dC, dI)) (ci := 5) (C := RX5) (T := TX5) (N := 2) hx hb hts hin5 hown hK hP 7 rfl rfl 1 (by decide) lk1 (fun _ h9 => h9) rfl dX5_turn_36 ?_
              refine lv_iload hx hb dX5_turn_39 (lv_at hl 4 rfl) ?_
              refine nx_aalA hx hb hK hP 23 6 rfl rfl (i := 2 + k) (by omega) (by decide) (show xPows ad (2 + k) = some (ad (25 + (2 + k))) from if_pos (by omega)) dX5_turn_41 ?_
              refine lv_iload_n hx hb dX5_turn_42 rfl (lv_at hl 2 rfl) ?_
              refine lv_aload_n hx hb dX5_turn_43 rfl (lv_at hl 0 rfl) ?_
              refine lv_iload hx hb dX5_turn_44 (lv_at hl 4 rfl) ?_
              refine lv_iload_n hx hb dX5_turn_46 rfl (lv_at hl 2 rfl) ?_
              refine xp_l (b := ad 7) (As := [.int (nI (2 + k)), .int (nI n)]) (rest := [.int (nI n), .ref (ad (25 + (2 + k)))]) ⟨hx, hb, hml, hown, hts⟩ (x_rowsOf l dC dI aC ad cap v R F Gk (tnF (G 0) 6) k n (by omega) (by omega) hq.1 (fun j h1 h2 => hq.2.1 (k + 1) j (by omega) (by omega) h1 h2)) (cwV 2 hts gX5_turn_X5_rowsOf rfl rfl rfl (by decide +kernel) ⟨Nat.le_of_ble_eq_true rfl, Nat.le_of_ble_eq_true rfl⟩) (xPre (q0 := 7) (ci := 5) rfl rfl hK hZ hP) rfl hl.1 rfl (Nat.le_of_ble_eq_true rfl) dX5_turn_47 ⟨Nat.le_of_ble_eq_true rfl, Nat.le_of_ble_eq_true rfl⟩ (fun x_47 h_47 => ?_)
              refine nx_tl (y := pwF (tnF (G 0) 6) (k + 1) n) h_47 ?_
              refine nx_last hx hb hK hP (wsX_D hI) hS (25 + (2 + k)) 1 (xw_pw (2 + k) (by omega)) rfl (i := n) (by omega) (by decide) dX5_turn_50 (fun H locs hP hS => ?_)
              rw [xs_pw (2 + k) (by omega)] at hP
              refine lv_lload_n hx hb dX5_turn_51 rfl (lv_at hl 3 rfl) ?_
              refine lv_aload_n hx hb dX5_turn_52 rfl (lv_at hl 1 rfl) ?_
              refine lv_iload hx hb dX5_turn_53 (lv_at hl 4 rfl) ?_
              refine nx_lald hx hb hK hP 8 1 rfl rfl (i := 2 + k) (by omega) (by decide) dX5_turn_55 ?_
              refine nx_tl (y := G 0 (2 + k)) (by rw [upn (by omega), hG 0 (by omega)]) ?_
              refine lv_aload_n hx hb dX5_turn_56 rfl (lv_at hl 0 rfl) ?_
              refine va_get (D := (dC, dI)) (ci := 5) (C := RX5) (T := TX5) (N := 2) hx hb hts hin5 hown hK hP 7 rfl rfl 1 (by decide) lk1 (fun _ h9 => h9) rfl dX5_turn_57 ?_
              refine lv_iload hx hb dX5_turn_60 (lv_at hl 4 rfl) ?_
              refine nx_aalA hx hb hK hP 23 6 rfl rfl (i := 2 + k) (by omega) (by decide) (show xPows ad (2 + k) = some (ad (25 + (2 + k))) from if_pos (by omega)) dX5_turn_62 ?_
              refine lv_iload_n hx hb dX5_turn_63 rfl (lv_at hl 2 rfl) ?_
              refine nx_lald hx hb hK hP (25 + (2 + k)) 1 (xw_pw (2 + k) (by omega)) rfl (i := n) (by omega) (by decide) dX5_turn_64 ?_
              refine nx_tl (y := pwF (tnF (G 0) 6) (k + 1) n) (by rw [va_up_self, updL_s]) ?_
              refine lv_lmul hx hb dX5_turn_65 ?_
              refine lv_ladd hx hb dX5_turn_66 ?_
              refine lv_lstore_n (lv' := [(3, .long ((slF (fun q => G 0 q * pwF (tnF (G 0) 6) (q - 1) n) 2 k) + ((G 0 (2 + k)) * (pwF (tnF (G 0) 6) (k + 1) n)))), (0, .ref (ad 7)), (1, .ref (ad 8)), (2, .int (nI n)), (5, .int (nI (2 + k)))]) hx hb dX5_turn_67 rfl hl (by decide) rfl (fun ls hl => ?_)
              refine lv_iinc (v := nI (2 + k + 1)) (lv' := [(5, .int (nI (2 + k + 1))), (3, .long ((slF (fun q => G 0 q * pwF (tnF (G 0) 6) (q - 1) n) 2 k) + ((G 0 (2 + k)) * (pwF (tnF (G 0) 6) (k + 1) n)))), (0, .ref (ad 7)), (1, .ref (ad 8)), (2, .int (nI n))]) hx hb dX5_turn_68 hl (k := 4) rfl (nI_add _ _) (by decide) rfl (fun ls hl => ?_)
              refine lv_goto (tgt := 29) hx hb dX5_turn_71 (by decide) ?_
              exact ih29 (k + 1) (va_up Gk (7 + (2 + k)) (vp_updL (Gk (7 + (2 + k))) n (pwF (tnF (G 0) 6) (k + 1) n))) _ _ _ _ _ (by omega) (sr_k hq (by omega)) (fun q h1 h2 => by by_cases h : q = 2 + k <;> first | (rw [h, va_up_self, updL_s, show 2 + k - 1 = k + 1 by omega]) | (rw [upn (by omega)]; exact hB q h1 (by omega))) (fun q h => by rw [upn (by omega)]; exact hG q h) hZ hP hS (by omega) (by rw [slF, show 2 + k - 1 = k + 1 by omega]; exact lv_sub hl [2, 3, 4, 1, 0] rfl)
        exact L29 (n - 0 + 1) 0 Ga _ _ _ _ _ (by omega) hq (fun q h1 h2 => absurd h1 (by omega)) hG hZ hP hS (Nat.lt_succ_self _) (lv_sub hl [2, 3, 4, 1, 0] rfl)
  exact L18 (7 - 2 + 1) 2 (va_up (va_up G 6 (vp_updL (G 6) 1 1)) (7 + 1) (vp_updL (va_up G 6 (vp_updL (G 6) 1 1) (7 + 1)) 1 1)) _ _ _ _ _ (by decide) (sr_1 hT0 tn_1 hz) (fun k h => by rw [upn (by omega), upn (by omega)]) hZ hP hS (Nat.lt_succ_self _) (lv_sub hl [1, 2, 0] rfl)

set_option maxHeartbeats 1000000 in
set_option maxRecDepth 100000 in
/-- learnMany -/
theorem x_learnMany (l : Launch) (dC : Nat → ClassId) (dI : Nat → Nat → Nat) (aC : Nat → ClassId) (ad cap : Nat → Nat) (hI : xI ad) (hcb : ∀ j, j < 6 → cap j ≤ 8192) (v : Nat → Int32) (R : Nat → List Int32) (F : Nat → Nat → Int32) (G : Nat → Nat → Int64) (A : Nat) (hE : vE A (F 0)) (hA : v 0 = nI A) (n : Nat) (hn : v 1 = nI n) (hn8 : n ≤ 8) (hTl : ∀ j, j < n → isT (F 0) (R (10 + j))) (hVl : ∀ j, j < n → vR A (R (10 + j))) (hl4 : ∀ j, j < n → (R (10 + j)).length - lvs (R (10 + j)) ≤ 4) (h16 : ∀ j, j < 6 → 16 ≤ cap j) (CM : Nat → Int64) (hCM : ∀ T0 j, 1 ≤ j → j ≤ 6 → SgT (flF (F 0) R T0 n) (F 0) A j = CM j) (hc : ¬ v 2 = 0 → ∀ j, 1 ≤ j → j ≤ 6 → G 0 j = CM j) : Met l yX9_learnMany wsX9_learnMany ({ frames := 7, cells := 253952, slots := 1015808, locals := 218 } : Room) (va_Pc [.ref (ad 0)] (XB dC dI aC ad cap (v, R, F, G))) (GQv dC dI aC ad cap (fun cap1 u => ∃ v1 F1 G1, (v1, R, F1, G1) = u ∧ lRel v v1 F F1 G G1 ∧ (∀ j, 1 ≤ j → j ≤ 6 → G1 0 j = CM j) ∧ v1 3 = v 3 ∧ G1 1 = G 1)) 253952 1015808 (xA ad) := by
  refine Met.ofW (cc := cX9_learnMany) (maxL := 1) (ret := none) (by decide) rfl ?_
  intro p e s m args below meth c s₁ B hml hv
  obtain ⟨rfl, hK, Z, S, hZ, hP⟩ := hv
  have hx := B.exec
  have hb := B.bytes
  have hret := B.returns
  have hts := atoms_spec (ws := wsX9_learnMany) B.pre
  have hown : s.vm.findClass RX9 = some m.cls := findClass_of_methodNamed B.named
  have hlocks := B.notSynchronized
  dsimp only at hZ hP
  have lk0 := hts (.fieldLink RX9 242 "LeafTrees" "manyKnown" "Z") (by decide +kernel)
  have lk1 := hts (.fieldLink RX9 51 "LeafTrees" "census" "LLeafTrees$Census;") (by decide +kernel)
  have lk2 := hts (.fieldLink RX9 10 "LeafTrees" "world" "LLeafTrees$World;") (by decide +kernel)
  have lk3 := hts (.fieldLink RX9 62 "LeafTrees" "many" "[J") (by decide +kernel)
  have hin9 : ∀ w ∈ u_ws RX9 TX9 14, w ∈ wsX9_learnMany := by decide +kernel
  obtain ⟨a0, ha0⟩ : ∃ a0, a0 = ad := ⟨ad, rfl⟩
  obtain ⟨c0, hc0⟩ : ∃ c0, c0 = cap := ⟨cap, rfl⟩
  have hAd : ∀ k, k < 38 ∨ 50 ≤ k → ad k = a0 k := fun k _ => by rw [ha0]
  have hcp : ∀ j, j < 6 → c0 j ≤ cap j := fun j _ => by rw [hc0]; exact Nat.le_refl _
  have hA0 : ∀ q, xA ad q → xG a0 s.heap.size q := fun q h => Or.inl (by rw [ha0]; exact h)
  have hS : va_S (xG a0 s.heap.size) s.heap s.heap [] := va_S.rf
  have hl := lv_entry [.ref (ad 0)] (n := 1) (Nat.le_of_ble_eq_true rfl)
  rw [lg_entry_eq]
  generalize (lg_sl [.ref (ad 0)] ++ List.replicate (1 - (lg_sl [.ref (ad 0)]).length) Slot.unset).toArray = ls at hl ⊢
  have hl : lv_has ls 1 [(0, .ref (ad 0))] := hl
  generalize ([.ref (ad 0)] : List Value).toArray = ag at hts lk0 lk1 lk2 lk3 ⊢
  refine nx_Q (R := ({ frames := 7, cells := 253952, slots := 1015808, locals := 218 } : Room)) (fun Q hQ => ?_)
  refine xg_more (cells' := cs cap - cs c0) (slots' := 4 * (cs cap - cs c0)) (Nat.zero_le _) (Nat.zero_le _) ?_
  refine lv_aload_n hx hb dX9_learnMany_0 rfl (lv_at hl 0 rfl) ?_
  refine va_get (D := (dC, dI)) (ci := 9) (C := RX9) (T := TX9) (N := 14) hx hb hts hin9 hown hK hP 0 rfl rfl 9 (by decide) lk0 (fun _ h9 => h9) rfl dX9_learnMany_1 ?_
  refine lv_if_ne (tgt := 38) hx hb dX9_learnMany_4 (by decide) (fun c_4 => ?_) (fun c_4 => ?_)
  · skip
    have hcs := cs_le hcb
    subst hQ
    exact xg_vret hx hb hret hlocks hK hZ hP hA0 hS ⟨hI, hAd, hcp, hcb⟩ (⟨v, F, G, rfl, lRel_rf, hc c_4, rfl, rfl⟩) (by omega) (by omega) ha0 hc0 dX9_learnMany_38
  · skip
    refine lv_aload_n hx hb dX9_learnMany_7 rfl (lv_at hl 0 rfl) ?_
    refine va_get (D := (dC, dI)) (ci := 9) (C := RX9) (T := TX9) (N := 14) hx hb hts hin9 hown hK hP 0 rfl rfl 6 (by decide) lk1 (fun _ h9 => h9) rfl dX9_learnMany_8 ?_
    refine lv_aload_n hx hb dX9_learnMany_11 rfl (lv_at hl 0 rfl) ?_
    refine va_get (D := (dC, dI)) (ci := 9) (C := RX9) (T := TX9) (N := 14) hx hb hts hin9 hown hK hP 0 rfl rfl 0 (by decide) lk2 (fun _ h9 => h9) rfl dX9_learnMany_12 ?_
    refine xh_v (b := ad 6) (As := [.ref (ad 1)]) (rest := []) ⟨hx, hb, hml, hown, hts⟩ (x_forbidLefts l dC dI aC ad cap hI v R F G A hE hA n hn hn8 hTl hVl hl4) (cwV 1 hts gX9_learnMany_X0_forbidLefts rfl rfl rfl (by decide +kernel) ⟨Nat.le_of_ble_eq_true rfl, Nat.le_of_ble_eq_true rfl⟩) (xPre (q0 := 6) (ci := 0) rfl rfl hK hZ hP) hS hA0 rfl hl.1 rfl (Nat.le_of_ble_eq_true rfl) dX9_learnMany_15 (xg_le (mc := 0) (ms := 0) hcb (by decide) (by decide)) (fun v1 R1 F1 G1 Z S H locs h_15 hZ hP hS => ?_)
    obtain ⟨vx, Fx, Gx, hu_15, hT, hR⟩ := h_15
    have hP : va_P (dC, dI) vwCl (wsX aC ad cap vx Z S Fx Gx) H := by cases hu_15; exact hP
    have hZ : xOK Z S R := by cases hu_15; exact hZ
    refine lv_aload_n hx hb dX9_learnMany_18 rfl (lv_at hl 0 rfl) ?_
    refine va_get (D := (dC, dI)) (ci := 9) (C := RX9) (T := TX9) (N := 14) hx hb hts hin9 hown hK hP 0 rfl rfl 6 (by decide) lk1 (fun _ h9 => h9) rfl dX9_learnMany_19 ?_
    refine lv_aload_n hx hb dX9_learnMany_22 rfl (lv_at hl 0 rfl) ?_
    refine va_get (D := (dC, dI)) (ci := 9) (C := RX9) (T := TX9) (N := 14) hx hb hts hin9 hown hK hP 0 rfl rfl 0 (by decide) lk2 (fun _ h9 => h9) rfl dX9_learnMany_23 ?_
    refine lv_aload_n hx hb dX9_learnMany_26 rfl (lv_at hl 0 rfl) ?_
    refine va_get (D := (dC, dI)) (ci := 9) (C := RX9) (T := TX9) (N := 14) hx hb hts hin9 hown hK hP 0 rfl rfl 8 (by decide) lk3 (fun _ h9 => h9) rfl dX9_learnMany_27 ?_
    refine xg_v (b := ad 6) (As := [.ref (ad 1), .ref (ad 8)]) (rest := []) ⟨hx, hb, hml, hown, hts⟩ (x_run0 l dC dI aC ad cap hI hcb vx R Fx Gx A (by rw [hR.2.1 0 (by decide)]; exact hE) ((hR.1 0 (by decide)).trans hA) (flF (F 0) R (ntS F G) n).1 hT.1 (by have h9 := flF_nd (E := F 0) (R := R) (T := ntS F G) (n := n) hl4; omega) h16) (cwV 2 hts gX9_learnMany_X0_run rfl rfl rfl (by decide +kernel) ⟨Nat.le_of_ble_eq_true rfl, Nat.le_of_ble_eq_true rfl⟩) (xPre (q0 := 6) (ci := 0) rfl rfl hK hZ hP) hS hA0 (cs_mono hcp) rfl hl.1 rfl (Nat.le_of_ble_eq_true rfl) dX9_learnMany_30 (xg_le hcb (by decide) (by decide)) (fun ad cap v2 R2 F2 G2 Z S H locs h_30 hgr hZ hP hA0 hS => ?_)
    obtain ⟨hI, hq, hcp2, hcb⟩ := hgr
    rw [← hq 0 (by omega)] at hl
    have hAd : ∀ k, k < 38 ∨ 50 ≤ k → ad k = a0 k := fun k h => (hq k h).trans (hAd k h)
    have hcp : ∀ j, j < 6 → c0 j ≤ cap j := fun j h => Nat.le_trans (hcp j h) (hcp2 j h)
    obtain ⟨vy, Gy, hu_30, hM, hvy, hGy⟩ := h_30
    rw [hR.2.1 0 (by decide)] at hM
    have hP : va_P (dC, dI) vwCl (wsX aC ad cap vy Z S Fx Gy) H := by cases hu_30; exact hP
    have hZ : xOK Z S R := by cases hu_30; exact hZ
    refine lv_aload_n hx hb dX9_learnMany_33 rfl (lv_at hl 0 rfl) ?_
    refine lv_iconst (v := nI 1) hx hb dX9_learnMany_34 (by decide) ?_
    refine va_put (D := (dC, dI)) (ci := 9) (v := .int (nI 1)) (ty := .boolean) (C := RX9) (T := TX9) (N := 14) hx hb hts hin9 tyX9 tyX9_ok nmX9 hown hK hP ((wsX_D hI).weaken (fun _ _ _ h => hA0 _ h)) hS 0 rfl rfl 9 (by decide) lk0 (fun _ h9 => h9) rfl (by decide +kernel) rfl rfl (Nat.le_of_ble_eq_true rfl) dX9_learnMany_35 (fun H locs hP _ hS => ?_)
    have hP : va_P (dC, dI) vwCl (wsX aC ad cap (va_up vy 2 (nI 1)) Z S Fx Gy) H := hP
    have hcs := cs_le hcb
    subst hQ
    exact xg_vret hx hb hret hlocks hK hZ hP hA0 hS ⟨hI, hAd, hcp, hcb⟩ (⟨_, _, _, rfl, ⟨fun k h1 h2 h3 => by rw [upn (by omega)]; exact (hvy k (by omega)).trans (hR.1 k (by omega)), hR.2.1, fun k h1 h2 => (hGy k (by omega) (by omega)).trans (hR.2.2 k (by omega))⟩, fun j h1 h2 => by rw [hM j h1 h2, SgT_of hT]; exact hCM _ j h1 h2, (upn (by decide)).trans ((hvy 3 (by decide)).trans (hR.1 3 (by decide))), (hGy 1 (by decide) (by decide)).trans (hR.2.2 1 (by decide))⟩) (by omega) (by omega) ha0 hc0 dX9_learnMany_38

set_option maxHeartbeats 1000000 in
set_option maxRecDepth 100000 in
/-- learnDual -/
theorem x_learnDual (l : Launch) (dC : Nat → ClassId) (dI : Nat → Nat → Nat) (aC : Nat → ClassId) (ad cap : Nat → Nat) (hI : xI ad) (hcb : ∀ j, j < 6 → cap j ≤ 8192) (v : Nat → Int32) (R : Nat → List Int32) (F : Nat → Nat → Int32) (G : Nat → Nat → Int64) (A : Nat) (hE : vE A (F 0)) (hA : v 0 = nI A) (n : Nat) (hn : v 1 = nI n) (hn8 : n ≤ 8) (h5 : ∀ j, j < n → (R (10 + j)).length = 5) (h16 : ∀ j, j < 6 → 16 ≤ cap j) (CM : Nat → Int64) (hCM : ∀ T0 j, 1 ≤ j → j ≤ 6 → SgT (dlN R n A T0) (F 0) A j = CM j) (hc : ¬ v 3 = 0 → ∀ j, 1 ≤ j → j ≤ 6 → G 1 j = CM j) : Met l yX9_learnDual wsX9_learnDual ({ frames := 7, cells := 253952, slots := 1015808, locals := 218 } : Room) (va_Pc [.ref (ad 0)] (XB dC dI aC ad cap (v, R, F, G))) (GQv dC dI aC ad cap (fun cap1 u => ∃ v1 F1 G1, (v1, R, F1, G1) = u ∧ lRel v v1 F F1 G G1 ∧ (∀ j, 1 ≤ j → j ≤ 6 → G1 1 j = CM j) ∧ v1 2 = v 2 ∧ G1 0 = G 0)) 253952 1015808 (xA ad) := by
  refine Met.ofW (cc := cX9_learnDual) (maxL := 1) (ret := none) (by decide) rfl ?_
  intro p e s m args below meth c s₁ B hml hv
  obtain ⟨rfl, hK, Z, S, hZ, hP⟩ := hv
  have hx := B.exec
  have hb := B.bytes
  have hret := B.returns
  have hts := atoms_spec (ws := wsX9_learnDual) B.pre
  have hown : s.vm.findClass RX9 = some m.cls := findClass_of_methodNamed B.named
  have hlocks := B.notSynchronized
  dsimp only at hZ hP
  have lk0 := hts (.fieldLink RX9 245 "LeafTrees" "dualKnown" "Z") (by decide +kernel)
  have lk1 := hts (.fieldLink RX9 51 "LeafTrees" "census" "LLeafTrees$Census;") (by decide +kernel)
  have lk2 := hts (.fieldLink RX9 10 "LeafTrees" "world" "LLeafTrees$World;") (by decide +kernel)
  have lk3 := hts (.fieldLink RX9 66 "LeafTrees" "dualMany" "[J") (by decide +kernel)
  have hin9 : ∀ w ∈ u_ws RX9 TX9 14, w ∈ wsX9_learnDual := by decide +kernel
  obtain ⟨a0, ha0⟩ : ∃ a0, a0 = ad := ⟨ad, rfl⟩
  obtain ⟨c0, hc0⟩ : ∃ c0, c0 = cap := ⟨cap, rfl⟩
  have hAd : ∀ k, k < 38 ∨ 50 ≤ k → ad k = a0 k := fun k _ => by rw [ha0]
  have hcp : ∀ j, j < 6 → c0 j ≤ cap j := fun j _ => by rw [hc0]; exact Nat.le_refl _
  have hA0 : ∀ q, xA ad q → xG a0 s.heap.size q := fun q h => Or.inl (by rw [ha0]; exact h)
  have hS : va_S (xG a0 s.heap.size) s.heap s.heap [] := va_S.rf
  have hl := lv_entry [.ref (ad 0)] (n := 1) (Nat.le_of_ble_eq_true rfl)
  rw [lg_entry_eq]
  generalize (lg_sl [.ref (ad 0)] ++ List.replicate (1 - (lg_sl [.ref (ad 0)]).length) Slot.unset).toArray = ls at hl ⊢
  have hl : lv_has ls 1 [(0, .ref (ad 0))] := hl
  generalize ([.ref (ad 0)] : List Value).toArray = ag at hts lk0 lk1 lk2 lk3 ⊢
  refine nx_Q (R := ({ frames := 7, cells := 253952, slots := 1015808, locals := 218 } : Room)) (fun Q hQ => ?_)
  refine xg_more (cells' := cs cap - cs c0) (slots' := 4 * (cs cap - cs c0)) (Nat.zero_le _) (Nat.zero_le _) ?_
  refine lv_aload_n hx hb dX9_learnDual_0 rfl (lv_at hl 0 rfl) ?_
  refine va_get (D := (dC, dI)) (ci := 9) (C := RX9) (T := TX9) (N := 14) hx hb hts hin9 hown hK hP 0 rfl rfl 11 (by decide) lk0 (fun _ h9 => h9) rfl dX9_learnDual_1 ?_
  refine lv_if_ne (tgt := 38) hx hb dX9_learnDual_4 (by decide) (fun c_4 => ?_) (fun c_4 => ?_)
  · skip
    have hcs := cs_le hcb
    subst hQ
    exact xg_vret hx hb hret hlocks hK hZ hP hA0 hS ⟨hI, hAd, hcp, hcb⟩ (⟨v, F, G, rfl, lRel_rf, hc c_4, rfl, rfl⟩) (by omega) (by omega) ha0 hc0 dX9_learnDual_38
  · skip
    refine lv_aload_n hx hb dX9_learnDual_7 rfl (lv_at hl 0 rfl) ?_
    refine va_get (D := (dC, dI)) (ci := 9) (C := RX9) (T := TX9) (N := 14) hx hb hts hin9 hown hK hP 0 rfl rfl 6 (by decide) lk1 (fun _ h9 => h9) rfl dX9_learnDual_8 ?_
    refine lv_aload_n hx hb dX9_learnDual_11 rfl (lv_at hl 0 rfl) ?_
    refine va_get (D := (dC, dI)) (ci := 9) (C := RX9) (T := TX9) (N := 14) hx hb hts hin9 hown hK hP 0 rfl rfl 0 (by decide) lk2 (fun _ h9 => h9) rfl dX9_learnDual_12 ?_
    refine xh_v (b := ad 6) (As := [.ref (ad 1)]) (rest := []) ⟨hx, hb, hml, hown, hts⟩ (x_forbidAllBut l dC dI aC ad cap hI v R F G A hE hA n hn hn8 h5) (cwV 1 hts gX9_learnDual_X0_forbidAllButLefts rfl rfl rfl (by decide +kernel) ⟨Nat.le_of_ble_eq_true rfl, Nat.le_of_ble_eq_true rfl⟩) (xPre (q0 := 6) (ci := 0) rfl rfl hK hZ hP) hS hA0 rfl hl.1 rfl (Nat.le_of_ble_eq_true rfl) dX9_learnDual_15 (xg_le (mc := 0) (ms := 0) hcb (by decide) (by decide)) (fun v1 R1 F1 G1 Z S H locs h_15 hZ hP hS => ?_)
    obtain ⟨vx, Fx, Gx, hu_15, hT, hR⟩ := h_15
    have hP : va_P (dC, dI) vwCl (wsX aC ad cap vx Z S Fx Gx) H := by cases hu_15; exact hP
    have hZ : xOK Z S R := by cases hu_15; exact hZ
    refine lv_aload_n hx hb dX9_learnDual_18 rfl (lv_at hl 0 rfl) ?_
    refine va_get (D := (dC, dI)) (ci := 9) (C := RX9) (T := TX9) (N := 14) hx hb hts hin9 hown hK hP 0 rfl rfl 6 (by decide) lk1 (fun _ h9 => h9) rfl dX9_learnDual_19 ?_
    refine lv_aload_n hx hb dX9_learnDual_22 rfl (lv_at hl 0 rfl) ?_
    refine va_get (D := (dC, dI)) (ci := 9) (C := RX9) (T := TX9) (N := 14) hx hb hts hin9 hown hK hP 0 rfl rfl 0 (by decide) lk2 (fun _ h9 => h9) rfl dX9_learnDual_23 ?_
    refine lv_aload_n hx hb dX9_learnDual_26 rfl (lv_at hl 0 rfl) ?_
    refine va_get (D := (dC, dI)) (ci := 9) (C := RX9) (T := TX9) (N := 14) hx hb hts hin9 hown hK hP 0 rfl rfl 10 (by decide) lk3 (fun _ h9 => h9) rfl dX9_learnDual_27 ?_
    refine xg_v (b := ad 6) (As := [.ref (ad 1), .ref (ad 9)]) (rest := []) ⟨hx, hb, hml, hown, hts⟩ (x_run1 l dC dI aC ad cap hI hcb vx R Fx Gx A (by rw [hR.2.1 0 (by decide)]; exact hE) ((hR.1 0 (by decide)).trans hA) (dlN R n A (ntS F G)).1 hT.1 (by have h9 := dcN_nd (R := R) (n := n) (A := A) (T := daN (ntS F G) A) (a := A); rw [daN_nd] at h9; have h8 := hE.1; have h7 : A = 0 ∨ A = 1 ∨ A = 2 ∨ A = 3 ∨ A = 4 := (by omega); show (dcN R n A (daN (ntS F G) A) A).1 ≤ 36; rcases h7 with h | h | h | h | h <;> subst h <;> omega) h16) (cwV 2 hts gX9_learnDual_X0_run rfl rfl rfl (by decide +kernel) ⟨Nat.le_of_ble_eq_true rfl, Nat.le_of_ble_eq_true rfl⟩) (xPre (q0 := 6) (ci := 0) rfl rfl hK hZ hP) hS hA0 (cs_mono hcp) rfl hl.1 rfl (Nat.le_of_ble_eq_true rfl) dX9_learnDual_30 (xg_le hcb (by decide) (by decide)) (fun ad cap v2 R2 F2 G2 Z S H locs h_30 hgr hZ hP hA0 hS => ?_)
    obtain ⟨hI, hq, hcp2, hcb⟩ := hgr
    rw [← hq 0 (by omega)] at hl
    have hAd : ∀ k, k < 38 ∨ 50 ≤ k → ad k = a0 k := fun k h => (hq k h).trans (hAd k h)
    have hcp : ∀ j, j < 6 → c0 j ≤ cap j := fun j h => Nat.le_trans (hcp j h) (hcp2 j h)
    obtain ⟨vy, Gy, hu_30, hM, hvy, hGy⟩ := h_30
    rw [hR.2.1 0 (by decide)] at hM
    have hP : va_P (dC, dI) vwCl (wsX aC ad cap vy Z S Fx Gy) H := by cases hu_30; exact hP
    have hZ : xOK Z S R := by cases hu_30; exact hZ
    refine lv_aload_n hx hb dX9_learnDual_33 rfl (lv_at hl 0 rfl) ?_
    refine lv_iconst (v := nI 1) hx hb dX9_learnDual_34 (by decide) ?_
    refine va_put (D := (dC, dI)) (ci := 9) (v := .int (nI 1)) (ty := .boolean) (C := RX9) (T := TX9) (N := 14) hx hb hts hin9 tyX9 tyX9_ok nmX9 hown hK hP ((wsX_D hI).weaken (fun _ _ _ h => hA0 _ h)) hS 0 rfl rfl 11 (by decide) lk0 (fun _ h9 => h9) rfl (by decide +kernel) rfl rfl (Nat.le_of_ble_eq_true rfl) dX9_learnDual_35 (fun H locs hP _ hS => ?_)
    have hP : va_P (dC, dI) vwCl (wsX aC ad cap (va_up vy 3 (nI 1)) Z S Fx Gy) H := hP
    have hcs := cs_le hcb
    subst hQ
    exact xg_vret hx hb hret hlocks hK hZ hP hA0 hS ⟨hI, hAd, hcp, hcb⟩ (⟨_, _, _, rfl, ⟨fun k h1 h2 h3 => by rw [upn (by omega)]; exact (hvy k (by omega)).trans (hR.1 k (by omega)), hR.2.1, fun k h1 h2 => (hGy k (by omega) (by omega)).trans (hR.2.2 k (by omega))⟩, fun j h1 h2 => by rw [hM j h1 h2, SgT_of hT]; exact hCM _ j h1 h2, (upn (by decide)).trans ((hvy 2 (by decide)).trans (hR.1 2 (by decide))), (hGy 0 (by decide) (by decide)).trans (hR.2.2 0 (by decide))⟩) (by omega) (by omega) ha0 hc0 dX9_learnDual_38

set_option maxHeartbeats 1000000 in
set_option maxRecDepth 100000 in
/-- howMany -/
theorem x_howMany (l : Launch) (dC : Nat → ClassId) (dI : Nat → Nat → Nat) (aC : Nat → ClassId) (ad cap : Nat → Nat) (hI : xI ad) (hcb : ∀ j, j < 6 → cap j ≤ 8192) (v : Nat → Int32) (R : Nat → List Int32) (F : Nat → Nat → Int32) (G : Nat → Nat → Int64) (A : Nat) (hE : vE A (F 0)) (hA : v 0 = nI A) (n : Nat) (hn : v 1 = nI n) (hn8 : n ≤ 8) (hTl : ∀ j, j < n → isT (F 0) (R (10 + j))) (hVl : ∀ j, j < n → vR A (R (10 + j))) (hl4 : ∀ j, j < n → (R (10 + j)).length - lvs (R (10 + j)) ≤ 4) (h16 : ∀ j, j < 6 → 16 ≤ cap j) (CM : Nat → Int64) (hCM : ∀ T0 j, 1 ≤ j → j ≤ 6 → SgT (flF (F 0) R T0 n) (F 0) A j = CM j) (hc : ¬ v 2 = 0 → ∀ j, 1 ≤ j → j ≤ 6 → G 0 j = CM j) (a : Int32) : Met l yX9_howMany wsX9_howMany ({ frames := 8, cells := 303104, slots := 1212416, locals := 238 } : Room) (va_Pc [.ref (ad 0), .int a] (XB dC dI aC ad cap (v, R, F, G))) (GQl dC dI aC ad cap (fun x cap1 u => ∃ v1 F1 G1, (v1, R, F1, G1) = u ∧ lRel v v1 F F1 G G1 ∧ (¬ v1 2 = 0 → ∀ j, 1 ≤ j → j ≤ 6 → G1 0 j = CM j) ∧ v1 3 = v 3 ∧ G1 1 = G 1 ∧ x = (if rN6 a then CM a.toNatClampNeg else -2))) 303104 1212416 (xA ad) := by
  refine Met.ofW (cc := cX9_howMany) (maxL := 2) (ret := (some .long)) (by decide) rfl ?_
  intro p e s m args below meth c s₁ B hml hv
  obtain ⟨rfl, hK, Z, S, hZ, hP⟩ := hv
  have hx := B.exec
  have hb := B.bytes
  have hret := B.returns
  have hts := atoms_spec (ws := wsX9_howMany) B.pre
  have hown : s.vm.findClass RX9 = some m.cls := findClass_of_methodNamed B.named
  have hlocks := B.notSynchronized
  dsimp only at hZ hP
  have lk0 := hts (.fieldLink RX9 62 "LeafTrees" "many" "[J") (by decide +kernel)
  have lk1 := hts (.constantLong RX9 177 (-2)) (by decide +kernel)
  have hin9 : ∀ w ∈ u_ws RX9 TX9 14, w ∈ wsX9_howMany := by decide +kernel
  obtain ⟨a0, ha0⟩ : ∃ a0, a0 = ad := ⟨ad, rfl⟩
  obtain ⟨c0, hc0⟩ : ∃ c0, c0 = cap := ⟨cap, rfl⟩
  have hAd : ∀ k, k < 38 ∨ 50 ≤ k → ad k = a0 k := fun k _ => by rw [ha0]
  have hcp : ∀ j, j < 6 → c0 j ≤ cap j := fun j _ => by rw [hc0]; exact Nat.le_refl _
  have hA0 : ∀ q, xA ad q → xG a0 s.heap.size q := fun q h => Or.inl (by rw [ha0]; exact h)
  have hS : va_S (xG a0 s.heap.size) s.heap s.heap [] := va_S.rf
  have hl := lv_entry [.ref (ad 0), .int a] (n := 2) (Nat.le_of_ble_eq_true rfl)
  rw [lg_entry_eq]
  generalize (lg_sl [.ref (ad 0), .int a] ++ List.replicate (2 - (lg_sl [.ref (ad 0), .int a]).length) Slot.unset).toArray = ls at hl ⊢
  have hl : lv_has ls 2 [(0, .ref (ad 0)), (1, .int a)] := hl
  generalize ([.ref (ad 0), .int a] : List Value).toArray = ag at hts lk0 lk1 ⊢
  refine nx_Q (R := ({ frames := 8, cells := 303104, slots := 1212416, locals := 238 } : Room)) (fun Q hQ => ?_)
  refine xg_more (cells' := cs cap - cs c0) (slots' := 4 * (cs cap - cs c0)) (Nat.zero_le _) (Nat.zero_le _) ?_
  refine lv_iload_n hx hb dX9_howMany_0 rfl (lv_at hl 1 rfl) ?_
  refine ms_i (As := [.int a]) (rest := []) ⟨hx, hb, hml, hown, hts⟩ (x_isLeafNumber l a) (va_cwS 1 hts gX9_howMany_X9_isLeafNumber rfl rfl rfl (by decide +kernel) ⟨Nat.le_of_ble_eq_true rfl, Nat.le_of_ble_eq_true rfl⟩) rfl hl.1 rfl (Nat.le_of_ble_eq_true rfl) dX9_howMany_1 (xg_le (mc := 0) (ms := 0) hcb (by decide) (by decide)) (fun x_1 h_1 => ?_)
  subst h_1
  refine nx_bn (tgt := 11) hx hb dX9_howMany_4 (by decide) (fun c_4 => ?_) (fun c_4 => ?_)
  · skip
    obtain ⟨q, hq1, hq6, rfl⟩ := rN6_of c_4
    have hcq := nI_clamp (n := q) (by omega)
    refine lv_aload_n hx hb dX9_howMany_11 rfl (lv_at hl 0 rfl) ?_
    refine xg_v (b := ad 0) (As := []) (rest := []) ⟨hx, hb, hml, hown, hts⟩ (x_learnMany l dC dI aC ad cap hI hcb v R F G A hE hA n hn hn8 hTl hVl hl4 h16 CM hCM hc) (cwV 0 hts gX9_howMany_X9_learnMany rfl rfl rfl (by decide +kernel) ⟨Nat.le_of_ble_eq_true rfl, Nat.le_of_ble_eq_true rfl⟩) (xPre (q0 := 0) (ci := 9) rfl rfl hK hZ hP) hS hA0 (cs_mono hcp) rfl hl.1 rfl (Nat.le_of_ble_eq_true rfl) dX9_howMany_12 (xg_le hcb (by decide) (by decide)) (fun ad cap v1 R1 F1 G1 Z S H locs h_12 hgr hZ hP hA0 hS => ?_)
    obtain ⟨hI, hq, hcp2, hcb⟩ := hgr
    rw [← hq 0 (by omega)] at hl
    have hAd : ∀ k, k < 38 ∨ 50 ≤ k → ad k = a0 k := fun k h => (hq k h).trans (hAd k h)
    have hcp : ∀ j, j < 6 → c0 j ≤ cap j := fun j h => Nat.le_trans (hcp j h) (hcp2 j h)
    obtain ⟨vz, Fz, Gz, hu_12, hL, hM, ho1, ho2⟩ := h_12
    have hP : va_P (dC, dI) vwCl (wsX aC ad cap vz Z S Fz Gz) H := by cases hu_12; exact hP
    have hZ : xOK Z S R := by cases hu_12; exact hZ
    refine lv_aload_n hx hb dX9_howMany_15 rfl (lv_at hl 0 rfl) ?_
    refine va_get (D := (dC, dI)) (ci := 9) (C := RX9) (T := TX9) (N := 14) hx hb hts hin9 hown hK hP 0 rfl rfl 8 (by decide) lk0 (fun _ h9 => h9) rfl dX9_howMany_16 ?_
    refine lv_iload_n hx hb dX9_howMany_19 rfl (lv_at hl 1 rfl) ?_
    refine nx_lald hx hb hK hP 8 1 rfl rfl (i := q) (by omega) (by decide) dX9_howMany_20 ?_
    have hcs := cs_le hcb
    subst hQ
    exact xg_lret (r := Gz 0 q) hx hb hret hlocks hK hZ hP hA0 hS ⟨hI, hAd, hcp, hcb⟩ (⟨vz, Fz, Gz, rfl, hL, fun _ => hM, ho1, ho2, by rw [if_pos c_4, hcq]; exact hM q hq1 hq6⟩) (by omega) (by omega) ha0 hc0 dX9_howMany_21
  · skip
    refine lv_ldc2 hx hb hown lk1 dX9_howMany_7 ?_
    have hcs := cs_le hcb
    subst hQ
    exact xg_lret (r := (-2)) hx hb hret hlocks hK hZ hP hA0 hS ⟨hI, hAd, hcp, hcb⟩ (⟨v, F, G, rfl, lRel_rf, hc, rfl, rfl, by rw [if_neg c_4]⟩) (by omega) (by omega) ha0 hc0 dX9_howMany_10

set_option maxHeartbeats 1000000 in
set_option maxRecDepth 100000 in
/-- turned -/
theorem x_turned (l : Launch) (dC : Nat → ClassId) (dI : Nat → Nat → Nat) (aC : Nat → ClassId) (ad cap : Nat → Nat) (hI : xI ad) (hcb : ∀ j, j < 6 → cap j ≤ 8192) (v : Nat → Int32) (R : Nat → List Int32) (F : Nat → Nat → Int32) (G : Nat → Nat → Int64) (A : Nat) (hE : vE A (F 0)) (hA : v 0 = nI A) (n : Nat) (hn : v 1 = nI n) (hn8 : n ≤ 8) (hTl : ∀ j, j < n → isT (F 0) (R (10 + j))) (hVl : ∀ j, j < n → vR A (R (10 + j))) (hl4 : ∀ j, j < n → (R (10 + j)).length - lvs (R (10 + j)) ≤ 4) (h16 : ∀ j, j < 6 → 16 ≤ cap j) (CM : Nat → Int64) (hCM : ∀ T0 j, 1 ≤ j → j ≤ 6 → SgT (flF (F 0) R T0 n) (F 0) A j = CM j) (hc : ¬ v 2 = 0 → ∀ j, 1 ≤ j → j ≤ 6 → G 0 j = CM j) (hsr : srZ G) (a : Int32) : Met l yX9_turned wsX9_turned ({ frames := 8, cells := 303104, slots := 1212416, locals := 238 } : Room) (va_Pc [.ref (ad 0), .int a] (XB dC dI aC ad cap (v, R, F, G))) (GQl dC dI aC ad cap (fun x cap1 u => ∃ v1 F1 G1, (v1, R, F1, G1) = u ∧ lRel v v1 F F1 (fun _ => G 1) (fun _ => G 1) ∧ srZ G1 ∧ (¬ v1 2 = 0 → ∀ j, 1 ≤ j → j ≤ 6 → G1 0 j = CM j) ∧ v1 3 = v 3 ∧ G1 1 = G 1 ∧ x = (if rN6 a then tnF CM 6 a.toNatClampNeg else -2))) 303104 1212416 (xA ad) := by
  refine Met.ofW (cc := cX9_turned) (maxL := 2) (ret := (some .long)) (by decide) rfl ?_
  intro p e s m args below meth c s₁ B hml hv
  obtain ⟨rfl, hK, Z, S, hZ, hP⟩ := hv
  have hx := B.exec
  have hb := B.bytes
  have hret := B.returns
  have hts := atoms_spec (ws := wsX9_turned) B.pre
  have hown : s.vm.findClass RX9 = some m.cls := findClass_of_methodNamed B.named
  have hlocks := B.notSynchronized
  dsimp only at hZ hP
  have lk0 := hts (.fieldLink RX9 58 "LeafTrees" "series" "LLeafTrees$Series;") (by decide +kernel)
  have lk1 := hts (.fieldLink RX9 62 "LeafTrees" "many" "[J") (by decide +kernel)
  have lk2 := hts (.fieldLink RX9 213 "LeafTrees$Series" "turnedAbout" "[J") (by decide +kernel)
  have lk3 := hts (.constantLong RX9 177 (-2)) (by decide +kernel)
  have hin5 : ∀ w ∈ u_ws RX5 TX5 2, w ∈ wsX9_turned := by decide +kernel
  have hin9 : ∀ w ∈ u_ws RX9 TX9 14, w ∈ wsX9_turned := by decide +kernel
  obtain ⟨a0, ha0⟩ : ∃ a0, a0 = ad := ⟨ad, rfl⟩
  obtain ⟨c0, hc0⟩ : ∃ c0, c0 = cap := ⟨cap, rfl⟩
  have hAd : ∀ k, k < 38 ∨ 50 ≤ k → ad k = a0 k := fun k _ => by rw [ha0]
  have hcp : ∀ j, j < 6 → c0 j ≤ cap j := fun j _ => by rw [hc0]; exact Nat.le_refl _
  have hA0 : ∀ q, xA ad q → xG a0 s.heap.size q := fun q h => Or.inl (by rw [ha0]; exact h)
  have hS : va_S (xG a0 s.heap.size) s.heap s.heap [] := va_S.rf
  have hl := lv_entry [.ref (ad 0), .int a] (n := 2) (Nat.le_of_ble_eq_true rfl)
  rw [lg_entry_eq]
  generalize (lg_sl [.ref (ad 0), .int a] ++ List.replicate (2 - (lg_sl [.ref (ad 0), .int a]).length) Slot.unset).toArray = ls at hl ⊢
  have hl : lv_has ls 2 [(0, .ref (ad 0)), (1, .int a)] := hl
  generalize ([.ref (ad 0), .int a] : List Value).toArray = ag at hts lk0 lk1 lk2 lk3 ⊢
  refine nx_Q (R := ({ frames := 8, cells := 303104, slots := 1212416, locals := 238 } : Room)) (fun Q hQ => ?_)
  refine xg_more (cells' := cs cap - cs c0) (slots' := 4 * (cs cap - cs c0)) (Nat.zero_le _) (Nat.zero_le _) ?_
  refine lv_iload_n hx hb dX9_turned_0 rfl (lv_at hl 1 rfl) ?_
  refine ms_i (As := [.int a]) (rest := []) ⟨hx, hb, hml, hown, hts⟩ (x_isLeafNumber l a) (va_cwS 1 hts gX9_turned_X9_isLeafNumber rfl rfl rfl (by decide +kernel) ⟨Nat.le_of_ble_eq_true rfl, Nat.le_of_ble_eq_true rfl⟩) rfl hl.1 rfl (Nat.le_of_ble_eq_true rfl) dX9_turned_1 (xg_le (mc := 0) (ms := 0) hcb (by decide) (by decide)) (fun x_1 h_1 => ?_)
  subst h_1
  refine nx_bn (tgt := 11) hx hb dX9_turned_4 (by decide) (fun c_4 => ?_) (fun c_4 => ?_)
  · skip
    obtain ⟨q, hq1, hq6, rfl⟩ := rN6_of c_4
    have hcq := nI_clamp (n := q) (by omega)
    refine lv_aload_n hx hb dX9_turned_11 rfl (lv_at hl 0 rfl) ?_
    refine xg_v (b := ad 0) (As := []) (rest := []) ⟨hx, hb, hml, hown, hts⟩ (x_learnMany l dC dI aC ad cap hI hcb v R F G A hE hA n hn hn8 hTl hVl hl4 h16 CM hCM hc) (cwV 0 hts gX9_turned_X9_learnMany rfl rfl rfl (by decide +kernel) ⟨Nat.le_of_ble_eq_true rfl, Nat.le_of_ble_eq_true rfl⟩) (xPre (q0 := 0) (ci := 9) rfl rfl hK hZ hP) hS hA0 (cs_mono hcp) rfl hl.1 rfl (Nat.le_of_ble_eq_true rfl) dX9_turned_12 (xg_le hcb (by decide) (by decide)) (fun ad cap v1 R1 F1 G1 Z S H locs h_12 hgr hZ hP hA0 hS => ?_)
    obtain ⟨hI, hq, hcp2, hcb⟩ := hgr
    rw [← hq 0 (by omega)] at hl
    have hAd : ∀ k, k < 38 ∨ 50 ≤ k → ad k = a0 k := fun k h => (hq k h).trans (hAd k h)
    have hcp : ∀ j, j < 6 → c0 j ≤ cap j := fun j h => Nat.le_trans (hcp j h) (hcp2 j h)
    obtain ⟨vz, Fz, Gz, hu_12, hL, hM, ho1, ho2⟩ := h_12
    have hP : va_P (dC, dI) vwCl (wsX aC ad cap vz Z S Fz Gz) H := by cases hu_12; exact hP
    have hZ : xOK Z S R := by cases hu_12; exact hZ
    refine lv_aload_n hx hb dX9_turned_15 rfl (lv_at hl 0 rfl) ?_
    refine va_get (D := (dC, dI)) (ci := 9) (C := RX9) (T := TX9) (N := 14) hx hb hts hin9 hown hK hP 0 rfl rfl 7 (by decide) lk0 (fun _ h9 => h9) rfl dX9_turned_16 ?_
    refine lv_aload_n hx hb dX9_turned_19 rfl (lv_at hl 0 rfl) ?_
    refine va_get (D := (dC, dI)) (ci := 9) (C := RX9) (T := TX9) (N := 14) hx hb hts hin9 hown hK hP 0 rfl rfl 8 (by decide) lk1 (fun _ h9 => h9) rfl dX9_turned_20 ?_
    refine xh_v (b := ad 7) (As := [.ref (ad 8)]) (rest := []) ⟨hx, hb, hml, hown, hts⟩ (x_turn l dC dI aC ad cap hI vz R Fz Gz (fun k j h1 h2 h3 h4 => by rw [hL.2.2 (7 + k) (by omega) (by omega)]; exact hsr k j h1 h2 h3 h4)) (cwV 1 hts gX9_turned_X5_turn rfl rfl rfl (by decide +kernel) ⟨Nat.le_of_ble_eq_true rfl, Nat.le_of_ble_eq_true rfl⟩) (xPre (q0 := 7) (ci := 5) rfl rfl hK hZ hP) hS hA0 rfl hl.1 rfl (Nat.le_of_ble_eq_true rfl) dX9_turned_23 (xg_le (mc := 0) (ms := 0) hcb (by decide) (by decide)) (fun v2 R2 F2 G2 Z S H locs h_23 hZ hP hS => ?_)
    obtain ⟨Gt, hu_23, hts1, hts2, hts3⟩ := h_23
    have hP : va_P (dC, dI) vwCl (wsX aC ad cap vz Z S Fz Gt) H := by cases hu_23; exact hP
    have hZ : xOK Z S R := by cases hu_23; exact hZ
    refine lv_aload_n hx hb dX9_turned_26 rfl (lv_at hl 0 rfl) ?_
    refine va_get (D := (dC, dI)) (ci := 9) (C := RX9) (T := TX9) (N := 14) hx hb hts hin9 hown hK hP 0 rfl rfl 7 (by decide) lk0 (fun _ h9 => h9) rfl dX9_turned_27 ?_
    refine va_get (D := (dC, dI)) (ci := 5) (C := RX5) (T := TX5) (N := 2) hx hb hts hin5 hown hK hP 7 rfl rfl 0 (by decide) lk2 (fun _ h9 => h9) rfl dX9_turned_30 ?_
    refine lv_iload_n hx hb dX9_turned_33 rfl (lv_at hl 1 rfl) ?_
    refine nx_lald hx hb hK hP 22 1 rfl rfl (i := q) (by omega) (by decide) dX9_turned_34 ?_
    have hcs := cs_le hcb
    subst hQ
    exact xg_lret (r := Gt 6 q) hx hb hret hlocks hK hZ hP hA0 hS ⟨hI, hAd, hcp, hcb⟩ (⟨vz, Fz, Gt, rfl, ⟨hL.1, hL.2.1, fun _ _ _ => rfl⟩, hts2, fun _ j h1 h2 => by rw [hts3 0 (by omega)]; exact hM j h1 h2, ho1, by rw [hts3 1 (by omega)]; exact ho2, by rw [if_pos c_4, hcq, hts1 q hq1 hq6, tnF_congr 6 (c := Gz 0) (c' := CM) hM]⟩) (by omega) (by omega) ha0 hc0 dX9_turned_35
  · skip
    refine lv_ldc2 hx hb hown lk3 dX9_turned_7 ?_
    have hcs := cs_le hcb
    subst hQ
    exact xg_lret (r := (-2)) hx hb hret hlocks hK hZ hP hA0 hS ⟨hI, hAd, hcp, hcb⟩ (⟨v, F, G, rfl, lRel_rf, hsr, hc, rfl, rfl, by rw [if_neg c_4]⟩) (by omega) (by omega) ha0 hc0 dX9_turned_10

set_option maxHeartbeats 1000000 in
set_option maxRecDepth 100000 in
/-- dual -/
theorem x_dual (l : Launch) (dC : Nat → ClassId) (dI : Nat → Nat → Nat) (aC : Nat → ClassId) (ad cap : Nat → Nat) (hI : xI ad) (hcb : ∀ j, j < 6 → cap j ≤ 8192) (v : Nat → Int32) (R : Nat → List Int32) (F : Nat → Nat → Int32) (G : Nat → Nat → Int64) (A : Nat) (hE : vE A (F 0)) (hA : v 0 = nI A) (n : Nat) (hn : v 1 = nI n) (hn8 : n ≤ 8) (hTl : ∀ j, j < n → isT (F 0) (R (10 + j))) (hVl : ∀ j, j < n → vR A (R (10 + j))) (h5 : isDu A (F 0) R n (tnX v) = true → ∀ j, j < n → (R (10 + j)).length = 5) (h16 : ∀ j, j < 6 → 16 ≤ cap j) (CM : Nat → Int64) (hCM : isDu A (F 0) R n (tnX v) = true → ∀ T0 j, 1 ≤ j → j ≤ 6 → SgT (dlN R n A T0) (F 0) A j = CM j) (hc : ¬ v 3 = 0 → ∀ j, 1 ≤ j → j ≤ 6 → G 1 j = CM j) (a : Int32) : Met l yX9_dual wsX9_dual ({ frames := 8, cells := 303104, slots := 1212416, locals := 238 } : Room) (va_Pc [.ref (ad 0), .int a] (XB dC dI aC ad cap (v, R, F, G))) (GQl dC dI aC ad cap (fun x cap1 u => ∃ v1 F1 G1, (v1, R, F1, G1) = u ∧ lRel v v1 F F1 G G1 ∧ (¬ v1 3 = 0 → ∀ j, 1 ≤ j → j ≤ 6 → G1 1 j = CM j) ∧ v1 2 = v 2 ∧ G1 0 = G 0 ∧ x = (if rN6 a then (if isDu A (F 0) R n (tnX v) = true then CM a.toNatClampNeg else -3) else -2))) 303104 1212416 (xA ad) := by
  refine Met.ofW (cc := cX9_dual) (maxL := 2) (ret := (some .long)) (by decide) rfl ?_
  intro p e s m args below meth c s₁ B hml hv
  obtain ⟨rfl, hK, Z, S, hZ, hP⟩ := hv
  have hx := B.exec
  have hb := B.bytes
  have hret := B.returns
  have hts := atoms_spec (ws := wsX9_dual) B.pre
  have hown : s.vm.findClass RX9 = some m.cls := findClass_of_methodNamed B.named
  have hlocks := B.notSynchronized
  dsimp only at hZ hP
  have lk0 := hts (.fieldLink RX9 10 "LeafTrees" "world" "LLeafTrees$World;") (by decide +kernel)
  have lk1 := hts (.fieldLink RX9 66 "LeafTrees" "dualMany" "[J") (by decide +kernel)
  have lk2 := hts (.constantLong RX9 220 (-3)) (by decide +kernel)
  have lk3 := hts (.constantLong RX9 177 (-2)) (by decide +kernel)
  have hin9 : ∀ w ∈ u_ws RX9 TX9 14, w ∈ wsX9_dual := by decide +kernel
  obtain ⟨a0, ha0⟩ : ∃ a0, a0 = ad := ⟨ad, rfl⟩
  obtain ⟨c0, hc0⟩ : ∃ c0, c0 = cap := ⟨cap, rfl⟩
  have hAd : ∀ k, k < 38 ∨ 50 ≤ k → ad k = a0 k := fun k _ => by rw [ha0]
  have hcp : ∀ j, j < 6 → c0 j ≤ cap j := fun j _ => by rw [hc0]; exact Nat.le_refl _
  have hA0 : ∀ q, xA ad q → xG a0 s.heap.size q := fun q h => Or.inl (by rw [ha0]; exact h)
  have hS : va_S (xG a0 s.heap.size) s.heap s.heap [] := va_S.rf
  have hl := lv_entry [.ref (ad 0), .int a] (n := 2) (Nat.le_of_ble_eq_true rfl)
  rw [lg_entry_eq]
  generalize (lg_sl [.ref (ad 0), .int a] ++ List.replicate (2 - (lg_sl [.ref (ad 0), .int a]).length) Slot.unset).toArray = ls at hl ⊢
  have hl : lv_has ls 2 [(0, .ref (ad 0)), (1, .int a)] := hl
  generalize ([.ref (ad 0), .int a] : List Value).toArray = ag at hts lk0 lk1 lk2 lk3 ⊢
  refine nx_Q (R := ({ frames := 8, cells := 303104, slots := 1212416, locals := 238 } : Room)) (fun Q hQ => ?_)
  refine xg_more (cells' := cs cap - cs c0) (slots' := 4 * (cs cap - cs c0)) (Nat.zero_le _) (Nat.zero_le _) ?_
  refine lv_iload_n hx hb dX9_dual_0 rfl (lv_at hl 1 rfl) ?_
  refine ms_i (As := [.int a]) (rest := []) ⟨hx, hb, hml, hown, hts⟩ (x_isLeafNumber l a) (va_cwS 1 hts gX9_dual_X9_isLeafNumber rfl rfl rfl (by decide +kernel) ⟨Nat.le_of_ble_eq_true rfl, Nat.le_of_ble_eq_true rfl⟩) rfl hl.1 rfl (Nat.le_of_ble_eq_true rfl) dX9_dual_1 (xg_le (mc := 0) (ms := 0) hcb (by decide) (by decide)) (fun x_1 h_1 => ?_)
  subst h_1
  refine nx_bn (tgt := 11) hx hb dX9_dual_4 (by decide) (fun c_4 => ?_) (fun c_4 => ?_)
  · skip
    obtain ⟨q, hq1, hq6, rfl⟩ := rN6_of c_4
    have hcq := nI_clamp (n := q) (by omega)
    refine lv_aload_n hx hb dX9_dual_11 rfl (lv_at hl 0 rfl) ?_
    refine va_get (D := (dC, dI)) (ci := 9) (C := RX9) (T := TX9) (N := 14) hx hb hts hin9 hown hK hP 0 rfl rfl 0 (by decide) lk0 (fun _ h9 => h9) rfl dX9_dual_12 ?_
    refine xp_i (b := ad 1) (As := []) (rest := []) ⟨hx, hb, hml, hown, hts⟩ (x_hasDual l dC dI aC ad cap v R F G A hE hA n hn hn8 hTl hVl) (cwV 0 hts gX9_dual_X8_hasDual rfl rfl rfl (by decide +kernel) ⟨Nat.le_of_ble_eq_true rfl, Nat.le_of_ble_eq_true rfl⟩) (xPre (q0 := 1) (ci := 8) rfl rfl hK hZ hP) rfl hl.1 rfl (Nat.le_of_ble_eq_true rfl) dX9_dual_15 (xg_le (mc := 0) (ms := 0) hcb (by decide) (by decide)) (fun x_15 h_15 => ?_)
    refine nx_ti (y := bI (isDu A (F 0) R n (tnX v) = true)) h_15 ?_
    refine nx_bn (tgt := 25) hx hb dX9_dual_18 (by decide) (fun c_18 => ?_) (fun c_18 => ?_)
    · skip
      refine lv_aload_n hx hb dX9_dual_25 rfl (lv_at hl 0 rfl) ?_
      refine xg_v (b := ad 0) (As := []) (rest := []) ⟨hx, hb, hml, hown, hts⟩ (x_learnDual l dC dI aC ad cap hI hcb v R F G A hE hA n hn hn8 (h5 c_18) h16 CM (hCM c_18) hc) (cwV 0 hts gX9_dual_X9_learnDual rfl rfl rfl (by decide +kernel) ⟨Nat.le_of_ble_eq_true rfl, Nat.le_of_ble_eq_true rfl⟩) (xPre (q0 := 0) (ci := 9) rfl rfl hK hZ hP) hS hA0 (cs_mono hcp) rfl hl.1 rfl (Nat.le_of_ble_eq_true rfl) dX9_dual_26 (xg_le hcb (by decide) (by decide)) (fun ad cap v1 R1 F1 G1 Z S H locs h_26 hgr hZ hP hA0 hS => ?_)
      obtain ⟨hI, hq, hcp2, hcb⟩ := hgr
      rw [← hq 0 (by omega)] at hl
      have hAd : ∀ k, k < 38 ∨ 50 ≤ k → ad k = a0 k := fun k h => (hq k h).trans (hAd k h)
      have hcp : ∀ j, j < 6 → c0 j ≤ cap j := fun j h => Nat.le_trans (hcp j h) (hcp2 j h)
      obtain ⟨vz, Fz, Gz, hu_26, hL, hM, ho1, ho2⟩ := h_26
      have hP : va_P (dC, dI) vwCl (wsX aC ad cap vz Z S Fz Gz) H := by cases hu_26; exact hP
      have hZ : xOK Z S R := by cases hu_26; exact hZ
      refine lv_aload_n hx hb dX9_dual_29 rfl (lv_at hl 0 rfl) ?_
      refine va_get (D := (dC, dI)) (ci := 9) (C := RX9) (T := TX9) (N := 14) hx hb hts hin9 hown hK hP 0 rfl rfl 10 (by decide) lk1 (fun _ h9 => h9) rfl dX9_dual_30 ?_
      refine lv_iload_n hx hb dX9_dual_33 rfl (lv_at hl 1 rfl) ?_
      refine nx_lald hx hb hK hP 9 1 rfl rfl (i := q) (by omega) (by decide) dX9_dual_34 ?_
      have hcs := cs_le hcb
      subst hQ
      exact xg_lret (r := Gz 1 q) hx hb hret hlocks hK hZ hP hA0 hS ⟨hI, hAd, hcp, hcb⟩ (⟨vz, Fz, Gz, rfl, hL, fun _ => hM, ho1, ho2, by rw [if_pos c_4, if_pos c_18, hcq]; exact hM q hq1 hq6⟩) (by omega) (by omega) ha0 hc0 dX9_dual_35
    · skip
      refine lv_ldc2 hx hb hown lk2 dX9_dual_21 ?_
      have hcs := cs_le hcb
      subst hQ
      exact xg_lret (r := (-3)) hx hb hret hlocks hK hZ hP hA0 hS ⟨hI, hAd, hcp, hcb⟩ (⟨v, F, G, rfl, lRel_rf, hc, rfl, rfl, by rw [if_pos c_4, if_neg c_18]⟩) (by omega) (by omega) ha0 hc0 dX9_dual_24
  · skip
    refine lv_ldc2 hx hb hown lk3 dX9_dual_7 ?_
    have hcs := cs_le hcb
    subst hQ
    exact xg_lret (r := (-2)) hx hb hret hlocks hK hZ hP hA0 hS ⟨hI, hAd, hcp, hcb⟩ (⟨v, F, G, rfl, lRel_rf, hc, rfl, rfl, by rw [if_neg c_4]⟩) (by omega) (by omega) ha0 hc0 dX9_dual_10
