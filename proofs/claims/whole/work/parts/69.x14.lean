set_option maxHeartbeats 1000000 in
set_option maxRecDepth 100000 in
/-- Census.run -/
theorem x_run0 (l : Launch) (dC : Nat → ClassId) (dI : Nat → Nat → Nat) (aC : Nat → ClassId) (ad cap : Nat → Nat) (hI : xI ad) (hcb : ∀ j, j < 6 → cap j ≤ 8192) (v : Nat → Int32) (R : Nat → List Int32) (F : Nat → Nat → Int32) (G : Nat → Nat → Int64) (A : Nat) (hE : vE A (F 0)) (hA : v 0 = nI A) (nd : Nat) (hnd : v 10 = nI nd) (hn36 : nd ≤ 36) (h16 : ∀ j, j < 6 → 16 ≤ cap j) : Met l yX0_run wsX0_run ({ frames := 6, cells := 204800, slots := 819200, locals := 194 } : Room) (va_Pc [.ref (ad 6), .ref (ad 1), .ref (ad 8)] (XB dC dI aC ad cap (v, R, F, G))) (GQv dC dI aC ad cap (fun cap1 u => ∃ v1 G1, (v1, R, F, G1) = u ∧ (∀ n, 1 ≤ n → n ≤ 6 → G1 0 n = (Sg (fun b x y w => kdF (F 4) (G 3) (G 4) (G 5) b x y w nd) (G 26 0) (F 0) A) n (fun _ => 1)) ∧ (∀ k, k < 11 ∨ 17 ≤ k → v1 k = v k) ∧ ∀ k, k < 14 ∨ 26 ≤ k → k ≠ 0 → G1 k = G k)) 204800 819200 (xA ad) := by
  refine Met.ofW (cc := cX0_run) (maxL := 5) (ret := none) (by decide) rfl ?_
  intro p e s m args below meth c s₁ B hml hv
  obtain ⟨rfl, hK, Z, S, hZ, hP⟩ := hv
  have hx := B.exec
  have hb := B.bytes
  have hret := B.returns
  have hts := atoms_spec (ws := wsX0_run) B.pre
  have hown : s.vm.findClass RX0 = some m.cls := findClass_of_methodNamed B.named
  have hlocks := B.notSynchronized
  dsimp only at hZ hP
  have lk0 := hts (.fieldLink RX0 54 "LeafTrees$World" "acts" "I") (by decide +kernel)
  have hin8 : ∀ w ∈ u_ws RX8 TX8 4, w ∈ wsX0_run := by decide +kernel
  obtain ⟨a0, ha0⟩ : ∃ a0, a0 = ad := ⟨ad, rfl⟩
  obtain ⟨c0, hc0⟩ : ∃ c0, c0 = cap := ⟨cap, rfl⟩
  have hAd : ∀ k, k < 38 ∨ 50 ≤ k → ad k = a0 k := fun k _ => by rw [ha0]
  have hcp : ∀ j, j < 6 → c0 j ≤ cap j := fun j _ => by rw [hc0]; exact Nat.le_refl _
  have hA0 : ∀ q, xA ad q → xG a0 s.heap.size q := fun q h => Or.inl (by rw [ha0]; exact h)
  have hS : va_S (xG a0 s.heap.size) s.heap s.heap [] := va_S.rf
  have hl := lv_entry [.ref (ad 6), .ref (ad 1), .ref (ad 8)] (n := 5) (Nat.le_of_ble_eq_true rfl)
  rw [lg_entry_eq]
  generalize (lg_sl [.ref (ad 6), .ref (ad 1), .ref (ad 8)] ++ List.replicate (5 - (lg_sl [.ref (ad 6), .ref (ad 1), .ref (ad 8)]).length) Slot.unset).toArray = ls at hl ⊢
  have hl : lv_has ls 5 [(0, .ref (ad 6)), (1, .ref (ad 1)), (2, .ref (ad 8))] := hl
  generalize ([.ref (ad 6), .ref (ad 1), .ref (ad 8)] : List Value).toArray = ag at hts lk0 ⊢
  refine nx_Q (R := ({ frames := 6, cells := 204800, slots := 819200, locals := 194 } : Room)) (fun Q hQ => ?_)
  refine xg_more (cells' := cs cap - cs c0) (slots' := 4 * (cs cap - cs c0)) (Nat.zero_le _) (Nat.zero_le _) ?_
  have h16c : ∀ j, j < 6 → 16 ≤ c0 j := fun j h => by rw [hc0]; exact h16 j h
  have hA4 := hE.1
  refine lv_aload_n hx hb dX0_run_0 rfl (lv_at hl 0 rfl) ?_
  refine xg_v (b := ad 6) (As := []) (rest := []) ⟨hx, hb, hml, hown, hts⟩ (x_startTallies l dC dI aC ad cap hI hcb v R F G h16) (cwV 0 hts gX0_run_X0_startTallies rfl rfl rfl (by decide +kernel) ⟨Nat.le_of_ble_eq_true rfl, Nat.le_of_ble_eq_true rfl⟩) (xPre (q0 := 6) (ci := 0) rfl rfl hK hZ hP) hS hA0 (cs_mono hcp) rfl hl.1 rfl (Nat.le_of_ble_eq_true rfl) dX0_run_1 (xg_le hcb (by decide) (by decide)) (fun ad cap v1 R1 F1 G1 Z S H locs h_1 hgr hZ hP hA0 hS => ?_)
  obtain ⟨hI, hq, hcp2, hcb⟩ := hgr
  rw [← hq 6 (by omega), ← hq 1 (by omega), ← hq 8 (by omega)] at hl
  have hAd : ∀ k, k < 38 ∨ 50 ≤ k → ad k = a0 k := fun k h => (hq k h).trans (hAd k h)
  have hcp : ∀ j, j < 6 → c0 j ≤ cap j := fun j h => Nat.le_trans (hcp j h) (hcp2 j h)
  obtain ⟨vx, Gx, y0, y1, hu_1, hb0, hb1, ht0, ht1, ht2, hS0, hS1, hvx, hGx, hcx⟩ := h_1
  have hP : va_P (dC, dI) vwCl (wsX aC ad cap vx Z S F Gx) H := by cases hu_1; exact hP
  have hZ : xOK Z S R := by cases hu_1; exact hZ
  refine lv_aload_n hx hb dX0_run_4 rfl (lv_at hl 2 rfl) ?_
  refine lv_iconst (v := nI 1) hx hb dX0_run_5 (by decide) ?_
  refine lv_lconst (v := 1) hx hb dX0_run_6 (by decide) ?_
  refine nx_last hx hb hK hP ((wsX_D hI).weaken (fun _ _ _ h => hA0 _ h)) hS 8 1 rfl rfl (i := 1) (by omega) (by decide) dX0_run_7 (fun H locs hP hS => ?_)
  have hP : va_P (dC, dI) vwCl (wsX aC ad cap vx Z S F (va_up Gx 0 (vp_updL (Gx 0) 1 1))) H := hP
  refine lv_iconst (v := nI 2) hx hb dX0_run_8 (by decide) ?_
  refine lv_istore_n (lv' := [(3, .int (nI 2)), (0, .ref (ad 6)), (1, .ref (ad 1)), (2, .ref (ad 8))]) hx hb dX0_run_9 rfl hl (by decide) rfl (fun ls hl => ?_)
  have L10 : ∀ (fuel10 : Nat) (n : Nat) (zs : Nat → Nat) (va : Nat → Int32) (Ga : Nat → Nat → Int64) (ad : Nat → Nat) (cap : Nat → Nat) (Z : Nat → Int32) (S : Nat → Nat → Int32) (H : Heap) (locs : List Loc) (ls : Array Slot), (2 ≤ n ∧ n ≤ 7) → (∀ j, j < n → j < 6 → va (11 + j) = nI (zs j) ∧ zs j ≤ cap j ∧ zs j ≤ Bd j) → (∀ j, j < n → j < 6 → ∀ g, SS (Ga (14 + 2 * j)) (Ga (15 + 2 * j)) g (zs j) = (Sg (fun b x y w => kdF (F 4) (G 3) (G 4) (G 5) b x y w nd) (G 26 0) (F 0) A) j g) → (∀ j, n ≤ j → j < 6 → va (11 + j) = nI 0) → (∀ k, k < 11 ∨ 17 ≤ k → va k = v k) → (∀ k, k < 14 ∨ 26 ≤ k → k ≠ 0 → Ga k = G k) → (∀ j, 1 ≤ j → j < n → Ga 0 j = (Sg (fun b x y w => kdF (F 4) (G 3) (G 4) (G 5) b x y w nd) (G 26 0) (F 0) A) j (fun _ => 1)) → xI ad → (∀ k, k < 38 ∨ 50 ≤ k → ad k = a0 k) → (∀ j, j < 6 → c0 j ≤ cap j) → (∀ j, j < 6 → cap j ≤ 8192) → (∀ q, xA ad q → xG a0 s.heap.size q) → xOK Z S R → va_P (dC, dI) vwCl (wsX aC ad cap va Z S F Ga) H → va_S (xG a0 s.heap.size) s.heap H locs → 7 - n < fuel10 → lv_has ls 5 [(0, .ref (ad 6)), (1, .ref (ad 1)), (2, .ref (ad 8)), (3, .int (nI n))] → W p l e ({ frames := 6, cells := 204800, slots := 819200, locals := 194 } : Room) s m ag below meth c H locs (cs cap - cs c0) (4 * (cs cap - cs c0)) Q (F0 m 10 ls []) := by
    intro fuel10
    induction fuel10 with
    | zero => intro n zs va Ga ad cap Z S H locs ls hn hzs hSg hv0 hva hGa htt hI hAd hcp hcb hA0 hZ hP hS hf10 hl; exact absurd hf10 (Nat.not_lt_zero _)
    | succ fuel10 ih10 =>
      intro n zs va Ga ad cap Z S H locs ls hn hzs hSg hv0 hva hGa htt hI hAd hcp hcb hA0 hZ hP hS hf10 hl
      obtain ⟨c1, hc1⟩ : ∃ c1, c1 = cap := ⟨cap, rfl⟩
      refine lv_iload_n hx hb dX0_run_10 rfl (lv_at hl 3 rfl) ?_
      refine lv_bipush (v := nI 6) hx hb dX0_run_11 (by decide) ?_
      refine nx_icmp_gt (a := n) (b := 6) (tgt := 63) hx hb dX0_run_13 (by decide) (by omega) (by omega) (fun c_13 => ?_) (fun c_13 => ?_)
      · skip
        have hcs := cs_le hcb
        subst hQ
        exact xg_vret hx hb hret hlocks hK hZ hP hA0 hS ⟨hI, hAd, hcp, hcb⟩ (⟨va, Ga, rfl, fun j h1 h2 => htt j h1 (by omega), hva, hGa⟩) (by omega) (by omega) ha0 hc0 dX0_run_63
      · skip
        refine lv_aload_n hx hb dX0_run_16 rfl (lv_at hl 2 rfl) ?_
        refine lv_iload_n hx hb dX0_run_17 rfl (lv_at hl 3 rfl) ?_
        refine lv_lconst (v := 0) hx hb dX0_run_18 (by decide) ?_
        refine nx_last hx hb hK hP ((wsX_D hI).weaken (fun _ _ _ h => hA0 _ h)) hS 8 1 rfl rfl (i := n) (by omega) (by decide) dX0_run_19 (fun H locs hP hS => ?_)
        have hP : va_P (dC, dI) vwCl (wsX aC ad cap va Z S F (va_up Ga 0 (vp_updL (Ga 0) n 0))) H := hP
        refine lv_iconst (v := nI 0) hx hb dX0_run_20 (by decide) ?_
        refine lv_istore (lv' := [(4, .int (nI 0)), (0, .ref (ad 6)), (1, .ref (ad 1)), (2, .ref (ad 8)), (3, .int (nI n))]) hx hb dX0_run_21 hl (by decide) rfl (fun ls hl => ?_)
        have L23 : ∀ (fuel23 : Nat) (a : Nat) (z1 : Nat) (vc : Nat → Int32) (Gc : Nat → Nat → Int64) (ad : Nat → Nat) (cap : Nat → Nat) (Z : Nat → Int32) (S : Nat → Nat → Int32) (H : Heap) (locs : List Loc) (ls : Array Slot), (a ≤ A) → ((∀ k, (n < 6 → k ≠ 11 + n) → vc k = va k) ∧ ∀ k, k ≠ 0 → (n < 6 → k ≠ 14 + 2 * n ∧ k ≠ 15 + 2 * n) → Gc k = Ga k) → (n < 6 → tsOK n z1 vc cap ∧ ∀ g, SS (Gc (14 + 2 * n)) (Gc (15 + 2 * n)) g z1 = sI (fun b => tU ((fun b x y w => kdF (F 4) (G 3) (G 4) (G 5) b x y w nd) (nI b)) (G 26 0) (Sg (fun b x y w => kdF (F 4) (G 3) (G 4) (G 5) b x y w nd) (G 26 0) (F 0) A) (wt (F 0) (nI b)) n g) a) → (n < 6 → z1 ≤ a * Dm n) → (Gc 0 n = sI (fun b => tU ((fun b x y w => kdF (F 4) (G 3) (G 4) (G 5) b x y w nd) (nI b)) (G 26 0) (Sg (fun b x y w => kdF (F 4) (G 3) (G 4) (G 5) b x y w nd) (G 26 0) (F 0) A) (wt (F 0) (nI b)) n (fun _ => 1)) a) → (∀ j, j ≠ n → Gc 0 j = Ga 0 j) → (∀ j, j ≠ n → cap j = c1 j) → xI ad → (∀ k, k < 38 ∨ 50 ≤ k → ad k = a0 k) → (∀ j, j < 6 → c0 j ≤ cap j) → (∀ j, j < 6 → cap j ≤ 8192) → (∀ q, xA ad q → xG a0 s.heap.size q) → xOK Z S R → va_P (dC, dI) vwCl (wsX aC ad cap vc Z S F Gc) H → va_S (xG a0 s.heap.size) s.heap H locs → A - a < fuel23 → lv_has ls 5 [(0, .ref (ad 6)), (1, .ref (ad 1)), (2, .ref (ad 8)), (3, .int (nI n)), (4, .int (nI a))] → W p l e ({ frames := 6, cells := 204800, slots := 819200, locals := 194 } : Room) s m ag below meth c H locs (cs cap - cs c0) (4 * (cs cap - cs c0)) Q (F0 m 23 ls []) := by
          intro fuel23
          induction fuel23 with
          | zero => intro a z1 vc Gc ad cap Z S H locs ls ha hk ht hzb htn htj hcn hI hAd hcp hcb hA0 hZ hP hS hf23 hl; exact absurd hf23 (Nat.not_lt_zero _)
          | succ fuel23 ih23 =>
            intro a z1 vc Gc ad cap Z S H locs ls ha hk ht hzb htn htj hcn hI hAd hcp hcb hA0 hZ hP hS hf23 hl
            refine lv_iload hx hb dX0_run_23 (lv_at hl 4 rfl) ?_
            refine lv_aload_n hx hb dX0_run_25 rfl (lv_at hl 1 rfl) ?_
            refine va_get (D := (dC, dI)) (ci := 8) (C := RX8) (T := TX8) (N := 4) hx hb hts hin8 hown hK hP 1 rfl rfl 1 (by decide) lk0 (fun _ h9 => h9) rfl dX0_run_26 ?_
            refine nx_ti (y := nI A) (((hk.1 0 (fun _ => by omega)).trans (hva 0 (by omega))).trans hA) ?_
            refine nx_icmp_ge (a := a) (b := A) (tgt := 57) hx hb dX0_run_29 (by decide) (by omega) (by omega) (fun c_29 => ?_) (fun c_29 => ?_)
            · skip
              refine lv_iinc (v := nI (n + 1)) (lv' := [(3, .int (nI (n + 1))), (0, .ref (ad 6)), (1, .ref (ad 1)), (2, .ref (ad 8)), (4, .int (nI a))]) hx hb dX0_run_57 hl (k := 3) rfl (nI_add _ _) (by decide) rfl (fun ls hl => ?_)
              refine lv_goto (tgt := 10) hx hb dX0_run_60 (by decide) ?_
              exact ih10 (n + 1) (fun j => if j = n then z1 else zs j) vc Gc ad cap _ _ _ _ _ (by omega) (fun j h1 h2 => by by_cases q : j = n <;> first | (rw [if_pos q, q]; rw [q] at h2; exact ⟨(ht h2).1.1, (ht h2).1.2.1, by have h7 := hzb h2; have h9 := Dm_Bd n h2 hn.1; have h8 : a * Dm n ≤ 4 * Dm n := Nat.mul_le_mul_right _ (by omega); omega⟩) | (rw [if_neg q]; exact ⟨(hk.1 _ (fun _ => by omega)).trans (hzs j (by omega) h2).1, by rw [hcn j q, hc1]; exact (hzs j (by omega) h2).2.1, (hzs j (by omega) h2).2.2⟩)) (fun j h1 h2 g => by by_cases q : j = n <;> first | (rw [if_pos q, q]; rw [q] at h2; rw [(ht h2).2 g, Sg_s hn.1 (by omega), show a = A by omega]) | (rw [if_neg q, hk.2 _ (by omega) (fun _ => by omega), hk.2 _ (by omega) (fun _ => by omega)]; exact hSg j (by omega) h2 g)) (fun j h1 h2 => (hk.1 _ (fun _ => by omega)).trans (hv0 j (by omega) h2)) (fun k h => (hk.1 k (fun _ => by omega)).trans (hva k h)) (fun k h1 h2 => (hk.2 k h2 (fun _ => by omega)).trans (hGa k h1 h2)) (fun j h1 h2 => by by_cases q : j = n <;> first | (rw [q, htn, Sg_s hn.1 (by omega), show a = A by omega]) | (rw [htj j q]; exact htt j h1 (by omega))) hI hAd hcp hcb hA0 hZ hP hS (by omega) (lv_sub hl [1, 2, 3, 0] rfl)
            · skip
              refine lv_aload_n hx hb dX0_run_32 rfl (lv_at hl 2 rfl) ?_
              refine lv_iload_n hx hb dX0_run_33 rfl (lv_at hl 3 rfl) ?_
              refine lv_dup2_11 hx hb dX0_run_34 rfl rfl ?_
              refine nx_lald hx hb hK hP 8 1 rfl rfl (i := n) (by omega) (by decide) dX0_run_35 ?_
              refine nx_tl (y := sI (fun b => tU ((fun b x y w => kdF (F 4) (G 3) (G 4) (G 5) b x y w nd) (nI b)) (G 26 0) (Sg (fun b x y w => kdF (F 4) (G 3) (G 4) (G 5) b x y w nd) (G 26 0) (F 0) A) (wt (F 0) (nI b)) n (fun _ => 1)) a) (htn) ?_
              refine lv_aload_n hx hb dX0_run_36 rfl (lv_at hl 0 rfl) ?_
              refine lv_iload hx hb dX0_run_37 (lv_at hl 4 rfl) ?_
              refine lv_aload_n hx hb dX0_run_39 rfl (lv_at hl 1 rfl) ?_
              refine lv_iload hx hb dX0_run_40 (lv_at hl 4 rfl) ?_
              refine xp_i (b := ad 1) (As := [.int (nI a)]) (rest := [.int (nI a), .ref (ad 6), .long (sI (fun b => tU ((fun b x y w => kdF (F 4) (G 3) (G 4) (G 5) b x y w nd) (nI b)) (G 26 0) (Sg (fun b x y w => kdF (F 4) (G 3) (G 4) (G 5) b x y w nd) (G 26 0) (F 0) A) (wt (F 0) (nI b)) n (fun _ => 1)) a), .int (nI n), .ref (ad 8)]) ⟨hx, hb, hml, hown, hts⟩ (x_entriesOf l dC dI aC ad cap vc R F Gc A hE (((hk.1 0 (fun _ => by omega)).trans (hva 0 (by omega))).trans hA) (nI a) (Or.inr ⟨a, c_29, rfl⟩)) (cwV 1 hts gX0_run_X8_entriesOf rfl rfl rfl (by decide +kernel) ⟨Nat.le_of_ble_eq_true rfl, Nat.le_of_ble_eq_true rfl⟩) (xPre (q0 := 1) (ci := 8) rfl rfl hK hZ hP) rfl hl.1 rfl (Nat.le_of_ble_eq_true rfl) dX0_run_42 (xg_le (mc := 0) (ms := 0) hcb (by decide) (by decide)) (fun x_42 h_42 => ?_)
              refine nx_ti (y := nI (wt (F 0) (nI a))) h_42 ?_
              refine lv_iload_n hx hb dX0_run_45 rfl (lv_at hl 3 rfl) ?_
              have hwt := (wt_nI hE c_29).2
              have hT : ∀ g, tU (fun x y w => kdF (F 4) (Gc 3) (Gc 4) (Gc 5) (nI a) x y w nd) (Gc 26 0) (Sg (fun b x y w => kdF (F 4) (G 3) (G 4) (G 5) b x y w nd) (G 26 0) (F 0) A) (wt (F 0) (nI a)) n g = (fun b => tU ((fun b x y w => kdF (F 4) (G 3) (G 4) (G 5) b x y w nd) (nI b)) (G 26 0) (Sg (fun b x y w => kdF (F 4) (G 3) (G 4) (G 5) b x y w nd) (G 26 0) (F 0) A) (wt (F 0) (nI b)) n g) a := by
                intro g
                rw [show Gc 3 = G 3 from (hk.2 (3) (by omega) (fun _ => by omega)).trans (hGa (3) (by omega) (by omega)), show Gc 4 = G 4 from (hk.2 (4) (by omega) (fun _ => by omega)).trans (hGa (4) (by omega) (by omega)), show Gc 5 = G 5 from (hk.2 (5) (by omega) (fun _ => by omega)).trans (hGa (5) (by omega) (by omega)), show Gc 26 = G 26 from (hk.2 (26) (by omega) (fun _ => by omega)).trans (hGa (26) (by omega) (by omega))]
              have hbT : n < 6 → bT (wt (F 0) (nI a)) n ≤ Dm n := fun h => bT_le _ (by omega) (by omega) n h hn.1
              refine xg_l (b := ad 6) (As := [.int (nI a), .int (nI (wt (F 0) (nI a))), .int (nI n)]) (rest := [.long (sI (fun b => tU ((fun b x y w => kdF (F 4) (G 3) (G 4) (G 5) b x y w nd) (nI b)) (G 26 0) (Sg (fun b x y w => kdF (F 4) (G 3) (G 4) (G 5) b x y w nd) (G 26 0) (F 0) A) (wt (F 0) (nI b)) n (fun _ => 1)) a), .int (nI n), .ref (ad 8)]) ⟨hx, hb, hml, hown, hts⟩ (x_treesUnder l dC dI aC ad cap hI hcb vc R F Gc n hn.1 (by omega) (wt (F 0) (nI a)) hwt zs (fun j hj => ⟨(hk.1 _ (fun _ => by omega)).trans (hzs j hj (by omega)).1, by rw [hcn j (by omega), hc1]; exact (hzs j hj (by omega)).2.1, (hzs j hj (by omega)).2.2⟩) (Sg (fun b x y w => kdF (F 4) (G 3) (G 4) (G 5) b x y w nd) (G 26 0) (F 0) A) (fun j hj g => by rw [hk.2 _ (by omega) (fun _ => by omega), hk.2 _ (by omega) (fun _ => by omega)]; exact hSg j hj (by omega) g) z1 (fun h => (ht h).1) (fun h => by have h7 := hbT h; have h8 := hzb h; have h9 := Dm_Bd n h hn.1; have h10 := (Bd_le n h).1; have h11 : (a + 1) * Dm n ≤ 4 * Dm n := Nat.mul_le_mul_right _ (by omega); rw [up_j] at h11; omega) nd (((hk.1 10 (fun _ => by omega)).trans (hva 10 (by omega))).trans hnd) hn36 (nI a)) (cwV 3 hts gX0_run_X0_treesUnder rfl rfl rfl (by decide +kernel) ⟨Nat.le_of_ble_eq_true rfl, Nat.le_of_ble_eq_true rfl⟩) (xPre (q0 := 6) (ci := 0) rfl rfl hK hZ hP) hS hA0 (cs_mono hcp) rfl hl.1 rfl (Nat.le_of_ble_eq_true rfl) dX0_run_46 (xg_le hcb (by decide) (by decide)) (fun x_46 ad cap v2 R2 F2 G2 Z S H locs h_46 hgr hZ hP hA0 hS => ?_)
              obtain ⟨hI, hq, hcp2, hcb⟩ := hgr
              rw [← hq 6 (by omega), ← hq 1 (by omega), ← hq 8 (by omega)] at hl
              rw [← hq 8 (by omega)]
              have hAd : ∀ k, k < 38 ∨ 50 ≤ k → ad k = a0 k := fun k h => (hq k h).trans (hAd k h)
              have hcp : ∀ j, j < 6 → c0 j ≤ cap j := fun j h => Nat.le_trans (hcp j h) (hcp2 j h)
              obtain ⟨hx_46, vy, Gy, zy, hu_46, hr, hs1, hs2, hs3⟩ := h_46
              rw [hT _] at hx_46
              subst hx_46
              have hs1 : n < 6 → tsOK n zy vy cap ∧ ∀ g, SS (Gy (14 + 2 * n)) (Gy (15 + 2 * n)) g zy = SS (Gc (14 + 2 * n)) (Gc (15 + 2 * n)) g z1 + (fun b => tU ((fun b x y w => kdF (F 4) (G 3) (G 4) (G 5) b x y w nd) (nI b)) (G 26 0) (Sg (fun b x y w => kdF (F 4) (G 3) (G 4) (G 5) b x y w nd) (G 26 0) (F 0) A) (wt (F 0) (nI b)) n g) a := fun h => ⟨(hs1 h).1, fun g => by rw [(hs1 h).2 g, hT g]⟩
              have hP : va_P (dC, dI) vwCl (wsX aC ad cap vy Z S F Gy) H := by cases hu_46; exact hP
              have hZ : xOK Z S R := by cases hu_46; exact hZ
              refine lv_ladd hx hb dX0_run_49 ?_
              refine nx_last hx hb hK hP ((wsX_D hI).weaken (fun _ _ _ h => hA0 _ h)) hS 8 1 rfl rfl (i := n) (by omega) (by decide) dX0_run_50 (fun H locs hP hS => ?_)
              have hP : va_P (dC, dI) vwCl (wsX aC ad cap vy Z S F (va_up Gy 0 (vp_updL (Gy 0) n ((sI (fun b => tU ((fun b x y w => kdF (F 4) (G 3) (G 4) (G 5) b x y w nd) (nI b)) (G 26 0) (Sg (fun b x y w => kdF (F 4) (G 3) (G 4) (G 5) b x y w nd) (G 26 0) (F 0) A) (wt (F 0) (nI b)) n (fun _ => 1)) a) + ((fun b => tU ((fun b x y w => kdF (F 4) (G 3) (G 4) (G 5) b x y w nd) (nI b)) (G 26 0) (Sg (fun b x y w => kdF (F 4) (G 3) (G 4) (G 5) b x y w nd) (G 26 0) (F 0) A) (wt (F 0) (nI b)) n (fun _ => 1)) a))))) H := hP
              refine lv_iinc (v := nI (a + 1)) (lv' := [(4, .int (nI (a + 1))), (0, .ref (ad 6)), (1, .ref (ad 1)), (2, .ref (ad 8)), (3, .int (nI n))]) hx hb dX0_run_51 hl (k := 4) rfl (nI_add _ _) (by decide) rfl (fun ls hl => ?_)
              refine lv_goto (tgt := 23) hx hb dX0_run_54 (by decide) ?_
              exact ih23 (a + 1) zy vy (va_up Gy 0 (vp_updL (Gy 0) n (sI (fun b => tU ((fun b x y w => kdF (F 4) (G 3) (G 4) (G 5) b x y w nd) (nI b)) (G 26 0) (Sg (fun b x y w => kdF (F 4) (G 3) (G 4) (G 5) b x y w nd) (G 26 0) (F 0) A) (wt (F 0) (nI b)) n (fun _ => 1)) a + (fun b => tU ((fun b x y w => kdF (F 4) (G 3) (G 4) (G 5) b x y w nd) (nI b)) (G 26 0) (Sg (fun b x y w => kdF (F 4) (G 3) (G 4) (G 5) b x y w nd) (G 26 0) (F 0) A) (wt (F 0) (nI b)) n (fun _ => 1)) a))) ad cap _ _ _ _ _ (by omega) (⟨fun k h => (hr.1 k h).trans (hk.1 k h), fun k h1 h2 => by rw [upn h1]; exact (hr.2 k h2).trans (hk.2 k h1 h2)⟩) (fun h => ⟨(hs1 h).1, fun g => by rw [upn (by omega), upn (by omega), (hs1 h).2 g, (ht h).2 g]; rfl⟩) (fun h => by have h7 := hbT h; have h8 := hzb h; rw [up_j]; omega) (by rw [va_up_self, updL_s]; rfl) (fun j h => by rw [va_up_self, updL_n h, hr.2 0 (fun _ => by omega)]; exact htj j h) (fun j h => (hs3 j h).trans (hcn j h)) hI hAd hcp hcb hA0 hZ hP hS (by omega) (lv_sub hl [1, 2, 3, 4, 0] rfl)
        exact L23 (A - 0 + 1) 0 0 va (va_up Ga 0 (vp_updL (Ga 0) n 0)) ad cap _ _ _ _ _ (by omega) (⟨fun _ _ => rfl, fun k h _ => upn h⟩) (fun h => ⟨⟨hv0 n (Nat.le_refl _) h, Nat.zero_le _, Nat.le_trans (h16c n h) (hcp n h)⟩, fun g => rfl⟩) (fun _ => Nat.zero_le _) (by rw [va_up_self, updL_s]; rfl) (fun j h => by rw [va_up_self, updL_n h]) (fun j _ => by rw [hc1]) hI hAd hcp hcb hA0 hZ hP hS (Nat.lt_succ_self _) (lv_sub hl [1, 2, 3, 4, 0] rfl)
  exact L10 (7 - 2 + 1) 2 (fun j => if j = 0 then y0 else y1) vx (va_up Gx 0 (vp_updL (Gx 0) 1 1)) ad cap _ _ _ _ _ (by decide) (fun j h1 h2 => by rcases (show j = 0 ∨ j = 1 by omega) with q | q <;> subst q <;> first | exact ⟨ht0.1, ht0.2.1, hb0⟩ | exact ⟨ht1.1, ht1.2.1, hb1⟩) (fun j h1 h2 g => by rcases (show j = 0 ∨ j = 1 by omega) with q | q <;> subst q <;> rw [Sg_1 (by decide), upn (by decide), upn (by decide)] <;> first | exact hS0 g | exact hS1 g) ht2 hvx (fun k h1 h2 => by rw [upn h2]; exact hGx k (by omega)) (fun j h1 h2 => by rw [show j = 1 by omega, va_up_self, updL_s, Sg_1 (by decide)]) hI hAd hcp hcb hA0 hZ hP hS (Nat.lt_succ_self _) (lv_sub hl [1, 2, 3, 0] rfl)

set_option maxHeartbeats 1000000 in
set_option maxRecDepth 100000 in
/-- Census.run -/
theorem x_run1 (l : Launch) (dC : Nat → ClassId) (dI : Nat → Nat → Nat) (aC : Nat → ClassId) (ad cap : Nat → Nat) (hI : xI ad) (hcb : ∀ j, j < 6 → cap j ≤ 8192) (v : Nat → Int32) (R : Nat → List Int32) (F : Nat → Nat → Int32) (G : Nat → Nat → Int64) (A : Nat) (hE : vE A (F 0)) (hA : v 0 = nI A) (nd : Nat) (hnd : v 10 = nI nd) (hn36 : nd ≤ 36) (h16 : ∀ j, j < 6 → 16 ≤ cap j) : Met l yX0_run wsX0_run ({ frames := 6, cells := 204800, slots := 819200, locals := 194 } : Room) (va_Pc [.ref (ad 6), .ref (ad 1), .ref (ad 9)] (XB dC dI aC ad cap (v, R, F, G))) (GQv dC dI aC ad cap (fun cap1 u => ∃ v1 G1, (v1, R, F, G1) = u ∧ (∀ n, 1 ≤ n → n ≤ 6 → G1 1 n = (Sg (fun b x y w => kdF (F 4) (G 3) (G 4) (G 5) b x y w nd) (G 26 0) (F 0) A) n (fun _ => 1)) ∧ (∀ k, k < 11 ∨ 17 ≤ k → v1 k = v k) ∧ ∀ k, k < 14 ∨ 26 ≤ k → k ≠ 1 → G1 k = G k)) 204800 819200 (xA ad) := by
  refine Met.ofW (cc := cX0_run) (maxL := 5) (ret := none) (by decide) rfl ?_
  intro p e s m args below meth c s₁ B hml hv
  obtain ⟨rfl, hK, Z, S, hZ, hP⟩ := hv
  have hx := B.exec
  have hb := B.bytes
  have hret := B.returns
  have hts := atoms_spec (ws := wsX0_run) B.pre
  have hown : s.vm.findClass RX0 = some m.cls := findClass_of_methodNamed B.named
  have hlocks := B.notSynchronized
  dsimp only at hZ hP
  have lk0 := hts (.fieldLink RX0 54 "LeafTrees$World" "acts" "I") (by decide +kernel)
  have hin8 : ∀ w ∈ u_ws RX8 TX8 4, w ∈ wsX0_run := by decide +kernel
  obtain ⟨a0, ha0⟩ : ∃ a0, a0 = ad := ⟨ad, rfl⟩
  obtain ⟨c0, hc0⟩ : ∃ c0, c0 = cap := ⟨cap, rfl⟩
  have hAd : ∀ k, k < 38 ∨ 50 ≤ k → ad k = a0 k := fun k _ => by rw [ha0]
  have hcp : ∀ j, j < 6 → c0 j ≤ cap j := fun j _ => by rw [hc0]; exact Nat.le_refl _
  have hA0 : ∀ q, xA ad q → xG a0 s.heap.size q := fun q h => Or.inl (by rw [ha0]; exact h)
  have hS : va_S (xG a0 s.heap.size) s.heap s.heap [] := va_S.rf
  have hl := lv_entry [.ref (ad 6), .ref (ad 1), .ref (ad 9)] (n := 5) (Nat.le_of_ble_eq_true rfl)
  rw [lg_entry_eq]
  generalize (lg_sl [.ref (ad 6), .ref (ad 1), .ref (ad 9)] ++ List.replicate (5 - (lg_sl [.ref (ad 6), .ref (ad 1), .ref (ad 9)]).length) Slot.unset).toArray = ls at hl ⊢
  have hl : lv_has ls 5 [(0, .ref (ad 6)), (1, .ref (ad 1)), (2, .ref (ad 9))] := hl
  generalize ([.ref (ad 6), .ref (ad 1), .ref (ad 9)] : List Value).toArray = ag at hts lk0 ⊢
  refine nx_Q (R := ({ frames := 6, cells := 204800, slots := 819200, locals := 194 } : Room)) (fun Q hQ => ?_)
  refine xg_more (cells' := cs cap - cs c0) (slots' := 4 * (cs cap - cs c0)) (Nat.zero_le _) (Nat.zero_le _) ?_
  have h16c : ∀ j, j < 6 → 16 ≤ c0 j := fun j h => by rw [hc0]; exact h16 j h
  have hA4 := hE.1
  refine lv_aload_n hx hb dX0_run_0 rfl (lv_at hl 0 rfl) ?_
  refine xg_v (b := ad 6) (As := []) (rest := []) ⟨hx, hb, hml, hown, hts⟩ (x_startTallies l dC dI aC ad cap hI hcb v R F G h16) (cwV 0 hts gX0_run_X0_startTallies rfl rfl rfl (by decide +kernel) ⟨Nat.le_of_ble_eq_true rfl, Nat.le_of_ble_eq_true rfl⟩) (xPre (q0 := 6) (ci := 0) rfl rfl hK hZ hP) hS hA0 (cs_mono hcp) rfl hl.1 rfl (Nat.le_of_ble_eq_true rfl) dX0_run_1 (xg_le hcb (by decide) (by decide)) (fun ad cap v1 R1 F1 G1 Z S H locs h_1 hgr hZ hP hA0 hS => ?_)
  obtain ⟨hI, hq, hcp2, hcb⟩ := hgr
  rw [← hq 6 (by omega), ← hq 1 (by omega), ← hq 9 (by omega)] at hl
  have hAd : ∀ k, k < 38 ∨ 50 ≤ k → ad k = a0 k := fun k h => (hq k h).trans (hAd k h)
  have hcp : ∀ j, j < 6 → c0 j ≤ cap j := fun j h => Nat.le_trans (hcp j h) (hcp2 j h)
  obtain ⟨vx, Gx, y0, y1, hu_1, hb0, hb1, ht0, ht1, ht2, hS0, hS1, hvx, hGx, hcx⟩ := h_1
  have hP : va_P (dC, dI) vwCl (wsX aC ad cap vx Z S F Gx) H := by cases hu_1; exact hP
  have hZ : xOK Z S R := by cases hu_1; exact hZ
  refine lv_aload_n hx hb dX0_run_4 rfl (lv_at hl 2 rfl) ?_
  refine lv_iconst (v := nI 1) hx hb dX0_run_5 (by decide) ?_
  refine lv_lconst (v := 1) hx hb dX0_run_6 (by decide) ?_
  refine nx_last hx hb hK hP ((wsX_D hI).weaken (fun _ _ _ h => hA0 _ h)) hS 9 1 rfl rfl (i := 1) (by omega) (by decide) dX0_run_7 (fun H locs hP hS => ?_)
  have hP : va_P (dC, dI) vwCl (wsX aC ad cap vx Z S F (va_up Gx 1 (vp_updL (Gx 1) 1 1))) H := hP
  refine lv_iconst (v := nI 2) hx hb dX0_run_8 (by decide) ?_
  refine lv_istore_n (lv' := [(3, .int (nI 2)), (0, .ref (ad 6)), (1, .ref (ad 1)), (2, .ref (ad 9))]) hx hb dX0_run_9 rfl hl (by decide) rfl (fun ls hl => ?_)
  have L10 : ∀ (fuel10 : Nat) (n : Nat) (zs : Nat → Nat) (va : Nat → Int32) (Ga : Nat → Nat → Int64) (ad : Nat → Nat) (cap : Nat → Nat) (Z : Nat → Int32) (S : Nat → Nat → Int32) (H : Heap) (locs : List Loc) (ls : Array Slot), (2 ≤ n ∧ n ≤ 7) → (∀ j, j < n → j < 6 → va (11 + j) = nI (zs j) ∧ zs j ≤ cap j ∧ zs j ≤ Bd j) → (∀ j, j < n → j < 6 → ∀ g, SS (Ga (14 + 2 * j)) (Ga (15 + 2 * j)) g (zs j) = (Sg (fun b x y w => kdF (F 4) (G 3) (G 4) (G 5) b x y w nd) (G 26 0) (F 0) A) j g) → (∀ j, n ≤ j → j < 6 → va (11 + j) = nI 0) → (∀ k, k < 11 ∨ 17 ≤ k → va k = v k) → (∀ k, k < 14 ∨ 26 ≤ k → k ≠ 1 → Ga k = G k) → (∀ j, 1 ≤ j → j < n → Ga 1 j = (Sg (fun b x y w => kdF (F 4) (G 3) (G 4) (G 5) b x y w nd) (G 26 0) (F 0) A) j (fun _ => 1)) → xI ad → (∀ k, k < 38 ∨ 50 ≤ k → ad k = a0 k) → (∀ j, j < 6 → c0 j ≤ cap j) → (∀ j, j < 6 → cap j ≤ 8192) → (∀ q, xA ad q → xG a0 s.heap.size q) → xOK Z S R → va_P (dC, dI) vwCl (wsX aC ad cap va Z S F Ga) H → va_S (xG a0 s.heap.size) s.heap H locs → 7 - n < fuel10 → lv_has ls 5 [(0, .ref (ad 6)), (1, .ref (ad 1)), (2, .ref (ad 9)), (3, .int (nI n))] → W p l e ({ frames := 6, cells := 204800, slots := 819200, locals := 194 } : Room) s m ag below meth c H locs (cs cap - cs c0) (4 * (cs cap - cs c0)) Q (F0 m 10 ls []) := by
    intro fuel10
    induction fuel10 with
    | zero => intro n zs va Ga ad cap Z S H locs ls hn hzs hSg hv0 hva hGa htt hI hAd hcp hcb hA0 hZ hP hS hf10 hl; exact absurd hf10 (Nat.not_lt_zero _)
    | succ fuel10 ih10 =>
      intro n zs va Ga ad cap Z S H locs ls hn hzs hSg hv0 hva hGa htt hI hAd hcp hcb hA0 hZ hP hS hf10 hl
      obtain ⟨c1, hc1⟩ : ∃ c1, c1 = cap := ⟨cap, rfl⟩
      refine lv_iload_n hx hb dX0_run_10 rfl (lv_at hl 3 rfl) ?_
      refine lv_bipush (v := nI 6) hx hb dX0_run_11 (by decide) ?_
      refine nx_icmp_gt (a := n) (b := 6) (tgt := 63) hx hb dX0_run_13 (by decide) (by omega) (by omega) (fun c_13 => ?_) (fun c_13 => ?_)
      · skip
        have hcs := cs_le hcb
        subst hQ
        exact xg_vret hx hb hret hlocks hK hZ hP hA0 hS ⟨hI, hAd, hcp, hcb⟩ (⟨va, Ga, rfl, fun j h1 h2 => htt j h1 (by omega), hva, hGa⟩) (by omega) (by omega) ha0 hc0 dX0_run_63
      · skip
        refine lv_aload_n hx hb dX0_run_16 rfl (lv_at hl 2 rfl) ?_
        refine lv_iload_n hx hb dX0_run_17 rfl (lv_at hl 3 rfl) ?_
        refine lv_lconst (v := 0) hx hb dX0_run_18 (by decide) ?_
        refine nx_last hx hb hK hP ((wsX_D hI).weaken (fun _ _ _ h => hA0 _ h)) hS 9 1 rfl rfl (i := n) (by omega) (by decide) dX0_run_19 (fun H locs hP hS => ?_)
        have hP : va_P (dC, dI) vwCl (wsX aC ad cap va Z S F (va_up Ga 1 (vp_updL (Ga 1) n 0))) H := hP
        refine lv_iconst (v := nI 0) hx hb dX0_run_20 (by decide) ?_
        refine lv_istore (lv' := [(4, .int (nI 0)), (0, .ref (ad 6)), (1, .ref (ad 1)), (2, .ref (ad 9)), (3, .int (nI n))]) hx hb dX0_run_21 hl (by decide) rfl (fun ls hl => ?_)
        have L23 : ∀ (fuel23 : Nat) (a : Nat) (z1 : Nat) (vc : Nat → Int32) (Gc : Nat → Nat → Int64) (ad : Nat → Nat) (cap : Nat → Nat) (Z : Nat → Int32) (S : Nat → Nat → Int32) (H : Heap) (locs : List Loc) (ls : Array Slot), (a ≤ A) → ((∀ k, (n < 6 → k ≠ 11 + n) → vc k = va k) ∧ ∀ k, k ≠ 1 → (n < 6 → k ≠ 14 + 2 * n ∧ k ≠ 15 + 2 * n) → Gc k = Ga k) → (n < 6 → tsOK n z1 vc cap ∧ ∀ g, SS (Gc (14 + 2 * n)) (Gc (15 + 2 * n)) g z1 = sI (fun b => tU ((fun b x y w => kdF (F 4) (G 3) (G 4) (G 5) b x y w nd) (nI b)) (G 26 0) (Sg (fun b x y w => kdF (F 4) (G 3) (G 4) (G 5) b x y w nd) (G 26 0) (F 0) A) (wt (F 0) (nI b)) n g) a) → (n < 6 → z1 ≤ a * Dm n) → (Gc 1 n = sI (fun b => tU ((fun b x y w => kdF (F 4) (G 3) (G 4) (G 5) b x y w nd) (nI b)) (G 26 0) (Sg (fun b x y w => kdF (F 4) (G 3) (G 4) (G 5) b x y w nd) (G 26 0) (F 0) A) (wt (F 0) (nI b)) n (fun _ => 1)) a) → (∀ j, j ≠ n → Gc 1 j = Ga 1 j) → (∀ j, j ≠ n → cap j = c1 j) → xI ad → (∀ k, k < 38 ∨ 50 ≤ k → ad k = a0 k) → (∀ j, j < 6 → c0 j ≤ cap j) → (∀ j, j < 6 → cap j ≤ 8192) → (∀ q, xA ad q → xG a0 s.heap.size q) → xOK Z S R → va_P (dC, dI) vwCl (wsX aC ad cap vc Z S F Gc) H → va_S (xG a0 s.heap.size) s.heap H locs → A - a < fuel23 → lv_has ls 5 [(0, .ref (ad 6)), (1, .ref (ad 1)), (2, .ref (ad 9)), (3, .int (nI n)), (4, .int (nI a))] → W p l e ({ frames := 6, cells := 204800, slots := 819200, locals := 194 } : Room) s m ag below meth c H locs (cs cap - cs c0) (4 * (cs cap - cs c0)) Q (F0 m 23 ls []) := by
          intro fuel23
          induction fuel23 with
          | zero => intro a z1 vc Gc ad cap Z S H locs ls ha hk ht hzb htn htj hcn hI hAd hcp hcb hA0 hZ hP hS hf23 hl; exact absurd hf23 (Nat.not_lt_zero _)
          | succ fuel23 ih23 =>
            intro a z1 vc Gc ad cap Z S H locs ls ha hk ht hzb htn htj hcn hI hAd hcp hcb hA0 hZ hP hS hf23 hl
            refine lv_iload hx hb dX0_run_23 (lv_at hl 4 rfl) ?_
            refine lv_aload_n hx hb dX0_run_25 rfl (lv_at hl 1 rfl) ?_
            refine va_get (D := (dC, dI)) (ci := 8) (C := RX8) (T := TX8) (N := 4) hx hb hts hin8 hown hK hP 1 rfl rfl 1 (by decide) lk0 (fun _ h9 => h9) rfl dX0_run_26 ?_
            refine nx_ti (y := nI A) (((hk.1 0 (fun _ => by omega)).trans (hva 0 (by omega))).trans hA) ?_
            refine nx_icmp_ge (a := a) (b := A) (tgt := 57) hx hb dX0_run_29 (by decide) (by omega) (by omega) (fun c_29 => ?_) (fun c_29 => ?_)
            · skip
              refine lv_iinc (v := nI (n + 1)) (lv' := [(3, .int (nI (n + 1))), (0, .ref (ad 6)), (1, .ref (ad 1)), (2, .ref (ad 9)), (4, .int (nI a))]) hx hb dX0_run_57 hl (k := 3) rfl (nI_add _ _) (by decide) rfl (fun ls hl => ?_)
              refine lv_goto (tgt := 10) hx hb dX0_run_60 (by decide) ?_
              exact ih10 (n + 1) (fun j => if j = n then z1 else zs j) vc Gc ad cap _ _ _ _ _ (by omega) (fun j h1 h2 => by by_cases q : j = n <;> first | (rw [if_pos q, q]; rw [q] at h2; exact ⟨(ht h2).1.1, (ht h2).1.2.1, by have h7 := hzb h2; have h9 := Dm_Bd n h2 hn.1; have h8 : a * Dm n ≤ 4 * Dm n := Nat.mul_le_mul_right _ (by omega); omega⟩) | (rw [if_neg q]; exact ⟨(hk.1 _ (fun _ => by omega)).trans (hzs j (by omega) h2).1, by rw [hcn j q, hc1]; exact (hzs j (by omega) h2).2.1, (hzs j (by omega) h2).2.2⟩)) (fun j h1 h2 g => by by_cases q : j = n <;> first | (rw [if_pos q, q]; rw [q] at h2; rw [(ht h2).2 g, Sg_s hn.1 (by omega), show a = A by omega]) | (rw [if_neg q, hk.2 _ (by omega) (fun _ => by omega), hk.2 _ (by omega) (fun _ => by omega)]; exact hSg j (by omega) h2 g)) (fun j h1 h2 => (hk.1 _ (fun _ => by omega)).trans (hv0 j (by omega) h2)) (fun k h => (hk.1 k (fun _ => by omega)).trans (hva k h)) (fun k h1 h2 => (hk.2 k h2 (fun _ => by omega)).trans (hGa k h1 h2)) (fun j h1 h2 => by by_cases q : j = n <;> first | (rw [q, htn, Sg_s hn.1 (by omega), show a = A by omega]) | (rw [htj j q]; exact htt j h1 (by omega))) hI hAd hcp hcb hA0 hZ hP hS (by omega) (lv_sub hl [1, 2, 3, 0] rfl)
            · skip
              refine lv_aload_n hx hb dX0_run_32 rfl (lv_at hl 2 rfl) ?_
              refine lv_iload_n hx hb dX0_run_33 rfl (lv_at hl 3 rfl) ?_
              refine lv_dup2_11 hx hb dX0_run_34 rfl rfl ?_
              refine nx_lald hx hb hK hP 9 1 rfl rfl (i := n) (by omega) (by decide) dX0_run_35 ?_
              refine nx_tl (y := sI (fun b => tU ((fun b x y w => kdF (F 4) (G 3) (G 4) (G 5) b x y w nd) (nI b)) (G 26 0) (Sg (fun b x y w => kdF (F 4) (G 3) (G 4) (G 5) b x y w nd) (G 26 0) (F 0) A) (wt (F 0) (nI b)) n (fun _ => 1)) a) (htn) ?_
              refine lv_aload_n hx hb dX0_run_36 rfl (lv_at hl 0 rfl) ?_
              refine lv_iload hx hb dX0_run_37 (lv_at hl 4 rfl) ?_
              refine lv_aload_n hx hb dX0_run_39 rfl (lv_at hl 1 rfl) ?_
              refine lv_iload hx hb dX0_run_40 (lv_at hl 4 rfl) ?_
              refine xp_i (b := ad 1) (As := [.int (nI a)]) (rest := [.int (nI a), .ref (ad 6), .long (sI (fun b => tU ((fun b x y w => kdF (F 4) (G 3) (G 4) (G 5) b x y w nd) (nI b)) (G 26 0) (Sg (fun b x y w => kdF (F 4) (G 3) (G 4) (G 5) b x y w nd) (G 26 0) (F 0) A) (wt (F 0) (nI b)) n (fun _ => 1)) a), .int (nI n), .ref (ad 9)]) ⟨hx, hb, hml, hown, hts⟩ (x_entriesOf l dC dI aC ad cap vc R F Gc A hE (((hk.1 0 (fun _ => by omega)).trans (hva 0 (by omega))).trans hA) (nI a) (Or.inr ⟨a, c_29, rfl⟩)) (cwV 1 hts gX0_run_X8_entriesOf rfl rfl rfl (by decide +kernel) ⟨Nat.le_of_ble_eq_true rfl, Nat.le_of_ble_eq_true rfl⟩) (xPre (q0 := 1) (ci := 8) rfl rfl hK hZ hP) rfl hl.1 rfl (Nat.le_of_ble_eq_true rfl) dX0_run_42 (xg_le (mc := 0) (ms := 0) hcb (by decide) (by decide)) (fun x_42 h_42 => ?_)
              refine nx_ti (y := nI (wt (F 0) (nI a))) h_42 ?_
              refine lv_iload_n hx hb dX0_run_45 rfl (lv_at hl 3 rfl) ?_
              have hwt := (wt_nI hE c_29).2
              have hT : ∀ g, tU (fun x y w => kdF (F 4) (Gc 3) (Gc 4) (Gc 5) (nI a) x y w nd) (Gc 26 0) (Sg (fun b x y w => kdF (F 4) (G 3) (G 4) (G 5) b x y w nd) (G 26 0) (F 0) A) (wt (F 0) (nI a)) n g = (fun b => tU ((fun b x y w => kdF (F 4) (G 3) (G 4) (G 5) b x y w nd) (nI b)) (G 26 0) (Sg (fun b x y w => kdF (F 4) (G 3) (G 4) (G 5) b x y w nd) (G 26 0) (F 0) A) (wt (F 0) (nI b)) n g) a := by
                intro g
                rw [show Gc 3 = G 3 from (hk.2 (3) (by omega) (fun _ => by omega)).trans (hGa (3) (by omega) (by omega)), show Gc 4 = G 4 from (hk.2 (4) (by omega) (fun _ => by omega)).trans (hGa (4) (by omega) (by omega)), show Gc 5 = G 5 from (hk.2 (5) (by omega) (fun _ => by omega)).trans (hGa (5) (by omega) (by omega)), show Gc 26 = G 26 from (hk.2 (26) (by omega) (fun _ => by omega)).trans (hGa (26) (by omega) (by omega))]
              have hbT : n < 6 → bT (wt (F 0) (nI a)) n ≤ Dm n := fun h => bT_le _ (by omega) (by omega) n h hn.1
              refine xg_l (b := ad 6) (As := [.int (nI a), .int (nI (wt (F 0) (nI a))), .int (nI n)]) (rest := [.long (sI (fun b => tU ((fun b x y w => kdF (F 4) (G 3) (G 4) (G 5) b x y w nd) (nI b)) (G 26 0) (Sg (fun b x y w => kdF (F 4) (G 3) (G 4) (G 5) b x y w nd) (G 26 0) (F 0) A) (wt (F 0) (nI b)) n (fun _ => 1)) a), .int (nI n), .ref (ad 9)]) ⟨hx, hb, hml, hown, hts⟩ (x_treesUnder l dC dI aC ad cap hI hcb vc R F Gc n hn.1 (by omega) (wt (F 0) (nI a)) hwt zs (fun j hj => ⟨(hk.1 _ (fun _ => by omega)).trans (hzs j hj (by omega)).1, by rw [hcn j (by omega), hc1]; exact (hzs j hj (by omega)).2.1, (hzs j hj (by omega)).2.2⟩) (Sg (fun b x y w => kdF (F 4) (G 3) (G 4) (G 5) b x y w nd) (G 26 0) (F 0) A) (fun j hj g => by rw [hk.2 _ (by omega) (fun _ => by omega), hk.2 _ (by omega) (fun _ => by omega)]; exact hSg j hj (by omega) g) z1 (fun h => (ht h).1) (fun h => by have h7 := hbT h; have h8 := hzb h; have h9 := Dm_Bd n h hn.1; have h10 := (Bd_le n h).1; have h11 : (a + 1) * Dm n ≤ 4 * Dm n := Nat.mul_le_mul_right _ (by omega); rw [up_j] at h11; omega) nd (((hk.1 10 (fun _ => by omega)).trans (hva 10 (by omega))).trans hnd) hn36 (nI a)) (cwV 3 hts gX0_run_X0_treesUnder rfl rfl rfl (by decide +kernel) ⟨Nat.le_of_ble_eq_true rfl, Nat.le_of_ble_eq_true rfl⟩) (xPre (q0 := 6) (ci := 0) rfl rfl hK hZ hP) hS hA0 (cs_mono hcp) rfl hl.1 rfl (Nat.le_of_ble_eq_true rfl) dX0_run_46 (xg_le hcb (by decide) (by decide)) (fun x_46 ad cap v2 R2 F2 G2 Z S H locs h_46 hgr hZ hP hA0 hS => ?_)
              obtain ⟨hI, hq, hcp2, hcb⟩ := hgr
              rw [← hq 6 (by omega), ← hq 1 (by omega), ← hq 9 (by omega)] at hl
              rw [← hq 9 (by omega)]
              have hAd : ∀ k, k < 38 ∨ 50 ≤ k → ad k = a0 k := fun k h => (hq k h).trans (hAd k h)
              have hcp : ∀ j, j < 6 → c0 j ≤ cap j := fun j h => Nat.le_trans (hcp j h) (hcp2 j h)
              obtain ⟨hx_46, vy, Gy, zy, hu_46, hr, hs1, hs2, hs3⟩ := h_46
              rw [hT _] at hx_46
              subst hx_46
              have hs1 : n < 6 → tsOK n zy vy cap ∧ ∀ g, SS (Gy (14 + 2 * n)) (Gy (15 + 2 * n)) g zy = SS (Gc (14 + 2 * n)) (Gc (15 + 2 * n)) g z1 + (fun b => tU ((fun b x y w => kdF (F 4) (G 3) (G 4) (G 5) b x y w nd) (nI b)) (G 26 0) (Sg (fun b x y w => kdF (F 4) (G 3) (G 4) (G 5) b x y w nd) (G 26 0) (F 0) A) (wt (F 0) (nI b)) n g) a := fun h => ⟨(hs1 h).1, fun g => by rw [(hs1 h).2 g, hT g]⟩
              have hP : va_P (dC, dI) vwCl (wsX aC ad cap vy Z S F Gy) H := by cases hu_46; exact hP
              have hZ : xOK Z S R := by cases hu_46; exact hZ
              refine lv_ladd hx hb dX0_run_49 ?_
              refine nx_last hx hb hK hP ((wsX_D hI).weaken (fun _ _ _ h => hA0 _ h)) hS 9 1 rfl rfl (i := n) (by omega) (by decide) dX0_run_50 (fun H locs hP hS => ?_)
              have hP : va_P (dC, dI) vwCl (wsX aC ad cap vy Z S F (va_up Gy 1 (vp_updL (Gy 1) n ((sI (fun b => tU ((fun b x y w => kdF (F 4) (G 3) (G 4) (G 5) b x y w nd) (nI b)) (G 26 0) (Sg (fun b x y w => kdF (F 4) (G 3) (G 4) (G 5) b x y w nd) (G 26 0) (F 0) A) (wt (F 0) (nI b)) n (fun _ => 1)) a) + ((fun b => tU ((fun b x y w => kdF (F 4) (G 3) (G 4) (G 5) b x y w nd) (nI b)) (G 26 0) (Sg (fun b x y w => kdF (F 4) (G 3) (G 4) (G 5) b x y w nd) (G 26 0) (F 0) A) (wt (F 0) (nI b)) n (fun _ => 1)) a))))) H := hP
              refine lv_iinc (v := nI (a + 1)) (lv' := [(4, .int (nI (a + 1))), (0, .ref (ad 6)), (1, .ref (ad 1)), (2, .ref (ad 9)), (3, .int (nI n))]) hx hb dX0_run_51 hl (k := 4) rfl (nI_add _ _) (by decide) rfl (fun ls hl => ?_)
              refine lv_goto (tgt := 23) hx hb dX0_run_54 (by decide) ?_
              exact ih23 (a + 1) zy vy (va_up Gy 1 (vp_updL (Gy 1) n (sI (fun b => tU ((fun b x y w => kdF (F 4) (G 3) (G 4) (G 5) b x y w nd) (nI b)) (G 26 0) (Sg (fun b x y w => kdF (F 4) (G 3) (G 4) (G 5) b x y w nd) (G 26 0) (F 0) A) (wt (F 0) (nI b)) n (fun _ => 1)) a + (fun b => tU ((fun b x y w => kdF (F 4) (G 3) (G 4) (G 5) b x y w nd) (nI b)) (G 26 0) (Sg (fun b x y w => kdF (F 4) (G 3) (G 4) (G 5) b x y w nd) (G 26 0) (F 0) A) (wt (F 0) (nI b)) n (fun _ => 1)) a))) ad cap _ _ _ _ _ (by omega) (⟨fun k h => (hr.1 k h).trans (hk.1 k h), fun k h1 h2 => by rw [upn h1]; exact (hr.2 k h2).trans (hk.2 k h1 h2)⟩) (fun h => ⟨(hs1 h).1, fun g => by rw [upn (by omega), upn (by omega), (hs1 h).2 g, (ht h).2 g]; rfl⟩) (fun h => by have h7 := hbT h; have h8 := hzb h; rw [up_j]; omega) (by rw [va_up_self, updL_s]; rfl) (fun j h => by rw [va_up_self, updL_n h, hr.2 1 (fun _ => by omega)]; exact htj j h) (fun j h => (hs3 j h).trans (hcn j h)) hI hAd hcp hcb hA0 hZ hP hS (by omega) (lv_sub hl [1, 2, 3, 4, 0] rfl)
        exact L23 (A - 0 + 1) 0 0 va (va_up Ga 1 (vp_updL (Ga 1) n 0)) ad cap _ _ _ _ _ (by omega) (⟨fun _ _ => rfl, fun k h _ => upn h⟩) (fun h => ⟨⟨hv0 n (Nat.le_refl _) h, Nat.zero_le _, Nat.le_trans (h16c n h) (hcp n h)⟩, fun g => rfl⟩) (fun _ => Nat.zero_le _) (by rw [va_up_self, updL_s]; rfl) (fun j h => by rw [va_up_self, updL_n h]) (fun j _ => by rw [hc1]) hI hAd hcp hcb hA0 hZ hP hS (Nat.lt_succ_self _) (lv_sub hl [1, 2, 3, 4, 0] rfl)
  exact L10 (7 - 2 + 1) 2 (fun j => if j = 0 then y0 else y1) vx (va_up Gx 1 (vp_updL (Gx 1) 1 1)) ad cap _ _ _ _ _ (by decide) (fun j h1 h2 => by rcases (show j = 0 ∨ j = 1 by omega) with q | q <;> subst q <;> first | exact ⟨ht0.1, ht0.2.1, hb0⟩ | exact ⟨ht1.1, ht1.2.1, hb1⟩) (fun j h1 h2 g => by rcases (show j = 0 ∨ j = 1 by omega) with q | q <;> subst q <;> rw [Sg_1 (by decide), upn (by decide), upn (by decide)] <;> first | exact hS0 g | exact hS1 g) ht2 hvx (fun k h1 h2 => by rw [upn h2]; exact hGx k (by omega)) (fun j h1 h2 => by rw [show j = 1 by omega, va_up_self, updL_s, Sg_1 (by decide)]) hI hAd hcp hcb hA0 hZ hP hS (Nat.lt_succ_self _) (lv_sub hl [1, 2, 3, 0] rfl)
