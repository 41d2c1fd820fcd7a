set_option maxHeartbeats 1000000 in
set_option maxRecDepth 100000 in
/-- closes -/
theorem k_closes (l : Launch) (dC : Nat → ClassId) (dI : Nat → Nat → Nat) (aC : Nat → ClassId) (am : Nat → Nat) (hI : mI am) (v : Nat → Int32) (R : Nat → List Int32) (F : Nat → Nat → Int32) (G : Nat → Nat → Int64) (A : Nat) (hE : vE A (F 1)) (n : Nat) (hn : v 4 = nI n) (hn8 : n ≤ 8) (hTl : ∀ j, j < n → isT (F 1) (R (10 + j))) (hVl : ∀ j, j < n → vR A (R (10 + j))) (hl13 : ∀ j, j < n → (R (10 + j)).length ≤ 13) (hL : ∀ j, j < n → lvs (R (10 + j)) ≤ 13) (hQ0 : ∀ j, j < n → F 4 j = 0 → lvs (R (10 + j)) = lvs (R (18 + j))) (hVr : ∀ j, j < n → vR A (R (18 + j))) : Met l yX10_closes wsX10_closes ({ frames := 6, cells := 0, slots := 0, locals := 145 } : Room) (va_Pc [.ref (am 0)] (MB dC dI aC am (v, R, F, G))) (va_Qi (fun (x : Int32) (u : MS) => ∃ a11 a12 a13 a14 a15 a17 b7 b8 b9 R1, (va_up (va_up (va_up (va_up (va_up (va_up v 11 a11) 12 a12) 13 a13) 14 a14) 15 a15) 17 a17, R1, va_up (va_up (va_up F 7 b7) 8 b8) 9 b9, G) = u ∧ (∀ k, k < 26 → R1 k = R k) ∧ x = pCloses (F 1) R n (F 4)) (MB dC dI aC am) (mA am)) 0 0 (mA am) := by
  refine Met.ofW (cc := cX10_closes) (maxL := 6) (ret := (some .int)) (by decide) rfl ?_
  intro p e s m args below meth c s₁ B hml hv
  obtain ⟨rfl, hK, S, Z, hZ, hP⟩ := hv
  have hx := B.exec
  have hb := B.bytes
  have hret := B.returns
  have hts := atoms_spec (ws := wsX10_closes) B.pre
  have hown : s.vm.findClass RX10 = some m.cls := findClass_of_methodNamed B.named
  have hlocks := B.notSynchronized
  dsimp only at hZ hP
  have lk0 := hts (.fieldLink RX10 159 "LeafTreesModel" "overlapP" "I") (by decide +kernel)
  have lk1 := hts (.fieldLink RX10 16 "LeafTreesModel" "size" "[I") (by decide +kernel)
  have lk2 := hts (.fieldLink RX10 178 "LeafTreesModel" "keptSize" "I") (by decide +kernel)
  have lk3 := hts (.fieldLink RX10 162 "LeafTreesModel" "overlapQ" "I") (by decide +kernel)
  have lk4 := hts (.fieldLink RX10 165 "LeafTreesModel" "overlapU" "I") (by decide +kernel)
  have lk5 := hts (.fieldLink RX10 36 "LeafTreesModel" "keptRow" "[I") (by decide +kernel)
  have lk6 := hts (.fieldLink RX10 13 "LeafTreesModel" "symbol" "[I") (by decide +kernel)
  have hin10 : ∀ w ∈ u_ws RX10 TX10 22, w ∈ wsX10_closes := by decide +kernel
  have hS : va_S (mA am) s.heap s.heap [] := va_S.rf
  have hl := lv_entry [.ref (am 0)] (n := 6) (Nat.le_of_ble_eq_true rfl)
  rw [lg_entry_eq]
  generalize (lg_sl [.ref (am 0)] ++ List.replicate (6 - (lg_sl [.ref (am 0)]).length) Slot.unset).toArray = ls at hl ⊢
  have hl : lv_has ls 6 [(0, .ref (am 0))] := hl
  refine nx_Q (R := ({ frames := 6, cells := 0, slots := 0, locals := 145 } : Room)) (fun Q hQ => ?_)
  skip
  have hLL : (ovL (F 1) R n).length ≤ 832 := ovS_len (F 1) R n 832
  refine lv_iconst (v := nI 0) hx hb dX10_closes_0 (by decide) ?_
  refine lv_istore_n (lv' := [(1, .int (nI 0)), (0, .ref (am 0))]) hx hb dX10_closes_1 rfl hl (by decide) rfl (fun ls hl => ?_)
  have L2 : ∀ (fuel2 : Nat) (i : Nat) (w11 : Int32) (w12 : Int32) (w13 : Int32) (w14 : Int32) (w15 : Int32) (w17 : Int32) (f7 : Nat → Int32) (f8 : Nat → Int32) (f9 : Nat → Int32) (ra : List Int32) (rb : List Int32) (rc : List Int32) (S Z : Nat → Int32) (H : Heap) (locs : List Loc) (ls : Array Slot), (i ≤ (ovL (F 1) R n).length) → (clF (F 1) R n (F 4) (ovL (F 1) R n) ((ovL (F 1) R n).length + 1 - i) i = pCloses (F 1) R n (F 4)) → mOK S Z (va_up (va_up (va_up R 26 ra) 27 rb) 28 rc) → va_P (dC, dI) vwCl (wsM aC am (va_up (va_up (va_up (va_up (va_up (va_up v 11 w11) 12 w12) 13 w13) 14 w14) 15 w15) 17 w17) S Z (va_up (va_up (va_up F 7 f7) 8 f8) 9 f9) G) H → va_S (mA am) s.heap H locs → 832 - i < fuel2 → lv_has ls 6 [(0, .ref (am 0)), (1, .int (nI i))] → W p l e ({ frames := 6, cells := 0, slots := 0, locals := 145 } : Room) s m ([.ref (am 0)] : List Value).toArray below meth c H locs 0 0 Q (F0 m 2 ls []) := by
    intro fuel2
    induction fuel2 with
    | zero => intro i w11 w12 w13 w14 w15 w17 f7 f8 f9 ra rb rc S Z H locs ls hi hres hZ hP hS hf2 hl; exact absurd hf2 (Nat.not_lt_zero _)
    | succ fuel2 ih2 =>
      intro i w11 w12 w13 w14 w15 w17 f7 f8 f9 ra rb rc S Z H locs ls hi hres hZ hP hS hf2 hl
      refine lv_aload_n hx hb dX10_closes_2 rfl (lv_at hl 0 rfl) ?_
      refine lv_iload_n hx hb dX10_closes_3 rfl (lv_at hl 1 rfl) ?_
      refine mc_i (As := [.int (nI i)]) (rest := []) ⟨hx, hb, hml, hown, hts⟩ (k_hasOverlap l dC dI aC am hI (va_up (va_up (va_up (va_up (va_up (va_up v 11 w11) 12 w12) 13 w13) 14 w14) 15 w15) 17 w17) (va_up (va_up (va_up R 26 ra) 27 rb) 28 rc) (va_up (va_up (va_up F 7 f7) 8 f8) 9 f9) G A hE n hn hn8 (fun j hj => by rw [rx_n (by omega)]; exact hTl j hj) (fun j hj => by rw [rx_n (by omega)]; exact hVl j hj) (fun j hj => by rw [rx_n (by omega)]; exact hl13 j hj) i (by omega)) (cwV 1 hts gX10_closes_X10_hasOverlap rfl rfl rfl (by decide +kernel) ⟨Nat.le_of_ble_eq_true rfl, Nat.le_of_ble_eq_true rfl⟩) hK hZ hP hS rfl hl.1 rfl (Nat.le_of_ble_eq_true rfl) dX10_closes_4 ⟨Nat.le_of_ble_eq_true rfl, Nat.le_of_ble_eq_true rfl⟩ (fun x_4 v1 R1 F1 G1 S Z H locs h_4 hZ hP hS => ?_)
      obtain ⟨hx4, hy4, M4, hz4⟩ := h_4
      have hov : ovL ((va_up (va_up (va_up F 7 f7) 8 f8) 9 f9) 1) (va_up (va_up (va_up R 26 ra) 27 rb) 28 rc) n = (ovL (F 1) R n) := ovL_congr (fun k hk => rx_n (by omega))
      rw [hov] at hx4 hy4 hz4
      refine nx_ti hx4 ?_
      refine nx_bz (tgt := 199) hx hb dX10_closes_7 (by decide) (fun c_7 => ?_) (fun c_7 => ?_)
      · skip
        have hu4 := hz4 (by omega)
        rw [rx_s27, v13_up] at hu4
        refine lv_iconst (v := (-1)) hx hb dX10_closes_199 (by decide) ?_
        subst hQ
        exact W.iret (v := (-1)) hx hb hret (fun tq htq hWq => ⟨⟨_, (v1, R1, F1, G1), rfl, ⟨w11, w12, -1, w14, w15, w17, f7, f8, f9, _, hu4, fun k hk => rx_n hk, by rw [← hres, clF_n (by omega) hi]⟩, va_K.moved hWq.alike hK, _, _, hZ, by rw [htq]; exact hP⟩, hS.F htq⟩) hS.2.2 dX10_closes_200
      · skip
        obtain ⟨⟨s0, M0⟩, hs0⟩ : ∃ o, (ovL (F 1) R n)[i]? = some o := ⟨_, List.getElem?_eq_getElem c_7⟩
        have hu4 := hy4 s0 M0 hs0
        rw [rx_s27] at hu4
        have hP : va_P (dC, dI) vwCl (wsM aC am (va_up (va_up (va_up (va_up (va_up (va_up v 11 w11) 12 w12) 13 (nI (s0 / 104))) 14 (nI (s0 / 13 % 8))) 15 (nI (s0 % 13))) 17 w17) S Z (va_up (va_up (va_up F 7 f7) 8 f8) 9 f9) G) H := by cases hu4; exact hP
        have hZ : mOK S Z (va_up (va_up (va_up R 26 ra) 27 M0) 28 rc) := by cases hu4; exact hZ
        obtain ⟨hfa, hfb, hfc, hfd, ⟨⟨q1, ac1⟩, hm1⟩, ⟨⟨q2, ac2⟩, hm2⟩, hvM⟩ := ov_facts hTl hVl hs0
        have hML : M0.length ≤ 60 := by have := (hZ 27 (by decide)).1; rwa [rx_27] at this
        refine lv_aload_n hx hb dX10_closes_10 rfl (lv_at hl 0 rfl) ?_
        refine lv_aload_n hx hb dX10_closes_11 rfl (lv_at hl 0 rfl) ?_
        refine va_get (D := (dC, dI)) (ci := 10) (C := RX10) (T := TX10) (N := 22) hx hb hts hin10 hown hK hP 0 rfl rfl 13 (by decide) lk0 (fun _ h9 => h9) rfl dX10_closes_12 ?_
        refine lv_iconst (v := nI 0) hx hb dX10_closes_15 (by decide) ?_
        refine lv_bipush (v := nI 26) hx hb dX10_closes_16 (by decide) ?_
        refine mc_i (As := [.int (nI (s0 / 104)), .int (nI 0), .int (nI 26)]) (rest := []) ⟨hx, hb, hml, hown, hts⟩ (k_comesOf l dC dI aC am hI (va_up (va_up (va_up (va_up (va_up (va_up v 11 w11) 12 w12) 13 (nI (s0 / 104))) 14 (nI (s0 / 13 % 8))) 15 (nI (s0 % 13))) 17 w17) (va_up (va_up (va_up R 26 ra) 27 M0) 28 rc) (va_up (va_up (va_up F 7 f7) 8 f8) 9 f9) G A hE n hn hn8 (fun j hj => by rw [rx_n (by omega)]; exact hL j hj) (fun j hj h => by rw [rx_n (by omega), rx_n (by omega)]; exact hQ0 j hj h) (fun j hj => by rw [rx_n (by omega)]; exact hVr j hj) (s0 / 104) (by omega) (0) (by rw [rx_27]; exact hvM) q1 ac1 (by rw [rx_n (by omega), rx_27]; exact hm1) (by rw [rx_27]; exact Nat.zero_le _)) (cwV 3 hts gX10_closes_X10_comesOf rfl rfl rfl (by decide +kernel) ⟨Nat.le_of_ble_eq_true rfl, Nat.le_of_ble_eq_true rfl⟩) hK hZ hP hS rfl hl.1 rfl (Nat.le_of_ble_eq_true rfl) dX10_closes_18 ⟨Nat.le_of_ble_eq_true rfl, Nat.le_of_ble_eq_true rfl⟩ (fun x_18 v2 R2 F2 G2 S Z H locs h_18 hZ hP hS => ?_)
        obtain ⟨pa, pb, pc, pd, pM, hu_18, hx_18⟩ := h_18
        have hg_18 : goL ((va_up (va_up (va_up F 7 f7) 8 f8) 9 f9) 1) (va_up (va_up (va_up R 26 ra) 27 M0) 28 rc) n ((va_up (va_up (va_up F 7 f7) 8 f8) 9 f9) 4) ((va_up (va_up (va_up R 26 ra) 27 M0) 28 rc) 27) (s0 / 104) (0) = (goL (F 1) R n (F 4) M0 (s0 / 104) 0) := by rw [rx_27]; exact goL_congr (by omega) (fun j hj => rx_n (by omega)) (fun j hj => rx_n (by omega))
        rw [hg_18] at hu_18 hx_18
        refine nx_ti hx_18 ?_
        rw [rx_s26] at hu_18
        have hP : va_P (dC, dI) vwCl (wsM aC am (va_up (va_up (va_up (va_up (va_up (va_up v 11 pa) 12 pb) 13 (nI (s0 / 104))) 14 (nI (s0 / 13 % 8))) 15 (nI (s0 % 13))) 17 w17) S Z (va_up (va_up (va_up F 7 pc) 8 pd) 9 f9) G) H := by cases hu_18; exact hP
        have hZ : mOK S Z (va_up (va_up (va_up R 26 (goL (F 1) R n (F 4) M0 (s0 / 104) 0).2) 27 M0) 28 pM) := by cases hu_18; exact hZ
        refine lv_istore_n (lv' := [(2, .int (goL (F 1) R n (F 4) M0 (s0 / 104) 0).1), (0, .ref (am 0)), (1, .int (nI i))]) hx hb dX10_closes_21 rfl hl (by decide) rfl (fun ls hl => ?_)
        refine lv_aload_n hx hb dX10_closes_22 rfl (lv_at hl 1 rfl) ?_
        refine lv_aload_n hx hb dX10_closes_23 rfl (lv_at hl 1 rfl) ?_
        refine va_get (D := (dC, dI)) (ci := 10) (C := RX10) (T := TX10) (N := 22) hx hb hts hin10 hown hK hP 0 rfl rfl 3 (by decide) lk1 (fun _ h9 => h9) rfl dX10_closes_24 ?_
        refine lv_bipush (v := nI 26) hx hb dX10_closes_27 (by decide) ?_
        refine nx_iald hx hb hK hP 3 0 rfl rfl (i := 26) (by omega) (by decide) dX10_closes_29 ?_
        refine nx_ti (y := nI ((va_up (va_up (va_up R 26 (goL (F 1) R n (F 4) M0 (s0 / 104) 0).2) 27 M0) 28 pM) 26).length) ((hZ 26 (by omega)).2.1) ?_
        refine nx_ti (y := nI (goL (F 1) R n (F 4) M0 (s0 / 104) 0).2.length) (by rw [rx_26]) ?_
        refine va_put (D := (dC, dI)) (ci := 10) (v := .int (nI (goL (F 1) R n (F 4) M0 (s0 / 104) 0).2.length)) (ty := .int) (C := RX10) (T := TX10) (N := 22) hx hb hts hin10 tyX10 tyX10_ok nmX10 hown hK hP (wsM_D hI) hS 0 rfl rfl 17 (by decide) lk2 (fun _ h9 => h9) rfl (by decide +kernel) rfl rfl (Nat.le_of_ble_eq_true rfl) dX10_closes_30 (fun H locs hP _ hS => ?_)
        have hP : va_P (dC, dI) vwCl (wsM aC am (va_up (va_up (va_up (va_up (va_up (va_up v 11 pa) 12 pb) 13 (nI (s0 / 104))) 14 (nI (s0 / 13 % 8))) 15 (nI (s0 % 13))) 17 (nI (goL (F 1) R n (F 4) M0 (s0 / 104) 0).2.length)) S Z (va_up (va_up (va_up F 7 pc) 8 pd) 9 f9) G) H := hP
        have hl1 : (goL (F 1) R n (F 4) M0 (s0 / 104) 0).2.length ≤ 60 := by have := (hZ 26 (by decide)).1; rwa [rx_26] at this
        refine lv_iconst (v := nI 0) hx hb dX10_closes_33 (by decide) ?_
        refine lv_istore_n (lv' := [(3, .int (nI 0)), (2, .int (goL (F 1) R n (F 4) M0 (s0 / 104) 0).1), (0, .ref (am 0)), (1, .int (nI i))]) hx hb dX10_closes_34 rfl hl (by decide) rfl (fun ls hl => ?_)
        have L35 : ∀ (fuel35 : Nat) (k3 : Nat) (f9x : Nat → Int32) (S Z : Nat → Int32) (H : Heap) (locs : List Loc) (ls : Array Slot), (k3 ≤ (goL (F 1) R n (F 4) M0 (s0 / 104) 0).2.length) → (∀ j, j < k3 → f9x j = gD (goL (F 1) R n (F 4) M0 (s0 / 104) 0).2 j) → mOK S Z (va_up (va_up (va_up R 26 (goL (F 1) R n (F 4) M0 (s0 / 104) 0).2) 27 M0) 28 pM) → va_P (dC, dI) vwCl (wsM aC am (va_up (va_up (va_up (va_up (va_up (va_up v 11 pa) 12 pb) 13 (nI (s0 / 104))) 14 (nI (s0 / 13 % 8))) 15 (nI (s0 % 13))) 17 (nI (goL (F 1) R n (F 4) M0 (s0 / 104) 0).2.length)) S Z (va_up (va_up (va_up F 7 pc) 8 pd) 9 f9x) G) H → va_S (mA am) s.heap H locs → 60 - k3 < fuel35 → lv_has ls 6 [(0, .ref (am 0)), (1, .int (nI i)), (2, .int (goL (F 1) R n (F 4) M0 (s0 / 104) 0).1), (3, .int (nI k3))] → W p l e ({ frames := 6, cells := 0, slots := 0, locals := 145 } : Room) s m ([.ref (am 0)] : List Value).toArray below meth c H locs 0 0 Q (F0 m 35 ls []) := by
          intro fuel35
          induction fuel35 with
          | zero => intro k3 f9x S Z H locs ls hk3 hf9 hZ hP hS hf35 hl; exact absurd hf35 (Nat.not_lt_zero _)
          | succ fuel35 ih35 =>
            intro k3 f9x S Z H locs ls hk3 hf9 hZ hP hS hf35 hl
            refine lv_iload_n hx hb dX10_closes_35 rfl (lv_at hl 3 rfl) ?_
            refine lv_aload_n hx hb dX10_closes_36 rfl (lv_at hl 0 rfl) ?_
            refine va_get (D := (dC, dI)) (ci := 10) (C := RX10) (T := TX10) (N := 22) hx hb hts hin10 hown hK hP 0 rfl rfl 17 (by decide) lk2 (fun _ h9 => h9) rfl dX10_closes_37 ?_
            refine nx_icmp_ge (a := k3) (b := (goL (F 1) R n (F 4) M0 (s0 / 104) 0).2.length) (tgt := 65) hx hb dX10_closes_40 (by decide) (by omega) (by omega) (fun c_40 => ?_) (fun c_40 => ?_)
            · skip
              refine lv_iload_n hx hb dX10_closes_65 rfl (lv_at hl 2 rfl) ?_
              refine lv_bipush (v := (-5)) hx hb dX10_closes_66 (by decide) ?_
              refine lv_icmp_ne (tgt := 76) hx hb dX10_closes_68 (by decide) (fun c_68 => ?_) (fun c_68 => ?_)
              · skip
                have hu13 : s0 % 13 ≤ M0.length := mt_in hm2 (isT_pos (hTl (s0 / 13 % 8) hfc))
                refine lv_aload_n hx hb dX10_closes_76 rfl (lv_at hl 0 rfl) ?_
                refine lv_aload_n hx hb dX10_closes_77 rfl (lv_at hl 0 rfl) ?_
                refine va_get (D := (dC, dI)) (ci := 10) (C := RX10) (T := TX10) (N := 22) hx hb hts hin10 hown hK hP 0 rfl rfl 14 (by decide) lk3 (fun _ h9 => h9) rfl dX10_closes_78 ?_
                refine lv_aload_n hx hb dX10_closes_81 rfl (lv_at hl 0 rfl) ?_
                refine va_get (D := (dC, dI)) (ci := 10) (C := RX10) (T := TX10) (N := 22) hx hb hts hin10 hown hK hP 0 rfl rfl 15 (by decide) lk4 (fun _ h9 => h9) rfl dX10_closes_82 ?_
                refine lv_bipush (v := nI 26) hx hb dX10_closes_85 (by decide) ?_
                refine mc_i (As := [.int (nI (s0 / 13 % 8)), .int (nI (s0 % 13)), .int (nI 26)]) (rest := []) ⟨hx, hb, hml, hown, hts⟩ (k_comesOf l dC dI aC am hI (va_up (va_up (va_up (va_up (va_up (va_up v 11 pa) 12 pb) 13 (nI (s0 / 104))) 14 (nI (s0 / 13 % 8))) 15 (nI (s0 % 13))) 17 (nI (goL (F 1) R n (F 4) M0 (s0 / 104) 0).2.length)) (va_up (va_up (va_up R 26 (goL (F 1) R n (F 4) M0 (s0 / 104) 0).2) 27 M0) 28 pM) (va_up (va_up (va_up F 7 pc) 8 pd) 9 f9x) G A hE n hn hn8 (fun j hj => by rw [rx_n (by omega)]; exact hL j hj) (fun j hj h => by rw [rx_n (by omega), rx_n (by omega)]; exact hQ0 j hj h) (fun j hj => by rw [rx_n (by omega)]; exact hVr j hj) (s0 / 13 % 8) (by omega) (s0 % 13) (by rw [rx_27]; exact hvM) q2 ac2 (by rw [rx_n (by omega), rx_27]; exact hm2) (by rw [rx_27]; exact hu13)) (cwV 3 hts gX10_closes_X10_comesOf rfl rfl rfl (by decide +kernel) ⟨Nat.le_of_ble_eq_true rfl, Nat.le_of_ble_eq_true rfl⟩) hK hZ hP hS rfl hl.1 rfl (Nat.le_of_ble_eq_true rfl) dX10_closes_87 ⟨Nat.le_of_ble_eq_true rfl, Nat.le_of_ble_eq_true rfl⟩ (fun x_87 v3 R3 F3 G3 S Z H locs h_87 hZ hP hS => ?_)
                obtain ⟨ta, tb, tc, td, tM, hu_87, hx_87⟩ := h_87
                have hg_87 : goL ((va_up (va_up (va_up F 7 pc) 8 pd) 9 f9x) 1) (va_up (va_up (va_up R 26 (goL (F 1) R n (F 4) M0 (s0 / 104) 0).2) 27 M0) 28 pM) n ((va_up (va_up (va_up F 7 pc) 8 pd) 9 f9x) 4) ((va_up (va_up (va_up R 26 (goL (F 1) R n (F 4) M0 (s0 / 104) 0).2) 27 M0) 28 pM) 27) (s0 / 13 % 8) (s0 % 13) = (goL (F 1) R n (F 4) M0 (s0 / 13 % 8) (s0 % 13)) := by rw [rx_27]; exact goL_congr (by omega) (fun j hj => rx_n (by omega)) (fun j hj => rx_n (by omega))
                rw [hg_87] at hu_87 hx_87
                refine nx_ti hx_87 ?_
                rw [rx_s26] at hu_87
                have hP : va_P (dC, dI) vwCl (wsM aC am (va_up (va_up (va_up (va_up (va_up (va_up v 11 ta) 12 tb) 13 (nI (s0 / 104))) 14 (nI (s0 / 13 % 8))) 15 (nI (s0 % 13))) 17 (nI (goL (F 1) R n (F 4) M0 (s0 / 104) 0).2.length)) S Z (va_up (va_up (va_up F 7 tc) 8 td) 9 f9x) G) H := by cases hu_87; exact hP
                have hZ : mOK S Z (va_up (va_up (va_up R 26 (goL (F 1) R n (F 4) M0 (s0 / 13 % 8) (s0 % 13)).2) 27 M0) 28 tM) := by cases hu_87; exact hZ
                refine lv_istore_n (lv' := [(3, .int (goL (F 1) R n (F 4) M0 (s0 / 13 % 8) (s0 % 13)).1), (0, .ref (am 0)), (1, .int (nI i)), (2, .int (goL (F 1) R n (F 4) M0 (s0 / 104) 0).1)]) hx hb dX10_closes_90 rfl hl (by decide) rfl (fun ls hl => ?_)
                refine lv_iload_n hx hb dX10_closes_91 rfl (lv_at hl 0 rfl) ?_
                refine lv_bipush (v := (-5)) hx hb dX10_closes_92 (by decide) ?_
                refine lv_icmp_ne (tgt := 100) hx hb dX10_closes_94 (by decide) (fun c_94 => ?_) (fun c_94 => ?_)
                · skip
                  have hl2 : (goL (F 1) R n (F 4) M0 (s0 / 13 % 8) (s0 % 13)).2.length ≤ 60 := by have := (hZ 26 (by decide)).1; rwa [rx_26] at this
                  refine lv_iload_n hx hb dX10_closes_100 rfl (lv_at hl 3 rfl) ?_
                  refine lv_iload_n hx hb dX10_closes_101 rfl (lv_at hl 0 rfl) ?_
                  refine lv_icmp_ne (tgt := 127) hx hb dX10_closes_102 (by decide) (fun c_102 => ?_) (fun c_102 => ?_)
                  · skip
                    refine lv_iconst (v := nI 0) hx hb dX10_closes_127 (by decide) ?_
                    refine nx_ti (y := bI (clP (goL (F 1) R n (F 4) M0 (s0 / 104) 0).1 (goL (F 1) R n (F 4) M0 (s0 / 13 % 8) (s0 % 13)).1 (goL (F 1) R n (F 4) M0 (s0 / 104) 0).2 (goL (F 1) R n (F 4) M0 (s0 / 13 % 8) (s0 % 13)).2 0)) ((bI_f (fun h => c_102 h.1)).symm) ?_
                    refine lv_istore (lv' := [(4, .int (bI (clP (goL (F 1) R n (F 4) M0 (s0 / 104) 0).1 (goL (F 1) R n (F 4) M0 (s0 / 13 % 8) (s0 % 13)).1 (goL (F 1) R n (F 4) M0 (s0 / 104) 0).2 (goL (F 1) R n (F 4) M0 (s0 / 13 % 8) (s0 % 13)).2 0))), (3, .int (goL (F 1) R n (F 4) M0 (s0 / 13 % 8) (s0 % 13)).1), (0, .ref (am 0)), (1, .int (nI i)), (2, .int (goL (F 1) R n (F 4) M0 (s0 / 104) 0).1)]) hx hb dX10_closes_128 hl (by decide) rfl (fun ls hl => ?_)
                    refine lv_iconst (v := nI 0) hx hb dX10_closes_130 (by decide) ?_
                    refine lv_istore (lv' := [(5, .int (nI 0)), (4, .int (bI (clP (goL (F 1) R n (F 4) M0 (s0 / 104) 0).1 (goL (F 1) R n (F 4) M0 (s0 / 13 % 8) (s0 % 13)).1 (goL (F 1) R n (F 4) M0 (s0 / 104) 0).2 (goL (F 1) R n (F 4) M0 (s0 / 13 % 8) (s0 % 13)).2 0))), (3, .int (goL (F 1) R n (F 4) M0 (s0 / 13 % 8) (s0 % 13)).1), (0, .ref (am 0)), (1, .int (nI i)), (2, .int (goL (F 1) R n (F 4) M0 (s0 / 104) 0).1)]) hx hb dX10_closes_131 hl (by decide) rfl (fun ls hl => ?_)
                    have L133 : ∀ (fuel133 : Nat) (k3 : Nat) (S Z : Nat → Int32) (H : Heap) (locs : List Loc) (ls : Array Slot), (k3 ≤ (goL (F 1) R n (F 4) M0 (s0 / 104) 0).2.length) → mOK S Z (va_up (va_up (va_up R 26 (goL (F 1) R n (F 4) M0 (s0 / 13 % 8) (s0 % 13)).2) 27 M0) 28 tM) → va_P (dC, dI) vwCl (wsM aC am (va_up (va_up (va_up (va_up (va_up (va_up v 11 ta) 12 tb) 13 (nI (s0 / 104))) 14 (nI (s0 / 13 % 8))) 15 (nI (s0 % 13))) 17 (nI (goL (F 1) R n (F 4) M0 (s0 / 104) 0).2.length)) S Z (va_up (va_up (va_up F 7 tc) 8 td) 9 f9x) G) H → va_S (mA am) s.heap H locs → 60 - k3 < fuel133 → lv_has ls 6 [(0, .ref (am 0)), (1, .int (nI i)), (2, .int (goL (F 1) R n (F 4) M0 (s0 / 104) 0).1), (3, .int (goL (F 1) R n (F 4) M0 (s0 / 13 % 8) (s0 % 13)).1), (4, .int (bI (clP (goL (F 1) R n (F 4) M0 (s0 / 104) 0).1 (goL (F 1) R n (F 4) M0 (s0 / 13 % 8) (s0 % 13)).1 (goL (F 1) R n (F 4) M0 (s0 / 104) 0).2 (goL (F 1) R n (F 4) M0 (s0 / 13 % 8) (s0 % 13)).2 k3))), (5, .int (nI k3))] → W p l e ({ frames := 6, cells := 0, slots := 0, locals := 145 } : Room) s m ([.ref (am 0)] : List Value).toArray below meth c H locs 0 0 Q (F0 m 133 ls []) := by
                      intro fuel133
                      induction fuel133 with
                      | zero => intro k3 S Z H locs ls hk3 hZ hP hS hf133 hl; exact absurd hf133 (Nat.not_lt_zero _)
                      | succ fuel133 ih133 =>
                        intro k3 S Z H locs ls hk3 hZ hP hS hf133 hl
                        refine lv_iload hx hb dX10_closes_133 (lv_at hl 5 rfl) ?_
                        refine lv_aload_n hx hb dX10_closes_135 rfl (lv_at hl 0 rfl) ?_
                        refine va_get (D := (dC, dI)) (ci := 10) (C := RX10) (T := TX10) (N := 22) hx hb hts hin10 hown hK hP 0 rfl rfl 17 (by decide) lk2 (fun _ h9 => h9) rfl dX10_closes_136 ?_
                        refine nx_icmp_ge (a := k3) (b := (goL (F 1) R n (F 4) M0 (s0 / 104) 0).2.length) (tgt := 186) hx hb dX10_closes_139 (by decide) (by omega) (by omega) (fun c_139 => ?_) (fun c_139 => ?_)
                        · skip
                          refine lv_iload hx hb dX10_closes_186 (lv_at hl 4 rfl) ?_
                          refine nx_ti (y := bI (clQ (goL (F 1) R n (F 4) M0 (s0 / 104) 0).1 (goL (F 1) R n (F 4) M0 (s0 / 13 % 8) (s0 % 13)).1 (goL (F 1) R n (F 4) M0 (s0 / 104) 0).2 (goL (F 1) R n (F 4) M0 (s0 / 13 % 8) (s0 % 13)).2)) (bI_iff (clP_end c_139)) ?_
                          refine nx_bn (tgt := 193) hx hb dX10_closes_188 (by decide) (fun c_188 => ?_) (fun c_188 => ?_)
                          · skip
                            refine lv_iinc (v := nI (i + 1)) (lv' := [(1, .int (nI (i + 1))), (0, .ref (am 0)), (2, .int (goL (F 1) R n (F 4) M0 (s0 / 104) 0).1), (3, .int (goL (F 1) R n (F 4) M0 (s0 / 13 % 8) (s0 % 13)).1), (4, .int (bI (clP (goL (F 1) R n (F 4) M0 (s0 / 104) 0).1 (goL (F 1) R n (F 4) M0 (s0 / 13 % 8) (s0 % 13)).1 (goL (F 1) R n (F 4) M0 (s0 / 104) 0).2 (goL (F 1) R n (F 4) M0 (s0 / 13 % 8) (s0 % 13)).2 k3))), (5, .int (nI k3))]) hx hb dX10_closes_193 hl (k := 1) rfl (nI_add _ _) (by decide) rfl (fun ls hl => ?_)
                            refine lv_goto (tgt := 2) hx hb dX10_closes_196 (by decide) ?_
                            exact ih2 (i + 1) ta tb (nI (s0 / 104)) (nI (s0 / 13 % 8)) (nI (s0 % 13)) (nI (goL (F 1) R n (F 4) M0 (s0 / 104) 0).2.length) tc td f9x (goL (F 1) R n (F 4) M0 (s0 / 13 % 8) (s0 % 13)).2 M0 tM _ _ _ _ _ (by omega) (by rw [clF_s c_7 hs0, if_neg (by rw [clO_y c_68 c_94 c_188]; decide), if_pos (clO_y c_68 c_94 c_188)] at hres; exact hres) hZ hP hS (by omega) (lv_sub hl [1, 0] rfl)
                          · skip
                            refine lv_iload_n hx hb dX10_closes_191 rfl (lv_at hl 1 rfl) ?_
                            subst hQ
                            exact W.iret (v := nI i) hx hb hret (fun tq htq hWq => ⟨⟨_, ((va_up (va_up (va_up (va_up (va_up (va_up v 11 ta) 12 tb) 13 (nI (s0 / 104))) 14 (nI (s0 / 13 % 8))) 15 (nI (s0 % 13))) 17 (nI (goL (F 1) R n (F 4) M0 (s0 / 104) 0).2.length)), va_up (va_up (va_up R 26 (goL (F 1) R n (F 4) M0 (s0 / 13 % 8) (s0 % 13)).2) 27 M0) 28 tM, (va_up (va_up (va_up F 7 tc) 8 td) 9 f9x), G), rfl, ⟨_, _, _, _, _, _, _, _, _, _, rfl, fun k hk => rx_n hk, by rw [← hres, clF_s c_7 hs0, if_neg (by rw [clO_n c_68 c_94 c_188]; decide), if_neg (by rw [clO_n c_68 c_94 c_188]; decide)]⟩, va_K.moved hWq.alike hK, _, _, hZ, by rw [htq]; exact hP⟩, hS.F htq⟩) hS.2.2 dX10_closes_192
                        · skip
                          refine lv_iload hx hb dX10_closes_142 (lv_at hl 4 rfl) ?_
                          refine nx_bz (tgt := 186) hx hb dX10_closes_144 (by decide) (fun c_144 => ?_) (fun c_144 => ?_)
                          · skip
                            refine lv_iload hx hb dX10_closes_186 (lv_at hl 4 rfl) ?_
                            refine nx_ti (y := bI (clQ (goL (F 1) R n (F 4) M0 (s0 / 104) 0).1 (goL (F 1) R n (F 4) M0 (s0 / 13 % 8) (s0 % 13)).1 (goL (F 1) R n (F 4) M0 (s0 / 104) 0).2 (goL (F 1) R n (F 4) M0 (s0 / 13 % 8) (s0 % 13)).2)) (bI_iff ⟨fun h => absurd h c_144, fun h => absurd (clP_of k3 h) c_144⟩) ?_
                            refine nx_bn (tgt := 193) hx hb dX10_closes_188 (by decide) (fun c_188 => ?_) (fun c_188 => ?_)
                            · skip
                              refine lv_iinc (v := nI (i + 1)) (lv' := [(1, .int (nI (i + 1))), (0, .ref (am 0)), (2, .int (goL (F 1) R n (F 4) M0 (s0 / 104) 0).1), (3, .int (goL (F 1) R n (F 4) M0 (s0 / 13 % 8) (s0 % 13)).1), (4, .int (bI (clP (goL (F 1) R n (F 4) M0 (s0 / 104) 0).1 (goL (F 1) R n (F 4) M0 (s0 / 13 % 8) (s0 % 13)).1 (goL (F 1) R n (F 4) M0 (s0 / 104) 0).2 (goL (F 1) R n (F 4) M0 (s0 / 13 % 8) (s0 % 13)).2 k3))), (5, .int (nI k3))]) hx hb dX10_closes_193 hl (k := 1) rfl (nI_add _ _) (by decide) rfl (fun ls hl => ?_)
                              refine lv_goto (tgt := 2) hx hb dX10_closes_196 (by decide) ?_
                              exact ih2 (i + 1) ta tb (nI (s0 / 104)) (nI (s0 / 13 % 8)) (nI (s0 % 13)) (nI (goL (F 1) R n (F 4) M0 (s0 / 104) 0).2.length) tc td f9x (goL (F 1) R n (F 4) M0 (s0 / 13 % 8) (s0 % 13)).2 M0 tM _ _ _ _ _ (by omega) (by rw [clF_s c_7 hs0, if_neg (by rw [clO_y c_68 c_94 c_188]; decide), if_pos (clO_y c_68 c_94 c_188)] at hres; exact hres) hZ hP hS (by omega) (lv_sub hl [1, 0] rfl)
                            · skip
                              refine lv_iload_n hx hb dX10_closes_191 rfl (lv_at hl 1 rfl) ?_
                              subst hQ
                              exact W.iret (v := nI i) hx hb hret (fun tq htq hWq => ⟨⟨_, ((va_up (va_up (va_up (va_up (va_up (va_up v 11 ta) 12 tb) 13 (nI (s0 / 104))) 14 (nI (s0 / 13 % 8))) 15 (nI (s0 % 13))) 17 (nI (goL (F 1) R n (F 4) M0 (s0 / 104) 0).2.length)), va_up (va_up (va_up R 26 (goL (F 1) R n (F 4) M0 (s0 / 13 % 8) (s0 % 13)).2) 27 M0) 28 tM, (va_up (va_up (va_up F 7 tc) 8 td) 9 f9x), G), rfl, ⟨_, _, _, _, _, _, _, _, _, _, rfl, fun k hk => rx_n hk, by rw [← hres, clF_s c_7 hs0, if_neg (by rw [clO_n c_68 c_94 c_188]; decide), if_neg (by rw [clO_n c_68 c_94 c_188]; decide)]⟩, va_K.moved hWq.alike hK, _, _, hZ, by rw [htq]; exact hP⟩, hS.F htq⟩) hS.2.2 dX10_closes_192
                          · skip
                            refine lv_iload_n hx hb dX10_closes_147 rfl (lv_at hl 2 rfl) ?_
                            refine lv_iconst (v := nI 1) hx hb dX10_closes_148 (by decide) ?_
                            refine lv_icmp_ne (tgt := 186) hx hb dX10_closes_149 (by decide) (fun c_149 => ?_) (fun c_149 => ?_)
                            · skip
                              refine lv_iload hx hb dX10_closes_186 (lv_at hl 4 rfl) ?_
                              refine nx_ti (y := bI (clQ (goL (F 1) R n (F 4) M0 (s0 / 104) 0).1 (goL (F 1) R n (F 4) M0 (s0 / 13 % 8) (s0 % 13)).1 (goL (F 1) R n (F 4) M0 (s0 / 104) 0).2 (goL (F 1) R n (F 4) M0 (s0 / 13 % 8) (s0 % 13)).2)) (bI_iff (clP_0 (by rcases goL_val (E := F 1) (R := R) (n := n) (tn := F 4) (T := M0) (k := s0 / 104) (u := 0) with h | h | h <;> first | exact absurd h c_68 | exact h | exact absurd h c_149))) ?_
                              refine nx_bn (tgt := 193) hx hb dX10_closes_188 (by decide) (fun c_188 => ?_) (fun c_188 => ?_)
                              · skip
                                refine lv_iinc (v := nI (i + 1)) (lv' := [(1, .int (nI (i + 1))), (0, .ref (am 0)), (2, .int (goL (F 1) R n (F 4) M0 (s0 / 104) 0).1), (3, .int (goL (F 1) R n (F 4) M0 (s0 / 13 % 8) (s0 % 13)).1), (4, .int (bI (clP (goL (F 1) R n (F 4) M0 (s0 / 104) 0).1 (goL (F 1) R n (F 4) M0 (s0 / 13 % 8) (s0 % 13)).1 (goL (F 1) R n (F 4) M0 (s0 / 104) 0).2 (goL (F 1) R n (F 4) M0 (s0 / 13 % 8) (s0 % 13)).2 k3))), (5, .int (nI k3))]) hx hb dX10_closes_193 hl (k := 1) rfl (nI_add _ _) (by decide) rfl (fun ls hl => ?_)
                                refine lv_goto (tgt := 2) hx hb dX10_closes_196 (by decide) ?_
                                exact ih2 (i + 1) ta tb (nI (s0 / 104)) (nI (s0 / 13 % 8)) (nI (s0 % 13)) (nI (goL (F 1) R n (F 4) M0 (s0 / 104) 0).2.length) tc td f9x (goL (F 1) R n (F 4) M0 (s0 / 13 % 8) (s0 % 13)).2 M0 tM _ _ _ _ _ (by omega) (by rw [clF_s c_7 hs0, if_neg (by rw [clO_y c_68 c_94 c_188]; decide), if_pos (clO_y c_68 c_94 c_188)] at hres; exact hres) hZ hP hS (by omega) (lv_sub hl [1, 0] rfl)
                              · skip
                                refine lv_iload_n hx hb dX10_closes_191 rfl (lv_at hl 1 rfl) ?_
                                subst hQ
                                exact W.iret (v := nI i) hx hb hret (fun tq htq hWq => ⟨⟨_, ((va_up (va_up (va_up (va_up (va_up (va_up v 11 ta) 12 tb) 13 (nI (s0 / 104))) 14 (nI (s0 / 13 % 8))) 15 (nI (s0 % 13))) 17 (nI (goL (F 1) R n (F 4) M0 (s0 / 104) 0).2.length)), va_up (va_up (va_up R 26 (goL (F 1) R n (F 4) M0 (s0 / 13 % 8) (s0 % 13)).2) 27 M0) 28 tM, (va_up (va_up (va_up F 7 tc) 8 td) 9 f9x), G), rfl, ⟨_, _, _, _, _, _, _, _, _, _, rfl, fun k hk => rx_n hk, by rw [← hres, clF_s c_7 hs0, if_neg (by rw [clO_n c_68 c_94 c_188]; decide), if_neg (by rw [clO_n c_68 c_94 c_188]; decide)]⟩, va_K.moved hWq.alike hK, _, _, hZ, by rw [htq]; exact hP⟩, hS.F htq⟩) hS.2.2 dX10_closes_192
                            · skip
                              have hne0 : ¬ (goL (F 1) R n (F 4) M0 (s0 / 104) 0).1 = 0 := by rw [c_149]; decide
                              have hle2 := (c_144.2.resolve_left hne0).1
                              refine lv_aload_n hx hb dX10_closes_152 rfl (lv_at hl 0 rfl) ?_
                              refine va_get (D := (dC, dI)) (ci := 10) (C := RX10) (T := TX10) (N := 22) hx hb hts hin10 hown hK hP 0 rfl rfl 16 (by decide) lk5 (fun _ h9 => h9) rfl dX10_closes_153 ?_
                              refine lv_iload hx hb dX10_closes_156 (lv_at hl 5 rfl) ?_
                              refine nx_iald hx hb hK hP 9 0 rfl rfl (i := k3) (by omega) (by decide) dX10_closes_158 ?_
                              refine nx_ti (y := gD (goL (F 1) R n (F 4) M0 (s0 / 104) 0).2 k3) (hf9 k3 (by omega)) ?_
                              refine lv_aload_n hx hb dX10_closes_159 rfl (lv_at hl 0 rfl) ?_
                              refine va_get (D := (dC, dI)) (ci := 10) (C := RX10) (T := TX10) (N := 22) hx hb hts hin10 hown hK hP 0 rfl rfl 2 (by decide) lk6 (fun _ h9 => h9) rfl dX10_closes_160 ?_
                              refine lv_sipush (v := nI 1560) hx hb dX10_closes_163 (by decide) ?_
                              refine lv_iload hx hb dX10_closes_166 (lv_at hl 5 rfl) ?_
                              refine lv_iadd hx hb dX10_closes_168 ?_
                              refine nx_ti (y := nI (1560 + k3)) (nI_add _ _) ?_
                              refine nx_iald hx hb hK hP 2 0 rfl rfl (i := 1560 + k3) (by omega) (by decide) dX10_closes_169 ?_
                              refine nx_ti (y := gD ((va_up (va_up (va_up R 26 (goL (F 1) R n (F 4) M0 (s0 / 13 % 8) (s0 % 13)).2) 27 M0) 28 tM) 26) k3) ((hZ 26 (by omega)).2.2 k3 (by rw [rx_26]; omega)) ?_
                              refine nx_ti (y := gD (goL (F 1) R n (F 4) M0 (s0 / 13 % 8) (s0 % 13)).2 k3) (by rw [rx_26]) ?_
                              refine lv_icmp_ne (tgt := 177) hx hb dX10_closes_170 (by decide) (fun c_170 => ?_) (fun c_170 => ?_)
                              · skip
                                refine lv_iconst (v := nI 0) hx hb dX10_closes_177 (by decide) ?_
                                refine nx_ti (y := bI (clP (goL (F 1) R n (F 4) M0 (s0 / 104) 0).1 (goL (F 1) R n (F 4) M0 (s0 / 13 % 8) (s0 % 13)).1 (goL (F 1) R n (F 4) M0 (s0 / 104) 0).2 (goL (F 1) R n (F 4) M0 (s0 / 13 % 8) (s0 % 13)).2 (k3 + 1))) ((bI_f (clP_x hne0 c_170)).symm) ?_
                                refine lv_istore (lv' := [(4, .int (bI (clP (goL (F 1) R n (F 4) M0 (s0 / 104) 0).1 (goL (F 1) R n (F 4) M0 (s0 / 13 % 8) (s0 % 13)).1 (goL (F 1) R n (F 4) M0 (s0 / 104) 0).2 (goL (F 1) R n (F 4) M0 (s0 / 13 % 8) (s0 % 13)).2 (k3 + 1)))), (0, .ref (am 0)), (1, .int (nI i)), (2, .int (goL (F 1) R n (F 4) M0 (s0 / 104) 0).1), (3, .int (goL (F 1) R n (F 4) M0 (s0 / 13 % 8) (s0 % 13)).1), (5, .int (nI k3))]) hx hb dX10_closes_178 hl (by decide) rfl (fun ls hl => ?_)
                                refine lv_iinc (v := nI (k3 + 1)) (lv' := [(5, .int (nI (k3 + 1))), (4, .int (bI (clP (goL (F 1) R n (F 4) M0 (s0 / 104) 0).1 (goL (F 1) R n (F 4) M0 (s0 / 13 % 8) (s0 % 13)).1 (goL (F 1) R n (F 4) M0 (s0 / 104) 0).2 (goL (F 1) R n (F 4) M0 (s0 / 13 % 8) (s0 % 13)).2 (k3 + 1)))), (0, .ref (am 0)), (1, .int (nI i)), (2, .int (goL (F 1) R n (F 4) M0 (s0 / 104) 0).1), (3, .int (goL (F 1) R n (F 4) M0 (s0 / 13 % 8) (s0 % 13)).1)]) hx hb dX10_closes_180 hl (k := 5) rfl (nI_add _ _) (by decide) rfl (fun ls hl => ?_)
                                refine lv_goto (tgt := 133) hx hb dX10_closes_183 (by decide) ?_
                                exact ih133 (k3 + 1) _ _ _ _ _ (by omega) hZ hP hS (by omega) (lv_sub hl [2, 3, 4, 5, 1, 0] rfl)
                              · skip
                                refine lv_iconst (v := nI 1) hx hb dX10_closes_173 (by decide) ?_
                                refine lv_goto (tgt := 178) hx hb dX10_closes_174 (by decide) ?_
                                refine nx_ti (y := bI (clP (goL (F 1) R n (F 4) M0 (s0 / 104) 0).1 (goL (F 1) R n (F 4) M0 (s0 / 13 % 8) (s0 % 13)).1 (goL (F 1) R n (F 4) M0 (s0 / 104) 0).2 (goL (F 1) R n (F 4) M0 (s0 / 13 % 8) (s0 % 13)).2 (k3 + 1))) ((bI_t (clP_s c_144 hne0 c_170)).symm) ?_
                                refine lv_istore (lv' := [(4, .int (bI (clP (goL (F 1) R n (F 4) M0 (s0 / 104) 0).1 (goL (F 1) R n (F 4) M0 (s0 / 13 % 8) (s0 % 13)).1 (goL (F 1) R n (F 4) M0 (s0 / 104) 0).2 (goL (F 1) R n (F 4) M0 (s0 / 13 % 8) (s0 % 13)).2 (k3 + 1)))), (0, .ref (am 0)), (1, .int (nI i)), (2, .int (goL (F 1) R n (F 4) M0 (s0 / 104) 0).1), (3, .int (goL (F 1) R n (F 4) M0 (s0 / 13 % 8) (s0 % 13)).1), (5, .int (nI k3))]) hx hb dX10_closes_178 hl (by decide) rfl (fun ls hl => ?_)
                                refine lv_iinc (v := nI (k3 + 1)) (lv' := [(5, .int (nI (k3 + 1))), (4, .int (bI (clP (goL (F 1) R n (F 4) M0 (s0 / 104) 0).1 (goL (F 1) R n (F 4) M0 (s0 / 13 % 8) (s0 % 13)).1 (goL (F 1) R n (F 4) M0 (s0 / 104) 0).2 (goL (F 1) R n (F 4) M0 (s0 / 13 % 8) (s0 % 13)).2 (k3 + 1)))), (0, .ref (am 0)), (1, .int (nI i)), (2, .int (goL (F 1) R n (F 4) M0 (s0 / 104) 0).1), (3, .int (goL (F 1) R n (F 4) M0 (s0 / 13 % 8) (s0 % 13)).1)]) hx hb dX10_closes_180 hl (k := 5) rfl (nI_add _ _) (by decide) rfl (fun ls hl => ?_)
                                refine lv_goto (tgt := 133) hx hb dX10_closes_183 (by decide) ?_
                                exact ih133 (k3 + 1) _ _ _ _ _ (by omega) hZ hP hS (by omega) (lv_sub hl [2, 3, 4, 5, 1, 0] rfl)
                    exact L133 (60 - 0 + 1) 0 _ _ _ _ _ (by omega) hZ hP hS (Nat.lt_succ_self _) (lv_sub hl [3, 4, 5, 2, 1, 0] rfl)
                  · skip
                    refine lv_iload_n hx hb dX10_closes_105 rfl (lv_at hl 3 rfl) ?_
                    refine lv_if_eq (tgt := 123) hx hb dX10_closes_106 (by decide) (fun c_106 => ?_) (fun c_106 => ?_)
                    · skip
                      refine lv_iconst (v := nI 1) hx hb dX10_closes_123 (by decide) ?_
                      refine lv_goto (tgt := 128) hx hb dX10_closes_124 (by decide) ?_
                      refine nx_ti (y := bI (clP (goL (F 1) R n (F 4) M0 (s0 / 104) 0).1 (goL (F 1) R n (F 4) M0 (s0 / 13 % 8) (s0 % 13)).1 (goL (F 1) R n (F 4) M0 (s0 / 104) 0).2 (goL (F 1) R n (F 4) M0 (s0 / 13 % 8) (s0 % 13)).2 0)) ((bI_t ⟨c_102, Or.inl c_106⟩).symm) ?_
                      refine lv_istore (lv' := [(4, .int (bI (clP (goL (F 1) R n (F 4) M0 (s0 / 104) 0).1 (goL (F 1) R n (F 4) M0 (s0 / 13 % 8) (s0 % 13)).1 (goL (F 1) R n (F 4) M0 (s0 / 104) 0).2 (goL (F 1) R n (F 4) M0 (s0 / 13 % 8) (s0 % 13)).2 0))), (3, .int (goL (F 1) R n (F 4) M0 (s0 / 13 % 8) (s0 % 13)).1), (0, .ref (am 0)), (1, .int (nI i)), (2, .int (goL (F 1) R n (F 4) M0 (s0 / 104) 0).1)]) hx hb dX10_closes_128 hl (by decide) rfl (fun ls hl => ?_)
                      refine lv_iconst (v := nI 0) hx hb dX10_closes_130 (by decide) ?_
                      refine lv_istore (lv' := [(5, .int (nI 0)), (4, .int (bI (clP (goL (F 1) R n (F 4) M0 (s0 / 104) 0).1 (goL (F 1) R n (F 4) M0 (s0 / 13 % 8) (s0 % 13)).1 (goL (F 1) R n (F 4) M0 (s0 / 104) 0).2 (goL (F 1) R n (F 4) M0 (s0 / 13 % 8) (s0 % 13)).2 0))), (3, .int (goL (F 1) R n (F 4) M0 (s0 / 13 % 8) (s0 % 13)).1), (0, .ref (am 0)), (1, .int (nI i)), (2, .int (goL (F 1) R n (F 4) M0 (s0 / 104) 0).1)]) hx hb dX10_closes_131 hl (by decide) rfl (fun ls hl => ?_)
                      have L133 : ∀ (fuel133 : Nat) (k3 : Nat) (S Z : Nat → Int32) (H : Heap) (locs : List Loc) (ls : Array Slot), (k3 ≤ (goL (F 1) R n (F 4) M0 (s0 / 104) 0).2.length) → mOK S Z (va_up (va_up (va_up R 26 (goL (F 1) R n (F 4) M0 (s0 / 13 % 8) (s0 % 13)).2) 27 M0) 28 tM) → va_P (dC, dI) vwCl (wsM aC am (va_up (va_up (va_up (va_up (va_up (va_up v 11 ta) 12 tb) 13 (nI (s0 / 104))) 14 (nI (s0 / 13 % 8))) 15 (nI (s0 % 13))) 17 (nI (goL (F 1) R n (F 4) M0 (s0 / 104) 0).2.length)) S Z (va_up (va_up (va_up F 7 tc) 8 td) 9 f9x) G) H → va_S (mA am) s.heap H locs → 60 - k3 < fuel133 → lv_has ls 6 [(0, .ref (am 0)), (1, .int (nI i)), (2, .int (goL (F 1) R n (F 4) M0 (s0 / 104) 0).1), (3, .int (goL (F 1) R n (F 4) M0 (s0 / 13 % 8) (s0 % 13)).1), (4, .int (bI (clP (goL (F 1) R n (F 4) M0 (s0 / 104) 0).1 (goL (F 1) R n (F 4) M0 (s0 / 13 % 8) (s0 % 13)).1 (goL (F 1) R n (F 4) M0 (s0 / 104) 0).2 (goL (F 1) R n (F 4) M0 (s0 / 13 % 8) (s0 % 13)).2 k3))), (5, .int (nI k3))] → W p l e ({ frames := 6, cells := 0, slots := 0, locals := 145 } : Room) s m ([.ref (am 0)] : List Value).toArray below meth c H locs 0 0 Q (F0 m 133 ls []) := by
                        intro fuel133
                        induction fuel133 with
                        | zero => intro k3 S Z H locs ls hk3 hZ hP hS hf133 hl; exact absurd hf133 (Nat.not_lt_zero _)
                        | succ fuel133 ih133 =>
                          intro k3 S Z H locs ls hk3 hZ hP hS hf133 hl
                          refine lv_iload hx hb dX10_closes_133 (lv_at hl 5 rfl) ?_
                          refine lv_aload_n hx hb dX10_closes_135 rfl (lv_at hl 0 rfl) ?_
                          refine va_get (D := (dC, dI)) (ci := 10) (C := RX10) (T := TX10) (N := 22) hx hb hts hin10 hown hK hP 0 rfl rfl 17 (by decide) lk2 (fun _ h9 => h9) rfl dX10_closes_136 ?_
                          refine nx_icmp_ge (a := k3) (b := (goL (F 1) R n (F 4) M0 (s0 / 104) 0).2.length) (tgt := 186) hx hb dX10_closes_139 (by decide) (by omega) (by omega) (fun c_139 => ?_) (fun c_139 => ?_)
                          · skip
                            refine lv_iload hx hb dX10_closes_186 (lv_at hl 4 rfl) ?_
                            refine nx_ti (y := bI (clQ (goL (F 1) R n (F 4) M0 (s0 / 104) 0).1 (goL (F 1) R n (F 4) M0 (s0 / 13 % 8) (s0 % 13)).1 (goL (F 1) R n (F 4) M0 (s0 / 104) 0).2 (goL (F 1) R n (F 4) M0 (s0 / 13 % 8) (s0 % 13)).2)) (bI_iff (clP_end c_139)) ?_
                            refine nx_bn (tgt := 193) hx hb dX10_closes_188 (by decide) (fun c_188 => ?_) (fun c_188 => ?_)
                            · skip
                              refine lv_iinc (v := nI (i + 1)) (lv' := [(1, .int (nI (i + 1))), (0, .ref (am 0)), (2, .int (goL (F 1) R n (F 4) M0 (s0 / 104) 0).1), (3, .int (goL (F 1) R n (F 4) M0 (s0 / 13 % 8) (s0 % 13)).1), (4, .int (bI (clP (goL (F 1) R n (F 4) M0 (s0 / 104) 0).1 (goL (F 1) R n (F 4) M0 (s0 / 13 % 8) (s0 % 13)).1 (goL (F 1) R n (F 4) M0 (s0 / 104) 0).2 (goL (F 1) R n (F 4) M0 (s0 / 13 % 8) (s0 % 13)).2 k3))), (5, .int (nI k3))]) hx hb dX10_closes_193 hl (k := 1) rfl (nI_add _ _) (by decide) rfl (fun ls hl => ?_)
                              refine lv_goto (tgt := 2) hx hb dX10_closes_196 (by decide) ?_
                              exact ih2 (i + 1) ta tb (nI (s0 / 104)) (nI (s0 / 13 % 8)) (nI (s0 % 13)) (nI (goL (F 1) R n (F 4) M0 (s0 / 104) 0).2.length) tc td f9x (goL (F 1) R n (F 4) M0 (s0 / 13 % 8) (s0 % 13)).2 M0 tM _ _ _ _ _ (by omega) (by rw [clF_s c_7 hs0, if_neg (by rw [clO_y c_68 c_94 c_188]; decide), if_pos (clO_y c_68 c_94 c_188)] at hres; exact hres) hZ hP hS (by omega) (lv_sub hl [1, 0] rfl)
                            · skip
                              refine lv_iload_n hx hb dX10_closes_191 rfl (lv_at hl 1 rfl) ?_
                              subst hQ
                              exact W.iret (v := nI i) hx hb hret (fun tq htq hWq => ⟨⟨_, ((va_up (va_up (va_up (va_up (va_up (va_up v 11 ta) 12 tb) 13 (nI (s0 / 104))) 14 (nI (s0 / 13 % 8))) 15 (nI (s0 % 13))) 17 (nI (goL (F 1) R n (F 4) M0 (s0 / 104) 0).2.length)), va_up (va_up (va_up R 26 (goL (F 1) R n (F 4) M0 (s0 / 13 % 8) (s0 % 13)).2) 27 M0) 28 tM, (va_up (va_up (va_up F 7 tc) 8 td) 9 f9x), G), rfl, ⟨_, _, _, _, _, _, _, _, _, _, rfl, fun k hk => rx_n hk, by rw [← hres, clF_s c_7 hs0, if_neg (by rw [clO_n c_68 c_94 c_188]; decide), if_neg (by rw [clO_n c_68 c_94 c_188]; decide)]⟩, va_K.moved hWq.alike hK, _, _, hZ, by rw [htq]; exact hP⟩, hS.F htq⟩) hS.2.2 dX10_closes_192
                          · skip
                            refine lv_iload hx hb dX10_closes_142 (lv_at hl 4 rfl) ?_
                            refine nx_bz (tgt := 186) hx hb dX10_closes_144 (by decide) (fun c_144 => ?_) (fun c_144 => ?_)
                            · skip
                              refine lv_iload hx hb dX10_closes_186 (lv_at hl 4 rfl) ?_
                              refine nx_ti (y := bI (clQ (goL (F 1) R n (F 4) M0 (s0 / 104) 0).1 (goL (F 1) R n (F 4) M0 (s0 / 13 % 8) (s0 % 13)).1 (goL (F 1) R n (F 4) M0 (s0 / 104) 0).2 (goL (F 1) R n (F 4) M0 (s0 / 13 % 8) (s0 % 13)).2)) (bI_iff ⟨fun h => absurd h c_144, fun h => absurd (clP_of k3 h) c_144⟩) ?_
                              refine nx_bn (tgt := 193) hx hb dX10_closes_188 (by decide) (fun c_188 => ?_) (fun c_188 => ?_)
                              · skip
                                refine lv_iinc (v := nI (i + 1)) (lv' := [(1, .int (nI (i + 1))), (0, .ref (am 0)), (2, .int (goL (F 1) R n (F 4) M0 (s0 / 104) 0).1), (3, .int (goL (F 1) R n (F 4) M0 (s0 / 13 % 8) (s0 % 13)).1), (4, .int (bI (clP (goL (F 1) R n (F 4) M0 (s0 / 104) 0).1 (goL (F 1) R n (F 4) M0 (s0 / 13 % 8) (s0 % 13)).1 (goL (F 1) R n (F 4) M0 (s0 / 104) 0).2 (goL (F 1) R n (F 4) M0 (s0 / 13 % 8) (s0 % 13)).2 k3))), (5, .int (nI k3))]) hx hb dX10_closes_193 hl (k := 1) rfl (nI_add _ _) (by decide) rfl (fun ls hl => ?_)
                                refine lv_goto (tgt := 2) hx hb dX10_closes_196 (by decide) ?_
                                exact ih2 (i + 1) ta tb (nI (s0 / 104)) (nI (s0 / 13 % 8)) (nI (s0 % 13)) (nI (goL (F 1) R n (F 4) M0 (s0 / 104) 0).2.length) tc td f9x (goL (F 1) R n (F 4) M0 (s0 / 13 % 8) (s0 % 13)).2 M0 tM _ _ _ _ _ (by omega) (by rw [clF_s c_7 hs0, if_neg (by rw [clO_y c_68 c_94 c_188]; decide), if_pos (clO_y c_68 c_94 c_188)] at hres; exact hres) hZ hP hS (by omega) (lv_sub hl [1, 0] rfl)
                              · skip
                                refine lv_iload_n hx hb dX10_closes_191 rfl (lv_at hl 1 rfl) ?_
                                subst hQ
                                exact W.iret (v := nI i) hx hb hret (fun tq htq hWq => ⟨⟨_, ((va_up (va_up (va_up (va_up (va_up (va_up v 11 ta) 12 tb) 13 (nI (s0 / 104))) 14 (nI (s0 / 13 % 8))) 15 (nI (s0 % 13))) 17 (nI (goL (F 1) R n (F 4) M0 (s0 / 104) 0).2.length)), va_up (va_up (va_up R 26 (goL (F 1) R n (F 4) M0 (s0 / 13 % 8) (s0 % 13)).2) 27 M0) 28 tM, (va_up (va_up (va_up F 7 tc) 8 td) 9 f9x), G), rfl, ⟨_, _, _, _, _, _, _, _, _, _, rfl, fun k hk => rx_n hk, by rw [← hres, clF_s c_7 hs0, if_neg (by rw [clO_n c_68 c_94 c_188]; decide), if_neg (by rw [clO_n c_68 c_94 c_188]; decide)]⟩, va_K.moved hWq.alike hK, _, _, hZ, by rw [htq]; exact hP⟩, hS.F htq⟩) hS.2.2 dX10_closes_192
                            · skip
                              refine lv_iload_n hx hb dX10_closes_147 rfl (lv_at hl 2 rfl) ?_
                              refine lv_iconst (v := nI 1) hx hb dX10_closes_148 (by decide) ?_
                              refine lv_icmp_ne (tgt := 186) hx hb dX10_closes_149 (by decide) (fun c_149 => ?_) (fun c_149 => ?_)
                              · skip
                                refine lv_iload hx hb dX10_closes_186 (lv_at hl 4 rfl) ?_
                                refine nx_ti (y := bI (clQ (goL (F 1) R n (F 4) M0 (s0 / 104) 0).1 (goL (F 1) R n (F 4) M0 (s0 / 13 % 8) (s0 % 13)).1 (goL (F 1) R n (F 4) M0 (s0 / 104) 0).2 (goL (F 1) R n (F 4) M0 (s0 / 13 % 8) (s0 % 13)).2)) (bI_iff (clP_0 (by rcases goL_val (E := F 1) (R := R) (n := n) (tn := F 4) (T := M0) (k := s0 / 104) (u := 0) with h | h | h <;> first | exact absurd h c_68 | exact h | exact absurd h c_149))) ?_
                                refine nx_bn (tgt := 193) hx hb dX10_closes_188 (by decide) (fun c_188 => ?_) (fun c_188 => ?_)
                                · skip
                                  refine lv_iinc (v := nI (i + 1)) (lv' := [(1, .int (nI (i + 1))), (0, .ref (am 0)), (2, .int (goL (F 1) R n (F 4) M0 (s0 / 104) 0).1), (3, .int (goL (F 1) R n (F 4) M0 (s0 / 13 % 8) (s0 % 13)).1), (4, .int (bI (clP (goL (F 1) R n (F 4) M0 (s0 / 104) 0).1 (goL (F 1) R n (F 4) M0 (s0 / 13 % 8) (s0 % 13)).1 (goL (F 1) R n (F 4) M0 (s0 / 104) 0).2 (goL (F 1) R n (F 4) M0 (s0 / 13 % 8) (s0 % 13)).2 k3))), (5, .int (nI k3))]) hx hb dX10_closes_193 hl (k := 1) rfl (nI_add _ _) (by decide) rfl (fun ls hl => ?_)
                                  refine lv_goto (tgt := 2) hx hb dX10_closes_196 (by decide) ?_
                                  exact ih2 (i + 1) ta tb (nI (s0 / 104)) (nI (s0 / 13 % 8)) (nI (s0 % 13)) (nI (goL (F 1) R n (F 4) M0 (s0 / 104) 0).2.length) tc td f9x (goL (F 1) R n (F 4) M0 (s0 / 13 % 8) (s0 % 13)).2 M0 tM _ _ _ _ _ (by omega) (by rw [clF_s c_7 hs0, if_neg (by rw [clO_y c_68 c_94 c_188]; decide), if_pos (clO_y c_68 c_94 c_188)] at hres; exact hres) hZ hP hS (by omega) (lv_sub hl [1, 0] rfl)
                                · skip
                                  refine lv_iload_n hx hb dX10_closes_191 rfl (lv_at hl 1 rfl) ?_
                                  subst hQ
                                  exact W.iret (v := nI i) hx hb hret (fun tq htq hWq => ⟨⟨_, ((va_up (va_up (va_up (va_up (va_up (va_up v 11 ta) 12 tb) 13 (nI (s0 / 104))) 14 (nI (s0 / 13 % 8))) 15 (nI (s0 % 13))) 17 (nI (goL (F 1) R n (F 4) M0 (s0 / 104) 0).2.length)), va_up (va_up (va_up R 26 (goL (F 1) R n (F 4) M0 (s0 / 13 % 8) (s0 % 13)).2) 27 M0) 28 tM, (va_up (va_up (va_up F 7 tc) 8 td) 9 f9x), G), rfl, ⟨_, _, _, _, _, _, _, _, _, _, rfl, fun k hk => rx_n hk, by rw [← hres, clF_s c_7 hs0, if_neg (by rw [clO_n c_68 c_94 c_188]; decide), if_neg (by rw [clO_n c_68 c_94 c_188]; decide)]⟩, va_K.moved hWq.alike hK, _, _, hZ, by rw [htq]; exact hP⟩, hS.F htq⟩) hS.2.2 dX10_closes_192
                              · skip
                                have hne0 : ¬ (goL (F 1) R n (F 4) M0 (s0 / 104) 0).1 = 0 := by rw [c_149]; decide
                                have hle2 := (c_144.2.resolve_left hne0).1
                                refine lv_aload_n hx hb dX10_closes_152 rfl (lv_at hl 0 rfl) ?_
                                refine va_get (D := (dC, dI)) (ci := 10) (C := RX10) (T := TX10) (N := 22) hx hb hts hin10 hown hK hP 0 rfl rfl 16 (by decide) lk5 (fun _ h9 => h9) rfl dX10_closes_153 ?_
                                refine lv_iload hx hb dX10_closes_156 (lv_at hl 5 rfl) ?_
                                refine nx_iald hx hb hK hP 9 0 rfl rfl (i := k3) (by omega) (by decide) dX10_closes_158 ?_
                                refine nx_ti (y := gD (goL (F 1) R n (F 4) M0 (s0 / 104) 0).2 k3) (hf9 k3 (by omega)) ?_
                                refine lv_aload_n hx hb dX10_closes_159 rfl (lv_at hl 0 rfl) ?_
                                refine va_get (D := (dC, dI)) (ci := 10) (C := RX10) (T := TX10) (N := 22) hx hb hts hin10 hown hK hP 0 rfl rfl 2 (by decide) lk6 (fun _ h9 => h9) rfl dX10_closes_160 ?_
                                refine lv_sipush (v := nI 1560) hx hb dX10_closes_163 (by decide) ?_
                                refine lv_iload hx hb dX10_closes_166 (lv_at hl 5 rfl) ?_
                                refine lv_iadd hx hb dX10_closes_168 ?_
                                refine nx_ti (y := nI (1560 + k3)) (nI_add _ _) ?_
                                refine nx_iald hx hb hK hP 2 0 rfl rfl (i := 1560 + k3) (by omega) (by decide) dX10_closes_169 ?_
                                refine nx_ti (y := gD ((va_up (va_up (va_up R 26 (goL (F 1) R n (F 4) M0 (s0 / 13 % 8) (s0 % 13)).2) 27 M0) 28 tM) 26) k3) ((hZ 26 (by omega)).2.2 k3 (by rw [rx_26]; omega)) ?_
                                refine nx_ti (y := gD (goL (F 1) R n (F 4) M0 (s0 / 13 % 8) (s0 % 13)).2 k3) (by rw [rx_26]) ?_
                                refine lv_icmp_ne (tgt := 177) hx hb dX10_closes_170 (by decide) (fun c_170 => ?_) (fun c_170 => ?_)
                                · skip
                                  refine lv_iconst (v := nI 0) hx hb dX10_closes_177 (by decide) ?_
                                  refine nx_ti (y := bI (clP (goL (F 1) R n (F 4) M0 (s0 / 104) 0).1 (goL (F 1) R n (F 4) M0 (s0 / 13 % 8) (s0 % 13)).1 (goL (F 1) R n (F 4) M0 (s0 / 104) 0).2 (goL (F 1) R n (F 4) M0 (s0 / 13 % 8) (s0 % 13)).2 (k3 + 1))) ((bI_f (clP_x hne0 c_170)).symm) ?_
                                  refine lv_istore (lv' := [(4, .int (bI (clP (goL (F 1) R n (F 4) M0 (s0 / 104) 0).1 (goL (F 1) R n (F 4) M0 (s0 / 13 % 8) (s0 % 13)).1 (goL (F 1) R n (F 4) M0 (s0 / 104) 0).2 (goL (F 1) R n (F 4) M0 (s0 / 13 % 8) (s0 % 13)).2 (k3 + 1)))), (0, .ref (am 0)), (1, .int (nI i)), (2, .int (goL (F 1) R n (F 4) M0 (s0 / 104) 0).1), (3, .int (goL (F 1) R n (F 4) M0 (s0 / 13 % 8) (s0 % 13)).1), (5, .int (nI k3))]) hx hb dX10_closes_178 hl (by decide) rfl (fun ls hl => ?_)
                                  refine lv_iinc (v := nI (k3 + 1)) (lv' := [(5, .int (nI (k3 + 1))), (4, .int (bI (clP (goL (F 1) R n (F 4) M0 (s0 / 104) 0).1 (goL (F 1) R n (F 4) M0 (s0 / 13 % 8) (s0 % 13)).1 (goL (F 1) R n (F 4) M0 (s0 / 104) 0).2 (goL (F 1) R n (F 4) M0 (s0 / 13 % 8) (s0 % 13)).2 (k3 + 1)))), (0, .ref (am 0)), (1, .int (nI i)), (2, .int (goL (F 1) R n (F 4) M0 (s0 / 104) 0).1), (3, .int (goL (F 1) R n (F 4) M0 (s0 / 13 % 8) (s0 % 13)).1)]) hx hb dX10_closes_180 hl (k := 5) rfl (nI_add _ _) (by decide) rfl (fun ls hl => ?_)
                                  refine lv_goto (tgt := 133) hx hb dX10_closes_183 (by decide) ?_
                                  exact ih133 (k3 + 1) _ _ _ _ _ (by omega) hZ hP hS (by omega) (lv_sub hl [2, 3, 4, 5, 1, 0] rfl)
                                · skip
                                  refine lv_iconst (v := nI 1) hx hb dX10_closes_173 (by decide) ?_
                                  refine lv_goto (tgt := 178) hx hb dX10_closes_174 (by decide) ?_
                                  refine nx_ti (y := bI (clP (goL (F 1) R n (F 4) M0 (s0 / 104) 0).1 (goL (F 1) R n (F 4) M0 (s0 / 13 % 8) (s0 % 13)).1 (goL (F 1) R n (F 4) M0 (s0 / 104) 0).2 (goL (F 1) R n (F 4) M0 (s0 / 13 % 8) (s0 % 13)).2 (k3 + 1))) ((bI_t (clP_s c_144 hne0 c_170)).symm) ?_
                                  refine lv_istore (lv' := [(4, .int (bI (clP (goL (F 1) R n (F 4) M0 (s0 / 104) 0).1 (goL (F 1) R n (F 4) M0 (s0 / 13 % 8) (s0 % 13)).1 (goL (F 1) R n (F 4) M0 (s0 / 104) 0).2 (goL (F 1) R n (F 4) M0 (s0 / 13 % 8) (s0 % 13)).2 (k3 + 1)))), (0, .ref (am 0)), (1, .int (nI i)), (2, .int (goL (F 1) R n (F 4) M0 (s0 / 104) 0).1), (3, .int (goL (F 1) R n (F 4) M0 (s0 / 13 % 8) (s0 % 13)).1), (5, .int (nI k3))]) hx hb dX10_closes_178 hl (by decide) rfl (fun ls hl => ?_)
                                  refine lv_iinc (v := nI (k3 + 1)) (lv' := [(5, .int (nI (k3 + 1))), (4, .int (bI (clP (goL (F 1) R n (F 4) M0 (s0 / 104) 0).1 (goL (F 1) R n (F 4) M0 (s0 / 13 % 8) (s0 % 13)).1 (goL (F 1) R n (F 4) M0 (s0 / 104) 0).2 (goL (F 1) R n (F 4) M0 (s0 / 13 % 8) (s0 % 13)).2 (k3 + 1)))), (0, .ref (am 0)), (1, .int (nI i)), (2, .int (goL (F 1) R n (F 4) M0 (s0 / 104) 0).1), (3, .int (goL (F 1) R n (F 4) M0 (s0 / 13 % 8) (s0 % 13)).1)]) hx hb dX10_closes_180 hl (k := 5) rfl (nI_add _ _) (by decide) rfl (fun ls hl => ?_)
                                  refine lv_goto (tgt := 133) hx hb dX10_closes_183 (by decide) ?_
                                  exact ih133 (k3 + 1) _ _ _ _ _ (by omega) hZ hP hS (by omega) (lv_sub hl [2, 3, 4, 5, 1, 0] rfl)
                      exact L133 (60 - 0 + 1) 0 _ _ _ _ _ (by omega) hZ hP hS (Nat.lt_succ_self _) (lv_sub hl [3, 4, 5, 2, 1, 0] rfl)
                    · skip
                      refine lv_aload_n hx hb dX10_closes_109 rfl (lv_at hl 1 rfl) ?_
                      refine va_get (D := (dC, dI)) (ci := 10) (C := RX10) (T := TX10) (N := 22) hx hb hts hin10 hown hK hP 0 rfl rfl 17 (by decide) lk2 (fun _ h9 => h9) rfl dX10_closes_110 ?_
                      refine lv_aload_n hx hb dX10_closes_113 rfl (lv_at hl 1 rfl) ?_
                      refine va_get (D := (dC, dI)) (ci := 10) (C := RX10) (T := TX10) (N := 22) hx hb hts hin10 hown hK hP 0 rfl rfl 3 (by decide) lk1 (fun _ h9 => h9) rfl dX10_closes_114 ?_
                      refine lv_bipush (v := nI 26) hx hb dX10_closes_117 (by decide) ?_
                      refine nx_iald hx hb hK hP 3 0 rfl rfl (i := 26) (by omega) (by decide) dX10_closes_119 ?_
                      refine nx_ti (y := nI ((va_up (va_up (va_up R 26 (goL (F 1) R n (F 4) M0 (s0 / 13 % 8) (s0 % 13)).2) 27 M0) 28 tM) 26).length) ((hZ 26 (by omega)).2.1) ?_
                      refine nx_ti (y := nI (goL (F 1) R n (F 4) M0 (s0 / 13 % 8) (s0 % 13)).2.length) (by rw [rx_26]) ?_
                      refine nx_icmp_ne (a := (goL (F 1) R n (F 4) M0 (s0 / 104) 0).2.length) (b := (goL (F 1) R n (F 4) M0 (s0 / 13 % 8) (s0 % 13)).2.length) (tgt := 127) hx hb dX10_closes_120 (by decide) (by omega) (by omega) (fun c_120 => ?_) (fun c_120 => ?_)
                      · skip
                        refine lv_iconst (v := nI 0) hx hb dX10_closes_127 (by decide) ?_
                        refine nx_ti (y := bI (clP (goL (F 1) R n (F 4) M0 (s0 / 104) 0).1 (goL (F 1) R n (F 4) M0 (s0 / 13 % 8) (s0 % 13)).1 (goL (F 1) R n (F 4) M0 (s0 / 104) 0).2 (goL (F 1) R n (F 4) M0 (s0 / 13 % 8) (s0 % 13)).2 0)) ((bI_f (fun h => c_120 (h.2.resolve_left c_106).1)).symm) ?_
                        refine lv_istore (lv' := [(4, .int (bI (clP (goL (F 1) R n (F 4) M0 (s0 / 104) 0).1 (goL (F 1) R n (F 4) M0 (s0 / 13 % 8) (s0 % 13)).1 (goL (F 1) R n (F 4) M0 (s0 / 104) 0).2 (goL (F 1) R n (F 4) M0 (s0 / 13 % 8) (s0 % 13)).2 0))), (3, .int (goL (F 1) R n (F 4) M0 (s0 / 13 % 8) (s0 % 13)).1), (0, .ref (am 0)), (1, .int (nI i)), (2, .int (goL (F 1) R n (F 4) M0 (s0 / 104) 0).1)]) hx hb dX10_closes_128 hl (by decide) rfl (fun ls hl => ?_)
                        refine lv_iconst (v := nI 0) hx hb dX10_closes_130 (by decide) ?_
                        refine lv_istore (lv' := [(5, .int (nI 0)), (4, .int (bI (clP (goL (F 1) R n (F 4) M0 (s0 / 104) 0).1 (goL (F 1) R n (F 4) M0 (s0 / 13 % 8) (s0 % 13)).1 (goL (F 1) R n (F 4) M0 (s0 / 104) 0).2 (goL (F 1) R n (F 4) M0 (s0 / 13 % 8) (s0 % 13)).2 0))), (3, .int (goL (F 1) R n (F 4) M0 (s0 / 13 % 8) (s0 % 13)).1), (0, .ref (am 0)), (1, .int (nI i)), (2, .int (goL (F 1) R n (F 4) M0 (s0 / 104) 0).1)]) hx hb dX10_closes_131 hl (by decide) rfl (fun ls hl => ?_)
                        have L133 : ∀ (fuel133 : Nat) (k3 : Nat) (S Z : Nat → Int32) (H : Heap) (locs : List Loc) (ls : Array Slot), (k3 ≤ (goL (F 1) R n (F 4) M0 (s0 / 104) 0).2.length) → mOK S Z (va_up (va_up (va_up R 26 (goL (F 1) R n (F 4) M0 (s0 / 13 % 8) (s0 % 13)).2) 27 M0) 28 tM) → va_P (dC, dI) vwCl (wsM aC am (va_up (va_up (va_up (va_up (va_up (va_up v 11 ta) 12 tb) 13 (nI (s0 / 104))) 14 (nI (s0 / 13 % 8))) 15 (nI (s0 % 13))) 17 (nI (goL (F 1) R n (F 4) M0 (s0 / 104) 0).2.length)) S Z (va_up (va_up (va_up F 7 tc) 8 td) 9 f9x) G) H → va_S (mA am) s.heap H locs → 60 - k3 < fuel133 → lv_has ls 6 [(0, .ref (am 0)), (1, .int (nI i)), (2, .int (goL (F 1) R n (F 4) M0 (s0 / 104) 0).1), (3, .int (goL (F 1) R n (F 4) M0 (s0 / 13 % 8) (s0 % 13)).1), (4, .int (bI (clP (goL (F 1) R n (F 4) M0 (s0 / 104) 0).1 (goL (F 1) R n (F 4) M0 (s0 / 13 % 8) (s0 % 13)).1 (goL (F 1) R n (F 4) M0 (s0 / 104) 0).2 (goL (F 1) R n (F 4) M0 (s0 / 13 % 8) (s0 % 13)).2 k3))), (5, .int (nI k3))] → W p l e ({ frames := 6, cells := 0, slots := 0, locals := 145 } : Room) s m ([.ref (am 0)] : List Value).toArray below meth c H locs 0 0 Q (F0 m 133 ls []) := by
                          intro fuel133
                          induction fuel133 with
                          | zero => intro k3 S Z H locs ls hk3 hZ hP hS hf133 hl; exact absurd hf133 (Nat.not_lt_zero _)
                          | succ fuel133 ih133 =>
                            intro k3 S Z H locs ls hk3 hZ hP hS hf133 hl
                            refine lv_iload hx hb dX10_closes_133 (lv_at hl 5 rfl) ?_
                            refine lv_aload_n hx hb dX10_closes_135 rfl (lv_at hl 0 rfl) ?_
                            refine va_get (D := (dC, dI)) (ci := 10) (C := RX10) (T := TX10) (N := 22) hx hb hts hin10 hown hK hP 0 rfl rfl 17 (by decide) lk2 (fun _ h9 => h9) rfl dX10_closes_136 ?_
                            refine nx_icmp_ge (a := k3) (b := (goL (F 1) R n (F 4) M0 (s0 / 104) 0).2.length) (tgt := 186) hx hb dX10_closes_139 (by decide) (by omega) (by omega) (fun c_139 => ?_) (fun c_139 => ?_)
                            · skip
                              refine lv_iload hx hb dX10_closes_186 (lv_at hl 4 rfl) ?_
                              refine nx_ti (y := bI (clQ (goL (F 1) R n (F 4) M0 (s0 / 104) 0).1 (goL (F 1) R n (F 4) M0 (s0 / 13 % 8) (s0 % 13)).1 (goL (F 1) R n (F 4) M0 (s0 / 104) 0).2 (goL (F 1) R n (F 4) M0 (s0 / 13 % 8) (s0 % 13)).2)) (bI_iff (clP_end c_139)) ?_
                              refine nx_bn (tgt := 193) hx hb dX10_closes_188 (by decide) (fun c_188 => ?_) (fun c_188 => ?_)
                              · skip
                                refine lv_iinc (v := nI (i + 1)) (lv' := [(1, .int (nI (i + 1))), (0, .ref (am 0)), (2, .int (goL (F 1) R n (F 4) M0 (s0 / 104) 0).1), (3, .int (goL (F 1) R n (F 4) M0 (s0 / 13 % 8) (s0 % 13)).1), (4, .int (bI (clP (goL (F 1) R n (F 4) M0 (s0 / 104) 0).1 (goL (F 1) R n (F 4) M0 (s0 / 13 % 8) (s0 % 13)).1 (goL (F 1) R n (F 4) M0 (s0 / 104) 0).2 (goL (F 1) R n (F 4) M0 (s0 / 13 % 8) (s0 % 13)).2 k3))), (5, .int (nI k3))]) hx hb dX10_closes_193 hl (k := 1) rfl (nI_add _ _) (by decide) rfl (fun ls hl => ?_)
                                refine lv_goto (tgt := 2) hx hb dX10_closes_196 (by decide) ?_
                                exact ih2 (i + 1) ta tb (nI (s0 / 104)) (nI (s0 / 13 % 8)) (nI (s0 % 13)) (nI (goL (F 1) R n (F 4) M0 (s0 / 104) 0).2.length) tc td f9x (goL (F 1) R n (F 4) M0 (s0 / 13 % 8) (s0 % 13)).2 M0 tM _ _ _ _ _ (by omega) (by rw [clF_s c_7 hs0, if_neg (by rw [clO_y c_68 c_94 c_188]; decide), if_pos (clO_y c_68 c_94 c_188)] at hres; exact hres) hZ hP hS (by omega) (lv_sub hl [1, 0] rfl)
                              · skip
                                refine lv_iload_n hx hb dX10_closes_191 rfl (lv_at hl 1 rfl) ?_
                                subst hQ
                                exact W.iret (v := nI i) hx hb hret (fun tq htq hWq => ⟨⟨_, ((va_up (va_up (va_up (va_up (va_up (va_up v 11 ta) 12 tb) 13 (nI (s0 / 104))) 14 (nI (s0 / 13 % 8))) 15 (nI (s0 % 13))) 17 (nI (goL (F 1) R n (F 4) M0 (s0 / 104) 0).2.length)), va_up (va_up (va_up R 26 (goL (F 1) R n (F 4) M0 (s0 / 13 % 8) (s0 % 13)).2) 27 M0) 28 tM, (va_up (va_up (va_up F 7 tc) 8 td) 9 f9x), G), rfl, ⟨_, _, _, _, _, _, _, _, _, _, rfl, fun k hk => rx_n hk, by rw [← hres, clF_s c_7 hs0, if_neg (by rw [clO_n c_68 c_94 c_188]; decide), if_neg (by rw [clO_n c_68 c_94 c_188]; decide)]⟩, va_K.moved hWq.alike hK, _, _, hZ, by rw [htq]; exact hP⟩, hS.F htq⟩) hS.2.2 dX10_closes_192
                            · skip
                              refine lv_iload hx hb dX10_closes_142 (lv_at hl 4 rfl) ?_
                              refine nx_bz (tgt := 186) hx hb dX10_closes_144 (by decide) (fun c_144 => ?_) (fun c_144 => ?_)
                              · skip
                                refine lv_iload hx hb dX10_closes_186 (lv_at hl 4 rfl) ?_
                                refine nx_ti (y := bI (clQ (goL (F 1) R n (F 4) M0 (s0 / 104) 0).1 (goL (F 1) R n (F 4) M0 (s0 / 13 % 8) (s0 % 13)).1 (goL (F 1) R n (F 4) M0 (s0 / 104) 0).2 (goL (F 1) R n (F 4) M0 (s0 / 13 % 8) (s0 % 13)).2)) (bI_iff ⟨fun h => absurd h c_144, fun h => absurd (clP_of k3 h) c_144⟩) ?_
                                refine nx_bn (tgt := 193) hx hb dX10_closes_188 (by decide) (fun c_188 => ?_) (fun c_188 => ?_)
                                · skip
                                  refine lv_iinc (v := nI (i + 1)) (lv' := [(1, .int (nI (i + 1))), (0, .ref (am 0)), (2, .int (goL (F 1) R n (F 4) M0 (s0 / 104) 0).1), (3, .int (goL (F 1) R n (F 4) M0 (s0 / 13 % 8) (s0 % 13)).1), (4, .int (bI (clP (goL (F 1) R n (F 4) M0 (s0 / 104) 0).1 (goL (F 1) R n (F 4) M0 (s0 / 13 % 8) (s0 % 13)).1 (goL (F 1) R n (F 4) M0 (s0 / 104) 0).2 (goL (F 1) R n (F 4) M0 (s0 / 13 % 8) (s0 % 13)).2 k3))), (5, .int (nI k3))]) hx hb dX10_closes_193 hl (k := 1) rfl (nI_add _ _) (by decide) rfl (fun ls hl => ?_)
                                  refine lv_goto (tgt := 2) hx hb dX10_closes_196 (by decide) ?_
                                  exact ih2 (i + 1) ta tb (nI (s0 / 104)) (nI (s0 / 13 % 8)) (nI (s0 % 13)) (nI (goL (F 1) R n (F 4) M0 (s0 / 104) 0).2.length) tc td f9x (goL (F 1) R n (F 4) M0 (s0 / 13 % 8) (s0 % 13)).2 M0 tM _ _ _ _ _ (by omega) (by rw [clF_s c_7 hs0, if_neg (by rw [clO_y c_68 c_94 c_188]; decide), if_pos (clO_y c_68 c_94 c_188)] at hres; exact hres) hZ hP hS (by omega) (lv_sub hl [1, 0] rfl)
                                · skip
                                  refine lv_iload_n hx hb dX10_closes_191 rfl (lv_at hl 1 rfl) ?_
                                  subst hQ
                                  exact W.iret (v := nI i) hx hb hret (fun tq htq hWq => ⟨⟨_, ((va_up (va_up (va_up (va_up (va_up (va_up v 11 ta) 12 tb) 13 (nI (s0 / 104))) 14 (nI (s0 / 13 % 8))) 15 (nI (s0 % 13))) 17 (nI (goL (F 1) R n (F 4) M0 (s0 / 104) 0).2.length)), va_up (va_up (va_up R 26 (goL (F 1) R n (F 4) M0 (s0 / 13 % 8) (s0 % 13)).2) 27 M0) 28 tM, (va_up (va_up (va_up F 7 tc) 8 td) 9 f9x), G), rfl, ⟨_, _, _, _, _, _, _, _, _, _, rfl, fun k hk => rx_n hk, by rw [← hres, clF_s c_7 hs0, if_neg (by rw [clO_n c_68 c_94 c_188]; decide), if_neg (by rw [clO_n c_68 c_94 c_188]; decide)]⟩, va_K.moved hWq.alike hK, _, _, hZ, by rw [htq]; exact hP⟩, hS.F htq⟩) hS.2.2 dX10_closes_192
                              · skip
                                refine lv_iload_n hx hb dX10_closes_147 rfl (lv_at hl 2 rfl) ?_
                                refine lv_iconst (v := nI 1) hx hb dX10_closes_148 (by decide) ?_
                                refine lv_icmp_ne (tgt := 186) hx hb dX10_closes_149 (by decide) (fun c_149 => ?_) (fun c_149 => ?_)
                                · skip
                                  refine lv_iload hx hb dX10_closes_186 (lv_at hl 4 rfl) ?_
                                  refine nx_ti (y := bI (clQ (goL (F 1) R n (F 4) M0 (s0 / 104) 0).1 (goL (F 1) R n (F 4) M0 (s0 / 13 % 8) (s0 % 13)).1 (goL (F 1) R n (F 4) M0 (s0 / 104) 0).2 (goL (F 1) R n (F 4) M0 (s0 / 13 % 8) (s0 % 13)).2)) (bI_iff (clP_0 (by rcases goL_val (E := F 1) (R := R) (n := n) (tn := F 4) (T := M0) (k := s0 / 104) (u := 0) with h | h | h <;> first | exact absurd h c_68 | exact h | exact absurd h c_149))) ?_
                                  refine nx_bn (tgt := 193) hx hb dX10_closes_188 (by decide) (fun c_188 => ?_) (fun c_188 => ?_)
                                  · skip
                                    refine lv_iinc (v := nI (i + 1)) (lv' := [(1, .int (nI (i + 1))), (0, .ref (am 0)), (2, .int (goL (F 1) R n (F 4) M0 (s0 / 104) 0).1), (3, .int (goL (F 1) R n (F 4) M0 (s0 / 13 % 8) (s0 % 13)).1), (4, .int (bI (clP (goL (F 1) R n (F 4) M0 (s0 / 104) 0).1 (goL (F 1) R n (F 4) M0 (s0 / 13 % 8) (s0 % 13)).1 (goL (F 1) R n (F 4) M0 (s0 / 104) 0).2 (goL (F 1) R n (F 4) M0 (s0 / 13 % 8) (s0 % 13)).2 k3))), (5, .int (nI k3))]) hx hb dX10_closes_193 hl (k := 1) rfl (nI_add _ _) (by decide) rfl (fun ls hl => ?_)
                                    refine lv_goto (tgt := 2) hx hb dX10_closes_196 (by decide) ?_
                                    exact ih2 (i + 1) ta tb (nI (s0 / 104)) (nI (s0 / 13 % 8)) (nI (s0 % 13)) (nI (goL (F 1) R n (F 4) M0 (s0 / 104) 0).2.length) tc td f9x (goL (F 1) R n (F 4) M0 (s0 / 13 % 8) (s0 % 13)).2 M0 tM _ _ _ _ _ (by omega) (by rw [clF_s c_7 hs0, if_neg (by rw [clO_y c_68 c_94 c_188]; decide), if_pos (clO_y c_68 c_94 c_188)] at hres; exact hres) hZ hP hS (by omega) (lv_sub hl [1, 0] rfl)
                                  · skip
                                    refine lv_iload_n hx hb dX10_closes_191 rfl (lv_at hl 1 rfl) ?_
                                    subst hQ
                                    exact W.iret (v := nI i) hx hb hret (fun tq htq hWq => ⟨⟨_, ((va_up (va_up (va_up (va_up (va_up (va_up v 11 ta) 12 tb) 13 (nI (s0 / 104))) 14 (nI (s0 / 13 % 8))) 15 (nI (s0 % 13))) 17 (nI (goL (F 1) R n (F 4) M0 (s0 / 104) 0).2.length)), va_up (va_up (va_up R 26 (goL (F 1) R n (F 4) M0 (s0 / 13 % 8) (s0 % 13)).2) 27 M0) 28 tM, (va_up (va_up (va_up F 7 tc) 8 td) 9 f9x), G), rfl, ⟨_, _, _, _, _, _, _, _, _, _, rfl, fun k hk => rx_n hk, by rw [← hres, clF_s c_7 hs0, if_neg (by rw [clO_n c_68 c_94 c_188]; decide), if_neg (by rw [clO_n c_68 c_94 c_188]; decide)]⟩, va_K.moved hWq.alike hK, _, _, hZ, by rw [htq]; exact hP⟩, hS.F htq⟩) hS.2.2 dX10_closes_192
                                · skip
                                  have hne0 : ¬ (goL (F 1) R n (F 4) M0 (s0 / 104) 0).1 = 0 := by rw [c_149]; decide
                                  have hle2 := (c_144.2.resolve_left hne0).1
                                  refine lv_aload_n hx hb dX10_closes_152 rfl (lv_at hl 0 rfl) ?_
                                  refine va_get (D := (dC, dI)) (ci := 10) (C := RX10) (T := TX10) (N := 22) hx hb hts hin10 hown hK hP 0 rfl rfl 16 (by decide) lk5 (fun _ h9 => h9) rfl dX10_closes_153 ?_
                                  refine lv_iload hx hb dX10_closes_156 (lv_at hl 5 rfl) ?_
                                  refine nx_iald hx hb hK hP 9 0 rfl rfl (i := k3) (by omega) (by decide) dX10_closes_158 ?_
                                  refine nx_ti (y := gD (goL (F 1) R n (F 4) M0 (s0 / 104) 0).2 k3) (hf9 k3 (by omega)) ?_
                                  refine lv_aload_n hx hb dX10_closes_159 rfl (lv_at hl 0 rfl) ?_
                                  refine va_get (D := (dC, dI)) (ci := 10) (C := RX10) (T := TX10) (N := 22) hx hb hts hin10 hown hK hP 0 rfl rfl 2 (by decide) lk6 (fun _ h9 => h9) rfl dX10_closes_160 ?_
                                  refine lv_sipush (v := nI 1560) hx hb dX10_closes_163 (by decide) ?_
                                  refine lv_iload hx hb dX10_closes_166 (lv_at hl 5 rfl) ?_
                                  refine lv_iadd hx hb dX10_closes_168 ?_
                                  refine nx_ti (y := nI (1560 + k3)) (nI_add _ _) ?_
                                  refine nx_iald hx hb hK hP 2 0 rfl rfl (i := 1560 + k3) (by omega) (by decide) dX10_closes_169 ?_
                                  refine nx_ti (y := gD ((va_up (va_up (va_up R 26 (goL (F 1) R n (F 4) M0 (s0 / 13 % 8) (s0 % 13)).2) 27 M0) 28 tM) 26) k3) ((hZ 26 (by omega)).2.2 k3 (by rw [rx_26]; omega)) ?_
                                  refine nx_ti (y := gD (goL (F 1) R n (F 4) M0 (s0 / 13 % 8) (s0 % 13)).2 k3) (by rw [rx_26]) ?_
                                  refine lv_icmp_ne (tgt := 177) hx hb dX10_closes_170 (by decide) (fun c_170 => ?_) (fun c_170 => ?_)
                                  · skip
                                    refine lv_iconst (v := nI 0) hx hb dX10_closes_177 (by decide) ?_
                                    refine nx_ti (y := bI (clP (goL (F 1) R n (F 4) M0 (s0 / 104) 0).1 (goL (F 1) R n (F 4) M0 (s0 / 13 % 8) (s0 % 13)).1 (goL (F 1) R n (F 4) M0 (s0 / 104) 0).2 (goL (F 1) R n (F 4) M0 (s0 / 13 % 8) (s0 % 13)).2 (k3 + 1))) ((bI_f (clP_x hne0 c_170)).symm) ?_
                                    refine lv_istore (lv' := [(4, .int (bI (clP (goL (F 1) R n (F 4) M0 (s0 / 104) 0).1 (goL (F 1) R n (F 4) M0 (s0 / 13 % 8) (s0 % 13)).1 (goL (F 1) R n (F 4) M0 (s0 / 104) 0).2 (goL (F 1) R n (F 4) M0 (s0 / 13 % 8) (s0 % 13)).2 (k3 + 1)))), (0, .ref (am 0)), (1, .int (nI i)), (2, .int (goL (F 1) R n (F 4) M0 (s0 / 104) 0).1), (3, .int (goL (F 1) R n (F 4) M0 (s0 / 13 % 8) (s0 % 13)).1), (5, .int (nI k3))]) hx hb dX10_closes_178 hl (by decide) rfl (fun ls hl => ?_)
                                    refine lv_iinc (v := nI (k3 + 1)) (lv' := [(5, .int (nI (k3 + 1))), (4, .int (bI (clP (goL (F 1) R n (F 4) M0 (s0 / 104) 0).1 (goL (F 1) R n (F 4) M0 (s0 / 13 % 8) (s0 % 13)).1 (goL (F 1) R n (F 4) M0 (s0 / 104) 0).2 (goL (F 1) R n (F 4) M0 (s0 / 13 % 8) (s0 % 13)).2 (k3 + 1)))), (0, .ref (am 0)), (1, .int (nI i)), (2, .int (goL (F 1) R n (F 4) M0 (s0 / 104) 0).1), (3, .int (goL (F 1) R n (F 4) M0 (s0 / 13 % 8) (s0 % 13)).1)]) hx hb dX10_closes_180 hl (k := 5) rfl (nI_add _ _) (by decide) rfl (fun ls hl => ?_)
                                    refine lv_goto (tgt := 133) hx hb dX10_closes_183 (by decide) ?_
                                    exact ih133 (k3 + 1) _ _ _ _ _ (by omega) hZ hP hS (by omega) (lv_sub hl [2, 3, 4, 5, 1, 0] rfl)
                                  · skip
                                    refine lv_iconst (v := nI 1) hx hb dX10_closes_173 (by decide) ?_
                                    refine lv_goto (tgt := 178) hx hb dX10_closes_174 (by decide) ?_
                                    refine nx_ti (y := bI (clP (goL (F 1) R n (F 4) M0 (s0 / 104) 0).1 (goL (F 1) R n (F 4) M0 (s0 / 13 % 8) (s0 % 13)).1 (goL (F 1) R n (F 4) M0 (s0 / 104) 0).2 (goL (F 1) R n (F 4) M0 (s0 / 13 % 8) (s0 % 13)).2 (k3 + 1))) ((bI_t (clP_s c_144 hne0 c_170)).symm) ?_
                                    refine lv_istore (lv' := [(4, .int (bI (clP (goL (F 1) R n (F 4) M0 (s0 / 104) 0).1 (goL (F 1) R n (F 4) M0 (s0 / 13 % 8) (s0 % 13)).1 (goL (F 1) R n (F 4) M0 (s0 / 104) 0).2 (goL (F 1) R n (F 4) M0 (s0 / 13 % 8) (s0 % 13)).2 (k3 + 1)))), (0, .ref (am 0)), (1, .int (nI i)), (2, .int (goL (F 1) R n (F 4) M0 (s0 / 104) 0).1), (3, .int (goL (F 1) R n (F 4) M0 (s0 / 13 % 8) (s0 % 13)).1), (5, .int (nI k3))]) hx hb dX10_closes_178 hl (by decide) rfl (fun ls hl => ?_)
                                    refine lv_iinc (v := nI (k3 + 1)) (lv' := [(5, .int (nI (k3 + 1))), (4, .int (bI (clP (goL (F 1) R n (F 4) M0 (s0 / 104) 0).1 (goL (F 1) R n (F 4) M0 (s0 / 13 % 8) (s0 % 13)).1 (goL (F 1) R n (F 4) M0 (s0 / 104) 0).2 (goL (F 1) R n (F 4) M0 (s0 / 13 % 8) (s0 % 13)).2 (k3 + 1)))), (0, .ref (am 0)), (1, .int (nI i)), (2, .int (goL (F 1) R n (F 4) M0 (s0 / 104) 0).1), (3, .int (goL (F 1) R n (F 4) M0 (s0 / 13 % 8) (s0 % 13)).1)]) hx hb dX10_closes_180 hl (k := 5) rfl (nI_add _ _) (by decide) rfl (fun ls hl => ?_)
                                    refine lv_goto (tgt := 133) hx hb dX10_closes_183 (by decide) ?_
                                    exact ih133 (k3 + 1) _ _ _ _ _ (by omega) hZ hP hS (by omega) (lv_sub hl [2, 3, 4, 5, 1, 0] rfl)
                        exact L133 (60 - 0 + 1) 0 _ _ _ _ _ (by omega) hZ hP hS (Nat.lt_succ_self _) (lv_sub hl [3, 4, 5, 2, 1, 0] rfl)
                      · skip
                        refine lv_iconst (v := nI 1) hx hb dX10_closes_123 (by decide) ?_
                        refine lv_goto (tgt := 128) hx hb dX10_closes_124 (by decide) ?_
                        refine nx_ti (y := bI (clP (goL (F 1) R n (F 4) M0 (s0 / 104) 0).1 (goL (F 1) R n (F 4) M0 (s0 / 13 % 8) (s0 % 13)).1 (goL (F 1) R n (F 4) M0 (s0 / 104) 0).2 (goL (F 1) R n (F 4) M0 (s0 / 13 % 8) (s0 % 13)).2 0)) ((bI_t ⟨c_102, Or.inr ⟨c_120, rfl⟩⟩).symm) ?_
                        refine lv_istore (lv' := [(4, .int (bI (clP (goL (F 1) R n (F 4) M0 (s0 / 104) 0).1 (goL (F 1) R n (F 4) M0 (s0 / 13 % 8) (s0 % 13)).1 (goL (F 1) R n (F 4) M0 (s0 / 104) 0).2 (goL (F 1) R n (F 4) M0 (s0 / 13 % 8) (s0 % 13)).2 0))), (3, .int (goL (F 1) R n (F 4) M0 (s0 / 13 % 8) (s0 % 13)).1), (0, .ref (am 0)), (1, .int (nI i)), (2, .int (goL (F 1) R n (F 4) M0 (s0 / 104) 0).1)]) hx hb dX10_closes_128 hl (by decide) rfl (fun ls hl => ?_)
                        refine lv_iconst (v := nI 0) hx hb dX10_closes_130 (by decide) ?_
                        refine lv_istore (lv' := [(5, .int (nI 0)), (4, .int (bI (clP (goL (F 1) R n (F 4) M0 (s0 / 104) 0).1 (goL (F 1) R n (F 4) M0 (s0 / 13 % 8) (s0 % 13)).1 (goL (F 1) R n (F 4) M0 (s0 / 104) 0).2 (goL (F 1) R n (F 4) M0 (s0 / 13 % 8) (s0 % 13)).2 0))), (3, .int (goL (F 1) R n (F 4) M0 (s0 / 13 % 8) (s0 % 13)).1), (0, .ref (am 0)), (1, .int (nI i)), (2, .int (goL (F 1) R n (F 4) M0 (s0 / 104) 0).1)]) hx hb dX10_closes_131 hl (by decide) rfl (fun ls hl => ?_)
                        have L133 : ∀ (fuel133 : Nat) (k3 : Nat) (S Z : Nat → Int32) (H : Heap) (locs : List Loc) (ls : Array Slot), (k3 ≤ (goL (F 1) R n (F 4) M0 (s0 / 104) 0).2.length) → mOK S Z (va_up (va_up (va_up R 26 (goL (F 1) R n (F 4) M0 (s0 / 13 % 8) (s0 % 13)).2) 27 M0) 28 tM) → va_P (dC, dI) vwCl (wsM aC am (va_up (va_up (va_up (va_up (va_up (va_up v 11 ta) 12 tb) 13 (nI (s0 / 104))) 14 (nI (s0 / 13 % 8))) 15 (nI (s0 % 13))) 17 (nI (goL (F 1) R n (F 4) M0 (s0 / 104) 0).2.length)) S Z (va_up (va_up (va_up F 7 tc) 8 td) 9 f9x) G) H → va_S (mA am) s.heap H locs → 60 - k3 < fuel133 → lv_has ls 6 [(0, .ref (am 0)), (1, .int (nI i)), (2, .int (goL (F 1) R n (F 4) M0 (s0 / 104) 0).1), (3, .int (goL (F 1) R n (F 4) M0 (s0 / 13 % 8) (s0 % 13)).1), (4, .int (bI (clP (goL (F 1) R n (F 4) M0 (s0 / 104) 0).1 (goL (F 1) R n (F 4) M0 (s0 / 13 % 8) (s0 % 13)).1 (goL (F 1) R n (F 4) M0 (s0 / 104) 0).2 (goL (F 1) R n (F 4) M0 (s0 / 13 % 8) (s0 % 13)).2 k3))), (5, .int (nI k3))] → W p l e ({ frames := 6, cells := 0, slots := 0, locals := 145 } : Room) s m ([.ref (am 0)] : List Value).toArray below meth c H locs 0 0 Q (F0 m 133 ls []) := by
                          intro fuel133
                          induction fuel133 with
                          | zero => intro k3 S Z H locs ls hk3 hZ hP hS hf133 hl; exact absurd hf133 (Nat.not_lt_zero _)
                          | succ fuel133 ih133 =>
                            intro k3 S Z H locs ls hk3 hZ hP hS hf133 hl
                            refine lv_iload hx hb dX10_closes_133 (lv_at hl 5 rfl) ?_
                            refine lv_aload_n hx hb dX10_closes_135 rfl (lv_at hl 0 rfl) ?_
                            refine va_get (D := (dC, dI)) (ci := 10) (C := RX10) (T := TX10) (N := 22) hx hb hts hin10 hown hK hP 0 rfl rfl 17 (by decide) lk2 (fun _ h9 => h9) rfl dX10_closes_136 ?_
                            refine nx_icmp_ge (a := k3) (b := (goL (F 1) R n (F 4) M0 (s0 / 104) 0).2.length) (tgt := 186) hx hb dX10_closes_139 (by decide) (by omega) (by omega) (fun c_139 => ?_) (fun c_139 => ?_)
                            · skip
                              refine lv_iload hx hb dX10_closes_186 (lv_at hl 4 rfl) ?_
                              refine nx_ti (y := bI (clQ (goL (F 1) R n (F 4) M0 (s0 / 104) 0).1 (goL (F 1) R n (F 4) M0 (s0 / 13 % 8) (s0 % 13)).1 (goL (F 1) R n (F 4) M0 (s0 / 104) 0).2 (goL (F 1) R n (F 4) M0 (s0 / 13 % 8) (s0 % 13)).2)) (bI_iff (clP_end c_139)) ?_
                              refine nx_bn (tgt := 193) hx hb dX10_closes_188 (by decide) (fun c_188 => ?_) (fun c_188 => ?_)
                              · skip
                                refine lv_iinc (v := nI (i + 1)) (lv' := [(1, .int (nI (i + 1))), (0, .ref (am 0)), (2, .int (goL (F 1) R n (F 4) M0 (s0 / 104) 0).1), (3, .int (goL (F 1) R n (F 4) M0 (s0 / 13 % 8) (s0 % 13)).1), (4, .int (bI (clP (goL (F 1) R n (F 4) M0 (s0 / 104) 0).1 (goL (F 1) R n (F 4) M0 (s0 / 13 % 8) (s0 % 13)).1 (goL (F 1) R n (F 4) M0 (s0 / 104) 0).2 (goL (F 1) R n (F 4) M0 (s0 / 13 % 8) (s0 % 13)).2 k3))), (5, .int (nI k3))]) hx hb dX10_closes_193 hl (k := 1) rfl (nI_add _ _) (by decide) rfl (fun ls hl => ?_)
                                refine lv_goto (tgt := 2) hx hb dX10_closes_196 (by decide) ?_
                                exact ih2 (i + 1) ta tb (nI (s0 / 104)) (nI (s0 / 13 % 8)) (nI (s0 % 13)) (nI (goL (F 1) R n (F 4) M0 (s0 / 104) 0).2.length) tc td f9x (goL (F 1) R n (F 4) M0 (s0 / 13 % 8) (s0 % 13)).2 M0 tM _ _ _ _ _ (by omega) (by rw [clF_s c_7 hs0, if_neg (by rw [clO_y c_68 c_94 c_188]; decide), if_pos (clO_y c_68 c_94 c_188)] at hres; exact hres) hZ hP hS (by omega) (lv_sub hl [1, 0] rfl)
                              · skip
                                refine lv_iload_n hx hb dX10_closes_191 rfl (lv_at hl 1 rfl) ?_
                                subst hQ
                                exact W.iret (v := nI i) hx hb hret (fun tq htq hWq => ⟨⟨_, ((va_up (va_up (va_up (va_up (va_up (va_up v 11 ta) 12 tb) 13 (nI (s0 / 104))) 14 (nI (s0 / 13 % 8))) 15 (nI (s0 % 13))) 17 (nI (goL (F 1) R n (F 4) M0 (s0 / 104) 0).2.length)), va_up (va_up (va_up R 26 (goL (F 1) R n (F 4) M0 (s0 / 13 % 8) (s0 % 13)).2) 27 M0) 28 tM, (va_up (va_up (va_up F 7 tc) 8 td) 9 f9x), G), rfl, ⟨_, _, _, _, _, _, _, _, _, _, rfl, fun k hk => rx_n hk, by rw [← hres, clF_s c_7 hs0, if_neg (by rw [clO_n c_68 c_94 c_188]; decide), if_neg (by rw [clO_n c_68 c_94 c_188]; decide)]⟩, va_K.moved hWq.alike hK, _, _, hZ, by rw [htq]; exact hP⟩, hS.F htq⟩) hS.2.2 dX10_closes_192
                            · skip
                              refine lv_iload hx hb dX10_closes_142 (lv_at hl 4 rfl) ?_
                              refine nx_bz (tgt := 186) hx hb dX10_closes_144 (by decide) (fun c_144 => ?_) (fun c_144 => ?_)
                              · skip
                                refine lv_iload hx hb dX10_closes_186 (lv_at hl 4 rfl) ?_
                                refine nx_ti (y := bI (clQ (goL (F 1) R n (F 4) M0 (s0 / 104) 0).1 (goL (F 1) R n (F 4) M0 (s0 / 13 % 8) (s0 % 13)).1 (goL (F 1) R n (F 4) M0 (s0 / 104) 0).2 (goL (F 1) R n (F 4) M0 (s0 / 13 % 8) (s0 % 13)).2)) (bI_iff ⟨fun h => absurd h c_144, fun h => absurd (clP_of k3 h) c_144⟩) ?_
                                refine nx_bn (tgt := 193) hx hb dX10_closes_188 (by decide) (fun c_188 => ?_) (fun c_188 => ?_)
                                · skip
                                  refine lv_iinc (v := nI (i + 1)) (lv' := [(1, .int (nI (i + 1))), (0, .ref (am 0)), (2, .int (goL (F 1) R n (F 4) M0 (s0 / 104) 0).1), (3, .int (goL (F 1) R n (F 4) M0 (s0 / 13 % 8) (s0 % 13)).1), (4, .int (bI (clP (goL (F 1) R n (F 4) M0 (s0 / 104) 0).1 (goL (F 1) R n (F 4) M0 (s0 / 13 % 8) (s0 % 13)).1 (goL (F 1) R n (F 4) M0 (s0 / 104) 0).2 (goL (F 1) R n (F 4) M0 (s0 / 13 % 8) (s0 % 13)).2 k3))), (5, .int (nI k3))]) hx hb dX10_closes_193 hl (k := 1) rfl (nI_add _ _) (by decide) rfl (fun ls hl => ?_)
                                  refine lv_goto (tgt := 2) hx hb dX10_closes_196 (by decide) ?_
                                  exact ih2 (i + 1) ta tb (nI (s0 / 104)) (nI (s0 / 13 % 8)) (nI (s0 % 13)) (nI (goL (F 1) R n (F 4) M0 (s0 / 104) 0).2.length) tc td f9x (goL (F 1) R n (F 4) M0 (s0 / 13 % 8) (s0 % 13)).2 M0 tM _ _ _ _ _ (by omega) (by rw [clF_s c_7 hs0, if_neg (by rw [clO_y c_68 c_94 c_188]; decide), if_pos (clO_y c_68 c_94 c_188)] at hres; exact hres) hZ hP hS (by omega) (lv_sub hl [1, 0] rfl)
                                · skip
                                  refine lv_iload_n hx hb dX10_closes_191 rfl (lv_at hl 1 rfl) ?_
                                  subst hQ
                                  exact W.iret (v := nI i) hx hb hret (fun tq htq hWq => ⟨⟨_, ((va_up (va_up (va_up (va_up (va_up (va_up v 11 ta) 12 tb) 13 (nI (s0 / 104))) 14 (nI (s0 / 13 % 8))) 15 (nI (s0 % 13))) 17 (nI (goL (F 1) R n (F 4) M0 (s0 / 104) 0).2.length)), va_up (va_up (va_up R 26 (goL (F 1) R n (F 4) M0 (s0 / 13 % 8) (s0 % 13)).2) 27 M0) 28 tM, (va_up (va_up (va_up F 7 tc) 8 td) 9 f9x), G), rfl, ⟨_, _, _, _, _, _, _, _, _, _, rfl, fun k hk => rx_n hk, by rw [← hres, clF_s c_7 hs0, if_neg (by rw [clO_n c_68 c_94 c_188]; decide), if_neg (by rw [clO_n c_68 c_94 c_188]; decide)]⟩, va_K.moved hWq.alike hK, _, _, hZ, by rw [htq]; exact hP⟩, hS.F htq⟩) hS.2.2 dX10_closes_192
                              · skip
                                refine lv_iload_n hx hb dX10_closes_147 rfl (lv_at hl 2 rfl) ?_
                                refine lv_iconst (v := nI 1) hx hb dX10_closes_148 (by decide) ?_
                                refine lv_icmp_ne (tgt := 186) hx hb dX10_closes_149 (by decide) (fun c_149 => ?_) (fun c_149 => ?_)
                                · skip
                                  refine lv_iload hx hb dX10_closes_186 (lv_at hl 4 rfl) ?_
                                  refine nx_ti (y := bI (clQ (goL (F 1) R n (F 4) M0 (s0 / 104) 0).1 (goL (F 1) R n (F 4) M0 (s0 / 13 % 8) (s0 % 13)).1 (goL (F 1) R n (F 4) M0 (s0 / 104) 0).2 (goL (F 1) R n (F 4) M0 (s0 / 13 % 8) (s0 % 13)).2)) (bI_iff (clP_0 (by rcases goL_val (E := F 1) (R := R) (n := n) (tn := F 4) (T := M0) (k := s0 / 104) (u := 0) with h | h | h <;> first | exact absurd h c_68 | exact h | exact absurd h c_149))) ?_
                                  refine nx_bn (tgt := 193) hx hb dX10_closes_188 (by decide) (fun c_188 => ?_) (fun c_188 => ?_)
                                  · skip
                                    refine lv_iinc (v := nI (i + 1)) (lv' := [(1, .int (nI (i + 1))), (0, .ref (am 0)), (2, .int (goL (F 1) R n (F 4) M0 (s0 / 104) 0).1), (3, .int (goL (F 1) R n (F 4) M0 (s0 / 13 % 8) (s0 % 13)).1), (4, .int (bI (clP (goL (F 1) R n (F 4) M0 (s0 / 104) 0).1 (goL (F 1) R n (F 4) M0 (s0 / 13 % 8) (s0 % 13)).1 (goL (F 1) R n (F 4) M0 (s0 / 104) 0).2 (goL (F 1) R n (F 4) M0 (s0 / 13 % 8) (s0 % 13)).2 k3))), (5, .int (nI k3))]) hx hb dX10_closes_193 hl (k := 1) rfl (nI_add _ _) (by decide) rfl (fun ls hl => ?_)
                                    refine lv_goto (tgt := 2) hx hb dX10_closes_196 (by decide) ?_
                                    exact ih2 (i + 1) ta tb (nI (s0 / 104)) (nI (s0 / 13 % 8)) (nI (s0 % 13)) (nI (goL (F 1) R n (F 4) M0 (s0 / 104) 0).2.length) tc td f9x (goL (F 1) R n (F 4) M0 (s0 / 13 % 8) (s0 % 13)).2 M0 tM _ _ _ _ _ (by omega) (by rw [clF_s c_7 hs0, if_neg (by rw [clO_y c_68 c_94 c_188]; decide), if_pos (clO_y c_68 c_94 c_188)] at hres; exact hres) hZ hP hS (by omega) (lv_sub hl [1, 0] rfl)
                                  · skip
                                    refine lv_iload_n hx hb dX10_closes_191 rfl (lv_at hl 1 rfl) ?_
                                    subst hQ
                                    exact W.iret (v := nI i) hx hb hret (fun tq htq hWq => ⟨⟨_, ((va_up (va_up (va_up (va_up (va_up (va_up v 11 ta) 12 tb) 13 (nI (s0 / 104))) 14 (nI (s0 / 13 % 8))) 15 (nI (s0 % 13))) 17 (nI (goL (F 1) R n (F 4) M0 (s0 / 104) 0).2.length)), va_up (va_up (va_up R 26 (goL (F 1) R n (F 4) M0 (s0 / 13 % 8) (s0 % 13)).2) 27 M0) 28 tM, (va_up (va_up (va_up F 7 tc) 8 td) 9 f9x), G), rfl, ⟨_, _, _, _, _, _, _, _, _, _, rfl, fun k hk => rx_n hk, by rw [← hres, clF_s c_7 hs0, if_neg (by rw [clO_n c_68 c_94 c_188]; decide), if_neg (by rw [clO_n c_68 c_94 c_188]; decide)]⟩, va_K.moved hWq.alike hK, _, _, hZ, by rw [htq]; exact hP⟩, hS.F htq⟩) hS.2.2 dX10_closes_192
                                · skip
                                  have hne0 : ¬ (goL (F 1) R n (F 4) M0 (s0 / 104) 0).1 = 0 := by rw [c_149]; decide
                                  have hle2 := (c_144.2.resolve_left hne0).1
                                  refine lv_aload_n hx hb dX10_closes_152 rfl (lv_at hl 0 rfl) ?_
                                  refine va_get (D := (dC, dI)) (ci := 10) (C := RX10) (T := TX10) (N := 22) hx hb hts hin10 hown hK hP 0 rfl rfl 16 (by decide) lk5 (fun _ h9 => h9) rfl dX10_closes_153 ?_
                                  refine lv_iload hx hb dX10_closes_156 (lv_at hl 5 rfl) ?_
                                  refine nx_iald hx hb hK hP 9 0 rfl rfl (i := k3) (by omega) (by decide) dX10_closes_158 ?_
                                  refine nx_ti (y := gD (goL (F 1) R n (F 4) M0 (s0 / 104) 0).2 k3) (hf9 k3 (by omega)) ?_
                                  refine lv_aload_n hx hb dX10_closes_159 rfl (lv_at hl 0 rfl) ?_
                                  refine va_get (D := (dC, dI)) (ci := 10) (C := RX10) (T := TX10) (N := 22) hx hb hts hin10 hown hK hP 0 rfl rfl 2 (by decide) lk6 (fun _ h9 => h9) rfl dX10_closes_160 ?_
                                  refine lv_sipush (v := nI 1560) hx hb dX10_closes_163 (by decide) ?_
                                  refine lv_iload hx hb dX10_closes_166 (lv_at hl 5 rfl) ?_
                                  refine lv_iadd hx hb dX10_closes_168 ?_
                                  refine nx_ti (y := nI (1560 + k3)) (nI_add _ _) ?_
                                  refine nx_iald hx hb hK hP 2 0 rfl rfl (i := 1560 + k3) (by omega) (by decide) dX10_closes_169 ?_
                                  refine nx_ti (y := gD ((va_up (va_up (va_up R 26 (goL (F 1) R n (F 4) M0 (s0 / 13 % 8) (s0 % 13)).2) 27 M0) 28 tM) 26) k3) ((hZ 26 (by omega)).2.2 k3 (by rw [rx_26]; omega)) ?_
                                  refine nx_ti (y := gD (goL (F 1) R n (F 4) M0 (s0 / 13 % 8) (s0 % 13)).2 k3) (by rw [rx_26]) ?_
                                  refine lv_icmp_ne (tgt := 177) hx hb dX10_closes_170 (by decide) (fun c_170 => ?_) (fun c_170 => ?_)
                                  · skip
                                    refine lv_iconst (v := nI 0) hx hb dX10_closes_177 (by decide) ?_
                                    refine nx_ti (y := bI (clP (goL (F 1) R n (F 4) M0 (s0 / 104) 0).1 (goL (F 1) R n (F 4) M0 (s0 / 13 % 8) (s0 % 13)).1 (goL (F 1) R n (F 4) M0 (s0 / 104) 0).2 (goL (F 1) R n (F 4) M0 (s0 / 13 % 8) (s0 % 13)).2 (k3 + 1))) ((bI_f (clP_x hne0 c_170)).symm) ?_
                                    refine lv_istore (lv' := [(4, .int (bI (clP (goL (F 1) R n (F 4) M0 (s0 / 104) 0).1 (goL (F 1) R n (F 4) M0 (s0 / 13 % 8) (s0 % 13)).1 (goL (F 1) R n (F 4) M0 (s0 / 104) 0).2 (goL (F 1) R n (F 4) M0 (s0 / 13 % 8) (s0 % 13)).2 (k3 + 1)))), (0, .ref (am 0)), (1, .int (nI i)), (2, .int (goL (F 1) R n (F 4) M0 (s0 / 104) 0).1), (3, .int (goL (F 1) R n (F 4) M0 (s0 / 13 % 8) (s0 % 13)).1), (5, .int (nI k3))]) hx hb dX10_closes_178 hl (by decide) rfl (fun ls hl => ?_)
                                    refine lv_iinc (v := nI (k3 + 1)) (lv' := [(5, .int (nI (k3 + 1))), (4, .int (bI (clP (goL (F 1) R n (F 4) M0 (s0 / 104) 0).1 (goL (F 1) R n (F 4) M0 (s0 / 13 % 8) (s0 % 13)).1 (goL (F 1) R n (F 4) M0 (s0 / 104) 0).2 (goL (F 1) R n (F 4) M0 (s0 / 13 % 8) (s0 % 13)).2 (k3 + 1)))), (0, .ref (am 0)), (1, .int (nI i)), (2, .int (goL (F 1) R n (F 4) M0 (s0 / 104) 0).1), (3, .int (goL (F 1) R n (F 4) M0 (s0 / 13 % 8) (s0 % 13)).1)]) hx hb dX10_closes_180 hl (k := 5) rfl (nI_add _ _) (by decide) rfl (fun ls hl => ?_)
                                    refine lv_goto (tgt := 133) hx hb dX10_closes_183 (by decide) ?_
                                    exact ih133 (k3 + 1) _ _ _ _ _ (by omega) hZ hP hS (by omega) (lv_sub hl [2, 3, 4, 5, 1, 0] rfl)
                                  · skip
                                    refine lv_iconst (v := nI 1) hx hb dX10_closes_173 (by decide) ?_
                                    refine lv_goto (tgt := 178) hx hb dX10_closes_174 (by decide) ?_
                                    refine nx_ti (y := bI (clP (goL (F 1) R n (F 4) M0 (s0 / 104) 0).1 (goL (F 1) R n (F 4) M0 (s0 / 13 % 8) (s0 % 13)).1 (goL (F 1) R n (F 4) M0 (s0 / 104) 0).2 (goL (F 1) R n (F 4) M0 (s0 / 13 % 8) (s0 % 13)).2 (k3 + 1))) ((bI_t (clP_s c_144 hne0 c_170)).symm) ?_
                                    refine lv_istore (lv' := [(4, .int (bI (clP (goL (F 1) R n (F 4) M0 (s0 / 104) 0).1 (goL (F 1) R n (F 4) M0 (s0 / 13 % 8) (s0 % 13)).1 (goL (F 1) R n (F 4) M0 (s0 / 104) 0).2 (goL (F 1) R n (F 4) M0 (s0 / 13 % 8) (s0 % 13)).2 (k3 + 1)))), (0, .ref (am 0)), (1, .int (nI i)), (2, .int (goL (F 1) R n (F 4) M0 (s0 / 104) 0).1), (3, .int (goL (F 1) R n (F 4) M0 (s0 / 13 % 8) (s0 % 13)).1), (5, .int (nI k3))]) hx hb dX10_closes_178 hl (by decide) rfl (fun ls hl => ?_)
                                    refine lv_iinc (v := nI (k3 + 1)) (lv' := [(5, .int (nI (k3 + 1))), (4, .int (bI (clP (goL (F 1) R n (F 4) M0 (s0 / 104) 0).1 (goL (F 1) R n (F 4) M0 (s0 / 13 % 8) (s0 % 13)).1 (goL (F 1) R n (F 4) M0 (s0 / 104) 0).2 (goL (F 1) R n (F 4) M0 (s0 / 13 % 8) (s0 % 13)).2 (k3 + 1)))), (0, .ref (am 0)), (1, .int (nI i)), (2, .int (goL (F 1) R n (F 4) M0 (s0 / 104) 0).1), (3, .int (goL (F 1) R n (F 4) M0 (s0 / 13 % 8) (s0 % 13)).1)]) hx hb dX10_closes_180 hl (k := 5) rfl (nI_add _ _) (by decide) rfl (fun ls hl => ?_)
                                    refine lv_goto (tgt := 133) hx hb dX10_closes_183 (by decide) ?_
                                    exact ih133 (k3 + 1) _ _ _ _ _ (by omega) hZ hP hS (by omega) (lv_sub hl [2, 3, 4, 5, 1, 0] rfl)
                        exact L133 (60 - 0 + 1) 0 _ _ _ _ _ (by omega) hZ hP hS (Nat.lt_succ_self _) (lv_sub hl [3, 4, 5, 2, 1, 0] rfl)
                · skip
                  refine lv_bipush (v := (-5)) hx hb dX10_closes_97 (by decide) ?_
                  subst hQ
                  exact W.iret (v := (-5)) hx hb hret (fun tq htq hWq => ⟨⟨_, ((va_up (va_up (va_up (va_up (va_up (va_up v 11 ta) 12 tb) 13 (nI (s0 / 104))) 14 (nI (s0 / 13 % 8))) 15 (nI (s0 % 13))) 17 (nI (goL (F 1) R n (F 4) M0 (s0 / 104) 0).2.length)), va_up (va_up (va_up R 26 (goL (F 1) R n (F 4) M0 (s0 / 13 % 8) (s0 % 13)).2) 27 M0) 28 tM, (va_up (va_up (va_up F 7 tc) 8 td) 9 f9x), G), rfl, ⟨_, _, _, _, _, _, _, _, _, _, rfl, fun k hk => rx_n hk, by rw [← hres, clF_s c_7 hs0, if_pos (clO_5 (Or.inr c_94))]⟩, va_K.moved hWq.alike hK, _, _, hZ, by rw [htq]; exact hP⟩, hS.F htq⟩) hS.2.2 dX10_closes_99
              · skip
                refine lv_bipush (v := (-5)) hx hb dX10_closes_71 (by decide) ?_
                refine lv_goto (tgt := 90) hx hb dX10_closes_73 (by decide) ?_
                refine lv_istore_n (lv' := [(3, .int (-5)), (0, .ref (am 0)), (1, .int (nI i)), (2, .int (goL (F 1) R n (F 4) M0 (s0 / 104) 0).1)]) hx hb dX10_closes_90 rfl hl (by decide) rfl (fun ls hl => ?_)
                refine lv_iload_n hx hb dX10_closes_91 rfl (lv_at hl 0 rfl) ?_
                refine lv_bipush (v := (-5)) hx hb dX10_closes_92 (by decide) ?_
                refine lv_icmp_ne (tgt := 100) hx hb dX10_closes_94 (by decide) (fun c_94 => ?_) (fun c_94 => ?_)
                · skip
                  exact absurd rfl c_94
                · skip
                  refine lv_bipush (v := (-5)) hx hb dX10_closes_97 (by decide) ?_
                  subst hQ
                  exact W.iret (v := (-5)) hx hb hret (fun tq htq hWq => ⟨⟨_, ((va_up (va_up (va_up (va_up (va_up (va_up v 11 pa) 12 pb) 13 (nI (s0 / 104))) 14 (nI (s0 / 13 % 8))) 15 (nI (s0 % 13))) 17 (nI (goL (F 1) R n (F 4) M0 (s0 / 104) 0).2.length)), va_up (va_up (va_up R 26 (goL (F 1) R n (F 4) M0 (s0 / 104) 0).2) 27 M0) 28 pM, (va_up (va_up (va_up F 7 pc) 8 pd) 9 f9x), G), rfl, ⟨_, _, _, _, _, _, _, _, _, _, rfl, fun k hk => rx_n hk, by rw [← hres, clF_s c_7 hs0, if_pos (clO_5 (Or.inl c_68))]⟩, va_K.moved hWq.alike hK, _, _, hZ, by rw [htq]; exact hP⟩, hS.F htq⟩) hS.2.2 dX10_closes_99
            · skip
              refine lv_aload_n hx hb dX10_closes_43 rfl (lv_at hl 0 rfl) ?_
              refine va_get (D := (dC, dI)) (ci := 10) (C := RX10) (T := TX10) (N := 22) hx hb hts hin10 hown hK hP 0 rfl rfl 16 (by decide) lk5 (fun _ h9 => h9) rfl dX10_closes_44 ?_
              refine lv_iload_n hx hb dX10_closes_47 rfl (lv_at hl 3 rfl) ?_
              refine lv_aload_n hx hb dX10_closes_48 rfl (lv_at hl 0 rfl) ?_
              refine va_get (D := (dC, dI)) (ci := 10) (C := RX10) (T := TX10) (N := 22) hx hb hts hin10 hown hK hP 0 rfl rfl 2 (by decide) lk6 (fun _ h9 => h9) rfl dX10_closes_49 ?_
              refine lv_sipush (v := nI 1560) hx hb dX10_closes_52 (by decide) ?_
              refine lv_iload_n hx hb dX10_closes_55 rfl (lv_at hl 3 rfl) ?_
              refine lv_iadd hx hb dX10_closes_56 ?_
              refine nx_ti (y := nI (1560 + k3)) (nI_add _ _) ?_
              refine nx_iald hx hb hK hP 2 0 rfl rfl (i := 1560 + k3) (by omega) (by decide) dX10_closes_57 ?_
              refine nx_ti (y := gD ((va_up (va_up (va_up R 26 (goL (F 1) R n (F 4) M0 (s0 / 104) 0).2) 27 M0) 28 pM) 26) k3) ((hZ 26 (by omega)).2.2 k3 (by rw [rx_26]; omega)) ?_
              refine nx_ti (y := gD (goL (F 1) R n (F 4) M0 (s0 / 104) 0).2 k3) (by rw [rx_26]) ?_
              refine nx_iast hx hb hK hP (wsM_D hI) hS 9 0 rfl rfl (i := k3) (by omega) (by decide) dX10_closes_58 (fun H locs hP hS => ?_)
              have hP : va_P (dC, dI) vwCl (wsM aC am (va_up (va_up (va_up (va_up (va_up (va_up v 11 pa) 12 pb) 13 (nI (s0 / 104))) 14 (nI (s0 / 13 % 8))) 15 (nI (s0 % 13))) 17 (nI (goL (F 1) R n (F 4) M0 (s0 / 104) 0).2.length)) S Z (va_up (va_up (va_up F 7 pc) 8 pd) 9 (upd f9x k3 (gD (goL (F 1) R n (F 4) M0 (s0 / 104) 0).2 k3))) G) H := hP
              refine lv_iinc (v := nI (k3 + 1)) (lv' := [(3, .int (nI (k3 + 1))), (0, .ref (am 0)), (1, .int (nI i)), (2, .int (goL (F 1) R n (F 4) M0 (s0 / 104) 0).1)]) hx hb dX10_closes_59 hl (k := 3) rfl (nI_add _ _) (by decide) rfl (fun ls hl => ?_)
              refine lv_goto (tgt := 35) hx hb dX10_closes_62 (by decide) ?_
              exact ih35 (k3 + 1) (upd f9x k3 (gD (goL (F 1) R n (F 4) M0 (s0 / 104) 0).2 k3)) _ _ _ _ _ (by omega) (upd_ext hf9) hZ hP hS (by omega) (lv_sub hl [1, 2, 3, 0] rfl)
        exact L35 (60 - 0 + 1) 0 f9 _ _ _ _ _ (by omega) (fun j hj => absurd hj (Nat.not_lt_zero j)) hZ hP hS (Nat.lt_succ_self _) (lv_sub hl [2, 3, 1, 0] rfl)
  exact L2 (832 - 0 + 1) 0 (v 11) (v 12) (v 13) (v 14) (v 15) (v 17) (F 7) (F 8) (F 9) (R 26) (R 27) (R 28) _ _ _ _ _ (by omega) rfl (by rw [rx_eta]; exact hZ) hP hS (Nat.lt_succ_self _) (lv_sub hl [1, 0] rfl)
