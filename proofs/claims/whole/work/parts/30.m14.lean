set_option maxHeartbeats 1000000 in
set_option maxRecDepth 100000 in
/-- height -/
theorem k_height (l : Launch) (dC : Nat → ClassId) (dI : Nat → Nat → Nat) (aC : Nat → ClassId) (am : Nat → Nat) (hI : mI am) (v : Nat → Int32) (R : Nat → List Int32) (F : Nat → Nat → Int32) (G : Nat → Nat → Int64) (A : Nat) (hE : vE A (F 1)) (r : Nat) (hr : r < 30) (hV : vR A (R r)) : Met l yX10_height wsX10_height ({ frames := 0, cells := 0, slots := 0, locals := 0 } : Room) (va_Pc [.ref (am 0), .int (nI r)] (MB dC dI aC am (v, R, F, G))) (va_Qi (fun (x : Int32) (u : MS) => ∃ o, (v, R, va_up F 6 o, G) = u ∧ x = nI (hgt (F 1) (R r))) (MB dC dI aC am) (mA am)) 0 0 (mA am) := by
  refine Met.ofW (cc := cX10_height) (maxL := 7) (ret := (some .int)) (by decide) rfl ?_
  intro p e s m args below meth c s₁ B hml hv
  obtain ⟨rfl, hK, S, Z, hZ, hP⟩ := hv
  have hx := B.exec
  have hb := B.bytes
  have hret := B.returns
  have hts := atoms_spec (ws := wsX10_height) B.pre
  have hown : s.vm.findClass RX10 = some m.cls := findClass_of_methodNamed B.named
  have hlocks := B.notSynchronized
  dsimp only at hZ hP
  have lk0 := hts (.fieldLink RX10 16 "LeafTreesModel" "size" "[I") (by decide +kernel)
  have lk1 := hts (.fieldLink RX10 13 "LeafTreesModel" "symbol" "[I") (by decide +kernel)
  have lk2 := hts (.fieldLink RX10 27 "LeafTreesModel" "open" "[I") (by decide +kernel)
  have lk3 := hts (.fieldLink RX10 7 "LeafTreesModel" "entries" "[I") (by decide +kernel)
  have hin10 : ∀ w ∈ u_ws RX10 TX10 22, w ∈ wsX10_height := by decide +kernel
  have hS : va_S (mA am) s.heap s.heap [] := va_S.rf
  have hl := lv_entry [.ref (am 0), .int (nI r)] (n := 7) (Nat.le_of_ble_eq_true rfl)
  rw [lg_entry_eq]
  generalize (lg_sl [.ref (am 0), .int (nI r)] ++ List.replicate (7 - (lg_sl [.ref (am 0), .int (nI r)]).length) Slot.unset).toArray = ls at hl ⊢
  have hl : lv_has ls 7 [(0, .ref (am 0)), (1, .int (nI r))] := hl
  refine nx_Q (R := ({ frames := 0, cells := 0, slots := 0, locals := 0 } : Room)) (fun Q hQ => ?_)
  skip
  have hlen := (hZ r hr).1
  refine lv_iconst (v := nI 0) hx hb dX10_height_0 (by decide) ?_
  refine lv_istore_n (lv' := [(2, .int (nI 0)), (0, .ref (am 0)), (1, .int (nI r))]) hx hb dX10_height_1 rfl hl (by decide) rfl (fun ls hl => ?_)
  refine lv_iconst (v := nI 0) hx hb dX10_height_2 (by decide) ?_
  refine lv_istore_n (lv' := [(3, .int (nI 0)), (2, .int (nI 0)), (0, .ref (am 0)), (1, .int (nI r))]) hx hb dX10_height_3 rfl hl (by decide) rfl (fun ls hl => ?_)
  refine lv_iconst (v := nI 0) hx hb dX10_height_4 (by decide) ?_
  refine lv_istore (lv' := [(4, .int (nI 0)), (3, .int (nI 0)), (2, .int (nI 0)), (0, .ref (am 0)), (1, .int (nI r))]) hx hb dX10_height_5 hl (by decide) rfl (fun ls hl => ?_)
  have L7 : ∀ (fuel7 : Nat) (i : Nat) (op : Nat → Int32) (S Z : Nat → Int32) (H : Heap) (locs : List Loc) (ls : Array Slot), (i ≤ (R r).length) → (stH op (hgS (wt (F 1)) (gD (R r)) i).1) → mOK S Z R → va_P (dC, dI) vwCl (wsM aC am v S Z (va_up F 6 op) G) H → va_S (mA am) s.heap H locs → 60 - i < fuel7 → lv_has ls 7 [(0, .ref (am 0)), (1, .int (nI r)), (2, .int (nI (hgS (wt (F 1)) (gD (R r)) i).1.length)), (3, .int (nI (hgS (wt (F 1)) (gD (R r)) i).2)), (4, .int (nI i))] → W p l e ({ frames := 0, cells := 0, slots := 0, locals := 0 } : Room) s m ([.ref (am 0), .int (nI r)] : List Value).toArray below meth c H locs 0 0 Q (F0 m 7 ls []) := by
    intro fuel7
    induction fuel7 with
    | zero => intro i op S Z H locs ls hi hop hZ hP hS hf7 hl; exact absurd hf7 (Nat.not_lt_zero _)
    | succ fuel7 ih7 =>
      intro i op S Z H locs ls hi hop hZ hP hS hf7 hl
      have hd := hgS_len (wt (F 1)) (gD (R r)) i
      have hx2 := hgS_mx (wt (F 1)) (gD (R r)) i
      have hps := hgS_pos hE (g := gD (R r)) i (fun j hj => hV j (by omega))
      refine lv_iload hx hb dX10_height_7 (lv_at hl 4 rfl) ?_
      refine lv_aload_n hx hb dX10_height_9 rfl (lv_at hl 0 rfl) ?_
      refine va_get (D := (dC, dI)) (ci := 10) (C := RX10) (T := TX10) (N := 22) hx hb hts hin10 hown hK hP 0 rfl rfl 3 (by decide) lk0 (fun _ h9 => h9) rfl dX10_height_10 ?_
      refine lv_iload_n hx hb dX10_height_13 rfl (lv_at hl 1 rfl) ?_
      refine nx_iald hx hb hK hP 3 0 rfl rfl (i := r) (by omega) (by decide) dX10_height_14 ?_
      refine nx_ti (y := nI (R r).length) ((hZ r (by omega)).2.1) ?_
      refine nx_icmp_ge (a := i) (b := (R r).length) (tgt := 132) hx hb dX10_height_15 (by decide) (by omega) (by omega) (fun c_15 => ?_) (fun c_15 => ?_)
      · skip
        refine lv_iload_n hx hb dX10_height_132 rfl (lv_at hl 3 rfl) ?_
        subst hQ
        exact W.iret (v := nI (hgS (wt (F 1)) (gD (R r)) i).2) hx hb hret (fun tq htq hWq => ⟨⟨_, (v, R, (va_up F 6 op), G), rfl, ⟨_, rfl, by rw [hgt, show (R r).length = i by omega]⟩, va_K.moved hWq.alike hK, _, _, hZ, by rw [htq]; exact hP⟩, hS.F htq⟩) hS.2.2 dX10_height_133
      · skip
        refine lv_aload_n hx hb dX10_height_18 rfl (lv_at hl 0 rfl) ?_
        refine va_get (D := (dC, dI)) (ci := 10) (C := RX10) (T := TX10) (N := 22) hx hb hts hin10 hown hK hP 0 rfl rfl 2 (by decide) lk1 (fun _ h9 => h9) rfl dX10_height_19 ?_
        refine lv_bipush (v := nI 60) hx hb dX10_height_22 (by decide) ?_
        refine lv_iload_n hx hb dX10_height_24 rfl (lv_at hl 1 rfl) ?_
        refine lv_imul hx hb dX10_height_25 ?_
        refine nx_ti (y := nI (60 * r)) (pk_mul _ _) ?_
        refine lv_iload hx hb dX10_height_26 (lv_at hl 4 rfl) ?_
        refine lv_iadd hx hb dX10_height_28 ?_
        refine nx_ti (y := nI (60 * r + i)) (nI_add _ _) ?_
        refine nx_iald hx hb hK hP 2 0 rfl rfl (i := 60 * r + i) (by have := (hZ r (by omega)).1; omega) (by decide) dX10_height_29 ?_
        refine nx_ti (y := gD (R r) i) ((hZ r (by omega)).2.2 i (by omega)) ?_
        refine lv_istore (lv' := [(5, .int (gD (R r) i)), (0, .ref (am 0)), (1, .int (nI r)), (2, .int (nI (hgS (wt (F 1)) (gD (R r)) i).1.length)), (3, .int (nI (hgS (wt (F 1)) (gD (R r)) i).2)), (4, .int (nI i))]) hx hb dX10_height_30 hl (by decide) rfl (fun ls hl => ?_)
        refine lv_iload hx hb dX10_height_32 (lv_at hl 0 rfl) ?_
        refine lv_iconst (v := (-1)) hx hb dX10_height_34 (by decide) ?_
        refine lv_icmp_eq (tgt := 68) hx hb dX10_height_35 (by decide) (fun c_35 => ?_) (fun c_35 => ?_)
        · skip
          refine lv_iconst (v := nI 1) hx hb dX10_height_68 (by decide) ?_
          refine lv_istore (lv' := [(6, .int (nI 1)), (5, .int (gD (R r) i)), (0, .ref (am 0)), (1, .int (nI r)), (2, .int (nI (hgS (wt (F 1)) (gD (R r)) i).1.length)), (3, .int (nI (hgS (wt (F 1)) (gD (R r)) i).2)), (4, .int (nI i))]) hx hb dX10_height_69 hl (by decide) rfl (fun ls hl => ?_)
          have L71 : ∀ (fuel71 : Nat) (stk : List Nat) (opx : Nat → Int32) (S Z : Nat → Int32) (H : Heap) (locs : List Loc) (ls : Array Slot), (stD stk = stD (hgS (wt (F 1)) (gD (R r)) i).1) → (stH opx stk) → (stP stk) → (stk.length ≤ 60) → mOK S Z R → va_P (dC, dI) vwCl (wsM aC am v S Z (va_up F 6 opx) G) H → va_S (mA am) s.heap H locs → stk.length < fuel71 → lv_has ls 7 [(0, .ref (am 0)), (1, .int (nI r)), (2, .int (nI stk.length)), (3, .int (nI (hgS (wt (F 1)) (gD (R r)) i).2)), (4, .int (nI i)), (6, .int (nI 1))] → W p l e ({ frames := 0, cells := 0, slots := 0, locals := 0 } : Room) s m ([.ref (am 0), .int (nI r)] : List Value).toArray below meth c H locs 0 0 Q (F0 m 71 ls []) := by
            intro fuel71
            induction fuel71 with
            | zero => intro stk opx S Z H locs ls hstD hsk hsp hsl hZ hP hS hf71 hl; exact absurd hf71 (Nat.not_lt_zero _)
            | succ fuel71 ih71 =>
              intro stk opx S Z H locs ls hstD hsk hsp hsl hZ hP hS hf71 hl
              refine lv_iload hx hb dX10_height_71 (lv_at hl 5 rfl) ?_
              refine nx_if_eq (tgt := 126) hx hb dX10_height_73 (by decide) (by omega) (fun c_73 => ?_) (fun c_73 => ?_)
              · skip
                exact absurd c_73 (by decide)
              · skip
                refine lv_iload_n hx hb dX10_height_76 rfl (lv_at hl 2 rfl) ?_
                refine nx_if_le (tgt := 126) hx hb dX10_height_77 (by decide) (by omega) (fun c_77 => ?_) (fun c_77 => ?_)
                · skip
                  have hst0 : stk = [] := List.length_eq_zero_iff.mp c_77
                  refine lv_iinc (v := nI (i + 1)) (lv' := [(4, .int (nI (i + 1))), (0, .ref (am 0)), (1, .int (nI r)), (2, .int (nI stk.length)), (3, .int (nI (hgS (wt (F 1)) (gD (R r)) i).2)), (6, .int (nI 1))]) hx hb dX10_height_126 hl (k := 4) rfl (nI_add _ _) (by decide) rfl (fun ls hl => ?_)
                  refine lv_goto (tgt := 7) hx hb dX10_height_129 (by decide) ?_
                  exact ih7 (i + 1) opx _ _ _ _ _ (by omega) (by rw [hgS_l c_35, ← hstD, hst0]; trivial) hZ hP hS (by omega) (by rw [hgS_l c_35, ← hstD, hst0]; rw [hst0] at hl; exact lv_sub hl [1, 2, 3, 4, 0] rfl)
                · skip
                  obtain ⟨y, ys, hst⟩ : ∃ y ys, stk = y :: ys := by
                    cases stk with
                    | nil => exact absurd rfl (Nat.ne_of_gt c_77)
                    | cons y ys => exact ⟨y, ys, rfl⟩
                  have hy := hsp y (by rw [hst]; exact List.mem_cons_self)
                  refine lv_aload_n hx hb dX10_height_80 rfl (lv_at hl 0 rfl) ?_
                  refine va_get (D := (dC, dI)) (ci := 10) (C := RX10) (T := TX10) (N := 22) hx hb hts hin10 hown hK hP 0 rfl rfl 8 (by decide) lk2 (fun _ h9 => h9) rfl dX10_height_81 ?_
                  refine lv_iload_n hx hb dX10_height_84 rfl (lv_at hl 2 rfl) ?_
                  refine lv_iconst (v := nI 1) hx hb dX10_height_85 (by decide) ?_
                  refine lv_isub hx hb dX10_height_86 ?_
                  refine nx_ti (y := nI (stk.length - 1)) (pk_sub (by omega)) ?_
                  refine lv_dup2_11 hx hb dX10_height_87 rfl rfl ?_
                  refine nx_iald hx hb hK hP 6 0 rfl rfl (i := stk.length - 1) (by omega) (by decide) dX10_height_88 ?_
                  refine nx_ti (y := nI y) (by rw [hst] at hsk ⊢; exact hsk.1) ?_
                  refine lv_iconst (v := nI 1) hx hb dX10_height_89 (by decide) ?_
                  refine lv_isub hx hb dX10_height_90 ?_
                  refine nx_ti (y := nI (y - 1)) (pk_sub hy.1) ?_
                  refine nx_iast hx hb hK hP (wsM_D hI) hS 6 0 rfl rfl (i := stk.length - 1) (by omega) (by decide) dX10_height_91 (fun H locs hP hS => ?_)
                  have hP : va_P (dC, dI) vwCl (wsM aC am v S Z (va_up F 6 (upd opx (stk.length - 1) (nI (y - 1)))) G) H := hP
                  refine lv_aload_n hx hb dX10_height_92 rfl (lv_at hl 0 rfl) ?_
                  refine va_get (D := (dC, dI)) (ci := 10) (C := RX10) (T := TX10) (N := 22) hx hb hts hin10 hown hK hP 0 rfl rfl 8 (by decide) lk2 (fun _ h9 => h9) rfl dX10_height_93 ?_
                  refine lv_iload_n hx hb dX10_height_96 rfl (lv_at hl 2 rfl) ?_
                  refine lv_iconst (v := nI 1) hx hb dX10_height_97 (by decide) ?_
                  refine lv_isub hx hb dX10_height_98 ?_
                  refine nx_ti (y := nI (stk.length - 1)) (pk_sub (by omega)) ?_
                  refine nx_iald hx hb hK hP 6 0 rfl rfl (i := stk.length - 1) (by omega) (by decide) dX10_height_99 ?_
                  refine nx_ti (y := nI (y - 1)) (pk_us) ?_
                  refine nx_if_ne (tgt := 107) hx hb dX10_height_100 (by decide) (by omega) (fun c_100 => ?_) (fun c_100 => ?_)
                  · skip
                    refine lv_iconst (v := nI 0) hx hb dX10_height_107 (by decide) ?_
                    refine lv_istore (lv' := [(6, .int (nI 0)), (0, .ref (am 0)), (1, .int (nI r)), (2, .int (nI stk.length)), (3, .int (nI (hgS (wt (F 1)) (gD (R r)) i).2)), (4, .int (nI i))]) hx hb dX10_height_108 hl (by decide) rfl (fun ls hl => ?_)
                    refine lv_iload_n hx hb dX10_height_110 rfl (lv_at hl 3 rfl) ?_
                    refine lv_iload hx hb dX10_height_111 (lv_at hl 0 rfl) ?_
                    refine nx_if_eq (tgt := 120) hx hb dX10_height_113 (by decide) (by omega) (fun c_113 => ?_) (fun c_113 => ?_)
                    · skip
                      refine lv_iconst (v := nI 0) hx hb dX10_height_120 (by decide) ?_
                      refine lv_isub hx hb dX10_height_121 ?_
                      refine nx_ti (y := nI (stk.length - 0)) (pk_sub (by omega)) ?_
                      refine lv_istore_n (lv' := [(2, .int (nI (stk.length - 0))), (6, .int (nI 0)), (0, .ref (am 0)), (1, .int (nI r)), (3, .int (nI (hgS (wt (F 1)) (gD (R r)) i).2)), (4, .int (nI i))]) hx hb dX10_height_122 rfl hl (by decide) rfl (fun ls hl => ?_)
                      refine lv_goto (tgt := 71) hx hb dX10_height_123 (by decide) ?_
                      refine lv_iload hx hb dX10_height_71 (lv_at hl 1 rfl) ?_
                      refine nx_if_eq (tgt := 126) hx hb dX10_height_73 (by decide) (by omega) (fun c_73 => ?_) (fun c_73 => ?_)
                      · skip
                        refine lv_iinc (v := nI (i + 1)) (lv' := [(4, .int (nI (i + 1))), (2, .int (nI (stk.length - 0))), (6, .int (nI 0)), (0, .ref (am 0)), (1, .int (nI r)), (3, .int (nI (hgS (wt (F 1)) (gD (R r)) i).2))]) hx hb dX10_height_126 hl (k := 5) rfl (nI_add _ _) (by decide) rfl (fun ls hl => ?_)
                        refine lv_goto (tgt := 7) hx hb dX10_height_129 (by decide) ?_
                        exact ih7 (i + 1) (upd opx (stk.length - 1) (nI (y - 1))) _ _ _ _ _ (by omega) (by rw [hgS_l c_35, ← hstD, hst, stD, if_neg c_100]; exact ⟨pk_us, stH_upd (Nat.le_refl _) (by rw [hst] at hsk; exact hsk.2)⟩) hZ hP hS (by omega) (by rw [hgS_l c_35, ← hstD, hst, stD, if_neg c_100]; rw [hst] at hl; exact lv_sub hl [3, 4, 1, 5, 0] rfl)
                      · skip
                        exact absurd rfl c_73
                    · skip
                      exact absurd rfl c_113
                  · skip
                    refine lv_iconst (v := nI 1) hx hb dX10_height_103 (by decide) ?_
                    refine lv_goto (tgt := 108) hx hb dX10_height_104 (by decide) ?_
                    refine lv_istore (lv' := [(6, .int (nI 1)), (0, .ref (am 0)), (1, .int (nI r)), (2, .int (nI stk.length)), (3, .int (nI (hgS (wt (F 1)) (gD (R r)) i).2)), (4, .int (nI i))]) hx hb dX10_height_108 hl (by decide) rfl (fun ls hl => ?_)
                    refine lv_iload_n hx hb dX10_height_110 rfl (lv_at hl 3 rfl) ?_
                    refine lv_iload hx hb dX10_height_111 (lv_at hl 0 rfl) ?_
                    refine nx_if_eq (tgt := 120) hx hb dX10_height_113 (by decide) (by omega) (fun c_113 => ?_) (fun c_113 => ?_)
                    · skip
                      exact absurd c_113 (by decide)
                    · skip
                      refine lv_iconst (v := nI 1) hx hb dX10_height_116 (by decide) ?_
                      refine lv_goto (tgt := 121) hx hb dX10_height_117 (by decide) ?_
                      refine lv_isub hx hb dX10_height_121 ?_
                      refine nx_ti (y := nI (stk.length - 1)) (pk_sub (by omega)) ?_
                      refine lv_istore_n (lv' := [(2, .int (nI (stk.length - 1))), (6, .int (nI 1)), (0, .ref (am 0)), (1, .int (nI r)), (3, .int (nI (hgS (wt (F 1)) (gD (R r)) i).2)), (4, .int (nI i))]) hx hb dX10_height_122 rfl hl (by decide) rfl (fun ls hl => ?_)
                      refine lv_goto (tgt := 71) hx hb dX10_height_123 (by decide) ?_
                      exact ih71 ys (upd opx (stk.length - 1) (nI (y - 1))) _ _ _ _ _ (by rw [← hstD, hst, stD, if_pos c_100]) (by rw [hst] at hsk ⊢; exact stH_upd (Nat.le_refl _) hsk.2) (fun z hz => hsp z (by rw [hst]; exact List.mem_cons_of_mem _ hz)) (by rw [hst, List.length_cons] at hsl; omega) hZ hP hS (by rw [hst, List.length_cons] at hf71; omega) (by rw [hst] at hl; exact lv_sub hl [2, 3, 0, 4, 5, 1] rfl)
          exact L71 ((hgS (wt (F 1)) (gD (R r)) i).1.length + 1) (hgS (wt (F 1)) (gD (R r)) i).1 op _ _ _ _ _ rfl hop hps (by omega) hZ hP hS (Nat.lt_succ_self _) (lv_sub hl [2, 3, 4, 5, 6, 0] rfl)
        · skip
          obtain ⟨a, ha, hga⟩ := vS_pos (hV i c_15) c_35
          have h4 := hE.1
          rw [hga] at hl
          have hl : lv_has ls 7 [(5, .int (nI a)), (0, .ref (am 0)), (1, .int (nI r)), (2, .int (nI (hgS (wt (F 1)) (gD (R r)) i).1.length)), (3, .int (nI (hgS (wt (F 1)) (gD (R r)) i).2)), (4, .int (nI i))] := hl
          refine lv_aload_n hx hb dX10_height_38 rfl (lv_at hl 1 rfl) ?_
          refine va_get (D := (dC, dI)) (ci := 10) (C := RX10) (T := TX10) (N := 22) hx hb hts hin10 hown hK hP 0 rfl rfl 8 (by decide) lk2 (fun _ h9 => h9) rfl dX10_height_39 ?_
          refine lv_iload_n hx hb dX10_height_42 rfl (lv_at hl 3 rfl) ?_
          refine lv_aload_n hx hb dX10_height_43 rfl (lv_at hl 1 rfl) ?_
          refine va_get (D := (dC, dI)) (ci := 10) (C := RX10) (T := TX10) (N := 22) hx hb hts hin10 hown hK hP 0 rfl rfl 1 (by decide) lk3 (fun _ h9 => h9) rfl dX10_height_44 ?_
          refine lv_iload hx hb dX10_height_47 (lv_at hl 0 rfl) ?_
          refine nx_iald hx hb hK hP 1 0 rfl rfl (i := a) (by omega) (by decide) dX10_height_49 ?_
          refine nx_ti (y := nI (wt (F 1) (nI a))) ((wt_nI hE ha).1.symm) ?_
          refine nx_iast hx hb hK hP (wsM_D hI) hS 6 0 rfl rfl (i := (hgS (wt (F 1)) (gD (R r)) i).1.length) (by omega) (by decide) dX10_height_50 (fun H locs hP hS => ?_)
          have hP : va_P (dC, dI) vwCl (wsM aC am v S Z (va_up F 6 (upd op (hgS (wt (F 1)) (gD (R r)) i).1.length (nI (wt (F 1) (nI a))))) G) H := hP
          refine lv_iinc (v := nI ((hgS (wt (F 1)) (gD (R r)) i).1.length + 1)) (lv' := [(2, .int (nI ((hgS (wt (F 1)) (gD (R r)) i).1.length + 1))), (5, .int (nI a)), (0, .ref (am 0)), (1, .int (nI r)), (3, .int (nI (hgS (wt (F 1)) (gD (R r)) i).2)), (4, .int (nI i))]) hx hb dX10_height_51 hl (k := 3) rfl (nI_add _ _) (by decide) rfl (fun ls hl => ?_)
          refine lv_iload_n hx hb dX10_height_54 rfl (lv_at hl 0 rfl) ?_
          refine lv_iload_n hx hb dX10_height_55 rfl (lv_at hl 4 rfl) ?_
          refine nx_icmp_le (a := ((hgS (wt (F 1)) (gD (R r)) i).1.length + 1)) (b := (hgS (wt (F 1)) (gD (R r)) i).2) (tgt := 63) hx hb dX10_height_56 (by decide) (by omega) (by omega) (fun c_56 => ?_) (fun c_56 => ?_)
          · skip
            refine lv_iload_n hx hb dX10_height_63 rfl (lv_at hl 4 rfl) ?_
            refine nx_ti (y := nI (max (hgS (wt (F 1)) (gD (R r)) i).2 ((hgS (wt (F 1)) (gD (R r)) i).1.length + 1))) (by congr 1; omega) ?_
            refine lv_istore_n (lv' := [(3, .int (nI (max (hgS (wt (F 1)) (gD (R r)) i).2 ((hgS (wt (F 1)) (gD (R r)) i).1.length + 1)))), (2, .int (nI ((hgS (wt (F 1)) (gD (R r)) i).1.length + 1))), (5, .int (nI a)), (0, .ref (am 0)), (1, .int (nI r)), (4, .int (nI i))]) hx hb dX10_height_64 rfl hl (by decide) rfl (fun ls hl => ?_)
            refine lv_goto (tgt := 126) hx hb dX10_height_65 (by decide) ?_
            refine lv_iinc (v := nI (i + 1)) (lv' := [(4, .int (nI (i + 1))), (3, .int (nI (max (hgS (wt (F 1)) (gD (R r)) i).2 ((hgS (wt (F 1)) (gD (R r)) i).1.length + 1)))), (2, .int (nI ((hgS (wt (F 1)) (gD (R r)) i).1.length + 1))), (5, .int (nI a)), (0, .ref (am 0)), (1, .int (nI r))]) hx hb dX10_height_126 hl (k := 5) rfl (nI_add _ _) (by decide) rfl (fun ls hl => ?_)
            refine lv_goto (tgt := 7) hx hb dX10_height_129 (by decide) ?_
            exact ih7 (i + 1) (upd op (hgS (wt (F 1)) (gD (R r)) i).1.length (nI (wt (F 1) (nI a)))) _ _ _ _ _ (by omega) (by rw [hgS_a c_35, hga]; exact ⟨pk_us, stH_upd (Nat.le_refl _) hop⟩) hZ hP hS (by omega) (by rw [hgS_a c_35]; exact lv_sub hl [4, 5, 2, 1, 0] rfl)
          · skip
            refine lv_iload_n hx hb dX10_height_59 rfl (lv_at hl 0 rfl) ?_
            refine lv_goto (tgt := 64) hx hb dX10_height_60 (by decide) ?_
            refine nx_ti (y := nI (max (hgS (wt (F 1)) (gD (R r)) i).2 ((hgS (wt (F 1)) (gD (R r)) i).1.length + 1))) (by congr 1; omega) ?_
            refine lv_istore_n (lv' := [(3, .int (nI (max (hgS (wt (F 1)) (gD (R r)) i).2 ((hgS (wt (F 1)) (gD (R r)) i).1.length + 1)))), (2, .int (nI ((hgS (wt (F 1)) (gD (R r)) i).1.length + 1))), (5, .int (nI a)), (0, .ref (am 0)), (1, .int (nI r)), (4, .int (nI i))]) hx hb dX10_height_64 rfl hl (by decide) rfl (fun ls hl => ?_)
            refine lv_goto (tgt := 126) hx hb dX10_height_65 (by decide) ?_
            refine lv_iinc (v := nI (i + 1)) (lv' := [(4, .int (nI (i + 1))), (3, .int (nI (max (hgS (wt (F 1)) (gD (R r)) i).2 ((hgS (wt (F 1)) (gD (R r)) i).1.length + 1)))), (2, .int (nI ((hgS (wt (F 1)) (gD (R r)) i).1.length + 1))), (5, .int (nI a)), (0, .ref (am 0)), (1, .int (nI r))]) hx hb dX10_height_126 hl (k := 5) rfl (nI_add _ _) (by decide) rfl (fun ls hl => ?_)
            refine lv_goto (tgt := 7) hx hb dX10_height_129 (by decide) ?_
            exact ih7 (i + 1) (upd op (hgS (wt (F 1)) (gD (R r)) i).1.length (nI (wt (F 1) (nI a)))) _ _ _ _ _ (by omega) (by rw [hgS_a c_35, hga]; exact ⟨pk_us, stH_upd (Nat.le_refl _) hop⟩) hZ hP hS (by omega) (by rw [hgS_a c_35]; exact lv_sub hl [4, 5, 2, 1, 0] rfl)
  exact L7 (60 - 0 + 1) 0 (F 6) _ _ _ _ _ (by omega) trivial hZ hP hS (Nat.lt_succ_self _) (lv_sub hl [3, 4, 2, 1, 0] rfl)

set_option maxHeartbeats 1000000 in
set_option maxRecDepth 100000 in
/-- about -/
theorem k_about (l : Launch) (dC : Nat → ClassId) (dI : Nat → Nat → Nat) (aC : Nat → ClassId) (am : Nat → Nat) (hI : mI am) (v : Nat → Int32) (R : Nat → List Int32) (F : Nat → Nat → Int32) (G : Nat → Nat → Int64) (A : Nat) (hE : vE A (F 1)) (hV : ∀ r, r < 10 → vR A (R r)) (a w : Int32) : Met l yX10_about wsX10_about ({ frames := 3, cells := 0, slots := 0, locals := 66 } : Room) (va_Pc [.ref (am 0), .int a, .int w] (MB dC dI aC am (v, R, F, G))) (va_Qi (fun (x : Int32) (u : MS) => ∃ o, (v, R, va_up F 6 o, G) = u ∧ x = pAbout (F 1) R a w) (MB dC dI aC am) (mA am)) 0 0 (mA am) := by
  refine Met.ofW (cc := cX10_about) (maxL := 3) (ret := (some .int)) (by decide) rfl ?_
  intro p e s m args below meth c s₁ B hml hv
  obtain ⟨rfl, hK, S, Z, hZ, hP⟩ := hv
  have hx := B.exec
  have hb := B.bytes
  have hret := B.returns
  have hts := atoms_spec (ws := wsX10_about) B.pre
  have hown : s.vm.findClass RX10 = some m.cls := findClass_of_methodNamed B.named
  have hlocks := B.notSynchronized
  dsimp only at hZ hP
  have lk0 := hts (.fieldLink RX10 16 "LeafTreesModel" "size" "[I") (by decide +kernel)
  have hin10 : ∀ w ∈ u_ws RX10 TX10 22, w ∈ wsX10_about := by decide +kernel
  have hS : va_S (mA am) s.heap s.heap [] := va_S.rf
  have hl := lv_entry [.ref (am 0), .int a, .int w] (n := 3) (Nat.le_of_ble_eq_true rfl)
  rw [lg_entry_eq]
  generalize (lg_sl [.ref (am 0), .int a, .int w] ++ List.replicate (3 - (lg_sl [.ref (am 0), .int a, .int w]).length) Slot.unset).toArray = ls at hl ⊢
  have hl : lv_has ls 3 [(0, .ref (am 0)), (1, .int a), (2, .int w)] := hl
  refine nx_Q (R := ({ frames := 3, cells := 0, slots := 0, locals := 66 } : Room)) (fun Q hQ => ?_)
  skip
  refine lv_iload_n hx hb dX10_about_0 rfl (lv_at hl 1 rfl) ?_
  refine ms_i (As := [.int a]) (rest := []) ⟨hx, hb, hml, hown, hts⟩ (k_isRow l a) (va_cwS 1 hts gX10_about_X10_isRow rfl rfl rfl (by decide +kernel) ⟨Nat.le_of_ble_eq_true rfl, Nat.le_of_ble_eq_true rfl⟩) rfl hl.1 rfl (Nat.le_of_ble_eq_true rfl) dX10_about_1 ⟨Nat.le_of_ble_eq_true rfl, Nat.le_of_ble_eq_true rfl⟩ (fun x_1 h_1 => ?_)
  subst h_1
  refine nx_bz (tgt := 16) hx hb dX10_about_4 (by decide) (fun c_4 => ?_) (fun c_4 => ?_)
  · skip
    refine lv_bipush (v := (-2)) hx hb dX10_about_16 (by decide) ?_
    subst hQ
    exact W.iret (v := (-2)) hx hb hret (fun tq htq hWq => ⟨⟨_, (v, R, F, G), rfl, ⟨F 6, by rw [up_eta], by rw [pAbout, if_neg (fun h => c_4 h.1)]⟩, va_K.moved hWq.alike hK, _, _, hZ, by rw [htq]; exact hP⟩, hS.F htq⟩) hS.2.2 dX10_about_18
  · skip
    refine lv_iload_n hx hb dX10_about_7 rfl (lv_at hl 2 rfl) ?_
    refine lv_iconst (v := nI 0) hx hb dX10_about_8 (by decide) ?_
    refine lv_iconst (v := nI 4) hx hb dX10_about_9 (by decide) ?_
    refine ms_i (As := [.int w, .int (nI 0), .int (nI 4)]) (rest := []) ⟨hx, hb, hml, hown, hts⟩ (k_in l w (nI 0) (nI 4)) (va_cwS 3 hts gX10_about_X10_in rfl rfl rfl (by decide +kernel) ⟨Nat.le_of_ble_eq_true rfl, Nat.le_of_ble_eq_true rfl⟩) rfl hl.1 rfl (Nat.le_of_ble_eq_true rfl) dX10_about_10 ⟨Nat.le_of_ble_eq_true rfl, Nat.le_of_ble_eq_true rfl⟩ (fun x_10 h_10 => ?_)
    subst h_10
    refine nx_ti (y := bI (rIn w 5)) (bI_iff (rIn_in (by decide))) ?_
    refine nx_bn (tgt := 19) hx hb dX10_about_13 (by decide) (fun c_13 => ?_) (fun c_13 => ?_)
    · skip
      obtain ⟨r, hr, rfl⟩ := rIn_of c_4 (by decide)
      obtain ⟨j, hj, rfl⟩ := rIn_of c_13 (by decide)
      have hcr := nI_clamp (n := r) (by omega)
      have hcj := nI_clamp (n := j) (by omega)
      have hlen := (hZ r (by omega)).1
      have hlv := lvs_le (R r)
      have hok : pAbout (F 1) R (nI r) (nI j) = pAbout2 (F 1) (R r) j := by rw [pAbout, if_pos ⟨c_4, c_13⟩, hcr, hcj]
      refine lv_iload_n hx hb dX10_about_19 rfl (lv_at hl 2 rfl) ?_
      refine lv_iconst (v := nI 2) hx hb dX10_about_20 (by decide) ?_
      refine nx_icmp_ge (a := j) (b := 2) (tgt := 51) hx hb dX10_about_21 (by decide) (by omega) (by omega) (fun c_21 => ?_) (fun c_21 => ?_)
      · skip
        refine lv_aload_n hx hb dX10_about_51 rfl (lv_at hl 0 rfl) ?_
        refine lv_iload_n hx hb dX10_about_52 rfl (lv_at hl 1 rfl) ?_
        refine mp_i (As := [.int (nI r)]) (rest := []) ⟨hx, hb, hml, hown, hts⟩ (k_isTree l dC dI aC am v R F G A hE r (by omega) (hV r hr)) (cwV 1 hts gX10_about_X10_isTree rfl rfl rfl (by decide +kernel) ⟨Nat.le_of_ble_eq_true rfl, Nat.le_of_ble_eq_true rfl⟩) hK hZ hP rfl hl.1 rfl (Nat.le_of_ble_eq_true rfl) dX10_about_53 ⟨Nat.le_of_ble_eq_true rfl, Nat.le_of_ble_eq_true rfl⟩ (fun x_53 h_53 => ?_)
        subst h_53
        refine nx_bn (tgt := 64) hx hb dX10_about_56 (by decide) (fun c_56 => ?_) (fun c_56 => ?_)
        · skip
          refine lv_iload_n hx hb dX10_about_64 rfl (lv_at hl 2 rfl) ?_
          refine lv_iconst (v := nI 2) hx hb dX10_about_65 (by decide) ?_
          refine nx_icmp_ne (a := j) (b := 2) (tgt := 77) hx hb dX10_about_66 (by decide) (by omega) (by omega) (fun c_66 => ?_) (fun c_66 => ?_)
          · skip
            refine lv_iload_n hx hb dX10_about_77 rfl (lv_at hl 2 rfl) ?_
            refine lv_iconst (v := nI 3) hx hb dX10_about_78 (by decide) ?_
            refine nx_icmp_ne (a := j) (b := 3) (tgt := 97) hx hb dX10_about_79 (by decide) (by omega) (by omega) (fun c_79 => ?_) (fun c_79 => ?_)
            · skip
              refine lv_aload_n hx hb dX10_about_97 rfl (lv_at hl 0 rfl) ?_
              refine lv_iload_n hx hb dX10_about_98 rfl (lv_at hl 1 rfl) ?_
              refine mc_i (As := [.int (nI r)]) (rest := []) ⟨hx, hb, hml, hown, hts⟩ (k_height l dC dI aC am hI v R F G A hE r (by omega) (hV r hr)) (cwV 1 hts gX10_about_X10_height rfl rfl rfl (by decide +kernel) ⟨Nat.le_of_ble_eq_true rfl, Nat.le_of_ble_eq_true rfl⟩) hK hZ hP hS rfl hl.1 rfl (Nat.le_of_ble_eq_true rfl) dX10_about_99 ⟨Nat.le_of_ble_eq_true rfl, Nat.le_of_ble_eq_true rfl⟩ (fun x_99 v1 R1 F1 G1 S Z H locs h_99 hZ hP hS => ?_)
              obtain ⟨o9, hu9, hx9⟩ := h_99
              subst hx9
              cases hu9
              subst hQ
              exact W.iret (v := nI (hgt (F 1) (R r))) hx hb hret (fun tq htq hWq => ⟨⟨_, (v, R, (va_up F 6 o9), G), rfl, ⟨o9, rfl, by rw [hok, pAbout2, if_neg (by omega), if_neg (by omega), if_pos c_56, if_neg c_66, if_neg c_79]⟩, va_K.moved hWq.alike hK, _, _, hZ, by rw [htq]; exact hP⟩, hS.F htq⟩) hS.2.2 dX10_about_102
            · skip
              refine lv_aload_n hx hb dX10_about_82 rfl (lv_at hl 0 rfl) ?_
              refine va_get (D := (dC, dI)) (ci := 10) (C := RX10) (T := TX10) (N := 22) hx hb hts hin10 hown hK hP 0 rfl rfl 3 (by decide) lk0 (fun _ h9 => h9) rfl dX10_about_83 ?_
              refine lv_iload_n hx hb dX10_about_86 rfl (lv_at hl 1 rfl) ?_
              refine nx_iald hx hb hK hP 3 0 rfl rfl (i := r) (by omega) (by decide) dX10_about_87 ?_
              refine nx_ti (y := nI (R r).length) ((hZ r (by omega)).2.1) ?_
              refine lv_aload_n hx hb dX10_about_88 rfl (lv_at hl 0 rfl) ?_
              refine lv_iload_n hx hb dX10_about_89 rfl (lv_at hl 1 rfl) ?_
              refine mp_i (As := [.int (nI r)]) (rest := [.int (nI (R r).length)]) ⟨hx, hb, hml, hown, hts⟩ (k_leaves l dC dI aC am v R F G r (by omega)) (cwV 1 hts gX10_about_X10_leaves rfl rfl rfl (by decide +kernel) ⟨Nat.le_of_ble_eq_true rfl, Nat.le_of_ble_eq_true rfl⟩) hK hZ hP rfl hl.1 rfl (Nat.le_of_ble_eq_true rfl) dX10_about_90 ⟨Nat.le_of_ble_eq_true rfl, Nat.le_of_ble_eq_true rfl⟩ (fun x_90 h_90 => ?_)
              subst h_90
              refine lv_isub hx hb dX10_about_93 ?_
              refine nx_ti (y := nI ((R r).length - (lvs (R r)))) (pk_sub hlv) ?_
              refine lv_goto (tgt := 102) hx hb dX10_about_94 (by decide) ?_
              subst hQ
              exact W.iret (v := nI ((R r).length - (lvs (R r)))) hx hb hret (fun tq htq hWq => ⟨⟨_, (v, R, F, G), rfl, ⟨F 6, by rw [up_eta], by rw [hok, pAbout2, if_neg (by omega), if_neg (by omega), if_pos c_56, if_neg c_66, if_pos c_79]⟩, va_K.moved hWq.alike hK, _, _, hZ, by rw [htq]; exact hP⟩, hS.F htq⟩) hS.2.2 dX10_about_102
          · skip
            refine lv_aload_n hx hb dX10_about_69 rfl (lv_at hl 0 rfl) ?_
            refine lv_iload_n hx hb dX10_about_70 rfl (lv_at hl 1 rfl) ?_
            refine mp_i (As := [.int (nI r)]) (rest := []) ⟨hx, hb, hml, hown, hts⟩ (k_leaves l dC dI aC am v R F G r (by omega)) (cwV 1 hts gX10_about_X10_leaves rfl rfl rfl (by decide +kernel) ⟨Nat.le_of_ble_eq_true rfl, Nat.le_of_ble_eq_true rfl⟩) hK hZ hP rfl hl.1 rfl (Nat.le_of_ble_eq_true rfl) dX10_about_71 ⟨Nat.le_of_ble_eq_true rfl, Nat.le_of_ble_eq_true rfl⟩ (fun x_71 h_71 => ?_)
            subst h_71
            refine lv_goto (tgt := 102) hx hb dX10_about_74 (by decide) ?_
            subst hQ
            exact W.iret (v := nI (lvs (R r))) hx hb hret (fun tq htq hWq => ⟨⟨_, (v, R, F, G), rfl, ⟨F 6, by rw [up_eta], by rw [hok, pAbout2, if_neg (by omega), if_neg (by omega), if_pos c_56, if_pos c_66]⟩, va_K.moved hWq.alike hK, _, _, hZ, by rw [htq]; exact hP⟩, hS.F htq⟩) hS.2.2 dX10_about_102
        · skip
          refine lv_bipush (v := (-3)) hx hb dX10_about_59 (by decide) ?_
          refine lv_goto (tgt := 102) hx hb dX10_about_61 (by decide) ?_
          subst hQ
          exact W.iret (v := (-3)) hx hb hret (fun tq htq hWq => ⟨⟨_, (v, R, F, G), rfl, ⟨F 6, by rw [up_eta], by rw [hok, pAbout2, if_neg (by omega), if_neg (by omega), if_neg c_56]⟩, va_K.moved hWq.alike hK, _, _, hZ, by rw [htq]; exact hP⟩, hS.F htq⟩) hS.2.2 dX10_about_102
      · skip
        refine lv_iload_n hx hb dX10_about_24 rfl (lv_at hl 2 rfl) ?_
        refine nx_if_ne (tgt := 37) hx hb dX10_about_25 (by decide) (by omega) (fun c_25 => ?_) (fun c_25 => ?_)
        · skip
          refine lv_aload_n hx hb dX10_about_37 rfl (lv_at hl 0 rfl) ?_
          refine lv_iload_n hx hb dX10_about_38 rfl (lv_at hl 1 rfl) ?_
          refine mp_i (As := [.int (nI r)]) (rest := []) ⟨hx, hb, hml, hown, hts⟩ (k_isTree l dC dI aC am v R F G A hE r (by omega) (hV r hr)) (cwV 1 hts gX10_about_X10_isTree rfl rfl rfl (by decide +kernel) ⟨Nat.le_of_ble_eq_true rfl, Nat.le_of_ble_eq_true rfl⟩) hK hZ hP rfl hl.1 rfl (Nat.le_of_ble_eq_true rfl) dX10_about_39 ⟨Nat.le_of_ble_eq_true rfl, Nat.le_of_ble_eq_true rfl⟩ (fun x_39 h_39 => ?_)
          subst h_39
          refine nx_bz (tgt := 49) hx hb dX10_about_42 (by decide) (fun c_42 => ?_) (fun c_42 => ?_)
          · skip
            refine lv_iconst (v := nI 0) hx hb dX10_about_49 (by decide) ?_
            subst hQ
            exact W.iret (v := nI 0) hx hb hret (fun tq htq hWq => ⟨⟨_, (v, R, F, G), rfl, ⟨F 6, by rw [up_eta], by rw [hok, pAbout2, if_neg c_25, if_pos (by omega), bI_f c_42]; rfl⟩, va_K.moved hWq.alike hK, _, _, hZ, by rw [htq]; exact hP⟩, hS.F htq⟩) hS.2.2 dX10_about_50
          · skip
            refine lv_iconst (v := nI 1) hx hb dX10_about_45 (by decide) ?_
            refine lv_goto (tgt := 50) hx hb dX10_about_46 (by decide) ?_
            subst hQ
            exact W.iret (v := nI 1) hx hb hret (fun tq htq hWq => ⟨⟨_, (v, R, F, G), rfl, ⟨F 6, by rw [up_eta], by rw [hok, pAbout2, if_neg c_25, if_pos (by omega), bI_t c_42]; rfl⟩, va_K.moved hWq.alike hK, _, _, hZ, by rw [htq]; exact hP⟩, hS.F htq⟩) hS.2.2 dX10_about_50
        · skip
          refine lv_aload_n hx hb dX10_about_28 rfl (lv_at hl 0 rfl) ?_
          refine va_get (D := (dC, dI)) (ci := 10) (C := RX10) (T := TX10) (N := 22) hx hb hts hin10 hown hK hP 0 rfl rfl 3 (by decide) lk0 (fun _ h9 => h9) rfl dX10_about_29 ?_
          refine lv_iload_n hx hb dX10_about_32 rfl (lv_at hl 1 rfl) ?_
          refine nx_iald hx hb hK hP 3 0 rfl rfl (i := r) (by omega) (by decide) dX10_about_33 ?_
          refine nx_ti (y := nI (R r).length) ((hZ r (by omega)).2.1) ?_
          refine lv_goto (tgt := 50) hx hb dX10_about_34 (by decide) ?_
          subst hQ
          exact W.iret (v := nI (R r).length) hx hb hret (fun tq htq hWq => ⟨⟨_, (v, R, F, G), rfl, ⟨F 6, by rw [up_eta], by rw [hok, pAbout2, if_pos c_25]⟩, va_K.moved hWq.alike hK, _, _, hZ, by rw [htq]; exact hP⟩, hS.F htq⟩) hS.2.2 dX10_about_50
    · skip
      refine lv_bipush (v := (-2)) hx hb dX10_about_16 (by decide) ?_
      subst hQ
      exact W.iret (v := (-2)) hx hb hret (fun tq htq hWq => ⟨⟨_, (v, R, F, G), rfl, ⟨F 6, by rw [up_eta], by rw [pAbout, if_neg (fun h => c_13 h.2)]⟩, va_K.moved hWq.alike hK, _, _, hZ, by rw [htq]; exact hP⟩, hS.F htq⟩) hS.2.2 dX10_about_18
