/-! the constructors that make rows of rows; the class itself -/
def sh5 (aC : Nat → ClassId) (o : Nat) (a : Nat × Nat × (Nat → Nat)) : va_W := (o, .inr (5, [.ref a.1, .ref a.2.1])) :: ((([] : va_W) ++ [(a.1, .inl (aC 1, 7, .inr (.inl (fun _ => 0))))]) ++ ((a.2.1, .inl (aC 6, 7, .inr (.inr (.inr (.inr (fun i => if i < 7 then some (a.2.2 i) else none)))))) :: (List.range 7).map (fun i => (a.2.2 i, .inl (aC 1, 7, .inr (.inl (fun _ => 0)))))))
set_option maxHeartbeats 4000000 in
set_option maxRecDepth 100000 in
theorem n_5 (l : Launch) (dC : Nat → ClassId) (dI : Nat → Nat → Nat) (aC : Nat → ClassId) (o : Nat) : Met l yX5_init wsX5_init ({ frames := 1, cells := 9, slots := 63, locals := 12 } : Room) (va_Pc [.ref o] (NP dC dI aC o (.inr (5, [.null, .null])))) (NQ dC dI (sh5 aC) o) 9 63 (fun q => q = o) := by
  refine Met.ofW (cc := cX5_init) (maxL := 1) (ret := none) (by decide) rfl ?_
  intro p e s m args below meth c s₁ B hml hv
  obtain ⟨rfl, hK, hP, hN⟩ := hv
  have hx := B.exec
  have hb := B.bytes
  have hret := B.returns
  have hts := atoms_spec (ws := wsX5_init) B.pre
  have hown : s.vm.findClass RX5 = some m.cls := findClass_of_methodNamed B.named
  have hlocks := B.notSynchronized
  have hnm : meth.name = "<init>" := (name_of_methodNamed B.named B.method).1
  have lk0 := hts (.methodLink RX5 3 objectInit) (by decide +kernel)
  have lk1 := hts (.instanceMethod objectInit) (by decide +kernel)
  have lk2 := hts (.code objectInit ⟨#[0xb1]⟩ 1 none) (by decide +kernel)
  have lk3 := hts (.arrayClass .long) (by decide +kernel)
  have lk4 := hts (.fieldLink RX5 9 "LeafTrees$Series" "turnedAbout" "[J") (by decide +kernel)
  have lk5 := hts (.classLink RX5 15 "[[J") (by decide +kernel)
  have lk6 := hts (.fieldLink RX5 17 "LeafTrees$Series" "powers" "[[J") (by decide +kernel)
  have hin5 : ∀ w ∈ u_ws RX5 TX5 2, w ∈ wsX5_init := by decide +kernel
  have hS : va_S (nA o s.heap.size) s.heap s.heap [] := va_S.rf
  have hD : va_D (nA o s.heap.size) [(o, .inr (5, [.null, .null]))] := va_D_one (Or.inl rfl)
  have hl := lv_entry [.ref o] (n := 1) (Nat.le_of_ble_eq_true rfl)
  rw [lg_entry_eq]
  generalize (lg_sl [.ref o] ++ List.replicate (1 - (lg_sl [.ref o]).length) Slot.unset).toArray = ls at hl ⊢
  have hl : lv_has ls 1 [(0, .ref o)] := hl
  refine nx_Q (R := ({ frames := 1, cells := 9, slots := 63, locals := 12 } : Room)) (fun Q hQ => ?_)
  obtain ⟨G, hE0⟩ : ∃ z : va_W, z = [] := ⟨_, rfl⟩
  rw [← hE0] at hP hD
  refine lv_aload_n hx hb dX5_init_0 rfl (lv_at hl 0 rfl) ?_
  refine W.objInit hx hb hown lk0 lk1 lk2 rfl (by rw [hml]; exact hl.1) rfl dX5_init_1 (Nat.le_of_ble_eq_true rfl) (Nat.le_of_ble_eq_true rfl) ?_
  refine W.eq (g2 := F0 m 4 ls []) rfl ?_
  refine lv_aload_n hx hb dX5_init_4 rfl (lv_at hl 0 rfl) ?_
  refine lv_bipush (v := nI 7) hx hb dX5_init_5 (by decide) ?_
  refine va_newa (atype := .long) (ty := .long) (N' := 7) (a0 := (7, .inr (.inl (fun _ => 0)))) hx hb lk3 rfl hK hP hD hS (fun q h => Or.inr h) (fun cA => rfl) (nI_pos (by decide)) (nI_clamp (by decide)) (by decide) (Nat.le_of_ble_eq_true rfl) (Nat.le_of_ble_eq_true rfl) dX5_init_7 (fun r0 cA H hK1 hP hD hS => ?_)
  obtain rfl := aC_long hK hK1
  clear hK1
  have hP : va_P (dC, dI) vwCl ((o, .inr (5, [.null, .null])) :: (G ++ [(r0, .inl (aC 1, 7, .inr (.inl (fun _ => 0))))])) H := hP
  have hD : va_D (nA o s.heap.size) ((o, .inr (5, [.null, .null])) :: (G ++ [(r0, .inl (aC 1, 7, .inr (.inl (fun _ => 0))))])) := hD
  obtain ⟨G1, hG1⟩ : ∃ z, z = G ++ [(r0, .inl (aC 1, 7, .inr (.inl (fun _ => 0))))] := ⟨_, rfl⟩
  rw [← hG1] at hP hD
  obtain ⟨G, hE1⟩ : ∃ z, z = G1 := ⟨_, rfl⟩
  rw [← hE1] at hP hD
  refine va_putF (D := (dC, dI)) (ci := 5) (v := .ref r0) (ty := .array .long) (C := RX5) (T := TX5) (N := 2) hx hb hts hin5 tyX5 tyX5_ok nmX5 hown hK hP hD hS 0 rfl rfl 0 (by decide) lk4 (fun _ h9 => h9) rfl hnm rfl (by decide +kernel) rfl rfl (Nat.le_of_ble_eq_true rfl) dX5_init_9 (fun H locs hP hD hS => ?_)
  have hP : va_P (dC, dI) vwCl ((o, .inr (5, [.ref r0, .null])) :: G) H := hP
  have hD : va_D (nA o s.heap.size) ((o, .inr (5, [.ref r0, .null])) :: G) := hD
  refine lv_aload_n hx hb dX5_init_12 rfl (lv_at hl 0 rfl) ?_
  refine lv_bipush (v := nI 7) hx hb dX5_init_13 (by decide) ?_
  refine lv_bipush (v := nI 7) hx hb dX5_init_15 (by decide) ?_
  refine xn_mna (aC := aC) 7 7 (by decide) (by decide) hx hb hown lk5 hN.2.2.2.2 lk3 hK hP hD hS (fun q h => Or.inr h) (Nat.le_of_ble_eq_true rfl) (Nat.le_of_ble_eq_true rfl) dX5_init_17 (fun r1 w1 H hP hD hS => ?_)
  have hP : va_P (dC, dI) vwCl ((o, .inr (5, [.ref r0, .null])) :: (G ++ ((r1, .inl (aC 6, 7, .inr (.inr (.inr (.inr (fun i => if i < 7 then some (w1 i) else none)))))) :: (List.range 7).map (fun i => (w1 i, .inl (aC 1, 7, .inr (.inl (fun _ => 0)))))))) H := hP
  have hD : va_D (nA o s.heap.size) ((o, .inr (5, [.ref r0, .null])) :: (G ++ ((r1, .inl (aC 6, 7, .inr (.inr (.inr (.inr (fun i => if i < 7 then some (w1 i) else none)))))) :: (List.range 7).map (fun i => (w1 i, .inl (aC 1, 7, .inr (.inl (fun _ => 0)))))))) := hD
  obtain ⟨G2, hG2⟩ : ∃ z, z = G ++ ((r1, .inl (aC 6, 7, .inr (.inr (.inr (.inr (fun i => if i < 7 then some (w1 i) else none)))))) :: (List.range 7).map (fun i => (w1 i, .inl (aC 1, 7, .inr (.inl (fun _ => 0)))))) := ⟨_, rfl⟩
  rw [← hG2] at hP hD
  obtain ⟨G, hE2⟩ : ∃ z, z = G2 := ⟨_, rfl⟩
  rw [← hE2] at hP hD
  refine va_putF (D := (dC, dI)) (ci := 5) (v := .ref r1) (ty := .array (.array .long)) (C := RX5) (T := TX5) (N := 2) hx hb hts hin5 tyX5 tyX5_ok nmX5 hown hK hP hD hS 0 rfl rfl 1 (by decide) lk6 (fun _ h9 => h9) rfl hnm rfl (by decide +kernel) rfl rfl (Nat.le_of_ble_eq_true rfl) dX5_init_21 (fun H locs hP hD hS => ?_)
  have hP : va_P (dC, dI) vwCl ((o, .inr (5, [.ref r0, .ref r1])) :: G) H := hP
  have hD : va_D (nA o s.heap.size) ((o, .inr (5, [.ref r0, .ref r1])) :: G) := hD
  subst hQ
  subst hE2
  subst hG2
  subst hE1
  subst hG1
  subst hE0
  exact xn_ret (sh := sh5 aC) (a := (r0, r1, w1)) hx hb hret hlocks hP hD hS (Nat.le_of_ble_eq_true rfl) (Nat.le_of_ble_eq_true rfl) dX5_init_24

def sh0 (aC : Nat → ClassId) (o : Nat) (a : Nat × Nat × (Nat → Nat) × Nat × Nat × (Nat → Nat × (Nat × Nat))) : va_W := (o, .inr (0, [.ref a.1, .ref a.2.1, .int 0, .long 0, .ref a.2.2.2.1, .ref a.2.2.2.2.1])) :: (a.2.2.2.2.1, .inl (aC 5, 6, .inr (.inr (.inr (.inr (fun i => if i < 6 then some (a.2.2.2.2.2 i).1 else none)))))) :: (((((((((([] : va_W) ++ [(a.1, .inl (aC 0, 36, .inl (fun _ => 0)))]) ++ ((a.2.1, .inl (aC 6, 3, .inr (.inr (.inr (.inr (fun i => if i < 3 then some (a.2.2.1 i) else none)))))) :: (List.range 3).map (fun i => (a.2.2.1 i, .inl (aC 1, 36, .inr (.inl (fun _ => 0))))))) ++ [(a.2.2.2.1, .inl (aC 1, 60, .inr (.inl (fun _ => 0))))]) ++ sh7 aC (a.2.2.2.2.2 0).1 (a.2.2.2.2.2 0).2) ++ sh7 aC (a.2.2.2.2.2 1).1 (a.2.2.2.2.2 1).2) ++ sh7 aC (a.2.2.2.2.2 2).1 (a.2.2.2.2.2 2).2) ++ sh7 aC (a.2.2.2.2.2 3).1 (a.2.2.2.2.2 3).2) ++ sh7 aC (a.2.2.2.2.2 4).1 (a.2.2.2.2.2 4).2) ++ sh7 aC (a.2.2.2.2.2 5).1 (a.2.2.2.2.2 5).2)
set_option maxHeartbeats 4000000 in
set_option maxRecDepth 100000 in
theorem n_0 (l : Launch) (dC : Nat → ClassId) (dI : Nat → Nat → Nat) (aC : Nat → ClassId) (o : Nat) : Met l yX0_init wsX0_init ({ frames := 2, cells := 25, slots := 423, locals := 32 } : Room) (va_Pc [.ref o] (NP dC dI aC o (.inr (0, [.null, .null, .int 0, .long 0, .null, .null])))) (NQ dC dI (sh0 aC) o) 25 423 (fun q => q = o) := by
  refine Met.ofW (cc := cX0_init) (maxL := 2) (ret := none) (by decide) rfl ?_
  intro p e s m args below meth c s₁ B hml hv
  obtain ⟨rfl, hK, hP, hN⟩ := hv
  have hx := B.exec
  have hb := B.bytes
  have hret := B.returns
  have hts := atoms_spec (ws := wsX0_init) B.pre
  have hown : s.vm.findClass RX0 = some m.cls := findClass_of_methodNamed B.named
  have hlocks := B.notSynchronized
  have hnm : meth.name = "<init>" := (name_of_methodNamed B.named B.method).1
  have lk0 := hts (.methodLink RX0 3 objectInit) (by decide +kernel)
  have lk1 := hts (.instanceMethod objectInit) (by decide +kernel)
  have lk2 := hts (.code objectInit ⟨#[0xb1]⟩ 1 none) (by decide +kernel)
  have lk3 := hts (.arrayClass .int) (by decide +kernel)
  have lk4 := hts (.fieldLink RX0 9 "LeafTrees$Census" "actOf" "[I") (by decide +kernel)
  have lk5 := hts (.classLink RX0 15 "[[J") (by decide +kernel)
  have lk6 := hts (.arrayClass .long) (by decide +kernel)
  have lk7 := hts (.fieldLink RX0 17 "LeafTrees$Census" "needs" "[[J") (by decide +kernel)
  have lk8 := hts (.fieldLink RX0 20 "LeafTrees$Census" "bitAt" "[J") (by decide +kernel)
  have lk9 := hts (.classLink RX0 24 RX7) (by decide +kernel)
  have lk10 := hts (.fieldLink RX0 26 "LeafTrees$Census" "tallies" "[LLeafTrees$Tally;") (by decide +kernel)
  have lk11 := hts (.initialized RX7) (by decide +kernel)
  have lk12 := hts (.instanceMethod yX7_init) (by decide +kernel)
  have lk13 := hts (.instantiable RX7 3) (by decide +kernel)
  have nk5 : va_Nw (.methodLinkNest RX0 30 yX7_init "LeafTrees") s := hN.1 (RX0, 30, yX7_init) (List.mem_of_getElem? (i := 5) rfl)
  have hin0 : ∀ w ∈ u_ws RX0 TX0 6, w ∈ wsX0_init := by decide +kernel
  have hin7 : ∀ w ∈ u_ws RX7 TX7 3, w ∈ wsX0_init := by decide +kernel
  have hS : va_S (nA o s.heap.size) s.heap s.heap [] := va_S.rf
  have hD : va_D (nA o s.heap.size) [(o, .inr (0, [.null, .null, .int 0, .long 0, .null, .null]))] := va_D_one (Or.inl rfl)
  have hl := lv_entry [.ref o] (n := 2) (Nat.le_of_ble_eq_true rfl)
  rw [lg_entry_eq]
  generalize (lg_sl [.ref o] ++ List.replicate (2 - (lg_sl [.ref o]).length) Slot.unset).toArray = ls at hl ⊢
  have hl : lv_has ls 2 [(0, .ref o)] := hl
  refine nx_Q (R := ({ frames := 2, cells := 25, slots := 423, locals := 32 } : Room)) (fun Q hQ => ?_)
  obtain ⟨G, hE0⟩ : ∃ z : va_W, z = [] := ⟨_, rfl⟩
  rw [← hE0] at hP hD
  refine lv_aload_n hx hb dX0_init_0 rfl (lv_at hl 0 rfl) ?_
  refine W.objInit hx hb hown lk0 lk1 lk2 rfl (by rw [hml]; exact hl.1) rfl dX0_init_1 (Nat.le_of_ble_eq_true rfl) (Nat.le_of_ble_eq_true rfl) ?_
  refine W.eq (g2 := F0 m 4 ls []) rfl ?_
  refine lv_aload_n hx hb dX0_init_4 rfl (lv_at hl 0 rfl) ?_
  refine lv_bipush (v := nI 36) hx hb dX0_init_5 (by decide) ?_
  refine va_newa (atype := .int) (ty := .int) (N' := 36) (a0 := (36, .inl (fun _ => 0))) hx hb lk3 rfl hK hP hD hS (fun q h => Or.inr h) (fun cA => rfl) (nI_pos (by decide)) (nI_clamp (by decide)) (by decide) (Nat.le_of_ble_eq_true rfl) (Nat.le_of_ble_eq_true rfl) dX0_init_7 (fun r0 cA H hK1 hP hD hS => ?_)
  obtain rfl := aC_int hK hK1
  clear hK1
  have hP : va_P (dC, dI) vwCl ((o, .inr (0, [.null, .null, .int 0, .long 0, .null, .null])) :: (G ++ [(r0, .inl (aC 0, 36, .inl (fun _ => 0)))])) H := hP
  have hD : va_D (nA o s.heap.size) ((o, .inr (0, [.null, .null, .int 0, .long 0, .null, .null])) :: (G ++ [(r0, .inl (aC 0, 36, .inl (fun _ => 0)))])) := hD
  obtain ⟨G1, hG1⟩ : ∃ z, z = G ++ [(r0, .inl (aC 0, 36, .inl (fun _ => 0)))] := ⟨_, rfl⟩
  rw [← hG1] at hP hD
  obtain ⟨G, hE1⟩ : ∃ z, z = G1 := ⟨_, rfl⟩
  rw [← hE1] at hP hD
  refine va_putF (D := (dC, dI)) (ci := 0) (v := .ref r0) (ty := .array .int) (C := RX0) (T := TX0) (N := 6) hx hb hts hin0 tyX0 tyX0_ok nmX0 hown hK hP hD hS 0 rfl rfl 0 (by decide) lk4 (fun _ h9 => h9) rfl hnm rfl (by decide +kernel) rfl rfl (Nat.le_of_ble_eq_true rfl) dX0_init_9 (fun H locs hP hD hS => ?_)
  have hP : va_P (dC, dI) vwCl ((o, .inr (0, [.ref r0, .null, .int 0, .long 0, .null, .null])) :: G) H := hP
  have hD : va_D (nA o s.heap.size) ((o, .inr (0, [.ref r0, .null, .int 0, .long 0, .null, .null])) :: G) := hD
  refine lv_aload_n hx hb dX0_init_12 rfl (lv_at hl 0 rfl) ?_
  refine lv_iconst (v := nI 3) hx hb dX0_init_13 (by decide) ?_
  refine lv_bipush (v := nI 36) hx hb dX0_init_14 (by decide) ?_
  refine xn_mna (aC := aC) 3 36 (by decide) (by decide) hx hb hown lk5 hN.2.2.2.2 lk6 hK hP hD hS (fun q h => Or.inr h) (Nat.le_of_ble_eq_true rfl) (Nat.le_of_ble_eq_true rfl) dX0_init_16 (fun r1 w1 H hP hD hS => ?_)
  have hP : va_P (dC, dI) vwCl ((o, .inr (0, [.ref r0, .null, .int 0, .long 0, .null, .null])) :: (G ++ ((r1, .inl (aC 6, 3, .inr (.inr (.inr (.inr (fun i => if i < 3 then some (w1 i) else none)))))) :: (List.range 3).map (fun i => (w1 i, .inl (aC 1, 36, .inr (.inl (fun _ => 0)))))))) H := hP
  have hD : va_D (nA o s.heap.size) ((o, .inr (0, [.ref r0, .null, .int 0, .long 0, .null, .null])) :: (G ++ ((r1, .inl (aC 6, 3, .inr (.inr (.inr (.inr (fun i => if i < 3 then some (w1 i) else none)))))) :: (List.range 3).map (fun i => (w1 i, .inl (aC 1, 36, .inr (.inl (fun _ => 0)))))))) := hD
  obtain ⟨G2, hG2⟩ : ∃ z, z = G ++ ((r1, .inl (aC 6, 3, .inr (.inr (.inr (.inr (fun i => if i < 3 then some (w1 i) else none)))))) :: (List.range 3).map (fun i => (w1 i, .inl (aC 1, 36, .inr (.inl (fun _ => 0)))))) := ⟨_, rfl⟩
  rw [← hG2] at hP hD
  obtain ⟨G, hE2⟩ : ∃ z, z = G2 := ⟨_, rfl⟩
  rw [← hE2] at hP hD
  refine va_putF (D := (dC, dI)) (ci := 0) (v := .ref r1) (ty := .array (.array .long)) (C := RX0) (T := TX0) (N := 6) hx hb hts hin0 tyX0 tyX0_ok nmX0 hown hK hP hD hS 0 rfl rfl 1 (by decide) lk7 (fun _ h9 => h9) rfl hnm rfl (by decide +kernel) rfl rfl (Nat.le_of_ble_eq_true rfl) dX0_init_20 (fun H locs hP hD hS => ?_)
  have hP : va_P (dC, dI) vwCl ((o, .inr (0, [.ref r0, .ref r1, .int 0, .long 0, .null, .null])) :: G) H := hP
  have hD : va_D (nA o s.heap.size) ((o, .inr (0, [.ref r0, .ref r1, .int 0, .long 0, .null, .null])) :: G) := hD
  refine lv_aload_n hx hb dX0_init_23 rfl (lv_at hl 0 rfl) ?_
  refine lv_bipush (v := nI 60) hx hb dX0_init_24 (by decide) ?_
  refine va_newa (atype := .long) (ty := .long) (N' := 60) (a0 := (60, .inr (.inl (fun _ => 0)))) hx hb lk6 rfl hK hP hD hS (fun q h => Or.inr h) (fun cA => rfl) (nI_pos (by decide)) (nI_clamp (by decide)) (by decide) (Nat.le_of_ble_eq_true rfl) (Nat.le_of_ble_eq_true rfl) dX0_init_26 (fun r2 cA H hK1 hP hD hS => ?_)
  obtain rfl := aC_long hK hK1
  clear hK1
  have hP : va_P (dC, dI) vwCl ((o, .inr (0, [.ref r0, .ref r1, .int 0, .long 0, .null, .null])) :: (G ++ [(r2, .inl (aC 1, 60, .inr (.inl (fun _ => 0))))])) H := hP
  have hD : va_D (nA o s.heap.size) ((o, .inr (0, [.ref r0, .ref r1, .int 0, .long 0, .null, .null])) :: (G ++ [(r2, .inl (aC 1, 60, .inr (.inl (fun _ => 0))))])) := hD
  obtain ⟨G3, hG3⟩ : ∃ z, z = G ++ [(r2, .inl (aC 1, 60, .inr (.inl (fun _ => 0))))] := ⟨_, rfl⟩
  rw [← hG3] at hP hD
  obtain ⟨G, hE3⟩ : ∃ z, z = G3 := ⟨_, rfl⟩
  rw [← hE3] at hP hD
  refine va_putF (D := (dC, dI)) (ci := 0) (v := .ref r2) (ty := .array .long) (C := RX0) (T := TX0) (N := 6) hx hb hts hin0 tyX0 tyX0_ok nmX0 hown hK hP hD hS 0 rfl rfl 4 (by decide) lk8 (fun _ h9 => h9) rfl hnm rfl (by decide +kernel) rfl rfl (Nat.le_of_ble_eq_true rfl) dX0_init_28 (fun H locs hP hD hS => ?_)
  have hP : va_P (dC, dI) vwCl ((o, .inr (0, [.ref r0, .ref r1, .int 0, .long 0, .ref r2, .null])) :: G) H := hP
  have hD : va_D (nA o s.heap.size) ((o, .inr (0, [.ref r0, .ref r1, .int 0, .long 0, .ref r2, .null])) :: G) := hD
  refine lv_aload_n hx hb dX0_init_31 rfl (lv_at hl 0 rfl) ?_
  refine lv_bipush (v := nI 6) hx hb dX0_init_32 (by decide) ?_
  refine va_newq (C := "LeafTrees$Tally") (N' := 6) hx hb hown lk9 (hN.2.2.2.1) hK hP hD hS (fun q h => Or.inr h) (nI_pos (by decide)) (nI_clamp (by decide)) (by decide) (Nat.le_of_ble_eq_true rfl) (Nat.le_of_ble_eq_true rfl) dX0_init_34 (fun r3 cA H hK1 hP hD hS => ?_)
  obtain rfl := aC_obj hK1 (i := 7) (j := 5) rfl rfl
  clear hK1
  have hP := fr_P hP
  have hD := fr_D hD
  have hP : va_P (dC, dI) vwCl ((o, .inr (0, [.ref r0, .ref r1, .int 0, .long 0, .ref r2, .null])) :: (r3, .inl (aC 5, 6, .inr (.inr (.inr (.inr (fun _ => none)))))) :: G) H := hP
  have hD : va_D (nA o s.heap.size) ((o, .inr (0, [.ref r0, .ref r1, .int 0, .long 0, .ref r2, .null])) :: (r3, .inl (aC 5, 6, .inr (.inr (.inr (.inr (fun _ => none)))))) :: G) := hD
  refine va_putF (D := (dC, dI)) (ci := 0) (v := .ref r3) (ty := .array (.object "LeafTrees$Tally")) (C := RX0) (T := TX0) (N := 6) hx hb hts hin0 tyX0 tyX0_ok nmX0 hown hK hP hD hS 0 rfl rfl 5 (by decide) lk10 (fun _ h9 => h9) rfl hnm rfl (by decide +kernel) rfl rfl (Nat.le_of_ble_eq_true rfl) dX0_init_37 (fun H locs hP hD hS => ?_)
  have hP : va_P (dC, dI) vwCl ((o, .inr (0, [.ref r0, .ref r1, .int 0, .long 0, .ref r2, .ref r3])) :: (r3, .inl (aC 5, 6, .inr (.inr (.inr (.inr (fun _ => none)))))) :: G) H := hP
  have hD : va_D (nA o s.heap.size) ((o, .inr (0, [.ref r0, .ref r1, .int 0, .long 0, .ref r2, .ref r3])) :: (r3, .inl (aC 5, 6, .inr (.inr (.inr (.inr (fun _ => none)))))) :: G) := hD
  refine lv_iconst (v := nI 0) hx hb dX0_init_40 (by decide) ?_
  refine lv_istore_n (lv' := [(1, .int (nI 0)), (0, .ref o)]) hx hb dX0_init_41 rfl hl (by decide) rfl (fun ls hl => ?_)
  refine lv_iload_n hx hb dX0_init_42 rfl (lv_at hl 0 rfl) ?_
  refine lv_bipush (v := nI 6) hx hb dX0_init_43 (by decide) ?_
  refine nx_icmp_ge (a := 0) (b := 6) (tgt := 67) hx hb dX0_init_45 (by decide) (by decide) (by decide) (fun h9 => absurd h9 (by decide)) (fun _ => ?_)
  refine lv_aload_n hx hb dX0_init_48 rfl (lv_at hl 1 rfl) ?_
  refine va_get (D := (dC, dI)) (ci := 0) (C := RX0) (T := TX0) (N := 6) hx hb hts hin0 hown hK hP 0 rfl rfl 5 (by decide) lk10 (fun _ h9 => h9) rfl dX0_init_49 ?_
  refine lv_iload_n hx hb dX0_init_52 rfl (lv_at hl 0 rfl) ?_
  refine xn_newN (ix := 24) (index := 30) (ci := 7) (C := RX7) (T := TX7) (N := 3) (fs := [.null, .null, .int 0]) (sh := sh7 aC) (rest := [.int (nI 0), .ref r3]) ⟨hx, hb, hml, hown, hts⟩ hin7 tyX7 tyX7_ok lk9 lk13 lk11 hN hK hP hD hS (fun q h => Or.inr h) rfl (fun j hj => by rcases (show j = 0 ∨ j = 1 ∨ j = 2 by omega) with rfl | rfl | rfl <;> rfl) (fun q => n_7 l dC dI aC q) ⟨va_cnB 0 hts gX0_init_X7_init_n30 rfl rfl rfl nk5 lk11 (by decide +kernel) ⟨Nat.le_of_ble_eq_true rfl, Nat.le_of_ble_eq_true rfl⟩, rfl, lk12⟩ hl.1 (Nat.le_of_ble_eq_true rfl) (Nat.le_of_ble_eq_true rfl) (Nat.le_of_ble_eq_true rfl) dX0_init_53 dX0_init_56 dX0_init_57 (fun o4 a4 H locs hP hD hS => ?_)
  have hP : va_P (dC, dI) vwCl ((o, .inr (0, [.ref r0, .ref r1, .int 0, .long 0, .ref r2, .ref r3])) :: (r3, .inl (aC 5, 6, .inr (.inr (.inr (.inr (fun _ => none)))))) :: (G ++ sh7 aC o4 a4)) H := hP
  have hD : va_D (nA o s.heap.size) ((o, .inr (0, [.ref r0, .ref r1, .int 0, .long 0, .ref r2, .ref r3])) :: (r3, .inl (aC 5, 6, .inr (.inr (.inr (.inr (fun _ => none)))))) :: (G ++ sh7 aC o4 a4)) := hD
  refine va_astq hx hb hK hP hD hS 1 5 (G.length + 2) 7 rfl rfl (by exact ix_new) rfl (vp_in_nI (n := 0) (N := 6) (by decide) (by decide)) dX0_init_60 (fun H locs hP hD hS => ?_)
  have hP : va_P (dC, dI) vwCl ((o, .inr (0, [.ref r0, .ref r1, .int 0, .long 0, .ref r2, .ref r3])) :: (r3, .inl (aC 5, 6, .inr (.inr (.inr (.inr (va_up (fun _ => none) 0 (some o4))))))) :: (G ++ sh7 aC o4 a4)) H := hP
  have hD : va_D (nA o s.heap.size) ((o, .inr (0, [.ref r0, .ref r1, .int 0, .long 0, .ref r2, .ref r3])) :: (r3, .inl (aC 5, 6, .inr (.inr (.inr (.inr (va_up (fun _ => none) 0 (some o4))))))) :: (G ++ sh7 aC o4 a4)) := hD
  obtain ⟨G4, hG4⟩ : ∃ z, z = G ++ sh7 aC o4 a4 := ⟨_, rfl⟩
  rw [← hG4] at hP hD
  obtain ⟨G, hE4⟩ : ∃ z, z = G4 := ⟨_, rfl⟩
  rw [← hE4] at hP hD
  refine lv_iinc (v := nI 1) (lv' := [(1, .int (nI 1)), (0, .ref o)]) hx hb dX0_init_61 hl (k := 0) rfl (by decide) (by decide) rfl (fun ls hl => ?_)
  refine lv_goto (tgt := 42) hx hb dX0_init_64 (by decide) ?_
  refine lv_iload_n hx hb dX0_init_42 rfl (lv_at hl 0 rfl) ?_
  refine lv_bipush (v := nI 6) hx hb dX0_init_43 (by decide) ?_
  refine nx_icmp_ge (a := 1) (b := 6) (tgt := 67) hx hb dX0_init_45 (by decide) (by decide) (by decide) (fun h9 => absurd h9 (by decide)) (fun _ => ?_)
  refine lv_aload_n hx hb dX0_init_48 rfl (lv_at hl 1 rfl) ?_
  refine va_get (D := (dC, dI)) (ci := 0) (C := RX0) (T := TX0) (N := 6) hx hb hts hin0 hown hK hP 0 rfl rfl 5 (by decide) lk10 (fun _ h9 => h9) rfl dX0_init_49 ?_
  refine lv_iload_n hx hb dX0_init_52 rfl (lv_at hl 0 rfl) ?_
  refine xn_newN (ix := 24) (index := 30) (ci := 7) (C := RX7) (T := TX7) (N := 3) (fs := [.null, .null, .int 0]) (sh := sh7 aC) (rest := [.int (nI 1), .ref r3]) ⟨hx, hb, hml, hown, hts⟩ hin7 tyX7 tyX7_ok lk9 lk13 lk11 hN hK hP hD hS (fun q h => Or.inr h) rfl (fun j hj => by rcases (show j = 0 ∨ j = 1 ∨ j = 2 by omega) with rfl | rfl | rfl <;> rfl) (fun q => n_7 l dC dI aC q) ⟨va_cnB 0 hts gX0_init_X7_init_n30 rfl rfl rfl nk5 lk11 (by decide +kernel) ⟨Nat.le_of_ble_eq_true rfl, Nat.le_of_ble_eq_true rfl⟩, rfl, lk12⟩ hl.1 (Nat.le_of_ble_eq_true rfl) (Nat.le_of_ble_eq_true rfl) (Nat.le_of_ble_eq_true rfl) dX0_init_53 dX0_init_56 dX0_init_57 (fun o5 a5 H locs hP hD hS => ?_)
  have hP : va_P (dC, dI) vwCl ((o, .inr (0, [.ref r0, .ref r1, .int 0, .long 0, .ref r2, .ref r3])) :: (r3, .inl (aC 5, 6, .inr (.inr (.inr (.inr (va_up (fun _ => none) 0 (some o4))))))) :: (G ++ sh7 aC o5 a5)) H := hP
  have hD : va_D (nA o s.heap.size) ((o, .inr (0, [.ref r0, .ref r1, .int 0, .long 0, .ref r2, .ref r3])) :: (r3, .inl (aC 5, 6, .inr (.inr (.inr (.inr (va_up (fun _ => none) 0 (some o4))))))) :: (G ++ sh7 aC o5 a5)) := hD
  refine va_astq hx hb hK hP hD hS 1 5 (G.length + 2) 7 rfl rfl (by exact ix_new) rfl (vp_in_nI (n := 1) (N := 6) (by decide) (by decide)) dX0_init_60 (fun H locs hP hD hS => ?_)
  have hP : va_P (dC, dI) vwCl ((o, .inr (0, [.ref r0, .ref r1, .int 0, .long 0, .ref r2, .ref r3])) :: (r3, .inl (aC 5, 6, .inr (.inr (.inr (.inr (va_up (va_up (fun _ => none) 0 (some o4)) 1 (some o5))))))) :: (G ++ sh7 aC o5 a5)) H := hP
  have hD : va_D (nA o s.heap.size) ((o, .inr (0, [.ref r0, .ref r1, .int 0, .long 0, .ref r2, .ref r3])) :: (r3, .inl (aC 5, 6, .inr (.inr (.inr (.inr (va_up (va_up (fun _ => none) 0 (some o4)) 1 (some o5))))))) :: (G ++ sh7 aC o5 a5)) := hD
  obtain ⟨G5, hG5⟩ : ∃ z, z = G ++ sh7 aC o5 a5 := ⟨_, rfl⟩
  rw [← hG5] at hP hD
  obtain ⟨G, hE5⟩ : ∃ z, z = G5 := ⟨_, rfl⟩
  rw [← hE5] at hP hD
  refine lv_iinc (v := nI 2) (lv' := [(1, .int (nI 2)), (0, .ref o)]) hx hb dX0_init_61 hl (k := 0) rfl (by decide) (by decide) rfl (fun ls hl => ?_)
  refine lv_goto (tgt := 42) hx hb dX0_init_64 (by decide) ?_
  refine lv_iload_n hx hb dX0_init_42 rfl (lv_at hl 0 rfl) ?_
  refine lv_bipush (v := nI 6) hx hb dX0_init_43 (by decide) ?_
  refine nx_icmp_ge (a := 2) (b := 6) (tgt := 67) hx hb dX0_init_45 (by decide) (by decide) (by decide) (fun h9 => absurd h9 (by decide)) (fun _ => ?_)
  refine lv_aload_n hx hb dX0_init_48 rfl (lv_at hl 1 rfl) ?_
  refine va_get (D := (dC, dI)) (ci := 0) (C := RX0) (T := TX0) (N := 6) hx hb hts hin0 hown hK hP 0 rfl rfl 5 (by decide) lk10 (fun _ h9 => h9) rfl dX0_init_49 ?_
  refine lv_iload_n hx hb dX0_init_52 rfl (lv_at hl 0 rfl) ?_
  refine xn_newN (ix := 24) (index := 30) (ci := 7) (C := RX7) (T := TX7) (N := 3) (fs := [.null, .null, .int 0]) (sh := sh7 aC) (rest := [.int (nI 2), .ref r3]) ⟨hx, hb, hml, hown, hts⟩ hin7 tyX7 tyX7_ok lk9 lk13 lk11 hN hK hP hD hS (fun q h => Or.inr h) rfl (fun j hj => by rcases (show j = 0 ∨ j = 1 ∨ j = 2 by omega) with rfl | rfl | rfl <;> rfl) (fun q => n_7 l dC dI aC q) ⟨va_cnB 0 hts gX0_init_X7_init_n30 rfl rfl rfl nk5 lk11 (by decide +kernel) ⟨Nat.le_of_ble_eq_true rfl, Nat.le_of_ble_eq_true rfl⟩, rfl, lk12⟩ hl.1 (Nat.le_of_ble_eq_true rfl) (Nat.le_of_ble_eq_true rfl) (Nat.le_of_ble_eq_true rfl) dX0_init_53 dX0_init_56 dX0_init_57 (fun o6 a6 H locs hP hD hS => ?_)
  have hP : va_P (dC, dI) vwCl ((o, .inr (0, [.ref r0, .ref r1, .int 0, .long 0, .ref r2, .ref r3])) :: (r3, .inl (aC 5, 6, .inr (.inr (.inr (.inr (va_up (va_up (fun _ => none) 0 (some o4)) 1 (some o5))))))) :: (G ++ sh7 aC o6 a6)) H := hP
  have hD : va_D (nA o s.heap.size) ((o, .inr (0, [.ref r0, .ref r1, .int 0, .long 0, .ref r2, .ref r3])) :: (r3, .inl (aC 5, 6, .inr (.inr (.inr (.inr (va_up (va_up (fun _ => none) 0 (some o4)) 1 (some o5))))))) :: (G ++ sh7 aC o6 a6)) := hD
  refine va_astq hx hb hK hP hD hS 1 5 (G.length + 2) 7 rfl rfl (by exact ix_new) rfl (vp_in_nI (n := 2) (N := 6) (by decide) (by decide)) dX0_init_60 (fun H locs hP hD hS => ?_)
  have hP : va_P (dC, dI) vwCl ((o, .inr (0, [.ref r0, .ref r1, .int 0, .long 0, .ref r2, .ref r3])) :: (r3, .inl (aC 5, 6, .inr (.inr (.inr (.inr (va_up (va_up (va_up (fun _ => none) 0 (some o4)) 1 (some o5)) 2 (some o6))))))) :: (G ++ sh7 aC o6 a6)) H := hP
  have hD : va_D (nA o s.heap.size) ((o, .inr (0, [.ref r0, .ref r1, .int 0, .long 0, .ref r2, .ref r3])) :: (r3, .inl (aC 5, 6, .inr (.inr (.inr (.inr (va_up (va_up (va_up (fun _ => none) 0 (some o4)) 1 (some o5)) 2 (some o6))))))) :: (G ++ sh7 aC o6 a6)) := hD
  obtain ⟨G6, hG6⟩ : ∃ z, z = G ++ sh7 aC o6 a6 := ⟨_, rfl⟩
  rw [← hG6] at hP hD
  obtain ⟨G, hE6⟩ : ∃ z, z = G6 := ⟨_, rfl⟩
  rw [← hE6] at hP hD
  refine lv_iinc (v := nI 3) (lv' := [(1, .int (nI 3)), (0, .ref o)]) hx hb dX0_init_61 hl (k := 0) rfl (by decide) (by decide) rfl (fun ls hl => ?_)
  refine lv_goto (tgt := 42) hx hb dX0_init_64 (by decide) ?_
  refine lv_iload_n hx hb dX0_init_42 rfl (lv_at hl 0 rfl) ?_
  refine lv_bipush (v := nI 6) hx hb dX0_init_43 (by decide) ?_
  refine nx_icmp_ge (a := 3) (b := 6) (tgt := 67) hx hb dX0_init_45 (by decide) (by decide) (by decide) (fun h9 => absurd h9 (by decide)) (fun _ => ?_)
  refine lv_aload_n hx hb dX0_init_48 rfl (lv_at hl 1 rfl) ?_
  refine va_get (D := (dC, dI)) (ci := 0) (C := RX0) (T := TX0) (N := 6) hx hb hts hin0 hown hK hP 0 rfl rfl 5 (by decide) lk10 (fun _ h9 => h9) rfl dX0_init_49 ?_
  refine lv_iload_n hx hb dX0_init_52 rfl (lv_at hl 0 rfl) ?_
  refine xn_newN (ix := 24) (index := 30) (ci := 7) (C := RX7) (T := TX7) (N := 3) (fs := [.null, .null, .int 0]) (sh := sh7 aC) (rest := [.int (nI 3), .ref r3]) ⟨hx, hb, hml, hown, hts⟩ hin7 tyX7 tyX7_ok lk9 lk13 lk11 hN hK hP hD hS (fun q h => Or.inr h) rfl (fun j hj => by rcases (show j = 0 ∨ j = 1 ∨ j = 2 by omega) with rfl | rfl | rfl <;> rfl) (fun q => n_7 l dC dI aC q) ⟨va_cnB 0 hts gX0_init_X7_init_n30 rfl rfl rfl nk5 lk11 (by decide +kernel) ⟨Nat.le_of_ble_eq_true rfl, Nat.le_of_ble_eq_true rfl⟩, rfl, lk12⟩ hl.1 (Nat.le_of_ble_eq_true rfl) (Nat.le_of_ble_eq_true rfl) (Nat.le_of_ble_eq_true rfl) dX0_init_53 dX0_init_56 dX0_init_57 (fun o7 a7 H locs hP hD hS => ?_)
  have hP : va_P (dC, dI) vwCl ((o, .inr (0, [.ref r0, .ref r1, .int 0, .long 0, .ref r2, .ref r3])) :: (r3, .inl (aC 5, 6, .inr (.inr (.inr (.inr (va_up (va_up (va_up (fun _ => none) 0 (some o4)) 1 (some o5)) 2 (some o6))))))) :: (G ++ sh7 aC o7 a7)) H := hP
  have hD : va_D (nA o s.heap.size) ((o, .inr (0, [.ref r0, .ref r1, .int 0, .long 0, .ref r2, .ref r3])) :: (r3, .inl (aC 5, 6, .inr (.inr (.inr (.inr (va_up (va_up (va_up (fun _ => none) 0 (some o4)) 1 (some o5)) 2 (some o6))))))) :: (G ++ sh7 aC o7 a7)) := hD
  refine va_astq hx hb hK hP hD hS 1 5 (G.length + 2) 7 rfl rfl (by exact ix_new) rfl (vp_in_nI (n := 3) (N := 6) (by decide) (by decide)) dX0_init_60 (fun H locs hP hD hS => ?_)
  have hP : va_P (dC, dI) vwCl ((o, .inr (0, [.ref r0, .ref r1, .int 0, .long 0, .ref r2, .ref r3])) :: (r3, .inl (aC 5, 6, .inr (.inr (.inr (.inr (va_up (va_up (va_up (va_up (fun _ => none) 0 (some o4)) 1 (some o5)) 2 (some o6)) 3 (some o7))))))) :: (G ++ sh7 aC o7 a7)) H := hP
  have hD : va_D (nA o s.heap.size) ((o, .inr (0, [.ref r0, .ref r1, .int 0, .long 0, .ref r2, .ref r3])) :: (r3, .inl (aC 5, 6, .inr (.inr (.inr (.inr (va_up (va_up (va_up (va_up (fun _ => none) 0 (some o4)) 1 (some o5)) 2 (some o6)) 3 (some o7))))))) :: (G ++ sh7 aC o7 a7)) := hD
  obtain ⟨G7, hG7⟩ : ∃ z, z = G ++ sh7 aC o7 a7 := ⟨_, rfl⟩
  rw [← hG7] at hP hD
  obtain ⟨G, hE7⟩ : ∃ z, z = G7 := ⟨_, rfl⟩
  rw [← hE7] at hP hD
  refine lv_iinc (v := nI 4) (lv' := [(1, .int (nI 4)), (0, .ref o)]) hx hb dX0_init_61 hl (k := 0) rfl (by decide) (by decide) rfl (fun ls hl => ?_)
  refine lv_goto (tgt := 42) hx hb dX0_init_64 (by decide) ?_
  refine lv_iload_n hx hb dX0_init_42 rfl (lv_at hl 0 rfl) ?_
  refine lv_bipush (v := nI 6) hx hb dX0_init_43 (by decide) ?_
  refine nx_icmp_ge (a := 4) (b := 6) (tgt := 67) hx hb dX0_init_45 (by decide) (by decide) (by decide) (fun h9 => absurd h9 (by decide)) (fun _ => ?_)
  refine lv_aload_n hx hb dX0_init_48 rfl (lv_at hl 1 rfl) ?_
  refine va_get (D := (dC, dI)) (ci := 0) (C := RX0) (T := TX0) (N := 6) hx hb hts hin0 hown hK hP 0 rfl rfl 5 (by decide) lk10 (fun _ h9 => h9) rfl dX0_init_49 ?_
  refine lv_iload_n hx hb dX0_init_52 rfl (lv_at hl 0 rfl) ?_
  refine xn_newN (ix := 24) (index := 30) (ci := 7) (C := RX7) (T := TX7) (N := 3) (fs := [.null, .null, .int 0]) (sh := sh7 aC) (rest := [.int (nI 4), .ref r3]) ⟨hx, hb, hml, hown, hts⟩ hin7 tyX7 tyX7_ok lk9 lk13 lk11 hN hK hP hD hS (fun q h => Or.inr h) rfl (fun j hj => by rcases (show j = 0 ∨ j = 1 ∨ j = 2 by omega) with rfl | rfl | rfl <;> rfl) (fun q => n_7 l dC dI aC q) ⟨va_cnB 0 hts gX0_init_X7_init_n30 rfl rfl rfl nk5 lk11 (by decide +kernel) ⟨Nat.le_of_ble_eq_true rfl, Nat.le_of_ble_eq_true rfl⟩, rfl, lk12⟩ hl.1 (Nat.le_of_ble_eq_true rfl) (Nat.le_of_ble_eq_true rfl) (Nat.le_of_ble_eq_true rfl) dX0_init_53 dX0_init_56 dX0_init_57 (fun o8 a8 H locs hP hD hS => ?_)
  have hP : va_P (dC, dI) vwCl ((o, .inr (0, [.ref r0, .ref r1, .int 0, .long 0, .ref r2, .ref r3])) :: (r3, .inl (aC 5, 6, .inr (.inr (.inr (.inr (va_up (va_up (va_up (va_up (fun _ => none) 0 (some o4)) 1 (some o5)) 2 (some o6)) 3 (some o7))))))) :: (G ++ sh7 aC o8 a8)) H := hP
  have hD : va_D (nA o s.heap.size) ((o, .inr (0, [.ref r0, .ref r1, .int 0, .long 0, .ref r2, .ref r3])) :: (r3, .inl (aC 5, 6, .inr (.inr (.inr (.inr (va_up (va_up (va_up (va_up (fun _ => none) 0 (some o4)) 1 (some o5)) 2 (some o6)) 3 (some o7))))))) :: (G ++ sh7 aC o8 a8)) := hD
  refine va_astq hx hb hK hP hD hS 1 5 (G.length + 2) 7 rfl rfl (by exact ix_new) rfl (vp_in_nI (n := 4) (N := 6) (by decide) (by decide)) dX0_init_60 (fun H locs hP hD hS => ?_)
  have hP : va_P (dC, dI) vwCl ((o, .inr (0, [.ref r0, .ref r1, .int 0, .long 0, .ref r2, .ref r3])) :: (r3, .inl (aC 5, 6, .inr (.inr (.inr (.inr (va_up (va_up (va_up (va_up (va_up (fun _ => none) 0 (some o4)) 1 (some o5)) 2 (some o6)) 3 (some o7)) 4 (some o8))))))) :: (G ++ sh7 aC o8 a8)) H := hP
  have hD : va_D (nA o s.heap.size) ((o, .inr (0, [.ref r0, .ref r1, .int 0, .long 0, .ref r2, .ref r3])) :: (r3, .inl (aC 5, 6, .inr (.inr (.inr (.inr (va_up (va_up (va_up (va_up (va_up (fun _ => none) 0 (some o4)) 1 (some o5)) 2 (some o6)) 3 (some o7)) 4 (some o8))))))) :: (G ++ sh7 aC o8 a8)) := hD
  obtain ⟨G8, hG8⟩ : ∃ z, z = G ++ sh7 aC o8 a8 := ⟨_, rfl⟩
  rw [← hG8] at hP hD
  obtain ⟨G, hE8⟩ : ∃ z, z = G8 := ⟨_, rfl⟩
  rw [← hE8] at hP hD
  refine lv_iinc (v := nI 5) (lv' := [(1, .int (nI 5)), (0, .ref o)]) hx hb dX0_init_61 hl (k := 0) rfl (by decide) (by decide) rfl (fun ls hl => ?_)
  refine lv_goto (tgt := 42) hx hb dX0_init_64 (by decide) ?_
  refine lv_iload_n hx hb dX0_init_42 rfl (lv_at hl 0 rfl) ?_
  refine lv_bipush (v := nI 6) hx hb dX0_init_43 (by decide) ?_
  refine nx_icmp_ge (a := 5) (b := 6) (tgt := 67) hx hb dX0_init_45 (by decide) (by decide) (by decide) (fun h9 => absurd h9 (by decide)) (fun _ => ?_)
  refine lv_aload_n hx hb dX0_init_48 rfl (lv_at hl 1 rfl) ?_
  refine va_get (D := (dC, dI)) (ci := 0) (C := RX0) (T := TX0) (N := 6) hx hb hts hin0 hown hK hP 0 rfl rfl 5 (by decide) lk10 (fun _ h9 => h9) rfl dX0_init_49 ?_
  refine lv_iload_n hx hb dX0_init_52 rfl (lv_at hl 0 rfl) ?_
  refine xn_newN (ix := 24) (index := 30) (ci := 7) (C := RX7) (T := TX7) (N := 3) (fs := [.null, .null, .int 0]) (sh := sh7 aC) (rest := [.int (nI 5), .ref r3]) ⟨hx, hb, hml, hown, hts⟩ hin7 tyX7 tyX7_ok lk9 lk13 lk11 hN hK hP hD hS (fun q h => Or.inr h) rfl (fun j hj => by rcases (show j = 0 ∨ j = 1 ∨ j = 2 by omega) with rfl | rfl | rfl <;> rfl) (fun q => n_7 l dC dI aC q) ⟨va_cnB 0 hts gX0_init_X7_init_n30 rfl rfl rfl nk5 lk11 (by decide +kernel) ⟨Nat.le_of_ble_eq_true rfl, Nat.le_of_ble_eq_true rfl⟩, rfl, lk12⟩ hl.1 (Nat.le_of_ble_eq_true rfl) (Nat.le_of_ble_eq_true rfl) (Nat.le_of_ble_eq_true rfl) dX0_init_53 dX0_init_56 dX0_init_57 (fun o9 a9 H locs hP hD hS => ?_)
  have hP : va_P (dC, dI) vwCl ((o, .inr (0, [.ref r0, .ref r1, .int 0, .long 0, .ref r2, .ref r3])) :: (r3, .inl (aC 5, 6, .inr (.inr (.inr (.inr (va_up (va_up (va_up (va_up (va_up (fun _ => none) 0 (some o4)) 1 (some o5)) 2 (some o6)) 3 (some o7)) 4 (some o8))))))) :: (G ++ sh7 aC o9 a9)) H := hP
  have hD : va_D (nA o s.heap.size) ((o, .inr (0, [.ref r0, .ref r1, .int 0, .long 0, .ref r2, .ref r3])) :: (r3, .inl (aC 5, 6, .inr (.inr (.inr (.inr (va_up (va_up (va_up (va_up (va_up (fun _ => none) 0 (some o4)) 1 (some o5)) 2 (some o6)) 3 (some o7)) 4 (some o8))))))) :: (G ++ sh7 aC o9 a9)) := hD
  refine va_astq hx hb hK hP hD hS 1 5 (G.length + 2) 7 rfl rfl (by exact ix_new) rfl (vp_in_nI (n := 5) (N := 6) (by decide) (by decide)) dX0_init_60 (fun H locs hP hD hS => ?_)
  have hP : va_P (dC, dI) vwCl ((o, .inr (0, [.ref r0, .ref r1, .int 0, .long 0, .ref r2, .ref r3])) :: (r3, .inl (aC 5, 6, .inr (.inr (.inr (.inr (va_up (va_up (va_up (va_up (va_up (va_up (fun _ => none) 0 (some o4)) 1 (some o5)) 2 (some o6)) 3 (some o7)) 4 (some o8)) 5 (some o9))))))) :: (G ++ sh7 aC o9 a9)) H := hP
  have hD : va_D (nA o s.heap.size) ((o, .inr (0, [.ref r0, .ref r1, .int 0, .long 0, .ref r2, .ref r3])) :: (r3, .inl (aC 5, 6, .inr (.inr (.inr (.inr (va_up (va_up (va_up (va_up (va_up (va_up (fun _ => none) 0 (some o4)) 1 (some o5)) 2 (some o6)) 3 (some o7)) 4 (some o8)) 5 (some o9))))))) :: (G ++ sh7 aC o9 a9)) := hD
  obtain ⟨G9, hG9⟩ : ∃ z, z = G ++ sh7 aC o9 a9 := ⟨_, rfl⟩
  rw [← hG9] at hP hD
  obtain ⟨G, hE9⟩ : ∃ z, z = G9 := ⟨_, rfl⟩
  rw [← hE9] at hP hD
  refine lv_iinc (v := nI 6) (lv' := [(1, .int (nI 6)), (0, .ref o)]) hx hb dX0_init_61 hl (k := 0) rfl (by decide) (by decide) rfl (fun ls hl => ?_)
  refine lv_goto (tgt := 42) hx hb dX0_init_64 (by decide) ?_
  refine lv_iload_n hx hb dX0_init_42 rfl (lv_at hl 0 rfl) ?_
  refine lv_bipush (v := nI 6) hx hb dX0_init_43 (by decide) ?_
  refine nx_icmp_ge (a := 6) (b := 6) (tgt := 67) hx hb dX0_init_45 (by decide) (by decide) (by decide) (fun _ => ?_) (fun h9 => absurd h9 (by decide))
  have hP : va_P (dC, dI) vwCl ((o, .inr (0, [.ref r0, .ref r1, .int 0, .long 0, .ref r2, .ref r3])) :: (r3, .inl (aC 5, 6, .inr (.inr (.inr (.inr (upsF (fun i => ((pkF (o9, a9) [(o4, a4), (o5, a5), (o6, a6), (o7, a7), (o8, a8), (o9, a9)]) i).1) 6)))))) :: G) H := hP
  have hD : va_D (nA o s.heap.size) ((o, .inr (0, [.ref r0, .ref r1, .int 0, .long 0, .ref r2, .ref r3])) :: (r3, .inl (aC 5, 6, .inr (.inr (.inr (.inr (upsF (fun i => ((pkF (o9, a9) [(o4, a4), (o5, a5), (o6, a6), (o7, a7), (o8, a8), (o9, a9)]) i).1) 6)))))) :: G) := hD
  rw [upsF_eq] at hP hD
  subst hQ
  subst hE9
  subst hG9
  subst hE8
  subst hG8
  subst hE7
  subst hG7
  subst hE6
  subst hG6
  subst hE5
  subst hG5
  subst hE4
  subst hG4
  subst hE3
  subst hG3
  subst hE2
  subst hG2
  subst hE1
  subst hG1
  subst hE0
  exact xn_ret (sh := sh0 aC) (a := (r0, r1, w1, r2, r3, (pkF (o9, a9) [(o4, a4), (o5, a5), (o6, a6), (o7, a7), (o8, a8), (o9, a9)]))) hx hb hret hlocks hP hD hS (Nat.le_of_ble_eq_true rfl) (Nat.le_of_ble_eq_true rfl) dX0_init_67

def sh9 (aC : Nat → ClassId) (o : Nat) (a : (Nat × (Nat × Nat × (Nat → (Nat × ((Nat × Nat) × (Nat × Nat)))))) × Nat × (Nat × Nat) × (Nat × Nat) × (Nat × ((Nat × Nat) × Nat × (Nat × Nat) × (Nat × Nat) × (Nat × Nat))) × (Nat × (Nat × Nat)) × (Nat × (Nat × Nat × (Nat → Nat) × Nat × Nat × (Nat → Nat × (Nat × Nat)))) × (Nat × (Nat × Nat × (Nat → Nat))) × Nat × Nat × (Nat → Nat × Nat)) : va_W := (o, .inr (9, [.ref a.1.1, .ref a.2.1, .ref a.2.2.1.1, .ref a.2.2.2.1.1, .ref a.2.2.2.2.1.1, .ref a.2.2.2.2.2.1.1, .ref a.2.2.2.2.2.2.1.1, .ref a.2.2.2.2.2.2.2.1.1, .ref a.2.2.2.2.2.2.2.2.1, .int 0, .ref a.2.2.2.2.2.2.2.2.2.1, .int 0, .int (-1), .int 0])) :: (a.2.1, .inl (aC 3, 10, .inr (.inr (.inr (.inr (fun i => if i < 10 then some (a.2.2.2.2.2.2.2.2.2.2 i).1 else none)))))) :: (((((((((((((((((((([] : va_W) ++ sh8 aC a.1.1 a.1.2) ++ sh3 aC a.2.2.1.1 a.2.2.1.2) ++ sh6 aC a.2.2.2.1.1 a.2.2.2.1.2) ++ sh2 aC a.2.2.2.2.1.1 a.2.2.2.2.1.2) ++ sh1 aC a.2.2.2.2.2.1.1 a.2.2.2.2.2.1.2) ++ sh0 aC a.2.2.2.2.2.2.1.1 a.2.2.2.2.2.2.1.2) ++ sh5 aC a.2.2.2.2.2.2.2.1.1 a.2.2.2.2.2.2.2.1.2) ++ [(a.2.2.2.2.2.2.2.2.1, .inl (aC 1, 7, .inr (.inl (fun _ => 0))))]) ++ [(a.2.2.2.2.2.2.2.2.2.1, .inl (aC 1, 7, .inr (.inl (fun _ => 0))))]) ++ sh3 aC (a.2.2.2.2.2.2.2.2.2.2 0).1 (a.2.2.2.2.2.2.2.2.2.2 0).2) ++ sh3 aC (a.2.2.2.2.2.2.2.2.2.2 1).1 (a.2.2.2.2.2.2.2.2.2.2 1).2) ++ sh3 aC (a.2.2.2.2.2.2.2.2.2.2 2).1 (a.2.2.2.2.2.2.2.2.2.2 2).2) ++ sh3 aC (a.2.2.2.2.2.2.2.2.2.2 3).1 (a.2.2.2.2.2.2.2.2.2.2 3).2) ++ sh3 aC (a.2.2.2.2.2.2.2.2.2.2 4).1 (a.2.2.2.2.2.2.2.2.2.2 4).2) ++ sh3 aC (a.2.2.2.2.2.2.2.2.2.2 5).1 (a.2.2.2.2.2.2.2.2.2.2 5).2) ++ sh3 aC (a.2.2.2.2.2.2.2.2.2.2 6).1 (a.2.2.2.2.2.2.2.2.2.2 6).2) ++ sh3 aC (a.2.2.2.2.2.2.2.2.2.2 7).1 (a.2.2.2.2.2.2.2.2.2.2 7).2) ++ sh3 aC (a.2.2.2.2.2.2.2.2.2.2 8).1 (a.2.2.2.2.2.2.2.2.2.2 8).2) ++ sh3 aC (a.2.2.2.2.2.2.2.2.2.2 9).1 (a.2.2.2.2.2.2.2.2.2.2 9).2)
set_option maxHeartbeats 4000000 in
set_option maxRecDepth 100000 in
theorem n_9 (l : Launch) (dC : Nat → ClassId) (dI : Nat → Nat → Nat) (aC : Nat → ClassId) (o : Nat) : Met l yX9_init wsX9_init ({ frames := 4, cells := 119, slots := 2672, locals := 73 } : Room) (va_Pc [.ref o] (NP dC dI aC o (.inr (9, [.null, .null, .null, .null, .null, .null, .null, .null, .null, .int 0, .null, .int 0, .int 0, .int 0])))) (NQ dC dI (sh9 aC) o) 119 2672 (fun q => q = o) := by
  refine Met.ofW (cc := cX9_init) (maxL := 2) (ret := none) (by decide) rfl ?_
  intro p e s m args below meth c s₁ B hml hv
  obtain ⟨rfl, hK, hP, hN⟩ := hv
  have hx := B.exec
  have hb := B.bytes
  have hret := B.returns
  have hts := atoms_spec (ws := wsX9_init) B.pre
  have hown : s.vm.findClass RX9 = some m.cls := findClass_of_methodNamed B.named
  have hlocks := B.notSynchronized
  have hnm : meth.name = "<init>" := (name_of_methodNamed B.named B.method).1
  have lk0 := hts (.methodLink RX9 1 objectInit) (by decide +kernel)
  have lk1 := hts (.instanceMethod objectInit) (by decide +kernel)
  have lk2 := hts (.code objectInit ⟨#[0xb1]⟩ 1 none) (by decide +kernel)
  have lk3 := hts (.initialized RX8) (by decide +kernel)
  have lk4 := hts (.methodLink RX9 9 yX8_init) (by decide +kernel)
  have lk5 := hts (.instanceMethod yX8_init) (by decide +kernel)
  have lk6 := hts (.classLink RX9 7 RX8) (by decide +kernel)
  have lk7 := hts (.instantiable RX8 4) (by decide +kernel)
  have lk8 := hts (.fieldLink RX9 10 "LeafTrees" "world" "LLeafTrees$World;") (by decide +kernel)
  have lk9 := hts (.classLink RX9 16 RX3) (by decide +kernel)
  have lk10 := hts (.fieldLink RX9 18 "LeafTrees" "rows" "[LLeafTrees$Row;") (by decide +kernel)
  have lk11 := hts (.initialized RX3) (by decide +kernel)
  have lk12 := hts (.instanceMethod yX3_init) (by decide +kernel)
  have lk13 := hts (.instantiable RX3 2) (by decide +kernel)
  have lk14 := hts (.fieldLink RX9 23 "LeafTrees" "work" "LLeafTrees$Row;") (by decide +kernel)
  have lk15 := hts (.initialized RX6) (by decide +kernel)
  have lk16 := hts (.instanceMethod yX6_init) (by decide +kernel)
  have lk17 := hts (.classLink RX9 27 RX6) (by decide +kernel)
  have lk18 := hts (.instantiable RX6 1) (by decide +kernel)
  have lk19 := hts (.fieldLink RX9 30 "LeafTrees" "shape" "LLeafTrees$Shape;") (by decide +kernel)
  have lk20 := hts (.initialized RX2) (by decide +kernel)
  have lk21 := hts (.instanceMethod yX2_init) (by decide +kernel)
  have lk22 := hts (.classLink RX9 34 RX2) (by decide +kernel)
  have lk23 := hts (.instantiable RX2 5) (by decide +kernel)
  have lk24 := hts (.fieldLink RX9 37 "LeafTrees" "rewriter" "LLeafTrees$Rewriter;") (by decide +kernel)
  have lk25 := hts (.initialized RX1) (by decide +kernel)
  have lk26 := hts (.instanceMethod yX1_init) (by decide +kernel)
  have lk27 := hts (.classLink RX9 41 RX1) (by decide +kernel)
  have lk28 := hts (.instantiable RX1 5) (by decide +kernel)
  have lk29 := hts (.fieldLink RX9 44 "LeafTrees" "peaks" "LLeafTrees$Peaks;") (by decide +kernel)
  have lk30 := hts (.initialized RX0) (by decide +kernel)
  have lk31 := hts (.methodLink RX9 50 yX0_init) (by decide +kernel)
  have lk32 := hts (.instanceMethod yX0_init) (by decide +kernel)
  have lk33 := hts (.classLink RX9 48 RX0) (by decide +kernel)
  have lk34 := hts (.instantiable RX0 6) (by decide +kernel)
  have lk35 := hts (.fieldLink RX9 51 "LeafTrees" "census" "LLeafTrees$Census;") (by decide +kernel)
  have lk36 := hts (.initialized RX5) (by decide +kernel)
  have lk37 := hts (.instanceMethod yX5_init) (by decide +kernel)
  have lk38 := hts (.classLink RX9 55 RX5) (by decide +kernel)
  have lk39 := hts (.instantiable RX5 2) (by decide +kernel)
  have lk40 := hts (.fieldLink RX9 58 "LeafTrees" "series" "LLeafTrees$Series;") (by decide +kernel)
  have lk41 := hts (.arrayClass .long) (by decide +kernel)
  have lk42 := hts (.fieldLink RX9 62 "LeafTrees" "many" "[J") (by decide +kernel)
  have lk43 := hts (.fieldLink RX9 66 "LeafTrees" "dualMany" "[J") (by decide +kernel)
  have lk44 := hts (.fieldLink RX9 69 "LeafTrees" "firstOpen" "I") (by decide +kernel)
  have nk6 : va_Nw (.methodLinkNest RX9 22 yX3_init "LeafTrees") s := hN.1 (RX9, 22, yX3_init) (List.mem_of_getElem? (i := 6) rfl)
  have nk7 : va_Nw (.methodLinkNest RX9 29 yX6_init "LeafTrees") s := hN.1 (RX9, 29, yX6_init) (List.mem_of_getElem? (i := 7) rfl)
  have nk8 : va_Nw (.methodLinkNest RX9 36 yX2_init "LeafTrees") s := hN.1 (RX9, 36, yX2_init) (List.mem_of_getElem? (i := 8) rfl)
  have nk9 : va_Nw (.methodLinkNest RX9 43 yX1_init "LeafTrees") s := hN.1 (RX9, 43, yX1_init) (List.mem_of_getElem? (i := 9) rfl)
  have nk10 : va_Nw (.methodLinkNest RX9 57 yX5_init "LeafTrees") s := hN.1 (RX9, 57, yX5_init) (List.mem_of_getElem? (i := 10) rfl)
  have hin0 : ∀ w ∈ u_ws RX0 TX0 6, w ∈ wsX9_init := by decide +kernel
  have hin1 : ∀ w ∈ u_ws RX1 TX1 5, w ∈ wsX9_init := by decide +kernel
  have hin2 : ∀ w ∈ u_ws RX2 TX2 5, w ∈ wsX9_init := by decide +kernel
  have hin3 : ∀ w ∈ u_ws RX3 TX3 2, w ∈ wsX9_init := by decide +kernel
  have hin5 : ∀ w ∈ u_ws RX5 TX5 2, w ∈ wsX9_init := by decide +kernel
  have hin6 : ∀ w ∈ u_ws RX6 TX6 1, w ∈ wsX9_init := by decide +kernel
  have hin8 : ∀ w ∈ u_ws RX8 TX8 4, w ∈ wsX9_init := by decide +kernel
  have hin9 : ∀ w ∈ u_ws RX9 TX9 14, w ∈ wsX9_init := by decide +kernel
  have hS : va_S (nA o s.heap.size) s.heap s.heap [] := va_S.rf
  have hD : va_D (nA o s.heap.size) [(o, .inr (9, [.null, .null, .null, .null, .null, .null, .null, .null, .null, .int 0, .null, .int 0, .int 0, .int 0]))] := va_D_one (Or.inl rfl)
  have hl := lv_entry [.ref o] (n := 2) (Nat.le_of_ble_eq_true rfl)
  rw [lg_entry_eq]
  generalize (lg_sl [.ref o] ++ List.replicate (2 - (lg_sl [.ref o]).length) Slot.unset).toArray = ls at hl ⊢
  have hl : lv_has ls 2 [(0, .ref o)] := hl
  refine nx_Q (R := ({ frames := 4, cells := 119, slots := 2672, locals := 73 } : Room)) (fun Q hQ => ?_)
  obtain ⟨G, hE0⟩ : ∃ z : va_W, z = [] := ⟨_, rfl⟩
  rw [← hE0] at hP hD
  refine lv_aload_n hx hb dX9_init_0 rfl (lv_at hl 0 rfl) ?_
  refine W.objInit hx hb hown lk0 lk1 lk2 rfl (by rw [hml]; exact hl.1) rfl dX9_init_1 (Nat.le_of_ble_eq_true rfl) (Nat.le_of_ble_eq_true rfl) ?_
  refine W.eq (g2 := F0 m 4 ls []) rfl ?_
  refine lv_aload_n hx hb dX9_init_4 rfl (lv_at hl 0 rfl) ?_
  refine xn_new (ix := 7) (index := 9) (ci := 8) (C := RX8) (T := TX8) (N := 4) (fs := [.null, .int 0, .null, .int 0]) (sh := sh8 aC) (rest := [.ref o]) ⟨hx, hb, hml, hown, hts⟩ hin8 tyX8 tyX8_ok lk6 lk7 lk3 hN hK hP hD hS (fun q h => Or.inr h) rfl (fun j hj => by rcases (show j = 0 ∨ j = 1 ∨ j = 2 ∨ j = 3 by omega) with rfl | rfl | rfl | rfl <;> rfl) (fun q => n_8 l dC dI aC q) (cwI 0 hts gX9_init_X8_init rfl rfl rfl lk3 lk4 lk5 rfl (by decide +kernel) ⟨Nat.le_of_ble_eq_true rfl, Nat.le_of_ble_eq_true rfl⟩) hl.1 (Nat.le_of_ble_eq_true rfl) (Nat.le_of_ble_eq_true rfl) (Nat.le_of_ble_eq_true rfl) dX9_init_5 dX9_init_8 dX9_init_9 (fun o0 a0 H locs hP hD hS => ?_)
  have hP : va_P (dC, dI) vwCl ((o, .inr (9, [.null, .null, .null, .null, .null, .null, .null, .null, .null, .int 0, .null, .int 0, .int 0, .int 0])) :: (G ++ sh8 aC o0 a0)) H := hP
  have hD : va_D (nA o s.heap.size) ((o, .inr (9, [.null, .null, .null, .null, .null, .null, .null, .null, .null, .int 0, .null, .int 0, .int 0, .int 0])) :: (G ++ sh8 aC o0 a0)) := hD
  obtain ⟨G1, hG1⟩ : ∃ z, z = G ++ sh8 aC o0 a0 := ⟨_, rfl⟩
  rw [← hG1] at hP hD
  obtain ⟨G, hE1⟩ : ∃ z, z = G1 := ⟨_, rfl⟩
  rw [← hE1] at hP hD
  refine va_putF (D := (dC, dI)) (ci := 9) (v := .ref o0) (ty := .object "LeafTrees$World") (C := RX9) (T := TX9) (N := 14) hx hb hts hin9 tyX9 tyX9_ok nmX9 hown hK hP hD hS 0 rfl rfl 0 (by decide) lk8 (fun _ h9 => h9) rfl hnm rfl (by decide +kernel) rfl rfl (Nat.le_of_ble_eq_true rfl) dX9_init_12 (fun H locs hP hD hS => ?_)
  have hP : va_P (dC, dI) vwCl ((o, .inr (9, [.ref o0, .null, .null, .null, .null, .null, .null, .null, .null, .int 0, .null, .int 0, .int 0, .int 0])) :: G) H := hP
  have hD : va_D (nA o s.heap.size) ((o, .inr (9, [.ref o0, .null, .null, .null, .null, .null, .null, .null, .null, .int 0, .null, .int 0, .int 0, .int 0])) :: G) := hD
  refine lv_aload_n hx hb dX9_init_15 rfl (lv_at hl 0 rfl) ?_
  refine lv_bipush (v := nI 10) hx hb dX9_init_16 (by decide) ?_
  refine va_newq (C := "LeafTrees$Row") (N' := 10) hx hb hown lk9 (hN.2.1) hK hP hD hS (fun q h => Or.inr h) (nI_pos (by decide)) (nI_clamp (by decide)) (by decide) (Nat.le_of_ble_eq_true rfl) (Nat.le_of_ble_eq_true rfl) dX9_init_18 (fun r1 cA H hK1 hP hD hS => ?_)
  obtain rfl := aC_obj hK1 (i := 7) (j := 3) rfl rfl
  clear hK1
  have hP := fr_P hP
  have hD := fr_D hD
  have hP : va_P (dC, dI) vwCl ((o, .inr (9, [.ref o0, .null, .null, .null, .null, .null, .null, .null, .null, .int 0, .null, .int 0, .int 0, .int 0])) :: (r1, .inl (aC 3, 10, .inr (.inr (.inr (.inr (fun _ => none)))))) :: G) H := hP
  have hD : va_D (nA o s.heap.size) ((o, .inr (9, [.ref o0, .null, .null, .null, .null, .null, .null, .null, .null, .int 0, .null, .int 0, .int 0, .int 0])) :: (r1, .inl (aC 3, 10, .inr (.inr (.inr (.inr (fun _ => none)))))) :: G) := hD
  refine va_putF (D := (dC, dI)) (ci := 9) (v := .ref r1) (ty := .array (.object "LeafTrees$Row")) (C := RX9) (T := TX9) (N := 14) hx hb hts hin9 tyX9 tyX9_ok nmX9 hown hK hP hD hS 0 rfl rfl 1 (by decide) lk10 (fun _ h9 => h9) rfl hnm rfl (by decide +kernel) rfl rfl (Nat.le_of_ble_eq_true rfl) dX9_init_21 (fun H locs hP hD hS => ?_)
  have hP : va_P (dC, dI) vwCl ((o, .inr (9, [.ref o0, .ref r1, .null, .null, .null, .null, .null, .null, .null, .int 0, .null, .int 0, .int 0, .int 0])) :: (r1, .inl (aC 3, 10, .inr (.inr (.inr (.inr (fun _ => none)))))) :: G) H := hP
  have hD : va_D (nA o s.heap.size) ((o, .inr (9, [.ref o0, .ref r1, .null, .null, .null, .null, .null, .null, .null, .int 0, .null, .int 0, .int 0, .int 0])) :: (r1, .inl (aC 3, 10, .inr (.inr (.inr (.inr (fun _ => none)))))) :: G) := hD
  refine lv_aload_n hx hb dX9_init_24 rfl (lv_at hl 0 rfl) ?_
  refine xn_newN (ix := 16) (index := 22) (ci := 3) (C := RX3) (T := TX3) (N := 2) (fs := [.null, .int 0]) (sh := sh3 aC) (rest := [.ref o]) ⟨hx, hb, hml, hown, hts⟩ hin3 tyX3 tyX3_ok lk9 lk13 lk11 hN hK hP hD hS (fun q h => Or.inr h) rfl (fun j hj => by rcases (show j = 0 ∨ j = 1 by omega) with rfl | rfl <;> rfl) (fun q => n_3 l dC dI aC q) ⟨va_cnB 0 hts gX9_init_X3_init_n22 rfl rfl rfl nk6 lk11 (by decide +kernel) ⟨Nat.le_of_ble_eq_true rfl, Nat.le_of_ble_eq_true rfl⟩, rfl, lk12⟩ hl.1 (Nat.le_of_ble_eq_true rfl) (Nat.le_of_ble_eq_true rfl) (Nat.le_of_ble_eq_true rfl) dX9_init_25 dX9_init_28 dX9_init_29 (fun o2 a2 H locs hP hD hS => ?_)
  have hP : va_P (dC, dI) vwCl ((o, .inr (9, [.ref o0, .ref r1, .null, .null, .null, .null, .null, .null, .null, .int 0, .null, .int 0, .int 0, .int 0])) :: (r1, .inl (aC 3, 10, .inr (.inr (.inr (.inr (fun _ => none)))))) :: (G ++ sh3 aC o2 a2)) H := hP
  have hD : va_D (nA o s.heap.size) ((o, .inr (9, [.ref o0, .ref r1, .null, .null, .null, .null, .null, .null, .null, .int 0, .null, .int 0, .int 0, .int 0])) :: (r1, .inl (aC 3, 10, .inr (.inr (.inr (.inr (fun _ => none)))))) :: (G ++ sh3 aC o2 a2)) := hD
  obtain ⟨G2, hG2⟩ : ∃ z, z = G ++ sh3 aC o2 a2 := ⟨_, rfl⟩
  rw [← hG2] at hP hD
  obtain ⟨G, hE2⟩ : ∃ z, z = G2 := ⟨_, rfl⟩
  rw [← hE2] at hP hD
  refine va_putF (D := (dC, dI)) (ci := 9) (v := .ref o2) (ty := .object "LeafTrees$Row") (C := RX9) (T := TX9) (N := 14) hx hb hts hin9 tyX9 tyX9_ok nmX9 hown hK hP hD hS 0 rfl rfl 2 (by decide) lk14 (fun _ h9 => h9) rfl hnm rfl (by decide +kernel) rfl rfl (Nat.le_of_ble_eq_true rfl) dX9_init_32 (fun H locs hP hD hS => ?_)
  have hP : va_P (dC, dI) vwCl ((o, .inr (9, [.ref o0, .ref r1, .ref o2, .null, .null, .null, .null, .null, .null, .int 0, .null, .int 0, .int 0, .int 0])) :: (r1, .inl (aC 3, 10, .inr (.inr (.inr (.inr (fun _ => none)))))) :: G) H := hP
  have hD : va_D (nA o s.heap.size) ((o, .inr (9, [.ref o0, .ref r1, .ref o2, .null, .null, .null, .null, .null, .null, .int 0, .null, .int 0, .int 0, .int 0])) :: (r1, .inl (aC 3, 10, .inr (.inr (.inr (.inr (fun _ => none)))))) :: G) := hD
  refine lv_aload_n hx hb dX9_init_35 rfl (lv_at hl 0 rfl) ?_
  refine xn_newN (ix := 27) (index := 29) (ci := 6) (C := RX6) (T := TX6) (N := 1) (fs := [.null]) (sh := sh6 aC) (rest := [.ref o]) ⟨hx, hb, hml, hown, hts⟩ hin6 tyX6 tyX6_ok lk17 lk18 lk15 hN hK hP hD hS (fun q h => Or.inr h) rfl (fun j hj => by rcases (show j = 0 by omega) with rfl <;> rfl) (fun q => n_6 l dC dI aC q) ⟨va_cnB 0 hts gX9_init_X6_init_n29 rfl rfl rfl nk7 lk15 (by decide +kernel) ⟨Nat.le_of_ble_eq_true rfl, Nat.le_of_ble_eq_true rfl⟩, rfl, lk16⟩ hl.1 (Nat.le_of_ble_eq_true rfl) (Nat.le_of_ble_eq_true rfl) (Nat.le_of_ble_eq_true rfl) dX9_init_36 dX9_init_39 dX9_init_40 (fun o3 a3 H locs hP hD hS => ?_)
  have hP : va_P (dC, dI) vwCl ((o, .inr (9, [.ref o0, .ref r1, .ref o2, .null, .null, .null, .null, .null, .null, .int 0, .null, .int 0, .int 0, .int 0])) :: (r1, .inl (aC 3, 10, .inr (.inr (.inr (.inr (fun _ => none)))))) :: (G ++ sh6 aC o3 a3)) H := hP
  have hD : va_D (nA o s.heap.size) ((o, .inr (9, [.ref o0, .ref r1, .ref o2, .null, .null, .null, .null, .null, .null, .int 0, .null, .int 0, .int 0, .int 0])) :: (r1, .inl (aC 3, 10, .inr (.inr (.inr (.inr (fun _ => none)))))) :: (G ++ sh6 aC o3 a3)) := hD
  obtain ⟨G3, hG3⟩ : ∃ z, z = G ++ sh6 aC o3 a3 := ⟨_, rfl⟩
  rw [← hG3] at hP hD
  obtain ⟨G, hE3⟩ : ∃ z, z = G3 := ⟨_, rfl⟩
  rw [← hE3] at hP hD
  refine va_putF (D := (dC, dI)) (ci := 9) (v := .ref o3) (ty := .object "LeafTrees$Shape") (C := RX9) (T := TX9) (N := 14) hx hb hts hin9 tyX9 tyX9_ok nmX9 hown hK hP hD hS 0 rfl rfl 3 (by decide) lk19 (fun _ h9 => h9) rfl hnm rfl (by decide +kernel) rfl rfl (Nat.le_of_ble_eq_true rfl) dX9_init_43 (fun H locs hP hD hS => ?_)
  have hP : va_P (dC, dI) vwCl ((o, .inr (9, [.ref o0, .ref r1, .ref o2, .ref o3, .null, .null, .null, .null, .null, .int 0, .null, .int 0, .int 0, .int 0])) :: (r1, .inl (aC 3, 10, .inr (.inr (.inr (.inr (fun _ => none)))))) :: G) H := hP
  have hD : va_D (nA o s.heap.size) ((o, .inr (9, [.ref o0, .ref r1, .ref o2, .ref o3, .null, .null, .null, .null, .null, .int 0, .null, .int 0, .int 0, .int 0])) :: (r1, .inl (aC 3, 10, .inr (.inr (.inr (.inr (fun _ => none)))))) :: G) := hD
  refine lv_aload_n hx hb dX9_init_46 rfl (lv_at hl 0 rfl) ?_
  refine xn_newN (ix := 34) (index := 36) (ci := 2) (C := RX2) (T := TX2) (N := 5) (fs := [.null, .null, .null, .null, .null]) (sh := sh2 aC) (rest := [.ref o]) ⟨hx, hb, hml, hown, hts⟩ hin2 tyX2 tyX2_ok lk22 lk23 lk20 hN hK hP hD hS (fun q h => Or.inr h) rfl (fun j hj => by rcases (show j = 0 ∨ j = 1 ∨ j = 2 ∨ j = 3 ∨ j = 4 by omega) with rfl | rfl | rfl | rfl | rfl <;> rfl) (fun q => n_2 l dC dI aC q) ⟨va_cnB 0 hts gX9_init_X2_init_n36 rfl rfl rfl nk8 lk20 (by decide +kernel) ⟨Nat.le_of_ble_eq_true rfl, Nat.le_of_ble_eq_true rfl⟩, rfl, lk21⟩ hl.1 (Nat.le_of_ble_eq_true rfl) (Nat.le_of_ble_eq_true rfl) (Nat.le_of_ble_eq_true rfl) dX9_init_47 dX9_init_50 dX9_init_51 (fun o4 a4 H locs hP hD hS => ?_)
  have hP : va_P (dC, dI) vwCl ((o, .inr (9, [.ref o0, .ref r1, .ref o2, .ref o3, .null, .null, .null, .null, .null, .int 0, .null, .int 0, .int 0, .int 0])) :: (r1, .inl (aC 3, 10, .inr (.inr (.inr (.inr (fun _ => none)))))) :: (G ++ sh2 aC o4 a4)) H := hP
  have hD : va_D (nA o s.heap.size) ((o, .inr (9, [.ref o0, .ref r1, .ref o2, .ref o3, .null, .null, .null, .null, .null, .int 0, .null, .int 0, .int 0, .int 0])) :: (r1, .inl (aC 3, 10, .inr (.inr (.inr (.inr (fun _ => none)))))) :: (G ++ sh2 aC o4 a4)) := hD
  obtain ⟨G4, hG4⟩ : ∃ z, z = G ++ sh2 aC o4 a4 := ⟨_, rfl⟩
  rw [← hG4] at hP hD
  obtain ⟨G, hE4⟩ : ∃ z, z = G4 := ⟨_, rfl⟩
  rw [← hE4] at hP hD
  refine va_putF (D := (dC, dI)) (ci := 9) (v := .ref o4) (ty := .object "LeafTrees$Rewriter") (C := RX9) (T := TX9) (N := 14) hx hb hts hin9 tyX9 tyX9_ok nmX9 hown hK hP hD hS 0 rfl rfl 4 (by decide) lk24 (fun _ h9 => h9) rfl hnm rfl (by decide +kernel) rfl rfl (Nat.le_of_ble_eq_true rfl) dX9_init_54 (fun H locs hP hD hS => ?_)
  have hP : va_P (dC, dI) vwCl ((o, .inr (9, [.ref o0, .ref r1, .ref o2, .ref o3, .ref o4, .null, .null, .null, .null, .int 0, .null, .int 0, .int 0, .int 0])) :: (r1, .inl (aC 3, 10, .inr (.inr (.inr (.inr (fun _ => none)))))) :: G) H := hP
  have hD : va_D (nA o s.heap.size) ((o, .inr (9, [.ref o0, .ref r1, .ref o2, .ref o3, .ref o4, .null, .null, .null, .null, .int 0, .null, .int 0, .int 0, .int 0])) :: (r1, .inl (aC 3, 10, .inr (.inr (.inr (.inr (fun _ => none)))))) :: G) := hD
  refine lv_aload_n hx hb dX9_init_57 rfl (lv_at hl 0 rfl) ?_
  refine xn_newN (ix := 41) (index := 43) (ci := 1) (C := RX1) (T := TX1) (N := 5) (fs := [.null, .int 0, .int 0, .int 0, .int 0]) (sh := sh1 aC) (rest := [.ref o]) ⟨hx, hb, hml, hown, hts⟩ hin1 tyX1 tyX1_ok lk27 lk28 lk25 hN hK hP hD hS (fun q h => Or.inr h) rfl (fun j hj => by rcases (show j = 0 ∨ j = 1 ∨ j = 2 ∨ j = 3 ∨ j = 4 by omega) with rfl | rfl | rfl | rfl | rfl <;> rfl) (fun q => n_1 l dC dI aC q) ⟨va_cnB 0 hts gX9_init_X1_init_n43 rfl rfl rfl nk9 lk25 (by decide +kernel) ⟨Nat.le_of_ble_eq_true rfl, Nat.le_of_ble_eq_true rfl⟩, rfl, lk26⟩ hl.1 (Nat.le_of_ble_eq_true rfl) (Nat.le_of_ble_eq_true rfl) (Nat.le_of_ble_eq_true rfl) dX9_init_58 dX9_init_61 dX9_init_62 (fun o5 a5 H locs hP hD hS => ?_)
  have hP : va_P (dC, dI) vwCl ((o, .inr (9, [.ref o0, .ref r1, .ref o2, .ref o3, .ref o4, .null, .null, .null, .null, .int 0, .null, .int 0, .int 0, .int 0])) :: (r1, .inl (aC 3, 10, .inr (.inr (.inr (.inr (fun _ => none)))))) :: (G ++ sh1 aC o5 a5)) H := hP
  have hD : va_D (nA o s.heap.size) ((o, .inr (9, [.ref o0, .ref r1, .ref o2, .ref o3, .ref o4, .null, .null, .null, .null, .int 0, .null, .int 0, .int 0, .int 0])) :: (r1, .inl (aC 3, 10, .inr (.inr (.inr (.inr (fun _ => none)))))) :: (G ++ sh1 aC o5 a5)) := hD
  obtain ⟨G5, hG5⟩ : ∃ z, z = G ++ sh1 aC o5 a5 := ⟨_, rfl⟩
  rw [← hG5] at hP hD
  obtain ⟨G, hE5⟩ : ∃ z, z = G5 := ⟨_, rfl⟩
  rw [← hE5] at hP hD
  refine va_putF (D := (dC, dI)) (ci := 9) (v := .ref o5) (ty := .object "LeafTrees$Peaks") (C := RX9) (T := TX9) (N := 14) hx hb hts hin9 tyX9 tyX9_ok nmX9 hown hK hP hD hS 0 rfl rfl 5 (by decide) lk29 (fun _ h9 => h9) rfl hnm rfl (by decide +kernel) rfl rfl (Nat.le_of_ble_eq_true rfl) dX9_init_65 (fun H locs hP hD hS => ?_)
  have hP : va_P (dC, dI) vwCl ((o, .inr (9, [.ref o0, .ref r1, .ref o2, .ref o3, .ref o4, .ref o5, .null, .null, .null, .int 0, .null, .int 0, .int 0, .int 0])) :: (r1, .inl (aC 3, 10, .inr (.inr (.inr (.inr (fun _ => none)))))) :: G) H := hP
  have hD : va_D (nA o s.heap.size) ((o, .inr (9, [.ref o0, .ref r1, .ref o2, .ref o3, .ref o4, .ref o5, .null, .null, .null, .int 0, .null, .int 0, .int 0, .int 0])) :: (r1, .inl (aC 3, 10, .inr (.inr (.inr (.inr (fun _ => none)))))) :: G) := hD
  refine lv_aload_n hx hb dX9_init_68 rfl (lv_at hl 0 rfl) ?_
  refine xn_new (ix := 48) (index := 50) (ci := 0) (C := RX0) (T := TX0) (N := 6) (fs := [.null, .null, .int 0, .long 0, .null, .null]) (sh := sh0 aC) (rest := [.ref o]) ⟨hx, hb, hml, hown, hts⟩ hin0 tyX0 tyX0_ok lk33 lk34 lk30 hN hK hP hD hS (fun q h => Or.inr h) rfl (fun j hj => by rcases (show j = 0 ∨ j = 1 ∨ j = 2 ∨ j = 3 ∨ j = 4 ∨ j = 5 by omega) with rfl | rfl | rfl | rfl | rfl | rfl <;> rfl) (fun q => n_0 l dC dI aC q) (cwI 0 hts gX9_init_X0_init rfl rfl rfl lk30 lk31 lk32 rfl (by decide +kernel) ⟨Nat.le_of_ble_eq_true rfl, Nat.le_of_ble_eq_true rfl⟩) hl.1 (Nat.le_of_ble_eq_true rfl) (Nat.le_of_ble_eq_true rfl) (Nat.le_of_ble_eq_true rfl) dX9_init_69 dX9_init_72 dX9_init_73 (fun o6 a6 H locs hP hD hS => ?_)
  have hP : va_P (dC, dI) vwCl ((o, .inr (9, [.ref o0, .ref r1, .ref o2, .ref o3, .ref o4, .ref o5, .null, .null, .null, .int 0, .null, .int 0, .int 0, .int 0])) :: (r1, .inl (aC 3, 10, .inr (.inr (.inr (.inr (fun _ => none)))))) :: (G ++ sh0 aC o6 a6)) H := hP
  have hD : va_D (nA o s.heap.size) ((o, .inr (9, [.ref o0, .ref r1, .ref o2, .ref o3, .ref o4, .ref o5, .null, .null, .null, .int 0, .null, .int 0, .int 0, .int 0])) :: (r1, .inl (aC 3, 10, .inr (.inr (.inr (.inr (fun _ => none)))))) :: (G ++ sh0 aC o6 a6)) := hD
  obtain ⟨G6, hG6⟩ : ∃ z, z = G ++ sh0 aC o6 a6 := ⟨_, rfl⟩
  rw [← hG6] at hP hD
  obtain ⟨G, hE6⟩ : ∃ z, z = G6 := ⟨_, rfl⟩
  rw [← hE6] at hP hD
  refine va_putF (D := (dC, dI)) (ci := 9) (v := .ref o6) (ty := .object "LeafTrees$Census") (C := RX9) (T := TX9) (N := 14) hx hb hts hin9 tyX9 tyX9_ok nmX9 hown hK hP hD hS 0 rfl rfl 6 (by decide) lk35 (fun _ h9 => h9) rfl hnm rfl (by decide +kernel) rfl rfl (Nat.le_of_ble_eq_true rfl) dX9_init_76 (fun H locs hP hD hS => ?_)
  have hP : va_P (dC, dI) vwCl ((o, .inr (9, [.ref o0, .ref r1, .ref o2, .ref o3, .ref o4, .ref o5, .ref o6, .null, .null, .int 0, .null, .int 0, .int 0, .int 0])) :: (r1, .inl (aC 3, 10, .inr (.inr (.inr (.inr (fun _ => none)))))) :: G) H := hP
  have hD : va_D (nA o s.heap.size) ((o, .inr (9, [.ref o0, .ref r1, .ref o2, .ref o3, .ref o4, .ref o5, .ref o6, .null, .null, .int 0, .null, .int 0, .int 0, .int 0])) :: (r1, .inl (aC 3, 10, .inr (.inr (.inr (.inr (fun _ => none)))))) :: G) := hD
  refine lv_aload_n hx hb dX9_init_79 rfl (lv_at hl 0 rfl) ?_
  refine xn_newN (ix := 55) (index := 57) (ci := 5) (C := RX5) (T := TX5) (N := 2) (fs := [.null, .null]) (sh := sh5 aC) (rest := [.ref o]) ⟨hx, hb, hml, hown, hts⟩ hin5 tyX5 tyX5_ok lk38 lk39 lk36 hN hK hP hD hS (fun q h => Or.inr h) rfl (fun j hj => by rcases (show j = 0 ∨ j = 1 by omega) with rfl | rfl <;> rfl) (fun q => n_5 l dC dI aC q) ⟨va_cnB 0 hts gX9_init_X5_init_n57 rfl rfl rfl nk10 lk36 (by decide +kernel) ⟨Nat.le_of_ble_eq_true rfl, Nat.le_of_ble_eq_true rfl⟩, rfl, lk37⟩ hl.1 (Nat.le_of_ble_eq_true rfl) (Nat.le_of_ble_eq_true rfl) (Nat.le_of_ble_eq_true rfl) dX9_init_80 dX9_init_83 dX9_init_84 (fun o7 a7 H locs hP hD hS => ?_)
  have hP : va_P (dC, dI) vwCl ((o, .inr (9, [.ref o0, .ref r1, .ref o2, .ref o3, .ref o4, .ref o5, .ref o6, .null, .null, .int 0, .null, .int 0, .int 0, .int 0])) :: (r1, .inl (aC 3, 10, .inr (.inr (.inr (.inr (fun _ => none)))))) :: (G ++ sh5 aC o7 a7)) H := hP
  have hD : va_D (nA o s.heap.size) ((o, .inr (9, [.ref o0, .ref r1, .ref o2, .ref o3, .ref o4, .ref o5, .ref o6, .null, .null, .int 0, .null, .int 0, .int 0, .int 0])) :: (r1, .inl (aC 3, 10, .inr (.inr (.inr (.inr (fun _ => none)))))) :: (G ++ sh5 aC o7 a7)) := hD
  obtain ⟨G7, hG7⟩ : ∃ z, z = G ++ sh5 aC o7 a7 := ⟨_, rfl⟩
  rw [← hG7] at hP hD
  obtain ⟨G, hE7⟩ : ∃ z, z = G7 := ⟨_, rfl⟩
  rw [← hE7] at hP hD
  refine va_putF (D := (dC, dI)) (ci := 9) (v := .ref o7) (ty := .object "LeafTrees$Series") (C := RX9) (T := TX9) (N := 14) hx hb hts hin9 tyX9 tyX9_ok nmX9 hown hK hP hD hS 0 rfl rfl 7 (by decide) lk40 (fun _ h9 => h9) rfl hnm rfl (by decide +kernel) rfl rfl (Nat.le_of_ble_eq_true rfl) dX9_init_87 (fun H locs hP hD hS => ?_)
  have hP : va_P (dC, dI) vwCl ((o, .inr (9, [.ref o0, .ref r1, .ref o2, .ref o3, .ref o4, .ref o5, .ref o6, .ref o7, .null, .int 0, .null, .int 0, .int 0, .int 0])) :: (r1, .inl (aC 3, 10, .inr (.inr (.inr (.inr (fun _ => none)))))) :: G) H := hP
  have hD : va_D (nA o s.heap.size) ((o, .inr (9, [.ref o0, .ref r1, .ref o2, .ref o3, .ref o4, .ref o5, .ref o6, .ref o7, .null, .int 0, .null, .int 0, .int 0, .int 0])) :: (r1, .inl (aC 3, 10, .inr (.inr (.inr (.inr (fun _ => none)))))) :: G) := hD
  refine lv_aload_n hx hb dX9_init_90 rfl (lv_at hl 0 rfl) ?_
  refine lv_bipush (v := nI 7) hx hb dX9_init_91 (by decide) ?_
  refine va_newa (atype := .long) (ty := .long) (N' := 7) (a0 := (7, .inr (.inl (fun _ => 0)))) hx hb lk41 rfl hK hP hD hS (fun q h => Or.inr h) (fun cA => rfl) (nI_pos (by decide)) (nI_clamp (by decide)) (by decide) (Nat.le_of_ble_eq_true rfl) (Nat.le_of_ble_eq_true rfl) dX9_init_93 (fun r8 cA H hK1 hP hD hS => ?_)
  obtain rfl := aC_long hK hK1
  clear hK1
  have hP : va_P (dC, dI) vwCl ((o, .inr (9, [.ref o0, .ref r1, .ref o2, .ref o3, .ref o4, .ref o5, .ref o6, .ref o7, .null, .int 0, .null, .int 0, .int 0, .int 0])) :: (r1, .inl (aC 3, 10, .inr (.inr (.inr (.inr (fun _ => none)))))) :: (G ++ [(r8, .inl (aC 1, 7, .inr (.inl (fun _ => 0))))])) H := hP
  have hD : va_D (nA o s.heap.size) ((o, .inr (9, [.ref o0, .ref r1, .ref o2, .ref o3, .ref o4, .ref o5, .ref o6, .ref o7, .null, .int 0, .null, .int 0, .int 0, .int 0])) :: (r1, .inl (aC 3, 10, .inr (.inr (.inr (.inr (fun _ => none)))))) :: (G ++ [(r8, .inl (aC 1, 7, .inr (.inl (fun _ => 0))))])) := hD
  obtain ⟨G8, hG8⟩ : ∃ z, z = G ++ [(r8, .inl (aC 1, 7, .inr (.inl (fun _ => 0))))] := ⟨_, rfl⟩
  rw [← hG8] at hP hD
  obtain ⟨G, hE8⟩ : ∃ z, z = G8 := ⟨_, rfl⟩
  rw [← hE8] at hP hD
  refine va_putF (D := (dC, dI)) (ci := 9) (v := .ref r8) (ty := .array .long) (C := RX9) (T := TX9) (N := 14) hx hb hts hin9 tyX9 tyX9_ok nmX9 hown hK hP hD hS 0 rfl rfl 8 (by decide) lk42 (fun _ h9 => h9) rfl hnm rfl (by decide +kernel) rfl rfl (Nat.le_of_ble_eq_true rfl) dX9_init_95 (fun H locs hP hD hS => ?_)
  have hP : va_P (dC, dI) vwCl ((o, .inr (9, [.ref o0, .ref r1, .ref o2, .ref o3, .ref o4, .ref o5, .ref o6, .ref o7, .ref r8, .int 0, .null, .int 0, .int 0, .int 0])) :: (r1, .inl (aC 3, 10, .inr (.inr (.inr (.inr (fun _ => none)))))) :: G) H := hP
  have hD : va_D (nA o s.heap.size) ((o, .inr (9, [.ref o0, .ref r1, .ref o2, .ref o3, .ref o4, .ref o5, .ref o6, .ref o7, .ref r8, .int 0, .null, .int 0, .int 0, .int 0])) :: (r1, .inl (aC 3, 10, .inr (.inr (.inr (.inr (fun _ => none)))))) :: G) := hD
  refine lv_aload_n hx hb dX9_init_98 rfl (lv_at hl 0 rfl) ?_
  refine lv_bipush (v := nI 7) hx hb dX9_init_99 (by decide) ?_
  refine va_newa (atype := .long) (ty := .long) (N' := 7) (a0 := (7, .inr (.inl (fun _ => 0)))) hx hb lk41 rfl hK hP hD hS (fun q h => Or.inr h) (fun cA => rfl) (nI_pos (by decide)) (nI_clamp (by decide)) (by decide) (Nat.le_of_ble_eq_true rfl) (Nat.le_of_ble_eq_true rfl) dX9_init_101 (fun r9 cA H hK1 hP hD hS => ?_)
  obtain rfl := aC_long hK hK1
  clear hK1
  have hP : va_P (dC, dI) vwCl ((o, .inr (9, [.ref o0, .ref r1, .ref o2, .ref o3, .ref o4, .ref o5, .ref o6, .ref o7, .ref r8, .int 0, .null, .int 0, .int 0, .int 0])) :: (r1, .inl (aC 3, 10, .inr (.inr (.inr (.inr (fun _ => none)))))) :: (G ++ [(r9, .inl (aC 1, 7, .inr (.inl (fun _ => 0))))])) H := hP
  have hD : va_D (nA o s.heap.size) ((o, .inr (9, [.ref o0, .ref r1, .ref o2, .ref o3, .ref o4, .ref o5, .ref o6, .ref o7, .ref r8, .int 0, .null, .int 0, .int 0, .int 0])) :: (r1, .inl (aC 3, 10, .inr (.inr (.inr (.inr (fun _ => none)))))) :: (G ++ [(r9, .inl (aC 1, 7, .inr (.inl (fun _ => 0))))])) := hD
  obtain ⟨G9, hG9⟩ : ∃ z, z = G ++ [(r9, .inl (aC 1, 7, .inr (.inl (fun _ => 0))))] := ⟨_, rfl⟩
  rw [← hG9] at hP hD
  obtain ⟨G, hE9⟩ : ∃ z, z = G9 := ⟨_, rfl⟩
  rw [← hE9] at hP hD
  refine va_putF (D := (dC, dI)) (ci := 9) (v := .ref r9) (ty := .array .long) (C := RX9) (T := TX9) (N := 14) hx hb hts hin9 tyX9 tyX9_ok nmX9 hown hK hP hD hS 0 rfl rfl 10 (by decide) lk43 (fun _ h9 => h9) rfl hnm rfl (by decide +kernel) rfl rfl (Nat.le_of_ble_eq_true rfl) dX9_init_103 (fun H locs hP hD hS => ?_)
  have hP : va_P (dC, dI) vwCl ((o, .inr (9, [.ref o0, .ref r1, .ref o2, .ref o3, .ref o4, .ref o5, .ref o6, .ref o7, .ref r8, .int 0, .ref r9, .int 0, .int 0, .int 0])) :: (r1, .inl (aC 3, 10, .inr (.inr (.inr (.inr (fun _ => none)))))) :: G) H := hP
  have hD : va_D (nA o s.heap.size) ((o, .inr (9, [.ref o0, .ref r1, .ref o2, .ref o3, .ref o4, .ref o5, .ref o6, .ref o7, .ref r8, .int 0, .ref r9, .int 0, .int 0, .int 0])) :: (r1, .inl (aC 3, 10, .inr (.inr (.inr (.inr (fun _ => none)))))) :: G) := hD
  refine lv_aload_n hx hb dX9_init_106 rfl (lv_at hl 0 rfl) ?_
  refine lv_iconst (v := (-1)) hx hb dX9_init_107 (by decide) ?_
  refine va_put (D := (dC, dI)) (ci := 9) (v := .int (-1)) (ty := .int) (C := RX9) (T := TX9) (N := 14) hx hb hts hin9 tyX9 tyX9_ok nmX9 hown hK hP hD hS 0 rfl rfl 12 (by decide) lk44 (fun _ h9 => h9) rfl (by decide +kernel) rfl rfl (Nat.le_of_ble_eq_true rfl) dX9_init_108 (fun H locs hP hD hS => ?_)
  have hP : va_P (dC, dI) vwCl ((o, .inr (9, [.ref o0, .ref r1, .ref o2, .ref o3, .ref o4, .ref o5, .ref o6, .ref o7, .ref r8, .int 0, .ref r9, .int 0, .int (-1), .int 0])) :: (r1, .inl (aC 3, 10, .inr (.inr (.inr (.inr (fun _ => none)))))) :: G) H := hP
  have hD : va_D (nA o s.heap.size) ((o, .inr (9, [.ref o0, .ref r1, .ref o2, .ref o3, .ref o4, .ref o5, .ref o6, .ref o7, .ref r8, .int 0, .ref r9, .int 0, .int (-1), .int 0])) :: (r1, .inl (aC 3, 10, .inr (.inr (.inr (.inr (fun _ => none)))))) :: G) := hD
  refine lv_iconst (v := nI 0) hx hb dX9_init_111 (by decide) ?_
  refine lv_istore_n (lv' := [(1, .int (nI 0)), (0, .ref o)]) hx hb dX9_init_112 rfl hl (by decide) rfl (fun ls hl => ?_)
  refine lv_iload_n hx hb dX9_init_113 rfl (lv_at hl 0 rfl) ?_
  refine lv_bipush (v := nI 10) hx hb dX9_init_114 (by decide) ?_
  refine nx_icmp_ge (a := 0) (b := 10) (tgt := 138) hx hb dX9_init_116 (by decide) (by decide) (by decide) (fun h9 => absurd h9 (by decide)) (fun _ => ?_)
  refine lv_aload_n hx hb dX9_init_119 rfl (lv_at hl 1 rfl) ?_
  refine va_get (D := (dC, dI)) (ci := 9) (C := RX9) (T := TX9) (N := 14) hx hb hts hin9 hown hK hP 0 rfl rfl 1 (by decide) lk10 (fun _ h9 => h9) rfl dX9_init_120 ?_
  refine lv_iload_n hx hb dX9_init_123 rfl (lv_at hl 0 rfl) ?_
  refine xn_newN (ix := 16) (index := 22) (ci := 3) (C := RX3) (T := TX3) (N := 2) (fs := [.null, .int 0]) (sh := sh3 aC) (rest := [.int (nI 0), .ref r1]) ⟨hx, hb, hml, hown, hts⟩ hin3 tyX3 tyX3_ok lk9 lk13 lk11 hN hK hP hD hS (fun q h => Or.inr h) rfl (fun j hj => by rcases (show j = 0 ∨ j = 1 by omega) with rfl | rfl <;> rfl) (fun q => n_3 l dC dI aC q) ⟨va_cnB 0 hts gX9_init_X3_init_n22 rfl rfl rfl nk6 lk11 (by decide +kernel) ⟨Nat.le_of_ble_eq_true rfl, Nat.le_of_ble_eq_true rfl⟩, rfl, lk12⟩ hl.1 (Nat.le_of_ble_eq_true rfl) (Nat.le_of_ble_eq_true rfl) (Nat.le_of_ble_eq_true rfl) dX9_init_124 dX9_init_127 dX9_init_128 (fun o10 a10 H locs hP hD hS => ?_)
  have hP : va_P (dC, dI) vwCl ((o, .inr (9, [.ref o0, .ref r1, .ref o2, .ref o3, .ref o4, .ref o5, .ref o6, .ref o7, .ref r8, .int 0, .ref r9, .int 0, .int (-1), .int 0])) :: (r1, .inl (aC 3, 10, .inr (.inr (.inr (.inr (fun _ => none)))))) :: (G ++ sh3 aC o10 a10)) H := hP
  have hD : va_D (nA o s.heap.size) ((o, .inr (9, [.ref o0, .ref r1, .ref o2, .ref o3, .ref o4, .ref o5, .ref o6, .ref o7, .ref r8, .int 0, .ref r9, .int 0, .int (-1), .int 0])) :: (r1, .inl (aC 3, 10, .inr (.inr (.inr (.inr (fun _ => none)))))) :: (G ++ sh3 aC o10 a10)) := hD
  refine va_astq hx hb hK hP hD hS 1 3 (G.length + 2) 3 rfl rfl (by exact ix_new) rfl (vp_in_nI (n := 0) (N := 10) (by decide) (by decide)) dX9_init_131 (fun H locs hP hD hS => ?_)
  have hP : va_P (dC, dI) vwCl ((o, .inr (9, [.ref o0, .ref r1, .ref o2, .ref o3, .ref o4, .ref o5, .ref o6, .ref o7, .ref r8, .int 0, .ref r9, .int 0, .int (-1), .int 0])) :: (r1, .inl (aC 3, 10, .inr (.inr (.inr (.inr (va_up (fun _ => none) 0 (some o10))))))) :: (G ++ sh3 aC o10 a10)) H := hP
  have hD : va_D (nA o s.heap.size) ((o, .inr (9, [.ref o0, .ref r1, .ref o2, .ref o3, .ref o4, .ref o5, .ref o6, .ref o7, .ref r8, .int 0, .ref r9, .int 0, .int (-1), .int 0])) :: (r1, .inl (aC 3, 10, .inr (.inr (.inr (.inr (va_up (fun _ => none) 0 (some o10))))))) :: (G ++ sh3 aC o10 a10)) := hD
  obtain ⟨G10, hG10⟩ : ∃ z, z = G ++ sh3 aC o10 a10 := ⟨_, rfl⟩
  rw [← hG10] at hP hD
  obtain ⟨G, hE10⟩ : ∃ z, z = G10 := ⟨_, rfl⟩
  rw [← hE10] at hP hD
  refine lv_iinc (v := nI 1) (lv' := [(1, .int (nI 1)), (0, .ref o)]) hx hb dX9_init_132 hl (k := 0) rfl (by decide) (by decide) rfl (fun ls hl => ?_)
  refine lv_goto (tgt := 113) hx hb dX9_init_135 (by decide) ?_
  refine lv_iload_n hx hb dX9_init_113 rfl (lv_at hl 0 rfl) ?_
  refine lv_bipush (v := nI 10) hx hb dX9_init_114 (by decide) ?_
  refine nx_icmp_ge (a := 1) (b := 10) (tgt := 138) hx hb dX9_init_116 (by decide) (by decide) (by decide) (fun h9 => absurd h9 (by decide)) (fun _ => ?_)
  refine lv_aload_n hx hb dX9_init_119 rfl (lv_at hl 1 rfl) ?_
  refine va_get (D := (dC, dI)) (ci := 9) (C := RX9) (T := TX9) (N := 14) hx hb hts hin9 hown hK hP 0 rfl rfl 1 (by decide) lk10 (fun _ h9 => h9) rfl dX9_init_120 ?_
  refine lv_iload_n hx hb dX9_init_123 rfl (lv_at hl 0 rfl) ?_
  refine xn_newN (ix := 16) (index := 22) (ci := 3) (C := RX3) (T := TX3) (N := 2) (fs := [.null, .int 0]) (sh := sh3 aC) (rest := [.int (nI 1), .ref r1]) ⟨hx, hb, hml, hown, hts⟩ hin3 tyX3 tyX3_ok lk9 lk13 lk11 hN hK hP hD hS (fun q h => Or.inr h) rfl (fun j hj => by rcases (show j = 0 ∨ j = 1 by omega) with rfl | rfl <;> rfl) (fun q => n_3 l dC dI aC q) ⟨va_cnB 0 hts gX9_init_X3_init_n22 rfl rfl rfl nk6 lk11 (by decide +kernel) ⟨Nat.le_of_ble_eq_true rfl, Nat.le_of_ble_eq_true rfl⟩, rfl, lk12⟩ hl.1 (Nat.le_of_ble_eq_true rfl) (Nat.le_of_ble_eq_true rfl) (Nat.le_of_ble_eq_true rfl) dX9_init_124 dX9_init_127 dX9_init_128 (fun o11 a11 H locs hP hD hS => ?_)
  have hP : va_P (dC, dI) vwCl ((o, .inr (9, [.ref o0, .ref r1, .ref o2, .ref o3, .ref o4, .ref o5, .ref o6, .ref o7, .ref r8, .int 0, .ref r9, .int 0, .int (-1), .int 0])) :: (r1, .inl (aC 3, 10, .inr (.inr (.inr (.inr (va_up (fun _ => none) 0 (some o10))))))) :: (G ++ sh3 aC o11 a11)) H := hP
  have hD : va_D (nA o s.heap.size) ((o, .inr (9, [.ref o0, .ref r1, .ref o2, .ref o3, .ref o4, .ref o5, .ref o6, .ref o7, .ref r8, .int 0, .ref r9, .int 0, .int (-1), .int 0])) :: (r1, .inl (aC 3, 10, .inr (.inr (.inr (.inr (va_up (fun _ => none) 0 (some o10))))))) :: (G ++ sh3 aC o11 a11)) := hD
  refine va_astq hx hb hK hP hD hS 1 3 (G.length + 2) 3 rfl rfl (by exact ix_new) rfl (vp_in_nI (n := 1) (N := 10) (by decide) (by decide)) dX9_init_131 (fun H locs hP hD hS => ?_)
  have hP : va_P (dC, dI) vwCl ((o, .inr (9, [.ref o0, .ref r1, .ref o2, .ref o3, .ref o4, .ref o5, .ref o6, .ref o7, .ref r8, .int 0, .ref r9, .int 0, .int (-1), .int 0])) :: (r1, .inl (aC 3, 10, .inr (.inr (.inr (.inr (va_up (va_up (fun _ => none) 0 (some o10)) 1 (some o11))))))) :: (G ++ sh3 aC o11 a11)) H := hP
  have hD : va_D (nA o s.heap.size) ((o, .inr (9, [.ref o0, .ref r1, .ref o2, .ref o3, .ref o4, .ref o5, .ref o6, .ref o7, .ref r8, .int 0, .ref r9, .int 0, .int (-1), .int 0])) :: (r1, .inl (aC 3, 10, .inr (.inr (.inr (.inr (va_up (va_up (fun _ => none) 0 (some o10)) 1 (some o11))))))) :: (G ++ sh3 aC o11 a11)) := hD
  obtain ⟨G11, hG11⟩ : ∃ z, z = G ++ sh3 aC o11 a11 := ⟨_, rfl⟩
  rw [← hG11] at hP hD
  obtain ⟨G, hE11⟩ : ∃ z, z = G11 := ⟨_, rfl⟩
  rw [← hE11] at hP hD
  refine lv_iinc (v := nI 2) (lv' := [(1, .int (nI 2)), (0, .ref o)]) hx hb dX9_init_132 hl (k := 0) rfl (by decide) (by decide) rfl (fun ls hl => ?_)
  refine lv_goto (tgt := 113) hx hb dX9_init_135 (by decide) ?_
  refine lv_iload_n hx hb dX9_init_113 rfl (lv_at hl 0 rfl) ?_
  refine lv_bipush (v := nI 10) hx hb dX9_init_114 (by decide) ?_
  refine nx_icmp_ge (a := 2) (b := 10) (tgt := 138) hx hb dX9_init_116 (by decide) (by decide) (by decide) (fun h9 => absurd h9 (by decide)) (fun _ => ?_)
  refine lv_aload_n hx hb dX9_init_119 rfl (lv_at hl 1 rfl) ?_
  refine va_get (D := (dC, dI)) (ci := 9) (C := RX9) (T := TX9) (N := 14) hx hb hts hin9 hown hK hP 0 rfl rfl 1 (by decide) lk10 (fun _ h9 => h9) rfl dX9_init_120 ?_
  refine lv_iload_n hx hb dX9_init_123 rfl (lv_at hl 0 rfl) ?_
  refine xn_newN (ix := 16) (index := 22) (ci := 3) (C := RX3) (T := TX3) (N := 2) (fs := [.null, .int 0]) (sh := sh3 aC) (rest := [.int (nI 2), .ref r1]) ⟨hx, hb, hml, hown, hts⟩ hin3 tyX3 tyX3_ok lk9 lk13 lk11 hN hK hP hD hS (fun q h => Or.inr h) rfl (fun j hj => by rcases (show j = 0 ∨ j = 1 by omega) with rfl | rfl <;> rfl) (fun q => n_3 l dC dI aC q) ⟨va_cnB 0 hts gX9_init_X3_init_n22 rfl rfl rfl nk6 lk11 (by decide +kernel) ⟨Nat.le_of_ble_eq_true rfl, Nat.le_of_ble_eq_true rfl⟩, rfl, lk12⟩ hl.1 (Nat.le_of_ble_eq_true rfl) (Nat.le_of_ble_eq_true rfl) (Nat.le_of_ble_eq_true rfl) dX9_init_124 dX9_init_127 dX9_init_128 (fun o12 a12 H locs hP hD hS => ?_)
  have hP : va_P (dC, dI) vwCl ((o, .inr (9, [.ref o0, .ref r1, .ref o2, .ref o3, .ref o4, .ref o5, .ref o6, .ref o7, .ref r8, .int 0, .ref r9, .int 0, .int (-1), .int 0])) :: (r1, .inl (aC 3, 10, .inr (.inr (.inr (.inr (va_up (va_up (fun _ => none) 0 (some o10)) 1 (some o11))))))) :: (G ++ sh3 aC o12 a12)) H := hP
  have hD : va_D (nA o s.heap.size) ((o, .inr (9, [.ref o0, .ref r1, .ref o2, .ref o3, .ref o4, .ref o5, .ref o6, .ref o7, .ref r8, .int 0, .ref r9, .int 0, .int (-1), .int 0])) :: (r1, .inl (aC 3, 10, .inr (.inr (.inr (.inr (va_up (va_up (fun _ => none) 0 (some o10)) 1 (some o11))))))) :: (G ++ sh3 aC o12 a12)) := hD
  refine va_astq hx hb hK hP hD hS 1 3 (G.length + 2) 3 rfl rfl (by exact ix_new) rfl (vp_in_nI (n := 2) (N := 10) (by decide) (by decide)) dX9_init_131 (fun H locs hP hD hS => ?_)
  have hP : va_P (dC, dI) vwCl ((o, .inr (9, [.ref o0, .ref r1, .ref o2, .ref o3, .ref o4, .ref o5, .ref o6, .ref o7, .ref r8, .int 0, .ref r9, .int 0, .int (-1), .int 0])) :: (r1, .inl (aC 3, 10, .inr (.inr (.inr (.inr (va_up (va_up (va_up (fun _ => none) 0 (some o10)) 1 (some o11)) 2 (some o12))))))) :: (G ++ sh3 aC o12 a12)) H := hP
  have hD : va_D (nA o s.heap.size) ((o, .inr (9, [.ref o0, .ref r1, .ref o2, .ref o3, .ref o4, .ref o5, .ref o6, .ref o7, .ref r8, .int 0, .ref r9, .int 0, .int (-1), .int 0])) :: (r1, .inl (aC 3, 10, .inr (.inr (.inr (.inr (va_up (va_up (va_up (fun _ => none) 0 (some o10)) 1 (some o11)) 2 (some o12))))))) :: (G ++ sh3 aC o12 a12)) := hD
  obtain ⟨G12, hG12⟩ : ∃ z, z = G ++ sh3 aC o12 a12 := ⟨_, rfl⟩
  rw [← hG12] at hP hD
  obtain ⟨G, hE12⟩ : ∃ z, z = G12 := ⟨_, rfl⟩
  rw [← hE12] at hP hD
  refine lv_iinc (v := nI 3) (lv' := [(1, .int (nI 3)), (0, .ref o)]) hx hb dX9_init_132 hl (k := 0) rfl (by decide) (by decide) rfl (fun ls hl => ?_)
  refine lv_goto (tgt := 113) hx hb dX9_init_135 (by decide) ?_
  refine lv_iload_n hx hb dX9_init_113 rfl (lv_at hl 0 rfl) ?_
  refine lv_bipush (v := nI 10) hx hb dX9_init_114 (by decide) ?_
  refine nx_icmp_ge (a := 3) (b := 10) (tgt := 138) hx hb dX9_init_116 (by decide) (by decide) (by decide) (fun h9 => absurd h9 (by decide)) (fun _ => ?_)
  refine lv_aload_n hx hb dX9_init_119 rfl (lv_at hl 1 rfl) ?_
  refine va_get (D := (dC, dI)) (ci := 9) (C := RX9) (T := TX9) (N := 14) hx hb hts hin9 hown hK hP 0 rfl rfl 1 (by decide) lk10 (fun _ h9 => h9) rfl dX9_init_120 ?_
  refine lv_iload_n hx hb dX9_init_123 rfl (lv_at hl 0 rfl) ?_
  refine xn_newN (ix := 16) (index := 22) (ci := 3) (C := RX3) (T := TX3) (N := 2) (fs := [.null, .int 0]) (sh := sh3 aC) (rest := [.int (nI 3), .ref r1]) ⟨hx, hb, hml, hown, hts⟩ hin3 tyX3 tyX3_ok lk9 lk13 lk11 hN hK hP hD hS (fun q h => Or.inr h) rfl (fun j hj => by rcases (show j = 0 ∨ j = 1 by omega) with rfl | rfl <;> rfl) (fun q => n_3 l dC dI aC q) ⟨va_cnB 0 hts gX9_init_X3_init_n22 rfl rfl rfl nk6 lk11 (by decide +kernel) ⟨Nat.le_of_ble_eq_true rfl, Nat.le_of_ble_eq_true rfl⟩, rfl, lk12⟩ hl.1 (Nat.le_of_ble_eq_true rfl) (Nat.le_of_ble_eq_true rfl) (Nat.le_of_ble_eq_true rfl) dX9_init_124 dX9_init_127 dX9_init_128 (fun o13 a13 H locs hP hD hS => ?_)
  have hP : va_P (dC, dI) vwCl ((o, .inr (9, [.ref o0, .ref r1, .ref o2, .ref o3, .ref o4, .ref o5, .ref o6, .ref o7, .ref r8, .int 0, .ref r9, .int 0, .int (-1), .int 0])) :: (r1, .inl (aC 3, 10, .inr (.inr (.inr (.inr (va_up (va_up (va_up (fun _ => none) 0 (some o10)) 1 (some o11)) 2 (some o12))))))) :: (G ++ sh3 aC o13 a13)) H := hP
  have hD : va_D (nA o s.heap.size) ((o, .inr (9, [.ref o0, .ref r1, .ref o2, .ref o3, .ref o4, .ref o5, .ref o6, .ref o7, .ref r8, .int 0, .ref r9, .int 0, .int (-1), .int 0])) :: (r1, .inl (aC 3, 10, .inr (.inr (.inr (.inr (va_up (va_up (va_up (fun _ => none) 0 (some o10)) 1 (some o11)) 2 (some o12))))))) :: (G ++ sh3 aC o13 a13)) := hD
  refine va_astq hx hb hK hP hD hS 1 3 (G.length + 2) 3 rfl rfl (by exact ix_new) rfl (vp_in_nI (n := 3) (N := 10) (by decide) (by decide)) dX9_init_131 (fun H locs hP hD hS => ?_)
  have hP : va_P (dC, dI) vwCl ((o, .inr (9, [.ref o0, .ref r1, .ref o2, .ref o3, .ref o4, .ref o5, .ref o6, .ref o7, .ref r8, .int 0, .ref r9, .int 0, .int (-1), .int 0])) :: (r1, .inl (aC 3, 10, .inr (.inr (.inr (.inr (va_up (va_up (va_up (va_up (fun _ => none) 0 (some o10)) 1 (some o11)) 2 (some o12)) 3 (some o13))))))) :: (G ++ sh3 aC o13 a13)) H := hP
  have hD : va_D (nA o s.heap.size) ((o, .inr (9, [.ref o0, .ref r1, .ref o2, .ref o3, .ref o4, .ref o5, .ref o6, .ref o7, .ref r8, .int 0, .ref r9, .int 0, .int (-1), .int 0])) :: (r1, .inl (aC 3, 10, .inr (.inr (.inr (.inr (va_up (va_up (va_up (va_up (fun _ => none) 0 (some o10)) 1 (some o11)) 2 (some o12)) 3 (some o13))))))) :: (G ++ sh3 aC o13 a13)) := hD
  obtain ⟨G13, hG13⟩ : ∃ z, z = G ++ sh3 aC o13 a13 := ⟨_, rfl⟩
  rw [← hG13] at hP hD
  obtain ⟨G, hE13⟩ : ∃ z, z = G13 := ⟨_, rfl⟩
  rw [← hE13] at hP hD
  refine lv_iinc (v := nI 4) (lv' := [(1, .int (nI 4)), (0, .ref o)]) hx hb dX9_init_132 hl (k := 0) rfl (by decide) (by decide) rfl (fun ls hl => ?_)
  refine lv_goto (tgt := 113) hx hb dX9_init_135 (by decide) ?_
  refine lv_iload_n hx hb dX9_init_113 rfl (lv_at hl 0 rfl) ?_
  refine lv_bipush (v := nI 10) hx hb dX9_init_114 (by decide) ?_
  refine nx_icmp_ge (a := 4) (b := 10) (tgt := 138) hx hb dX9_init_116 (by decide) (by decide) (by decide) (fun h9 => absurd h9 (by decide)) (fun _ => ?_)
  refine lv_aload_n hx hb dX9_init_119 rfl (lv_at hl 1 rfl) ?_
  refine va_get (D := (dC, dI)) (ci := 9) (C := RX9) (T := TX9) (N := 14) hx hb hts hin9 hown hK hP 0 rfl rfl 1 (by decide) lk10 (fun _ h9 => h9) rfl dX9_init_120 ?_
  refine lv_iload_n hx hb dX9_init_123 rfl (lv_at hl 0 rfl) ?_
  refine xn_newN (ix := 16) (index := 22) (ci := 3) (C := RX3) (T := TX3) (N := 2) (fs := [.null, .int 0]) (sh := sh3 aC) (rest := [.int (nI 4), .ref r1]) ⟨hx, hb, hml, hown, hts⟩ hin3 tyX3 tyX3_ok lk9 lk13 lk11 hN hK hP hD hS (fun q h => Or.inr h) rfl (fun j hj => by rcases (show j = 0 ∨ j = 1 by omega) with rfl | rfl <;> rfl) (fun q => n_3 l dC dI aC q) ⟨va_cnB 0 hts gX9_init_X3_init_n22 rfl rfl rfl nk6 lk11 (by decide +kernel) ⟨Nat.le_of_ble_eq_true rfl, Nat.le_of_ble_eq_true rfl⟩, rfl, lk12⟩ hl.1 (Nat.le_of_ble_eq_true rfl) (Nat.le_of_ble_eq_true rfl) (Nat.le_of_ble_eq_true rfl) dX9_init_124 dX9_init_127 dX9_init_128 (fun o14 a14 H locs hP hD hS => ?_)
  have hP : va_P (dC, dI) vwCl ((o, .inr (9, [.ref o0, .ref r1, .ref o2, .ref o3, .ref o4, .ref o5, .ref o6, .ref o7, .ref r8, .int 0, .ref r9, .int 0, .int (-1), .int 0])) :: (r1, .inl (aC 3, 10, .inr (.inr (.inr (.inr (va_up (va_up (va_up (va_up (fun _ => none) 0 (some o10)) 1 (some o11)) 2 (some o12)) 3 (some o13))))))) :: (G ++ sh3 aC o14 a14)) H := hP
  have hD : va_D (nA o s.heap.size) ((o, .inr (9, [.ref o0, .ref r1, .ref o2, .ref o3, .ref o4, .ref o5, .ref o6, .ref o7, .ref r8, .int 0, .ref r9, .int 0, .int (-1), .int 0])) :: (r1, .inl (aC 3, 10, .inr (.inr (.inr (.inr (va_up (va_up (va_up (va_up (fun _ => none) 0 (some o10)) 1 (some o11)) 2 (some o12)) 3 (some o13))))))) :: (G ++ sh3 aC o14 a14)) := hD
  refine va_astq hx hb hK hP hD hS 1 3 (G.length + 2) 3 rfl rfl (by exact ix_new) rfl (vp_in_nI (n := 4) (N := 10) (by decide) (by decide)) dX9_init_131 (fun H locs hP hD hS => ?_)
  have hP : va_P (dC, dI) vwCl ((o, .inr (9, [.ref o0, .ref r1, .ref o2, .ref o3, .ref o4, .ref o5, .ref o6, .ref o7, .ref r8, .int 0, .ref r9, .int 0, .int (-1), .int 0])) :: (r1, .inl (aC 3, 10, .inr (.inr (.inr (.inr (va_up (va_up (va_up (va_up (va_up (fun _ => none) 0 (some o10)) 1 (some o11)) 2 (some o12)) 3 (some o13)) 4 (some o14))))))) :: (G ++ sh3 aC o14 a14)) H := hP
  have hD : va_D (nA o s.heap.size) ((o, .inr (9, [.ref o0, .ref r1, .ref o2, .ref o3, .ref o4, .ref o5, .ref o6, .ref o7, .ref r8, .int 0, .ref r9, .int 0, .int (-1), .int 0])) :: (r1, .inl (aC 3, 10, .inr (.inr (.inr (.inr (va_up (va_up (va_up (va_up (va_up (fun _ => none) 0 (some o10)) 1 (some o11)) 2 (some o12)) 3 (some o13)) 4 (some o14))))))) :: (G ++ sh3 aC o14 a14)) := hD
  obtain ⟨G14, hG14⟩ : ∃ z, z = G ++ sh3 aC o14 a14 := ⟨_, rfl⟩
  rw [← hG14] at hP hD
  obtain ⟨G, hE14⟩ : ∃ z, z = G14 := ⟨_, rfl⟩
  rw [← hE14] at hP hD
  refine lv_iinc (v := nI 5) (lv' := [(1, .int (nI 5)), (0, .ref o)]) hx hb dX9_init_132 hl (k := 0) rfl (by decide) (by decide) rfl (fun ls hl => ?_)
  refine lv_goto (tgt := 113) hx hb dX9_init_135 (by decide) ?_
  refine lv_iload_n hx hb dX9_init_113 rfl (lv_at hl 0 rfl) ?_
  refine lv_bipush (v := nI 10) hx hb dX9_init_114 (by decide) ?_
  refine nx_icmp_ge (a := 5) (b := 10) (tgt := 138) hx hb dX9_init_116 (by decide) (by decide) (by decide) (fun h9 => absurd h9 (by decide)) (fun _ => ?_)
  refine lv_aload_n hx hb dX9_init_119 rfl (lv_at hl 1 rfl) ?_
  refine va_get (D := (dC, dI)) (ci := 9) (C := RX9) (T := TX9) (N := 14) hx hb hts hin9 hown hK hP 0 rfl rfl 1 (by decide) lk10 (fun _ h9 => h9) rfl dX9_init_120 ?_
  refine lv_iload_n hx hb dX9_init_123 rfl (lv_at hl 0 rfl) ?_
  refine xn_newN (ix := 16) (index := 22) (ci := 3) (C := RX3) (T := TX3) (N := 2) (fs := [.null, .int 0]) (sh := sh3 aC) (rest := [.int (nI 5), .ref r1]) ⟨hx, hb, hml, hown, hts⟩ hin3 tyX3 tyX3_ok lk9 lk13 lk11 hN hK hP hD hS (fun q h => Or.inr h) rfl (fun j hj => by rcases (show j = 0 ∨ j = 1 by omega) with rfl | rfl <;> rfl) (fun q => n_3 l dC dI aC q) ⟨va_cnB 0 hts gX9_init_X3_init_n22 rfl rfl rfl nk6 lk11 (by decide +kernel) ⟨Nat.le_of_ble_eq_true rfl, Nat.le_of_ble_eq_true rfl⟩, rfl, lk12⟩ hl.1 (Nat.le_of_ble_eq_true rfl) (Nat.le_of_ble_eq_true rfl) (Nat.le_of_ble_eq_true rfl) dX9_init_124 dX9_init_127 dX9_init_128 (fun o15 a15 H locs hP hD hS => ?_)
  have hP : va_P (dC, dI) vwCl ((o, .inr (9, [.ref o0, .ref r1, .ref o2, .ref o3, .ref o4, .ref o5, .ref o6, .ref o7, .ref r8, .int 0, .ref r9, .int 0, .int (-1), .int 0])) :: (r1, .inl (aC 3, 10, .inr (.inr (.inr (.inr (va_up (va_up (va_up (va_up (va_up (fun _ => none) 0 (some o10)) 1 (some o11)) 2 (some o12)) 3 (some o13)) 4 (some o14))))))) :: (G ++ sh3 aC o15 a15)) H := hP
  have hD : va_D (nA o s.heap.size) ((o, .inr (9, [.ref o0, .ref r1, .ref o2, .ref o3, .ref o4, .ref o5, .ref o6, .ref o7, .ref r8, .int 0, .ref r9, .int 0, .int (-1), .int 0])) :: (r1, .inl (aC 3, 10, .inr (.inr (.inr (.inr (va_up (va_up (va_up (va_up (va_up (fun _ => none) 0 (some o10)) 1 (some o11)) 2 (some o12)) 3 (some o13)) 4 (some o14))))))) :: (G ++ sh3 aC o15 a15)) := hD
  refine va_astq hx hb hK hP hD hS 1 3 (G.length + 2) 3 rfl rfl (by exact ix_new) rfl (vp_in_nI (n := 5) (N := 10) (by decide) (by decide)) dX9_init_131 (fun H locs hP hD hS => ?_)
  have hP : va_P (dC, dI) vwCl ((o, .inr (9, [.ref o0, .ref r1, .ref o2, .ref o3, .ref o4, .ref o5, .ref o6, .ref o7, .ref r8, .int 0, .ref r9, .int 0, .int (-1), .int 0])) :: (r1, .inl (aC 3, 10, .inr (.inr (.inr (.inr (va_up (va_up (va_up (va_up (va_up (va_up (fun _ => none) 0 (some o10)) 1 (some o11)) 2 (some o12)) 3 (some o13)) 4 (some o14)) 5 (some o15))))))) :: (G ++ sh3 aC o15 a15)) H := hP
  have hD : va_D (nA o s.heap.size) ((o, .inr (9, [.ref o0, .ref r1, .ref o2, .ref o3, .ref o4, .ref o5, .ref o6, .ref o7, .ref r8, .int 0, .ref r9, .int 0, .int (-1), .int 0])) :: (r1, .inl (aC 3, 10, .inr (.inr (.inr (.inr (va_up (va_up (va_up (va_up (va_up (va_up (fun _ => none) 0 (some o10)) 1 (some o11)) 2 (some o12)) 3 (some o13)) 4 (some o14)) 5 (some o15))))))) :: (G ++ sh3 aC o15 a15)) := hD
  obtain ⟨G15, hG15⟩ : ∃ z, z = G ++ sh3 aC o15 a15 := ⟨_, rfl⟩
  rw [← hG15] at hP hD
  obtain ⟨G, hE15⟩ : ∃ z, z = G15 := ⟨_, rfl⟩
  rw [← hE15] at hP hD
  refine lv_iinc (v := nI 6) (lv' := [(1, .int (nI 6)), (0, .ref o)]) hx hb dX9_init_132 hl (k := 0) rfl (by decide) (by decide) rfl (fun ls hl => ?_)
  refine lv_goto (tgt := 113) hx hb dX9_init_135 (by decide) ?_
  refine lv_iload_n hx hb dX9_init_113 rfl (lv_at hl 0 rfl) ?_
  refine lv_bipush (v := nI 10) hx hb dX9_init_114 (by decide) ?_
  refine nx_icmp_ge (a := 6) (b := 10) (tgt := 138) hx hb dX9_init_116 (by decide) (by decide) (by decide) (fun h9 => absurd h9 (by decide)) (fun _ => ?_)
  refine lv_aload_n hx hb dX9_init_119 rfl (lv_at hl 1 rfl) ?_
  refine va_get (D := (dC, dI)) (ci := 9) (C := RX9) (T := TX9) (N := 14) hx hb hts hin9 hown hK hP 0 rfl rfl 1 (by decide) lk10 (fun _ h9 => h9) rfl dX9_init_120 ?_
  refine lv_iload_n hx hb dX9_init_123 rfl (lv_at hl 0 rfl) ?_
  refine xn_newN (ix := 16) (index := 22) (ci := 3) (C := RX3) (T := TX3) (N := 2) (fs := [.null, .int 0]) (sh := sh3 aC) (rest := [.int (nI 6), .ref r1]) ⟨hx, hb, hml, hown, hts⟩ hin3 tyX3 tyX3_ok lk9 lk13 lk11 hN hK hP hD hS (fun q h => Or.inr h) rfl (fun j hj => by rcases (show j = 0 ∨ j = 1 by omega) with rfl | rfl <;> rfl) (fun q => n_3 l dC dI aC q) ⟨va_cnB 0 hts gX9_init_X3_init_n22 rfl rfl rfl nk6 lk11 (by decide +kernel) ⟨Nat.le_of_ble_eq_true rfl, Nat.le_of_ble_eq_true rfl⟩, rfl, lk12⟩ hl.1 (Nat.le_of_ble_eq_true rfl) (Nat.le_of_ble_eq_true rfl) (Nat.le_of_ble_eq_true rfl) dX9_init_124 dX9_init_127 dX9_init_128 (fun o16 a16 H locs hP hD hS => ?_)
  have hP : va_P (dC, dI) vwCl ((o, .inr (9, [.ref o0, .ref r1, .ref o2, .ref o3, .ref o4, .ref o5, .ref o6, .ref o7, .ref r8, .int 0, .ref r9, .int 0, .int (-1), .int 0])) :: (r1, .inl (aC 3, 10, .inr (.inr (.inr (.inr (va_up (va_up (va_up (va_up (va_up (va_up (fun _ => none) 0 (some o10)) 1 (some o11)) 2 (some o12)) 3 (some o13)) 4 (some o14)) 5 (some o15))))))) :: (G ++ sh3 aC o16 a16)) H := hP
  have hD : va_D (nA o s.heap.size) ((o, .inr (9, [.ref o0, .ref r1, .ref o2, .ref o3, .ref o4, .ref o5, .ref o6, .ref o7, .ref r8, .int 0, .ref r9, .int 0, .int (-1), .int 0])) :: (r1, .inl (aC 3, 10, .inr (.inr (.inr (.inr (va_up (va_up (va_up (va_up (va_up (va_up (fun _ => none) 0 (some o10)) 1 (some o11)) 2 (some o12)) 3 (some o13)) 4 (some o14)) 5 (some o15))))))) :: (G ++ sh3 aC o16 a16)) := hD
  refine va_astq hx hb hK hP hD hS 1 3 (G.length + 2) 3 rfl rfl (by exact ix_new) rfl (vp_in_nI (n := 6) (N := 10) (by decide) (by decide)) dX9_init_131 (fun H locs hP hD hS => ?_)
  have hP : va_P (dC, dI) vwCl ((o, .inr (9, [.ref o0, .ref r1, .ref o2, .ref o3, .ref o4, .ref o5, .ref o6, .ref o7, .ref r8, .int 0, .ref r9, .int 0, .int (-1), .int 0])) :: (r1, .inl (aC 3, 10, .inr (.inr (.inr (.inr (va_up (va_up (va_up (va_up (va_up (va_up (va_up (fun _ => none) 0 (some o10)) 1 (some o11)) 2 (some o12)) 3 (some o13)) 4 (some o14)) 5 (some o15)) 6 (some o16))))))) :: (G ++ sh3 aC o16 a16)) H := hP
  have hD : va_D (nA o s.heap.size) ((o, .inr (9, [.ref o0, .ref r1, .ref o2, .ref o3, .ref o4, .ref o5, .ref o6, .ref o7, .ref r8, .int 0, .ref r9, .int 0, .int (-1), .int 0])) :: (r1, .inl (aC 3, 10, .inr (.inr (.inr (.inr (va_up (va_up (va_up (va_up (va_up (va_up (va_up (fun _ => none) 0 (some o10)) 1 (some o11)) 2 (some o12)) 3 (some o13)) 4 (some o14)) 5 (some o15)) 6 (some o16))))))) :: (G ++ sh3 aC o16 a16)) := hD
  obtain ⟨G16, hG16⟩ : ∃ z, z = G ++ sh3 aC o16 a16 := ⟨_, rfl⟩
  rw [← hG16] at hP hD
  obtain ⟨G, hE16⟩ : ∃ z, z = G16 := ⟨_, rfl⟩
  rw [← hE16] at hP hD
  refine lv_iinc (v := nI 7) (lv' := [(1, .int (nI 7)), (0, .ref o)]) hx hb dX9_init_132 hl (k := 0) rfl (by decide) (by decide) rfl (fun ls hl => ?_)
  refine lv_goto (tgt := 113) hx hb dX9_init_135 (by decide) ?_
  refine lv_iload_n hx hb dX9_init_113 rfl (lv_at hl 0 rfl) ?_
  refine lv_bipush (v := nI 10) hx hb dX9_init_114 (by decide) ?_
  refine nx_icmp_ge (a := 7) (b := 10) (tgt := 138) hx hb dX9_init_116 (by decide) (by decide) (by decide) (fun h9 => absurd h9 (by decide)) (fun _ => ?_)
  refine lv_aload_n hx hb dX9_init_119 rfl (lv_at hl 1 rfl) ?_
  refine va_get (D := (dC, dI)) (ci := 9) (C := RX9) (T := TX9) (N := 14) hx hb hts hin9 hown hK hP 0 rfl rfl 1 (by decide) lk10 (fun _ h9 => h9) rfl dX9_init_120 ?_
  refine lv_iload_n hx hb dX9_init_123 rfl (lv_at hl 0 rfl) ?_
  refine xn_newN (ix := 16) (index := 22) (ci := 3) (C := RX3) (T := TX3) (N := 2) (fs := [.null, .int 0]) (sh := sh3 aC) (rest := [.int (nI 7), .ref r1]) ⟨hx, hb, hml, hown, hts⟩ hin3 tyX3 tyX3_ok lk9 lk13 lk11 hN hK hP hD hS (fun q h => Or.inr h) rfl (fun j hj => by rcases (show j = 0 ∨ j = 1 by omega) with rfl | rfl <;> rfl) (fun q => n_3 l dC dI aC q) ⟨va_cnB 0 hts gX9_init_X3_init_n22 rfl rfl rfl nk6 lk11 (by decide +kernel) ⟨Nat.le_of_ble_eq_true rfl, Nat.le_of_ble_eq_true rfl⟩, rfl, lk12⟩ hl.1 (Nat.le_of_ble_eq_true rfl) (Nat.le_of_ble_eq_true rfl) (Nat.le_of_ble_eq_true rfl) dX9_init_124 dX9_init_127 dX9_init_128 (fun o17 a17 H locs hP hD hS => ?_)
  have hP : va_P (dC, dI) vwCl ((o, .inr (9, [.ref o0, .ref r1, .ref o2, .ref o3, .ref o4, .ref o5, .ref o6, .ref o7, .ref r8, .int 0, .ref r9, .int 0, .int (-1), .int 0])) :: (r1, .inl (aC 3, 10, .inr (.inr (.inr (.inr (va_up (va_up (va_up (va_up (va_up (va_up (va_up (fun _ => none) 0 (some o10)) 1 (some o11)) 2 (some o12)) 3 (some o13)) 4 (some o14)) 5 (some o15)) 6 (some o16))))))) :: (G ++ sh3 aC o17 a17)) H := hP
  have hD : va_D (nA o s.heap.size) ((o, .inr (9, [.ref o0, .ref r1, .ref o2, .ref o3, .ref o4, .ref o5, .ref o6, .ref o7, .ref r8, .int 0, .ref r9, .int 0, .int (-1), .int 0])) :: (r1, .inl (aC 3, 10, .inr (.inr (.inr (.inr (va_up (va_up (va_up (va_up (va_up (va_up (va_up (fun _ => none) 0 (some o10)) 1 (some o11)) 2 (some o12)) 3 (some o13)) 4 (some o14)) 5 (some o15)) 6 (some o16))))))) :: (G ++ sh3 aC o17 a17)) := hD
  refine va_astq hx hb hK hP hD hS 1 3 (G.length + 2) 3 rfl rfl (by exact ix_new) rfl (vp_in_nI (n := 7) (N := 10) (by decide) (by decide)) dX9_init_131 (fun H locs hP hD hS => ?_)
  have hP : va_P (dC, dI) vwCl ((o, .inr (9, [.ref o0, .ref r1, .ref o2, .ref o3, .ref o4, .ref o5, .ref o6, .ref o7, .ref r8, .int 0, .ref r9, .int 0, .int (-1), .int 0])) :: (r1, .inl (aC 3, 10, .inr (.inr (.inr (.inr (va_up (va_up (va_up (va_up (va_up (va_up (va_up (va_up (fun _ => none) 0 (some o10)) 1 (some o11)) 2 (some o12)) 3 (some o13)) 4 (some o14)) 5 (some o15)) 6 (some o16)) 7 (some o17))))))) :: (G ++ sh3 aC o17 a17)) H := hP
  have hD : va_D (nA o s.heap.size) ((o, .inr (9, [.ref o0, .ref r1, .ref o2, .ref o3, .ref o4, .ref o5, .ref o6, .ref o7, .ref r8, .int 0, .ref r9, .int 0, .int (-1), .int 0])) :: (r1, .inl (aC 3, 10, .inr (.inr (.inr (.inr (va_up (va_up (va_up (va_up (va_up (va_up (va_up (va_up (fun _ => none) 0 (some o10)) 1 (some o11)) 2 (some o12)) 3 (some o13)) 4 (some o14)) 5 (some o15)) 6 (some o16)) 7 (some o17))))))) :: (G ++ sh3 aC o17 a17)) := hD
  obtain ⟨G17, hG17⟩ : ∃ z, z = G ++ sh3 aC o17 a17 := ⟨_, rfl⟩
  rw [← hG17] at hP hD
  obtain ⟨G, hE17⟩ : ∃ z, z = G17 := ⟨_, rfl⟩
  rw [← hE17] at hP hD
  refine lv_iinc (v := nI 8) (lv' := [(1, .int (nI 8)), (0, .ref o)]) hx hb dX9_init_132 hl (k := 0) rfl (by decide) (by decide) rfl (fun ls hl => ?_)
  refine lv_goto (tgt := 113) hx hb dX9_init_135 (by decide) ?_
  refine lv_iload_n hx hb dX9_init_113 rfl (lv_at hl 0 rfl) ?_
  refine lv_bipush (v := nI 10) hx hb dX9_init_114 (by decide) ?_
  refine nx_icmp_ge (a := 8) (b := 10) (tgt := 138) hx hb dX9_init_116 (by decide) (by decide) (by decide) (fun h9 => absurd h9 (by decide)) (fun _ => ?_)
  refine lv_aload_n hx hb dX9_init_119 rfl (lv_at hl 1 rfl) ?_
  refine va_get (D := (dC, dI)) (ci := 9) (C := RX9) (T := TX9) (N := 14) hx hb hts hin9 hown hK hP 0 rfl rfl 1 (by decide) lk10 (fun _ h9 => h9) rfl dX9_init_120 ?_
  refine lv_iload_n hx hb dX9_init_123 rfl (lv_at hl 0 rfl) ?_
  refine xn_newN (ix := 16) (index := 22) (ci := 3) (C := RX3) (T := TX3) (N := 2) (fs := [.null, .int 0]) (sh := sh3 aC) (rest := [.int (nI 8), .ref r1]) ⟨hx, hb, hml, hown, hts⟩ hin3 tyX3 tyX3_ok lk9 lk13 lk11 hN hK hP hD hS (fun q h => Or.inr h) rfl (fun j hj => by rcases (show j = 0 ∨ j = 1 by omega) with rfl | rfl <;> rfl) (fun q => n_3 l dC dI aC q) ⟨va_cnB 0 hts gX9_init_X3_init_n22 rfl rfl rfl nk6 lk11 (by decide +kernel) ⟨Nat.le_of_ble_eq_true rfl, Nat.le_of_ble_eq_true rfl⟩, rfl, lk12⟩ hl.1 (Nat.le_of_ble_eq_true rfl) (Nat.le_of_ble_eq_true rfl) (Nat.le_of_ble_eq_true rfl) dX9_init_124 dX9_init_127 dX9_init_128 (fun o18 a18 H locs hP hD hS => ?_)
  have hP : va_P (dC, dI) vwCl ((o, .inr (9, [.ref o0, .ref r1, .ref o2, .ref o3, .ref o4, .ref o5, .ref o6, .ref o7, .ref r8, .int 0, .ref r9, .int 0, .int (-1), .int 0])) :: (r1, .inl (aC 3, 10, .inr (.inr (.inr (.inr (va_up (va_up (va_up (va_up (va_up (va_up (va_up (va_up (fun _ => none) 0 (some o10)) 1 (some o11)) 2 (some o12)) 3 (some o13)) 4 (some o14)) 5 (some o15)) 6 (some o16)) 7 (some o17))))))) :: (G ++ sh3 aC o18 a18)) H := hP
  have hD : va_D (nA o s.heap.size) ((o, .inr (9, [.ref o0, .ref r1, .ref o2, .ref o3, .ref o4, .ref o5, .ref o6, .ref o7, .ref r8, .int 0, .ref r9, .int 0, .int (-1), .int 0])) :: (r1, .inl (aC 3, 10, .inr (.inr (.inr (.inr (va_up (va_up (va_up (va_up (va_up (va_up (va_up (va_up (fun _ => none) 0 (some o10)) 1 (some o11)) 2 (some o12)) 3 (some o13)) 4 (some o14)) 5 (some o15)) 6 (some o16)) 7 (some o17))))))) :: (G ++ sh3 aC o18 a18)) := hD
  refine va_astq hx hb hK hP hD hS 1 3 (G.length + 2) 3 rfl rfl (by exact ix_new) rfl (vp_in_nI (n := 8) (N := 10) (by decide) (by decide)) dX9_init_131 (fun H locs hP hD hS => ?_)
  have hP : va_P (dC, dI) vwCl ((o, .inr (9, [.ref o0, .ref r1, .ref o2, .ref o3, .ref o4, .ref o5, .ref o6, .ref o7, .ref r8, .int 0, .ref r9, .int 0, .int (-1), .int 0])) :: (r1, .inl (aC 3, 10, .inr (.inr (.inr (.inr (va_up (va_up (va_up (va_up (va_up (va_up (va_up (va_up (va_up (fun _ => none) 0 (some o10)) 1 (some o11)) 2 (some o12)) 3 (some o13)) 4 (some o14)) 5 (some o15)) 6 (some o16)) 7 (some o17)) 8 (some o18))))))) :: (G ++ sh3 aC o18 a18)) H := hP
  have hD : va_D (nA o s.heap.size) ((o, .inr (9, [.ref o0, .ref r1, .ref o2, .ref o3, .ref o4, .ref o5, .ref o6, .ref o7, .ref r8, .int 0, .ref r9, .int 0, .int (-1), .int 0])) :: (r1, .inl (aC 3, 10, .inr (.inr (.inr (.inr (va_up (va_up (va_up (va_up (va_up (va_up (va_up (va_up (va_up (fun _ => none) 0 (some o10)) 1 (some o11)) 2 (some o12)) 3 (some o13)) 4 (some o14)) 5 (some o15)) 6 (some o16)) 7 (some o17)) 8 (some o18))))))) :: (G ++ sh3 aC o18 a18)) := hD
  obtain ⟨G18, hG18⟩ : ∃ z, z = G ++ sh3 aC o18 a18 := ⟨_, rfl⟩
  rw [← hG18] at hP hD
  obtain ⟨G, hE18⟩ : ∃ z, z = G18 := ⟨_, rfl⟩
  rw [← hE18] at hP hD
  refine lv_iinc (v := nI 9) (lv' := [(1, .int (nI 9)), (0, .ref o)]) hx hb dX9_init_132 hl (k := 0) rfl (by decide) (by decide) rfl (fun ls hl => ?_)
  refine lv_goto (tgt := 113) hx hb dX9_init_135 (by decide) ?_
  refine lv_iload_n hx hb dX9_init_113 rfl (lv_at hl 0 rfl) ?_
  refine lv_bipush (v := nI 10) hx hb dX9_init_114 (by decide) ?_
  refine nx_icmp_ge (a := 9) (b := 10) (tgt := 138) hx hb dX9_init_116 (by decide) (by decide) (by decide) (fun h9 => absurd h9 (by decide)) (fun _ => ?_)
  refine lv_aload_n hx hb dX9_init_119 rfl (lv_at hl 1 rfl) ?_
  refine va_get (D := (dC, dI)) (ci := 9) (C := RX9) (T := TX9) (N := 14) hx hb hts hin9 hown hK hP 0 rfl rfl 1 (by decide) lk10 (fun _ h9 => h9) rfl dX9_init_120 ?_
  refine lv_iload_n hx hb dX9_init_123 rfl (lv_at hl 0 rfl) ?_
  refine xn_newN (ix := 16) (index := 22) (ci := 3) (C := RX3) (T := TX3) (N := 2) (fs := [.null, .int 0]) (sh := sh3 aC) (rest := [.int (nI 9), .ref r1]) ⟨hx, hb, hml, hown, hts⟩ hin3 tyX3 tyX3_ok lk9 lk13 lk11 hN hK hP hD hS (fun q h => Or.inr h) rfl (fun j hj => by rcases (show j = 0 ∨ j = 1 by omega) with rfl | rfl <;> rfl) (fun q => n_3 l dC dI aC q) ⟨va_cnB 0 hts gX9_init_X3_init_n22 rfl rfl rfl nk6 lk11 (by decide +kernel) ⟨Nat.le_of_ble_eq_true rfl, Nat.le_of_ble_eq_true rfl⟩, rfl, lk12⟩ hl.1 (Nat.le_of_ble_eq_true rfl) (Nat.le_of_ble_eq_true rfl) (Nat.le_of_ble_eq_true rfl) dX9_init_124 dX9_init_127 dX9_init_128 (fun o19 a19 H locs hP hD hS => ?_)
  have hP : va_P (dC, dI) vwCl ((o, .inr (9, [.ref o0, .ref r1, .ref o2, .ref o3, .ref o4, .ref o5, .ref o6, .ref o7, .ref r8, .int 0, .ref r9, .int 0, .int (-1), .int 0])) :: (r1, .inl (aC 3, 10, .inr (.inr (.inr (.inr (va_up (va_up (va_up (va_up (va_up (va_up (va_up (va_up (va_up (fun _ => none) 0 (some o10)) 1 (some o11)) 2 (some o12)) 3 (some o13)) 4 (some o14)) 5 (some o15)) 6 (some o16)) 7 (some o17)) 8 (some o18))))))) :: (G ++ sh3 aC o19 a19)) H := hP
  have hD : va_D (nA o s.heap.size) ((o, .inr (9, [.ref o0, .ref r1, .ref o2, .ref o3, .ref o4, .ref o5, .ref o6, .ref o7, .ref r8, .int 0, .ref r9, .int 0, .int (-1), .int 0])) :: (r1, .inl (aC 3, 10, .inr (.inr (.inr (.inr (va_up (va_up (va_up (va_up (va_up (va_up (va_up (va_up (va_up (fun _ => none) 0 (some o10)) 1 (some o11)) 2 (some o12)) 3 (some o13)) 4 (some o14)) 5 (some o15)) 6 (some o16)) 7 (some o17)) 8 (some o18))))))) :: (G ++ sh3 aC o19 a19)) := hD
  refine va_astq hx hb hK hP hD hS 1 3 (G.length + 2) 3 rfl rfl (by exact ix_new) rfl (vp_in_nI (n := 9) (N := 10) (by decide) (by decide)) dX9_init_131 (fun H locs hP hD hS => ?_)
  have hP : va_P (dC, dI) vwCl ((o, .inr (9, [.ref o0, .ref r1, .ref o2, .ref o3, .ref o4, .ref o5, .ref o6, .ref o7, .ref r8, .int 0, .ref r9, .int 0, .int (-1), .int 0])) :: (r1, .inl (aC 3, 10, .inr (.inr (.inr (.inr (va_up (va_up (va_up (va_up (va_up (va_up (va_up (va_up (va_up (va_up (fun _ => none) 0 (some o10)) 1 (some o11)) 2 (some o12)) 3 (some o13)) 4 (some o14)) 5 (some o15)) 6 (some o16)) 7 (some o17)) 8 (some o18)) 9 (some o19))))))) :: (G ++ sh3 aC o19 a19)) H := hP
  have hD : va_D (nA o s.heap.size) ((o, .inr (9, [.ref o0, .ref r1, .ref o2, .ref o3, .ref o4, .ref o5, .ref o6, .ref o7, .ref r8, .int 0, .ref r9, .int 0, .int (-1), .int 0])) :: (r1, .inl (aC 3, 10, .inr (.inr (.inr (.inr (va_up (va_up (va_up (va_up (va_up (va_up (va_up (va_up (va_up (va_up (fun _ => none) 0 (some o10)) 1 (some o11)) 2 (some o12)) 3 (some o13)) 4 (some o14)) 5 (some o15)) 6 (some o16)) 7 (some o17)) 8 (some o18)) 9 (some o19))))))) :: (G ++ sh3 aC o19 a19)) := hD
  obtain ⟨G19, hG19⟩ : ∃ z, z = G ++ sh3 aC o19 a19 := ⟨_, rfl⟩
  rw [← hG19] at hP hD
  obtain ⟨G, hE19⟩ : ∃ z, z = G19 := ⟨_, rfl⟩
  rw [← hE19] at hP hD
  refine lv_iinc (v := nI 10) (lv' := [(1, .int (nI 10)), (0, .ref o)]) hx hb dX9_init_132 hl (k := 0) rfl (by decide) (by decide) rfl (fun ls hl => ?_)
  refine lv_goto (tgt := 113) hx hb dX9_init_135 (by decide) ?_
  refine lv_iload_n hx hb dX9_init_113 rfl (lv_at hl 0 rfl) ?_
  refine lv_bipush (v := nI 10) hx hb dX9_init_114 (by decide) ?_
  refine nx_icmp_ge (a := 10) (b := 10) (tgt := 138) hx hb dX9_init_116 (by decide) (by decide) (by decide) (fun _ => ?_) (fun h9 => absurd h9 (by decide))
  have hP : va_P (dC, dI) vwCl ((o, .inr (9, [.ref o0, .ref r1, .ref o2, .ref o3, .ref o4, .ref o5, .ref o6, .ref o7, .ref r8, .int 0, .ref r9, .int 0, .int (-1), .int 0])) :: (r1, .inl (aC 3, 10, .inr (.inr (.inr (.inr (upsF (fun i => ((pkF (o19, a19) [(o10, a10), (o11, a11), (o12, a12), (o13, a13), (o14, a14), (o15, a15), (o16, a16), (o17, a17), (o18, a18), (o19, a19)]) i).1) 10)))))) :: G) H := hP
  have hD : va_D (nA o s.heap.size) ((o, .inr (9, [.ref o0, .ref r1, .ref o2, .ref o3, .ref o4, .ref o5, .ref o6, .ref o7, .ref r8, .int 0, .ref r9, .int 0, .int (-1), .int 0])) :: (r1, .inl (aC 3, 10, .inr (.inr (.inr (.inr (upsF (fun i => ((pkF (o19, a19) [(o10, a10), (o11, a11), (o12, a12), (o13, a13), (o14, a14), (o15, a15), (o16, a16), (o17, a17), (o18, a18), (o19, a19)]) i).1) 10)))))) :: G) := hD
  rw [upsF_eq] at hP hD
  subst hQ
  subst hE19
  subst hG19
  subst hE18
  subst hG18
  subst hE17
  subst hG17
  subst hE16
  subst hG16
  subst hE15
  subst hG15
  subst hE14
  subst hG14
  subst hE13
  subst hG13
  subst hE12
  subst hG12
  subst hE11
  subst hG11
  subst hE10
  subst hG10
  subst hE9
  subst hG9
  subst hE8
  subst hG8
  subst hE7
  subst hG7
  subst hE6
  subst hG6
  subst hE5
  subst hG5
  subst hE4
  subst hG4
  subst hE3
  subst hG3
  subst hE2
  subst hG2
  subst hE1
  subst hG1
  subst hE0
  exact xn_ret (sh := sh9 aC) (a := ((o0, a0), r1, (o2, a2), (o3, a3), (o4, a4), (o5, a5), (o6, a6), (o7, a7), r8, r9, (pkF (o19, a19) [(o10, a10), (o11, a11), (o12, a12), (o13, a13), (o14, a14), (o15, a15), (o16, a16), (o17, a17), (o18, a18), (o19, a19)]))) hx hb hret hlocks hP hD hS (Nat.le_of_ble_eq_true rfl) (Nat.le_of_ble_eq_true rfl) dX9_init_138
