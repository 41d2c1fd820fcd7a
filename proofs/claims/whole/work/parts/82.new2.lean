/-! the constructors -/
def upsF (r : Nat → Nat) : Nat → Nat → Option Nat
  | 0 => fun _ => none
  | n + 1 => va_up (upsF r n) n (some (r n))
theorem upsF_eq (r : Nat → Nat) : ∀ n, upsF r n = fun i => if i < n then some (r i) else none
  | 0 => rfl
  | n + 1 => by
    funext i
    rw [upsF, upsF_eq r n]
    by_cases h : i = n
    · rw [h, va_up_self, if_pos (Nat.lt_succ_self n)]
    · rw [upn h]
      by_cases h2 : i < n
      · rw [if_pos h2, if_pos (by omega)]
      · rw [if_neg h2, if_neg (by omega)]
def pkF {β : Type} (d : β) : List β → Nat → β
  | [], _ => d
  | x :: _, 0 => x
  | _ :: l, i + 1 => pkF d l i
def sh3 (aC : Nat → ClassId) (o : Nat) (a : Nat) : va_W := (o, .inr (3, [.ref a, .int 0])) :: (([] : va_W) ++ [(a, .inl (aC 0, 60, .inl (fun _ => 0)))])
set_option maxHeartbeats 4000000 in
set_option maxRecDepth 100000 in
theorem n_3 (l : Launch) (dC : Nat → ClassId) (dI : Nat → Nat → Nat) (aC : Nat → ClassId) (o : Nat) : Met l yX3_init wsX3_init ({ frames := 1, cells := 1, slots := 60, locals := 12 } : Room) (va_Pc [.ref o] (NP dC dI aC o (.inr (3, [.null, .int 0])))) (NQ dC dI (sh3 aC) o) 1 60 (fun q => q = o) := by
  refine Met.ofW (cc := cX3_init) (maxL := 1) (ret := none) (by decide) rfl ?_
  intro p e s m args below meth c s₁ B hml hv
  obtain ⟨rfl, hK, hP, hN⟩ := hv
  have hx := B.exec
  have hb := B.bytes
  have hret := B.returns
  have hts := atoms_spec (ws := wsX3_init) B.pre
  have hown : s.vm.findClass RX3 = some m.cls := findClass_of_methodNamed B.named
  have hlocks := B.notSynchronized
  have hnm : meth.name = "<init>" := (name_of_methodNamed B.named B.method).1
  have lk0 := hts (.methodLink RX3 3 objectInit) (by decide +kernel)
  have lk1 := hts (.instanceMethod objectInit) (by decide +kernel)
  have lk2 := hts (.code objectInit ⟨#[0xb1]⟩ 1 none) (by decide +kernel)
  have lk3 := hts (.arrayClass .int) (by decide +kernel)
  have lk4 := hts (.fieldLink RX3 9 "LeafTrees$Row" "symbols" "[I") (by decide +kernel)
  have hin3 : ∀ w ∈ u_ws RX3 TX3 2, w ∈ wsX3_init := by decide +kernel
  have hS : va_S (nA o s.heap.size) s.heap s.heap [] := va_S.rf
  have hD : va_D (nA o s.heap.size) [(o, .inr (3, [.null, .int 0]))] := va_D_one (Or.inl rfl)
  have hl := lv_entry [.ref o] (n := 1) (Nat.le_of_ble_eq_true rfl)
  rw [lg_entry_eq]
  generalize (lg_sl [.ref o] ++ List.replicate (1 - (lg_sl [.ref o]).length) Slot.unset).toArray = ls at hl ⊢
  have hl : lv_has ls 1 [(0, .ref o)] := hl
  refine nx_Q (R := ({ frames := 1, cells := 1, slots := 60, locals := 12 } : Room)) (fun Q hQ => ?_)
  obtain ⟨G, hE0⟩ : ∃ z : va_W, z = [] := ⟨_, rfl⟩
  rw [← hE0] at hP hD
  refine lv_aload_n hx hb dX3_init_0 rfl (lv_at hl 0 rfl) ?_
  refine W.objInit hx hb hown lk0 lk1 lk2 rfl (by rw [hml]; exact hl.1) rfl dX3_init_1 (Nat.le_of_ble_eq_true rfl) (Nat.le_of_ble_eq_true rfl) ?_
  refine W.eq (g2 := F0 m 4 ls []) rfl ?_
  refine lv_aload_n hx hb dX3_init_4 rfl (lv_at hl 0 rfl) ?_
  refine lv_bipush (v := nI 60) hx hb dX3_init_5 (by decide) ?_
  refine va_newa (atype := .int) (ty := .int) (N' := 60) (a0 := (60, .inl (fun _ => 0))) hx hb lk3 rfl hK hP hD hS (fun q h => Or.inr h) (fun cA => rfl) (nI_pos (by decide)) (nI_clamp (by decide)) (by decide) (Nat.le_of_ble_eq_true rfl) (Nat.le_of_ble_eq_true rfl) dX3_init_7 (fun r0 cA H hK1 hP hD hS => ?_)
  obtain rfl := aC_int hK hK1
  clear hK1
  have hP : va_P (dC, dI) vwCl ((o, .inr (3, [.null, .int 0])) :: (G ++ [(r0, .inl (aC 0, 60, .inl (fun _ => 0)))])) H := hP
  have hD : va_D (nA o s.heap.size) ((o, .inr (3, [.null, .int 0])) :: (G ++ [(r0, .inl (aC 0, 60, .inl (fun _ => 0)))])) := hD
  obtain ⟨G1, hG1⟩ : ∃ z, z = G ++ [(r0, .inl (aC 0, 60, .inl (fun _ => 0)))] := ⟨_, rfl⟩
  rw [← hG1] at hP hD
  obtain ⟨G, hE1⟩ : ∃ z, z = G1 := ⟨_, rfl⟩
  rw [← hE1] at hP hD
  refine va_putF (D := (dC, dI)) (ci := 3) (v := .ref r0) (ty := .array .int) (C := RX3) (T := TX3) (N := 2) hx hb hts hin3 tyX3 tyX3_ok nmX3 hown hK hP hD hS 0 rfl rfl 0 (by decide) lk4 (fun _ h9 => h9) rfl hnm rfl (by decide +kernel) rfl rfl (Nat.le_of_ble_eq_true rfl) dX3_init_9 (fun H locs hP hD hS => ?_)
  have hP : va_P (dC, dI) vwCl ((o, .inr (3, [.ref r0, .int 0])) :: G) H := hP
  have hD : va_D (nA o s.heap.size) ((o, .inr (3, [.ref r0, .int 0])) :: G) := hD
  subst hQ
  subst hE1
  subst hG1
  subst hE0
  exact xn_ret (sh := sh3 aC) (a := r0) hx hb hret hlocks hP hD hS (Nat.le_of_ble_eq_true rfl) (Nat.le_of_ble_eq_true rfl) dX3_init_12

def sh6 (aC : Nat → ClassId) (o : Nat) (a : Nat) : va_W := (o, .inr (6, [.ref a])) :: (([] : va_W) ++ [(a, .inl (aC 0, 60, .inl (fun _ => 0)))])
set_option maxHeartbeats 4000000 in
set_option maxRecDepth 100000 in
theorem n_6 (l : Launch) (dC : Nat → ClassId) (dI : Nat → Nat → Nat) (aC : Nat → ClassId) (o : Nat) : Met l yX6_init wsX6_init ({ frames := 1, cells := 1, slots := 60, locals := 12 } : Room) (va_Pc [.ref o] (NP dC dI aC o (.inr (6, [.null])))) (NQ dC dI (sh6 aC) o) 1 60 (fun q => q = o) := by
  refine Met.ofW (cc := cX6_init) (maxL := 1) (ret := none) (by decide) rfl ?_
  intro p e s m args below meth c s₁ B hml hv
  obtain ⟨rfl, hK, hP, hN⟩ := hv
  have hx := B.exec
  have hb := B.bytes
  have hret := B.returns
  have hts := atoms_spec (ws := wsX6_init) B.pre
  have hown : s.vm.findClass RX6 = some m.cls := findClass_of_methodNamed B.named
  have hlocks := B.notSynchronized
  have hnm : meth.name = "<init>" := (name_of_methodNamed B.named B.method).1
  have lk0 := hts (.methodLink RX6 3 objectInit) (by decide +kernel)
  have lk1 := hts (.instanceMethod objectInit) (by decide +kernel)
  have lk2 := hts (.code objectInit ⟨#[0xb1]⟩ 1 none) (by decide +kernel)
  have lk3 := hts (.arrayClass .int) (by decide +kernel)
  have lk4 := hts (.fieldLink RX6 9 "LeafTrees$Shape" "ends" "[I") (by decide +kernel)
  have hin6 : ∀ w ∈ u_ws RX6 TX6 1, w ∈ wsX6_init := by decide +kernel
  have hS : va_S (nA o s.heap.size) s.heap s.heap [] := va_S.rf
  have hD : va_D (nA o s.heap.size) [(o, .inr (6, [.null]))] := va_D_one (Or.inl rfl)
  have hl := lv_entry [.ref o] (n := 1) (Nat.le_of_ble_eq_true rfl)
  rw [lg_entry_eq]
  generalize (lg_sl [.ref o] ++ List.replicate (1 - (lg_sl [.ref o]).length) Slot.unset).toArray = ls at hl ⊢
  have hl : lv_has ls 1 [(0, .ref o)] := hl
  refine nx_Q (R := ({ frames := 1, cells := 1, slots := 60, locals := 12 } : Room)) (fun Q hQ => ?_)
  obtain ⟨G, hE0⟩ : ∃ z : va_W, z = [] := ⟨_, rfl⟩
  rw [← hE0] at hP hD
  refine lv_aload_n hx hb dX6_init_0 rfl (lv_at hl 0 rfl) ?_
  refine W.objInit hx hb hown lk0 lk1 lk2 rfl (by rw [hml]; exact hl.1) rfl dX6_init_1 (Nat.le_of_ble_eq_true rfl) (Nat.le_of_ble_eq_true rfl) ?_
  refine W.eq (g2 := F0 m 4 ls []) rfl ?_
  refine lv_aload_n hx hb dX6_init_4 rfl (lv_at hl 0 rfl) ?_
  refine lv_bipush (v := nI 60) hx hb dX6_init_5 (by decide) ?_
  refine va_newa (atype := .int) (ty := .int) (N' := 60) (a0 := (60, .inl (fun _ => 0))) hx hb lk3 rfl hK hP hD hS (fun q h => Or.inr h) (fun cA => rfl) (nI_pos (by decide)) (nI_clamp (by decide)) (by decide) (Nat.le_of_ble_eq_true rfl) (Nat.le_of_ble_eq_true rfl) dX6_init_7 (fun r0 cA H hK1 hP hD hS => ?_)
  obtain rfl := aC_int hK hK1
  clear hK1
  have hP : va_P (dC, dI) vwCl ((o, .inr (6, [.null])) :: (G ++ [(r0, .inl (aC 0, 60, .inl (fun _ => 0)))])) H := hP
  have hD : va_D (nA o s.heap.size) ((o, .inr (6, [.null])) :: (G ++ [(r0, .inl (aC 0, 60, .inl (fun _ => 0)))])) := hD
  obtain ⟨G1, hG1⟩ : ∃ z, z = G ++ [(r0, .inl (aC 0, 60, .inl (fun _ => 0)))] := ⟨_, rfl⟩
  rw [← hG1] at hP hD
  obtain ⟨G, hE1⟩ : ∃ z, z = G1 := ⟨_, rfl⟩
  rw [← hE1] at hP hD
  refine va_putF (D := (dC, dI)) (ci := 6) (v := .ref r0) (ty := .array .int) (C := RX6) (T := TX6) (N := 1) hx hb hts hin6 tyX6 tyX6_ok nmX6 hown hK hP hD hS 0 rfl rfl 0 (by decide) lk4 (fun _ h9 => h9) rfl hnm rfl (by decide +kernel) rfl rfl (Nat.le_of_ble_eq_true rfl) dX6_init_9 (fun H locs hP hD hS => ?_)
  have hP : va_P (dC, dI) vwCl ((o, .inr (6, [.ref r0])) :: G) H := hP
  have hD : va_D (nA o s.heap.size) ((o, .inr (6, [.ref r0])) :: G) := hD
  subst hQ
  subst hE1
  subst hG1
  subst hE0
  exact xn_ret (sh := sh6 aC) (a := r0) hx hb hret hlocks hP hD hS (Nat.le_of_ble_eq_true rfl) (Nat.le_of_ble_eq_true rfl) dX6_init_12

def sh7 (aC : Nat → ClassId) (o : Nat) (a : Nat × Nat) : va_W := (o, .inr (7, [.ref a.1, .ref a.2, .int 0])) :: ((([] : va_W) ++ [(a.1, .inl (aC 1, 16, .inr (.inl (fun _ => 0))))]) ++ [(a.2, .inl (aC 1, 16, .inr (.inl (fun _ => 0))))])
set_option maxHeartbeats 4000000 in
set_option maxRecDepth 100000 in
theorem n_7 (l : Launch) (dC : Nat → ClassId) (dI : Nat → Nat → Nat) (aC : Nat → ClassId) (o : Nat) : Met l yX7_init wsX7_init ({ frames := 1, cells := 2, slots := 32, locals := 12 } : Room) (va_Pc [.ref o] (NP dC dI aC o (.inr (7, [.null, .null, .int 0])))) (NQ dC dI (sh7 aC) o) 2 32 (fun q => q = o) := by
  refine Met.ofW (cc := cX7_init) (maxL := 1) (ret := none) (by decide) rfl ?_
  intro p e s m args below meth c s₁ B hml hv
  obtain ⟨rfl, hK, hP, hN⟩ := hv
  have hx := B.exec
  have hb := B.bytes
  have hret := B.returns
  have hts := atoms_spec (ws := wsX7_init) B.pre
  have hown : s.vm.findClass RX7 = some m.cls := findClass_of_methodNamed B.named
  have hlocks := B.notSynchronized
  have hnm : meth.name = "<init>" := (name_of_methodNamed B.named B.method).1
  have lk0 := hts (.methodLink RX7 1 objectInit) (by decide +kernel)
  have lk1 := hts (.instanceMethod objectInit) (by decide +kernel)
  have lk2 := hts (.code objectInit ⟨#[0xb1]⟩ 1 none) (by decide +kernel)
  have lk3 := hts (.arrayClass .long) (by decide +kernel)
  have lk4 := hts (.fieldLink RX7 7 "LeafTrees$Tally" "kinds" "[J") (by decide +kernel)
  have lk5 := hts (.fieldLink RX7 13 "LeafTrees$Tally" "trees" "[J") (by decide +kernel)
  have hin7 : ∀ w ∈ u_ws RX7 TX7 3, w ∈ wsX7_init := by decide +kernel
  have hS : va_S (nA o s.heap.size) s.heap s.heap [] := va_S.rf
  have hD : va_D (nA o s.heap.size) [(o, .inr (7, [.null, .null, .int 0]))] := va_D_one (Or.inl rfl)
  have hl := lv_entry [.ref o] (n := 1) (Nat.le_of_ble_eq_true rfl)
  rw [lg_entry_eq]
  generalize (lg_sl [.ref o] ++ List.replicate (1 - (lg_sl [.ref o]).length) Slot.unset).toArray = ls at hl ⊢
  have hl : lv_has ls 1 [(0, .ref o)] := hl
  refine nx_Q (R := ({ frames := 1, cells := 2, slots := 32, locals := 12 } : Room)) (fun Q hQ => ?_)
  obtain ⟨G, hE0⟩ : ∃ z : va_W, z = [] := ⟨_, rfl⟩
  rw [← hE0] at hP hD
  refine lv_aload_n hx hb dX7_init_0 rfl (lv_at hl 0 rfl) ?_
  refine W.objInit hx hb hown lk0 lk1 lk2 rfl (by rw [hml]; exact hl.1) rfl dX7_init_1 (Nat.le_of_ble_eq_true rfl) (Nat.le_of_ble_eq_true rfl) ?_
  refine W.eq (g2 := F0 m 4 ls []) rfl ?_
  refine lv_aload_n hx hb dX7_init_4 rfl (lv_at hl 0 rfl) ?_
  refine lv_bipush (v := nI 16) hx hb dX7_init_5 (by decide) ?_
  refine va_newa (atype := .long) (ty := .long) (N' := 16) (a0 := (16, .inr (.inl (fun _ => 0)))) hx hb lk3 rfl hK hP hD hS (fun q h => Or.inr h) (fun cA => rfl) (nI_pos (by decide)) (nI_clamp (by decide)) (by decide) (Nat.le_of_ble_eq_true rfl) (Nat.le_of_ble_eq_true rfl) dX7_init_7 (fun r0 cA H hK1 hP hD hS => ?_)
  obtain rfl := aC_long hK hK1
  clear hK1
  have hP : va_P (dC, dI) vwCl ((o, .inr (7, [.null, .null, .int 0])) :: (G ++ [(r0, .inl (aC 1, 16, .inr (.inl (fun _ => 0))))])) H := hP
  have hD : va_D (nA o s.heap.size) ((o, .inr (7, [.null, .null, .int 0])) :: (G ++ [(r0, .inl (aC 1, 16, .inr (.inl (fun _ => 0))))])) := hD
  obtain ⟨G1, hG1⟩ : ∃ z, z = G ++ [(r0, .inl (aC 1, 16, .inr (.inl (fun _ => 0))))] := ⟨_, rfl⟩
  rw [← hG1] at hP hD
  obtain ⟨G, hE1⟩ : ∃ z, z = G1 := ⟨_, rfl⟩
  rw [← hE1] at hP hD
  refine va_put (D := (dC, dI)) (ci := 7) (v := .ref r0) (ty := .array .long) (C := RX7) (T := TX7) (N := 3) hx hb hts hin7 tyX7 tyX7_ok nmX7 hown hK hP hD hS 0 rfl rfl 0 (by decide) lk4 (fun _ h9 => h9) rfl (by decide +kernel) rfl rfl (Nat.le_of_ble_eq_true rfl) dX7_init_9 (fun H locs hP hD hS => ?_)
  have hP : va_P (dC, dI) vwCl ((o, .inr (7, [.ref r0, .null, .int 0])) :: G) H := hP
  have hD : va_D (nA o s.heap.size) ((o, .inr (7, [.ref r0, .null, .int 0])) :: G) := hD
  refine lv_aload_n hx hb dX7_init_12 rfl (lv_at hl 0 rfl) ?_
  refine lv_bipush (v := nI 16) hx hb dX7_init_13 (by decide) ?_
  refine va_newa (atype := .long) (ty := .long) (N' := 16) (a0 := (16, .inr (.inl (fun _ => 0)))) hx hb lk3 rfl hK hP hD hS (fun q h => Or.inr h) (fun cA => rfl) (nI_pos (by decide)) (nI_clamp (by decide)) (by decide) (Nat.le_of_ble_eq_true rfl) (Nat.le_of_ble_eq_true rfl) dX7_init_15 (fun r1 cA H hK1 hP hD hS => ?_)
  obtain rfl := aC_long hK hK1
  clear hK1
  have hP : va_P (dC, dI) vwCl ((o, .inr (7, [.ref r0, .null, .int 0])) :: (G ++ [(r1, .inl (aC 1, 16, .inr (.inl (fun _ => 0))))])) H := hP
  have hD : va_D (nA o s.heap.size) ((o, .inr (7, [.ref r0, .null, .int 0])) :: (G ++ [(r1, .inl (aC 1, 16, .inr (.inl (fun _ => 0))))])) := hD
  obtain ⟨G2, hG2⟩ : ∃ z, z = G ++ [(r1, .inl (aC 1, 16, .inr (.inl (fun _ => 0))))] := ⟨_, rfl⟩
  rw [← hG2] at hP hD
  obtain ⟨G, hE2⟩ : ∃ z, z = G2 := ⟨_, rfl⟩
  rw [← hE2] at hP hD
  refine va_put (D := (dC, dI)) (ci := 7) (v := .ref r1) (ty := .array .long) (C := RX7) (T := TX7) (N := 3) hx hb hts hin7 tyX7 tyX7_ok nmX7 hown hK hP hD hS 0 rfl rfl 1 (by decide) lk5 (fun _ h9 => h9) rfl (by decide +kernel) rfl rfl (Nat.le_of_ble_eq_true rfl) dX7_init_17 (fun H locs hP hD hS => ?_)
  have hP : va_P (dC, dI) vwCl ((o, .inr (7, [.ref r0, .ref r1, .int 0])) :: G) H := hP
  have hD : va_D (nA o s.heap.size) ((o, .inr (7, [.ref r0, .ref r1, .int 0])) :: G) := hD
  subst hQ
  subst hE2
  subst hG2
  subst hE1
  subst hG1
  subst hE0
  exact xn_ret (sh := sh7 aC) (a := (r0, r1)) hx hb hret hlocks hP hD hS (Nat.le_of_ble_eq_true rfl) (Nat.le_of_ble_eq_true rfl) dX7_init_20

def sh4 (aC : Nat → ClassId) (o : Nat) (a : (Nat × Nat) × (Nat × Nat)) : va_W := (o, .inr (4, [.ref a.1.1, .ref a.2.1, .int 0])) :: ((([] : va_W) ++ sh3 aC a.1.1 a.1.2) ++ sh3 aC a.2.1 a.2.2)
set_option maxHeartbeats 4000000 in
set_option maxRecDepth 100000 in
theorem n_4 (l : Launch) (dC : Nat → ClassId) (dI : Nat → Nat → Nat) (aC : Nat → ClassId) (o : Nat) : Met l yX4_init wsX4_init ({ frames := 2, cells := 4, slots := 124, locals := 32 } : Room) (va_Pc [.ref o] (NP dC dI aC o (.inr (4, [.null, .null, .int 0])))) (NQ dC dI (sh4 aC) o) 4 124 (fun q => q = o) := by
  refine Met.ofW (cc := cX4_init) (maxL := 1) (ret := none) (by decide) rfl ?_
  intro p e s m args below meth c s₁ B hml hv
  obtain ⟨rfl, hK, hP, hN⟩ := hv
  have hx := B.exec
  have hb := B.bytes
  have hret := B.returns
  have hts := atoms_spec (ws := wsX4_init) B.pre
  have hown : s.vm.findClass RX4 = some m.cls := findClass_of_methodNamed B.named
  have hlocks := B.notSynchronized
  have hnm : meth.name = "<init>" := (name_of_methodNamed B.named B.method).1
  have lk0 := hts (.methodLink RX4 1 objectInit) (by decide +kernel)
  have lk1 := hts (.instanceMethod objectInit) (by decide +kernel)
  have lk2 := hts (.code objectInit ⟨#[0xb1]⟩ 1 none) (by decide +kernel)
  have lk3 := hts (.initialized RX3) (by decide +kernel)
  have lk4 := hts (.instanceMethod yX3_init) (by decide +kernel)
  have lk5 := hts (.classLink RX4 7 RX3) (by decide +kernel)
  have lk6 := hts (.instantiable RX3 2) (by decide +kernel)
  have lk7 := hts (.fieldLink RX4 10 "LeafTrees$Rule" "left" "LLeafTrees$Row;") (by decide +kernel)
  have lk8 := hts (.fieldLink RX4 16 "LeafTrees$Rule" "right" "LLeafTrees$Row;") (by decide +kernel)
  have nk0 : va_Nw (.methodLinkNest RX4 9 yX3_init "LeafTrees") s := hN.1 (RX4, 9, yX3_init) (List.mem_of_getElem? (i := 0) rfl)
  have hin3 : ∀ w ∈ u_ws RX3 TX3 2, w ∈ wsX4_init := by decide +kernel
  have hin4 : ∀ w ∈ u_ws RX4 TX4 3, w ∈ wsX4_init := by decide +kernel
  have hS : va_S (nA o s.heap.size) s.heap s.heap [] := va_S.rf
  have hD : va_D (nA o s.heap.size) [(o, .inr (4, [.null, .null, .int 0]))] := va_D_one (Or.inl rfl)
  have hl := lv_entry [.ref o] (n := 1) (Nat.le_of_ble_eq_true rfl)
  rw [lg_entry_eq]
  generalize (lg_sl [.ref o] ++ List.replicate (1 - (lg_sl [.ref o]).length) Slot.unset).toArray = ls at hl ⊢
  have hl : lv_has ls 1 [(0, .ref o)] := hl
  refine nx_Q (R := ({ frames := 2, cells := 4, slots := 124, locals := 32 } : Room)) (fun Q hQ => ?_)
  obtain ⟨G, hE0⟩ : ∃ z : va_W, z = [] := ⟨_, rfl⟩
  rw [← hE0] at hP hD
  refine lv_aload_n hx hb dX4_init_0 rfl (lv_at hl 0 rfl) ?_
  refine W.objInit hx hb hown lk0 lk1 lk2 rfl (by rw [hml]; exact hl.1) rfl dX4_init_1 (Nat.le_of_ble_eq_true rfl) (Nat.le_of_ble_eq_true rfl) ?_
  refine W.eq (g2 := F0 m 4 ls []) rfl ?_
  refine lv_aload_n hx hb dX4_init_4 rfl (lv_at hl 0 rfl) ?_
  refine xn_newN (ix := 7) (index := 9) (ci := 3) (C := RX3) (T := TX3) (N := 2) (fs := [.null, .int 0]) (sh := sh3 aC) (rest := [.ref o]) ⟨hx, hb, hml, hown, hts⟩ hin3 tyX3 tyX3_ok lk5 lk6 lk3 hN hK hP hD hS (fun q h => Or.inr h) rfl (fun j hj => by rcases (show j = 0 ∨ j = 1 by omega) with rfl | rfl <;> rfl) (fun q => n_3 l dC dI aC q) ⟨va_cnB 0 hts gX4_init_X3_init_n9 rfl rfl rfl nk0 lk3 (by decide +kernel) ⟨Nat.le_of_ble_eq_true rfl, Nat.le_of_ble_eq_true rfl⟩, rfl, lk4⟩ hl.1 (Nat.le_of_ble_eq_true rfl) (Nat.le_of_ble_eq_true rfl) (Nat.le_of_ble_eq_true rfl) dX4_init_5 dX4_init_8 dX4_init_9 (fun o0 a0 H locs hP hD hS => ?_)
  have hP : va_P (dC, dI) vwCl ((o, .inr (4, [.null, .null, .int 0])) :: (G ++ sh3 aC o0 a0)) H := hP
  have hD : va_D (nA o s.heap.size) ((o, .inr (4, [.null, .null, .int 0])) :: (G ++ sh3 aC o0 a0)) := hD
  obtain ⟨G1, hG1⟩ : ∃ z, z = G ++ sh3 aC o0 a0 := ⟨_, rfl⟩
  rw [← hG1] at hP hD
  obtain ⟨G, hE1⟩ : ∃ z, z = G1 := ⟨_, rfl⟩
  rw [← hE1] at hP hD
  refine va_putF (D := (dC, dI)) (ci := 4) (v := .ref o0) (ty := .object "LeafTrees$Row") (C := RX4) (T := TX4) (N := 3) hx hb hts hin4 tyX4 tyX4_ok nmX4 hown hK hP hD hS 0 rfl rfl 0 (by decide) lk7 (fun _ h9 => h9) rfl hnm rfl (by decide +kernel) rfl rfl (Nat.le_of_ble_eq_true rfl) dX4_init_12 (fun H locs hP hD hS => ?_)
  have hP : va_P (dC, dI) vwCl ((o, .inr (4, [.ref o0, .null, .int 0])) :: G) H := hP
  have hD : va_D (nA o s.heap.size) ((o, .inr (4, [.ref o0, .null, .int 0])) :: G) := hD
  refine lv_aload_n hx hb dX4_init_15 rfl (lv_at hl 0 rfl) ?_
  refine xn_newN (ix := 7) (index := 9) (ci := 3) (C := RX3) (T := TX3) (N := 2) (fs := [.null, .int 0]) (sh := sh3 aC) (rest := [.ref o]) ⟨hx, hb, hml, hown, hts⟩ hin3 tyX3 tyX3_ok lk5 lk6 lk3 hN hK hP hD hS (fun q h => Or.inr h) rfl (fun j hj => by rcases (show j = 0 ∨ j = 1 by omega) with rfl | rfl <;> rfl) (fun q => n_3 l dC dI aC q) ⟨va_cnB 0 hts gX4_init_X3_init_n9 rfl rfl rfl nk0 lk3 (by decide +kernel) ⟨Nat.le_of_ble_eq_true rfl, Nat.le_of_ble_eq_true rfl⟩, rfl, lk4⟩ hl.1 (Nat.le_of_ble_eq_true rfl) (Nat.le_of_ble_eq_true rfl) (Nat.le_of_ble_eq_true rfl) dX4_init_16 dX4_init_19 dX4_init_20 (fun o1 a1 H locs hP hD hS => ?_)
  have hP : va_P (dC, dI) vwCl ((o, .inr (4, [.ref o0, .null, .int 0])) :: (G ++ sh3 aC o1 a1)) H := hP
  have hD : va_D (nA o s.heap.size) ((o, .inr (4, [.ref o0, .null, .int 0])) :: (G ++ sh3 aC o1 a1)) := hD
  obtain ⟨G2, hG2⟩ : ∃ z, z = G ++ sh3 aC o1 a1 := ⟨_, rfl⟩
  rw [← hG2] at hP hD
  obtain ⟨G, hE2⟩ : ∃ z, z = G2 := ⟨_, rfl⟩
  rw [← hE2] at hP hD
  refine va_putF (D := (dC, dI)) (ci := 4) (v := .ref o1) (ty := .object "LeafTrees$Row") (C := RX4) (T := TX4) (N := 3) hx hb hts hin4 tyX4 tyX4_ok nmX4 hown hK hP hD hS 0 rfl rfl 1 (by decide) lk8 (fun _ h9 => h9) rfl hnm rfl (by decide +kernel) rfl rfl (Nat.le_of_ble_eq_true rfl) dX4_init_23 (fun H locs hP hD hS => ?_)
  have hP : va_P (dC, dI) vwCl ((o, .inr (4, [.ref o0, .ref o1, .int 0])) :: G) H := hP
  have hD : va_D (nA o s.heap.size) ((o, .inr (4, [.ref o0, .ref o1, .int 0])) :: G) := hD
  subst hQ
  subst hE2
  subst hG2
  subst hE1
  subst hG1
  subst hE0
  exact xn_ret (sh := sh4 aC) (a := ((o0, a0), (o1, a1))) hx hb hret hlocks hP hD hS (Nat.le_of_ble_eq_true rfl) (Nat.le_of_ble_eq_true rfl) dX4_init_26

def sh1 (aC : Nat → ClassId) (o : Nat) (a : Nat × Nat) : va_W := (o, .inr (1, [.ref a.1, .int 0, .int 0, .int 0, .int 0])) :: (([] : va_W) ++ sh3 aC a.1 a.2)
set_option maxHeartbeats 4000000 in
set_option maxRecDepth 100000 in
theorem n_1 (l : Launch) (dC : Nat → ClassId) (dI : Nat → Nat → Nat) (aC : Nat → ClassId) (o : Nat) : Met l yX1_init wsX1_init ({ frames := 2, cells := 2, slots := 62, locals := 32 } : Room) (va_Pc [.ref o] (NP dC dI aC o (.inr (1, [.null, .int 0, .int 0, .int 0, .int 0])))) (NQ dC dI (sh1 aC) o) 2 62 (fun q => q = o) := by
  refine Met.ofW (cc := cX1_init) (maxL := 1) (ret := none) (by decide) rfl ?_
  intro p e s m args below meth c s₁ B hml hv
  obtain ⟨rfl, hK, hP, hN⟩ := hv
  have hx := B.exec
  have hb := B.bytes
  have hret := B.returns
  have hts := atoms_spec (ws := wsX1_init) B.pre
  have hown : s.vm.findClass RX1 = some m.cls := findClass_of_methodNamed B.named
  have hlocks := B.notSynchronized
  have hnm : meth.name = "<init>" := (name_of_methodNamed B.named B.method).1
  have lk0 := hts (.methodLink RX1 3 objectInit) (by decide +kernel)
  have lk1 := hts (.instanceMethod objectInit) (by decide +kernel)
  have lk2 := hts (.code objectInit ⟨#[0xb1]⟩ 1 none) (by decide +kernel)
  have lk3 := hts (.initialized RX3) (by decide +kernel)
  have lk4 := hts (.instanceMethod yX3_init) (by decide +kernel)
  have lk5 := hts (.classLink RX1 9 RX3) (by decide +kernel)
  have lk6 := hts (.instantiable RX3 2) (by decide +kernel)
  have lk7 := hts (.fieldLink RX1 12 "LeafTrees$Peaks" "top" "LLeafTrees$Row;") (by decide +kernel)
  have nk1 : va_Nw (.methodLinkNest RX1 11 yX3_init "LeafTrees") s := hN.1 (RX1, 11, yX3_init) (List.mem_of_getElem? (i := 1) rfl)
  have hin1 : ∀ w ∈ u_ws RX1 TX1 5, w ∈ wsX1_init := by decide +kernel
  have hin3 : ∀ w ∈ u_ws RX3 TX3 2, w ∈ wsX1_init := by decide +kernel
  have hS : va_S (nA o s.heap.size) s.heap s.heap [] := va_S.rf
  have hD : va_D (nA o s.heap.size) [(o, .inr (1, [.null, .int 0, .int 0, .int 0, .int 0]))] := va_D_one (Or.inl rfl)
  have hl := lv_entry [.ref o] (n := 1) (Nat.le_of_ble_eq_true rfl)
  rw [lg_entry_eq]
  generalize (lg_sl [.ref o] ++ List.replicate (1 - (lg_sl [.ref o]).length) Slot.unset).toArray = ls at hl ⊢
  have hl : lv_has ls 1 [(0, .ref o)] := hl
  refine nx_Q (R := ({ frames := 2, cells := 2, slots := 62, locals := 32 } : Room)) (fun Q hQ => ?_)
  obtain ⟨G, hE0⟩ : ∃ z : va_W, z = [] := ⟨_, rfl⟩
  rw [← hE0] at hP hD
  refine lv_aload_n hx hb dX1_init_0 rfl (lv_at hl 0 rfl) ?_
  refine W.objInit hx hb hown lk0 lk1 lk2 rfl (by rw [hml]; exact hl.1) rfl dX1_init_1 (Nat.le_of_ble_eq_true rfl) (Nat.le_of_ble_eq_true rfl) ?_
  refine W.eq (g2 := F0 m 4 ls []) rfl ?_
  refine lv_aload_n hx hb dX1_init_4 rfl (lv_at hl 0 rfl) ?_
  refine xn_newN (ix := 9) (index := 11) (ci := 3) (C := RX3) (T := TX3) (N := 2) (fs := [.null, .int 0]) (sh := sh3 aC) (rest := [.ref o]) ⟨hx, hb, hml, hown, hts⟩ hin3 tyX3 tyX3_ok lk5 lk6 lk3 hN hK hP hD hS (fun q h => Or.inr h) rfl (fun j hj => by rcases (show j = 0 ∨ j = 1 by omega) with rfl | rfl <;> rfl) (fun q => n_3 l dC dI aC q) ⟨va_cnB 0 hts gX1_init_X3_init_n11 rfl rfl rfl nk1 lk3 (by decide +kernel) ⟨Nat.le_of_ble_eq_true rfl, Nat.le_of_ble_eq_true rfl⟩, rfl, lk4⟩ hl.1 (Nat.le_of_ble_eq_true rfl) (Nat.le_of_ble_eq_true rfl) (Nat.le_of_ble_eq_true rfl) dX1_init_5 dX1_init_8 dX1_init_9 (fun o0 a0 H locs hP hD hS => ?_)
  have hP : va_P (dC, dI) vwCl ((o, .inr (1, [.null, .int 0, .int 0, .int 0, .int 0])) :: (G ++ sh3 aC o0 a0)) H := hP
  have hD : va_D (nA o s.heap.size) ((o, .inr (1, [.null, .int 0, .int 0, .int 0, .int 0])) :: (G ++ sh3 aC o0 a0)) := hD
  obtain ⟨G1, hG1⟩ : ∃ z, z = G ++ sh3 aC o0 a0 := ⟨_, rfl⟩
  rw [← hG1] at hP hD
  obtain ⟨G, hE1⟩ : ∃ z, z = G1 := ⟨_, rfl⟩
  rw [← hE1] at hP hD
  refine va_putF (D := (dC, dI)) (ci := 1) (v := .ref o0) (ty := .object "LeafTrees$Row") (C := RX1) (T := TX1) (N := 5) hx hb hts hin1 tyX1 tyX1_ok nmX1 hown hK hP hD hS 0 rfl rfl 0 (by decide) lk7 (fun _ h9 => h9) rfl hnm rfl (by decide +kernel) rfl rfl (Nat.le_of_ble_eq_true rfl) dX1_init_12 (fun H locs hP hD hS => ?_)
  have hP : va_P (dC, dI) vwCl ((o, .inr (1, [.ref o0, .int 0, .int 0, .int 0, .int 0])) :: G) H := hP
  have hD : va_D (nA o s.heap.size) ((o, .inr (1, [.ref o0, .int 0, .int 0, .int 0, .int 0])) :: G) := hD
  subst hQ
  subst hE1
  subst hG1
  subst hE0
  exact xn_ret (sh := sh1 aC) (a := (o0, a0)) hx hb hret hlocks hP hD hS (Nat.le_of_ble_eq_true rfl) (Nat.le_of_ble_eq_true rfl) dX1_init_15

def sh2 (aC : Nat → ClassId) (o : Nat) (a : (Nat × Nat) × Nat × (Nat × Nat) × (Nat × Nat) × (Nat × Nat)) : va_W := (o, .inr (2, [.ref a.1.1, .ref a.2.1, .ref a.2.2.1.1, .ref a.2.2.2.1.1, .ref a.2.2.2.2.1])) :: (((((([] : va_W) ++ sh6 aC a.1.1 a.1.2) ++ [(a.2.1, .inl (aC 0, 60, .inl (fun _ => 0)))]) ++ sh3 aC a.2.2.1.1 a.2.2.1.2) ++ sh3 aC a.2.2.2.1.1 a.2.2.2.1.2) ++ sh3 aC a.2.2.2.2.1 a.2.2.2.2.2)
set_option maxHeartbeats 4000000 in
set_option maxRecDepth 100000 in
theorem n_2 (l : Launch) (dC : Nat → ClassId) (dI : Nat → Nat → Nat) (aC : Nat → ClassId) (o : Nat) : Met l yX2_init wsX2_init ({ frames := 2, cells := 9, slots := 307, locals := 32 } : Room) (va_Pc [.ref o] (NP dC dI aC o (.inr (2, [.null, .null, .null, .null, .null])))) (NQ dC dI (sh2 aC) o) 9 307 (fun q => q = o) := by
  refine Met.ofW (cc := cX2_init) (maxL := 1) (ret := none) (by decide) rfl ?_
  intro p e s m args below meth c s₁ B hml hv
  obtain ⟨rfl, hK, hP, hN⟩ := hv
  have hx := B.exec
  have hb := B.bytes
  have hret := B.returns
  have hts := atoms_spec (ws := wsX2_init) B.pre
  have hown : s.vm.findClass RX2 = some m.cls := findClass_of_methodNamed B.named
  have hlocks := B.notSynchronized
  have hnm : meth.name = "<init>" := (name_of_methodNamed B.named B.method).1
  have lk0 := hts (.methodLink RX2 3 objectInit) (by decide +kernel)
  have lk1 := hts (.instanceMethod objectInit) (by decide +kernel)
  have lk2 := hts (.code objectInit ⟨#[0xb1]⟩ 1 none) (by decide +kernel)
  have lk3 := hts (.initialized RX6) (by decide +kernel)
  have lk4 := hts (.instanceMethod yX6_init) (by decide +kernel)
  have lk5 := hts (.classLink RX2 9 RX6) (by decide +kernel)
  have lk6 := hts (.instantiable RX6 1) (by decide +kernel)
  have lk7 := hts (.fieldLink RX2 12 "LeafTrees$Rewriter" "shape" "LLeafTrees$Shape;") (by decide +kernel)
  have lk8 := hts (.arrayClass .int) (by decide +kernel)
  have lk9 := hts (.fieldLink RX2 18 "LeafTrees$Rewriter" "caught" "[I") (by decide +kernel)
  have lk10 := hts (.initialized RX3) (by decide +kernel)
  have lk11 := hts (.instanceMethod yX3_init) (by decide +kernel)
  have lk12 := hts (.classLink RX2 22 RX3) (by decide +kernel)
  have lk13 := hts (.instantiable RX3 2) (by decide +kernel)
  have lk14 := hts (.fieldLink RX2 25 "LeafTrees$Rewriter" "made" "LLeafTrees$Row;") (by decide +kernel)
  have lk15 := hts (.fieldLink RX2 29 "LeafTrees$Rewriter" "one" "LLeafTrees$Row;") (by decide +kernel)
  have lk16 := hts (.fieldLink RX2 32 "LeafTrees$Rewriter" "other" "LLeafTrees$Row;") (by decide +kernel)
  have nk2 : va_Nw (.methodLinkNest RX2 11 yX6_init "LeafTrees") s := hN.1 (RX2, 11, yX6_init) (List.mem_of_getElem? (i := 2) rfl)
  have nk3 : va_Nw (.methodLinkNest RX2 24 yX3_init "LeafTrees") s := hN.1 (RX2, 24, yX3_init) (List.mem_of_getElem? (i := 3) rfl)
  have hin2 : ∀ w ∈ u_ws RX2 TX2 5, w ∈ wsX2_init := by decide +kernel
  have hin3 : ∀ w ∈ u_ws RX3 TX3 2, w ∈ wsX2_init := by decide +kernel
  have hin6 : ∀ w ∈ u_ws RX6 TX6 1, w ∈ wsX2_init := by decide +kernel
  have hS : va_S (nA o s.heap.size) s.heap s.heap [] := va_S.rf
  have hD : va_D (nA o s.heap.size) [(o, .inr (2, [.null, .null, .null, .null, .null]))] := va_D_one (Or.inl rfl)
  have hl := lv_entry [.ref o] (n := 1) (Nat.le_of_ble_eq_true rfl)
  rw [lg_entry_eq]
  generalize (lg_sl [.ref o] ++ List.replicate (1 - (lg_sl [.ref o]).length) Slot.unset).toArray = ls at hl ⊢
  have hl : lv_has ls 1 [(0, .ref o)] := hl
  refine nx_Q (R := ({ frames := 2, cells := 9, slots := 307, locals := 32 } : Room)) (fun Q hQ => ?_)
  obtain ⟨G, hE0⟩ : ∃ z : va_W, z = [] := ⟨_, rfl⟩
  rw [← hE0] at hP hD
  refine lv_aload_n hx hb dX2_init_0 rfl (lv_at hl 0 rfl) ?_
  refine W.objInit hx hb hown lk0 lk1 lk2 rfl (by rw [hml]; exact hl.1) rfl dX2_init_1 (Nat.le_of_ble_eq_true rfl) (Nat.le_of_ble_eq_true rfl) ?_
  refine W.eq (g2 := F0 m 4 ls []) rfl ?_
  refine lv_aload_n hx hb dX2_init_4 rfl (lv_at hl 0 rfl) ?_
  refine xn_newN (ix := 9) (index := 11) (ci := 6) (C := RX6) (T := TX6) (N := 1) (fs := [.null]) (sh := sh6 aC) (rest := [.ref o]) ⟨hx, hb, hml, hown, hts⟩ hin6 tyX6 tyX6_ok lk5 lk6 lk3 hN hK hP hD hS (fun q h => Or.inr h) rfl (fun j hj => by rcases (show j = 0 by omega) with rfl <;> rfl) (fun q => n_6 l dC dI aC q) ⟨va_cnB 0 hts gX2_init_X6_init_n11 rfl rfl rfl nk2 lk3 (by decide +kernel) ⟨Nat.le_of_ble_eq_true rfl, Nat.le_of_ble_eq_true rfl⟩, rfl, lk4⟩ hl.1 (Nat.le_of_ble_eq_true rfl) (Nat.le_of_ble_eq_true rfl) (Nat.le_of_ble_eq_true rfl) dX2_init_5 dX2_init_8 dX2_init_9 (fun o0 a0 H locs hP hD hS => ?_)
  have hP : va_P (dC, dI) vwCl ((o, .inr (2, [.null, .null, .null, .null, .null])) :: (G ++ sh6 aC o0 a0)) H := hP
  have hD : va_D (nA o s.heap.size) ((o, .inr (2, [.null, .null, .null, .null, .null])) :: (G ++ sh6 aC o0 a0)) := hD
  obtain ⟨G1, hG1⟩ : ∃ z, z = G ++ sh6 aC o0 a0 := ⟨_, rfl⟩
  rw [← hG1] at hP hD
  obtain ⟨G, hE1⟩ : ∃ z, z = G1 := ⟨_, rfl⟩
  rw [← hE1] at hP hD
  refine va_putF (D := (dC, dI)) (ci := 2) (v := .ref o0) (ty := .object "LeafTrees$Shape") (C := RX2) (T := TX2) (N := 5) hx hb hts hin2 tyX2 tyX2_ok nmX2 hown hK hP hD hS 0 rfl rfl 0 (by decide) lk7 (fun _ h9 => h9) rfl hnm rfl (by decide +kernel) rfl rfl (Nat.le_of_ble_eq_true rfl) dX2_init_12 (fun H locs hP hD hS => ?_)
  have hP : va_P (dC, dI) vwCl ((o, .inr (2, [.ref o0, .null, .null, .null, .null])) :: G) H := hP
  have hD : va_D (nA o s.heap.size) ((o, .inr (2, [.ref o0, .null, .null, .null, .null])) :: G) := hD
  refine lv_aload_n hx hb dX2_init_15 rfl (lv_at hl 0 rfl) ?_
  refine lv_bipush (v := nI 60) hx hb dX2_init_16 (by decide) ?_
  refine va_newa (atype := .int) (ty := .int) (N' := 60) (a0 := (60, .inl (fun _ => 0))) hx hb lk8 rfl hK hP hD hS (fun q h => Or.inr h) (fun cA => rfl) (nI_pos (by decide)) (nI_clamp (by decide)) (by decide) (Nat.le_of_ble_eq_true rfl) (Nat.le_of_ble_eq_true rfl) dX2_init_18 (fun r1 cA H hK1 hP hD hS => ?_)
  obtain rfl := aC_int hK hK1
  clear hK1
  have hP : va_P (dC, dI) vwCl ((o, .inr (2, [.ref o0, .null, .null, .null, .null])) :: (G ++ [(r1, .inl (aC 0, 60, .inl (fun _ => 0)))])) H := hP
  have hD : va_D (nA o s.heap.size) ((o, .inr (2, [.ref o0, .null, .null, .null, .null])) :: (G ++ [(r1, .inl (aC 0, 60, .inl (fun _ => 0)))])) := hD
  obtain ⟨G2, hG2⟩ : ∃ z, z = G ++ [(r1, .inl (aC 0, 60, .inl (fun _ => 0)))] := ⟨_, rfl⟩
  rw [← hG2] at hP hD
  obtain ⟨G, hE2⟩ : ∃ z, z = G2 := ⟨_, rfl⟩
  rw [← hE2] at hP hD
  refine va_putF (D := (dC, dI)) (ci := 2) (v := .ref r1) (ty := .array .int) (C := RX2) (T := TX2) (N := 5) hx hb hts hin2 tyX2 tyX2_ok nmX2 hown hK hP hD hS 0 rfl rfl 1 (by decide) lk9 (fun _ h9 => h9) rfl hnm rfl (by decide +kernel) rfl rfl (Nat.le_of_ble_eq_true rfl) dX2_init_20 (fun H locs hP hD hS => ?_)
  have hP : va_P (dC, dI) vwCl ((o, .inr (2, [.ref o0, .ref r1, .null, .null, .null])) :: G) H := hP
  have hD : va_D (nA o s.heap.size) ((o, .inr (2, [.ref o0, .ref r1, .null, .null, .null])) :: G) := hD
  refine lv_aload_n hx hb dX2_init_23 rfl (lv_at hl 0 rfl) ?_
  refine xn_newN (ix := 22) (index := 24) (ci := 3) (C := RX3) (T := TX3) (N := 2) (fs := [.null, .int 0]) (sh := sh3 aC) (rest := [.ref o]) ⟨hx, hb, hml, hown, hts⟩ hin3 tyX3 tyX3_ok lk12 lk13 lk10 hN hK hP hD hS (fun q h => Or.inr h) rfl (fun j hj => by rcases (show j = 0 ∨ j = 1 by omega) with rfl | rfl <;> rfl) (fun q => n_3 l dC dI aC q) ⟨va_cnB 0 hts gX2_init_X3_init_n24 rfl rfl rfl nk3 lk10 (by decide +kernel) ⟨Nat.le_of_ble_eq_true rfl, Nat.le_of_ble_eq_true rfl⟩, rfl, lk11⟩ hl.1 (Nat.le_of_ble_eq_true rfl) (Nat.le_of_ble_eq_true rfl) (Nat.le_of_ble_eq_true rfl) dX2_init_24 dX2_init_27 dX2_init_28 (fun o2 a2 H locs hP hD hS => ?_)
  have hP : va_P (dC, dI) vwCl ((o, .inr (2, [.ref o0, .ref r1, .null, .null, .null])) :: (G ++ sh3 aC o2 a2)) H := hP
  have hD : va_D (nA o s.heap.size) ((o, .inr (2, [.ref o0, .ref r1, .null, .null, .null])) :: (G ++ sh3 aC o2 a2)) := hD
  obtain ⟨G3, hG3⟩ : ∃ z, z = G ++ sh3 aC o2 a2 := ⟨_, rfl⟩
  rw [← hG3] at hP hD
  obtain ⟨G, hE3⟩ : ∃ z, z = G3 := ⟨_, rfl⟩
  rw [← hE3] at hP hD
  refine va_putF (D := (dC, dI)) (ci := 2) (v := .ref o2) (ty := .object "LeafTrees$Row") (C := RX2) (T := TX2) (N := 5) hx hb hts hin2 tyX2 tyX2_ok nmX2 hown hK hP hD hS 0 rfl rfl 2 (by decide) lk14 (fun _ h9 => h9) rfl hnm rfl (by decide +kernel) rfl rfl (Nat.le_of_ble_eq_true rfl) dX2_init_31 (fun H locs hP hD hS => ?_)
  have hP : va_P (dC, dI) vwCl ((o, .inr (2, [.ref o0, .ref r1, .ref o2, .null, .null])) :: G) H := hP
  have hD : va_D (nA o s.heap.size) ((o, .inr (2, [.ref o0, .ref r1, .ref o2, .null, .null])) :: G) := hD
  refine lv_aload_n hx hb dX2_init_34 rfl (lv_at hl 0 rfl) ?_
  refine xn_newN (ix := 22) (index := 24) (ci := 3) (C := RX3) (T := TX3) (N := 2) (fs := [.null, .int 0]) (sh := sh3 aC) (rest := [.ref o]) ⟨hx, hb, hml, hown, hts⟩ hin3 tyX3 tyX3_ok lk12 lk13 lk10 hN hK hP hD hS (fun q h => Or.inr h) rfl (fun j hj => by rcases (show j = 0 ∨ j = 1 by omega) with rfl | rfl <;> rfl) (fun q => n_3 l dC dI aC q) ⟨va_cnB 0 hts gX2_init_X3_init_n24 rfl rfl rfl nk3 lk10 (by decide +kernel) ⟨Nat.le_of_ble_eq_true rfl, Nat.le_of_ble_eq_true rfl⟩, rfl, lk11⟩ hl.1 (Nat.le_of_ble_eq_true rfl) (Nat.le_of_ble_eq_true rfl) (Nat.le_of_ble_eq_true rfl) dX2_init_35 dX2_init_38 dX2_init_39 (fun o3 a3 H locs hP hD hS => ?_)
  have hP : va_P (dC, dI) vwCl ((o, .inr (2, [.ref o0, .ref r1, .ref o2, .null, .null])) :: (G ++ sh3 aC o3 a3)) H := hP
  have hD : va_D (nA o s.heap.size) ((o, .inr (2, [.ref o0, .ref r1, .ref o2, .null, .null])) :: (G ++ sh3 aC o3 a3)) := hD
  obtain ⟨G4, hG4⟩ : ∃ z, z = G ++ sh3 aC o3 a3 := ⟨_, rfl⟩
  rw [← hG4] at hP hD
  obtain ⟨G, hE4⟩ : ∃ z, z = G4 := ⟨_, rfl⟩
  rw [← hE4] at hP hD
  refine va_putF (D := (dC, dI)) (ci := 2) (v := .ref o3) (ty := .object "LeafTrees$Row") (C := RX2) (T := TX2) (N := 5) hx hb hts hin2 tyX2 tyX2_ok nmX2 hown hK hP hD hS 0 rfl rfl 3 (by decide) lk15 (fun _ h9 => h9) rfl hnm rfl (by decide +kernel) rfl rfl (Nat.le_of_ble_eq_true rfl) dX2_init_42 (fun H locs hP hD hS => ?_)
  have hP : va_P (dC, dI) vwCl ((o, .inr (2, [.ref o0, .ref r1, .ref o2, .ref o3, .null])) :: G) H := hP
  have hD : va_D (nA o s.heap.size) ((o, .inr (2, [.ref o0, .ref r1, .ref o2, .ref o3, .null])) :: G) := hD
  refine lv_aload_n hx hb dX2_init_45 rfl (lv_at hl 0 rfl) ?_
  refine xn_newN (ix := 22) (index := 24) (ci := 3) (C := RX3) (T := TX3) (N := 2) (fs := [.null, .int 0]) (sh := sh3 aC) (rest := [.ref o]) ⟨hx, hb, hml, hown, hts⟩ hin3 tyX3 tyX3_ok lk12 lk13 lk10 hN hK hP hD hS (fun q h => Or.inr h) rfl (fun j hj => by rcases (show j = 0 ∨ j = 1 by omega) with rfl | rfl <;> rfl) (fun q => n_3 l dC dI aC q) ⟨va_cnB 0 hts gX2_init_X3_init_n24 rfl rfl rfl nk3 lk10 (by decide +kernel) ⟨Nat.le_of_ble_eq_true rfl, Nat.le_of_ble_eq_true rfl⟩, rfl, lk11⟩ hl.1 (Nat.le_of_ble_eq_true rfl) (Nat.le_of_ble_eq_true rfl) (Nat.le_of_ble_eq_true rfl) dX2_init_46 dX2_init_49 dX2_init_50 (fun o4 a4 H locs hP hD hS => ?_)
  have hP : va_P (dC, dI) vwCl ((o, .inr (2, [.ref o0, .ref r1, .ref o2, .ref o3, .null])) :: (G ++ sh3 aC o4 a4)) H := hP
  have hD : va_D (nA o s.heap.size) ((o, .inr (2, [.ref o0, .ref r1, .ref o2, .ref o3, .null])) :: (G ++ sh3 aC o4 a4)) := hD
  obtain ⟨G5, hG5⟩ : ∃ z, z = G ++ sh3 aC o4 a4 := ⟨_, rfl⟩
  rw [← hG5] at hP hD
  obtain ⟨G, hE5⟩ : ∃ z, z = G5 := ⟨_, rfl⟩
  rw [← hE5] at hP hD
  refine va_putF (D := (dC, dI)) (ci := 2) (v := .ref o4) (ty := .object "LeafTrees$Row") (C := RX2) (T := TX2) (N := 5) hx hb hts hin2 tyX2 tyX2_ok nmX2 hown hK hP hD hS 0 rfl rfl 4 (by decide) lk16 (fun _ h9 => h9) rfl hnm rfl (by decide +kernel) rfl rfl (Nat.le_of_ble_eq_true rfl) dX2_init_53 (fun H locs hP hD hS => ?_)
  have hP : va_P (dC, dI) vwCl ((o, .inr (2, [.ref o0, .ref r1, .ref o2, .ref o3, .ref o4])) :: G) H := hP
  have hD : va_D (nA o s.heap.size) ((o, .inr (2, [.ref o0, .ref r1, .ref o2, .ref o3, .ref o4])) :: G) := hD
  subst hQ
  subst hE5
  subst hG5
  subst hE4
  subst hG4
  subst hE3
  subst hG3
  subst hE2
  subst hG2
  subst hE1
  subst hG1
  subst hE0
  exact xn_ret (sh := sh2 aC) (a := ((o0, a0), r1, (o2, a2), (o3, a3), (o4, a4))) hx hb hret hlocks hP hD hS (Nat.le_of_ble_eq_true rfl) (Nat.le_of_ble_eq_true rfl) dX2_init_56

def sh8 (aC : Nat → ClassId) (o : Nat) (a : Nat × Nat × (Nat → (Nat × ((Nat × Nat) × (Nat × Nat))))) : va_W := (o, .inr (8, [.ref a.1, .int 0, .ref a.2.1, .int 0])) :: (a.2.1, .inl (aC 4, 8, .inr (.inr (.inr (.inr (fun i => if i < 8 then some (a.2.2 i).1 else none)))))) :: (((((((((([] : va_W) ++ [(a.1, .inl (aC 0, 4, .inl (fun _ => 0)))]) ++ sh4 aC (a.2.2 0).1 (a.2.2 0).2) ++ sh4 aC (a.2.2 1).1 (a.2.2 1).2) ++ sh4 aC (a.2.2 2).1 (a.2.2 2).2) ++ sh4 aC (a.2.2 3).1 (a.2.2 3).2) ++ sh4 aC (a.2.2 4).1 (a.2.2 4).2) ++ sh4 aC (a.2.2 5).1 (a.2.2 5).2) ++ sh4 aC (a.2.2 6).1 (a.2.2 6).2) ++ sh4 aC (a.2.2 7).1 (a.2.2 7).2)
set_option maxHeartbeats 4000000 in
set_option maxRecDepth 100000 in
theorem n_8 (l : Launch) (dC : Nat → ClassId) (dI : Nat → Nat → Nat) (aC : Nat → ClassId) (o : Nat) : Met l yX8_init wsX8_init ({ frames := 3, cells := 42, slots := 1028, locals := 52 } : Room) (va_Pc [.ref o] (NP dC dI aC o (.inr (8, [.null, .int 0, .null, .int 0])))) (NQ dC dI (sh8 aC) o) 42 1028 (fun q => q = o) := by
  refine Met.ofW (cc := cX8_init) (maxL := 2) (ret := none) (by decide) rfl ?_
  intro p e s m args below meth c s₁ B hml hv
  obtain ⟨rfl, hK, hP, hN⟩ := hv
  have hx := B.exec
  have hb := B.bytes
  have hret := B.returns
  have hts := atoms_spec (ws := wsX8_init) B.pre
  have hown : s.vm.findClass RX8 = some m.cls := findClass_of_methodNamed B.named
  have hlocks := B.notSynchronized
  have hnm : meth.name = "<init>" := (name_of_methodNamed B.named B.method).1
  have lk0 := hts (.methodLink RX8 3 objectInit) (by decide +kernel)
  have lk1 := hts (.instanceMethod objectInit) (by decide +kernel)
  have lk2 := hts (.code objectInit ⟨#[0xb1]⟩ 1 none) (by decide +kernel)
  have lk3 := hts (.arrayClass .int) (by decide +kernel)
  have lk4 := hts (.fieldLink RX8 9 "LeafTrees$World" "entries" "[I") (by decide +kernel)
  have lk5 := hts (.classLink RX8 15 RX4) (by decide +kernel)
  have lk6 := hts (.fieldLink RX8 17 "LeafTrees$World" "rules" "[LLeafTrees$Rule;") (by decide +kernel)
  have lk7 := hts (.initialized RX4) (by decide +kernel)
  have lk8 := hts (.instanceMethod yX4_init) (by decide +kernel)
  have lk9 := hts (.instantiable RX4 3) (by decide +kernel)
  have nk4 : va_Nw (.methodLinkNest RX8 21 yX4_init "LeafTrees") s := hN.1 (RX8, 21, yX4_init) (List.mem_of_getElem? (i := 4) rfl)
  have hin4 : ∀ w ∈ u_ws RX4 TX4 3, w ∈ wsX8_init := by decide +kernel
  have hin8 : ∀ w ∈ u_ws RX8 TX8 4, w ∈ wsX8_init := by decide +kernel
  have hS : va_S (nA o s.heap.size) s.heap s.heap [] := va_S.rf
  have hD : va_D (nA o s.heap.size) [(o, .inr (8, [.null, .int 0, .null, .int 0]))] := va_D_one (Or.inl rfl)
  have hl := lv_entry [.ref o] (n := 2) (Nat.le_of_ble_eq_true rfl)
  rw [lg_entry_eq]
  generalize (lg_sl [.ref o] ++ List.replicate (2 - (lg_sl [.ref o]).length) Slot.unset).toArray = ls at hl ⊢
  have hl : lv_has ls 2 [(0, .ref o)] := hl
  refine nx_Q (R := ({ frames := 3, cells := 42, slots := 1028, locals := 52 } : Room)) (fun Q hQ => ?_)
  obtain ⟨G, hE0⟩ : ∃ z : va_W, z = [] := ⟨_, rfl⟩
  rw [← hE0] at hP hD
  refine lv_aload_n hx hb dX8_init_0 rfl (lv_at hl 0 rfl) ?_
  refine W.objInit hx hb hown lk0 lk1 lk2 rfl (by rw [hml]; exact hl.1) rfl dX8_init_1 (Nat.le_of_ble_eq_true rfl) (Nat.le_of_ble_eq_true rfl) ?_
  refine W.eq (g2 := F0 m 4 ls []) rfl ?_
  refine lv_aload_n hx hb dX8_init_4 rfl (lv_at hl 0 rfl) ?_
  refine lv_iconst (v := nI 4) hx hb dX8_init_5 (by decide) ?_
  refine va_newa (atype := .int) (ty := .int) (N' := 4) (a0 := (4, .inl (fun _ => 0))) hx hb lk3 rfl hK hP hD hS (fun q h => Or.inr h) (fun cA => rfl) (nI_pos (by decide)) (nI_clamp (by decide)) (by decide) (Nat.le_of_ble_eq_true rfl) (Nat.le_of_ble_eq_true rfl) dX8_init_6 (fun r0 cA H hK1 hP hD hS => ?_)
  obtain rfl := aC_int hK hK1
  clear hK1
  have hP : va_P (dC, dI) vwCl ((o, .inr (8, [.null, .int 0, .null, .int 0])) :: (G ++ [(r0, .inl (aC 0, 4, .inl (fun _ => 0)))])) H := hP
  have hD : va_D (nA o s.heap.size) ((o, .inr (8, [.null, .int 0, .null, .int 0])) :: (G ++ [(r0, .inl (aC 0, 4, .inl (fun _ => 0)))])) := hD
  obtain ⟨G1, hG1⟩ : ∃ z, z = G ++ [(r0, .inl (aC 0, 4, .inl (fun _ => 0)))] := ⟨_, rfl⟩
  rw [← hG1] at hP hD
  obtain ⟨G, hE1⟩ : ∃ z, z = G1 := ⟨_, rfl⟩
  rw [← hE1] at hP hD
  refine va_putF (D := (dC, dI)) (ci := 8) (v := .ref r0) (ty := .array .int) (C := RX8) (T := TX8) (N := 4) hx hb hts hin8 tyX8 tyX8_ok nmX8 hown hK hP hD hS 0 rfl rfl 0 (by decide) lk4 (fun _ h9 => h9) rfl hnm rfl (by decide +kernel) rfl rfl (Nat.le_of_ble_eq_true rfl) dX8_init_8 (fun H locs hP hD hS => ?_)
  have hP : va_P (dC, dI) vwCl ((o, .inr (8, [.ref r0, .int 0, .null, .int 0])) :: G) H := hP
  have hD : va_D (nA o s.heap.size) ((o, .inr (8, [.ref r0, .int 0, .null, .int 0])) :: G) := hD
  refine lv_aload_n hx hb dX8_init_11 rfl (lv_at hl 0 rfl) ?_
  refine lv_bipush (v := nI 8) hx hb dX8_init_12 (by decide) ?_
  refine va_newq (C := "LeafTrees$Rule") (N' := 8) hx hb hown lk5 (hN.2.2.1) hK hP hD hS (fun q h => Or.inr h) (nI_pos (by decide)) (nI_clamp (by decide)) (by decide) (Nat.le_of_ble_eq_true rfl) (Nat.le_of_ble_eq_true rfl) dX8_init_14 (fun r1 cA H hK1 hP hD hS => ?_)
  obtain rfl := aC_obj hK1 (i := 7) (j := 4) rfl rfl
  clear hK1
  have hP := fr_P hP
  have hD := fr_D hD
  have hP : va_P (dC, dI) vwCl ((o, .inr (8, [.ref r0, .int 0, .null, .int 0])) :: (r1, .inl (aC 4, 8, .inr (.inr (.inr (.inr (fun _ => none)))))) :: G) H := hP
  have hD : va_D (nA o s.heap.size) ((o, .inr (8, [.ref r0, .int 0, .null, .int 0])) :: (r1, .inl (aC 4, 8, .inr (.inr (.inr (.inr (fun _ => none)))))) :: G) := hD
  refine va_putF (D := (dC, dI)) (ci := 8) (v := .ref r1) (ty := .array (.object "LeafTrees$Rule")) (C := RX8) (T := TX8) (N := 4) hx hb hts hin8 tyX8 tyX8_ok nmX8 hown hK hP hD hS 0 rfl rfl 2 (by decide) lk6 (fun _ h9 => h9) rfl hnm rfl (by decide +kernel) rfl rfl (Nat.le_of_ble_eq_true rfl) dX8_init_17 (fun H locs hP hD hS => ?_)
  have hP : va_P (dC, dI) vwCl ((o, .inr (8, [.ref r0, .int 0, .ref r1, .int 0])) :: (r1, .inl (aC 4, 8, .inr (.inr (.inr (.inr (fun _ => none)))))) :: G) H := hP
  have hD : va_D (nA o s.heap.size) ((o, .inr (8, [.ref r0, .int 0, .ref r1, .int 0])) :: (r1, .inl (aC 4, 8, .inr (.inr (.inr (.inr (fun _ => none)))))) :: G) := hD
  refine lv_iconst (v := nI 0) hx hb dX8_init_20 (by decide) ?_
  refine lv_istore_n (lv' := [(1, .int (nI 0)), (0, .ref o)]) hx hb dX8_init_21 rfl hl (by decide) rfl (fun ls hl => ?_)
  refine lv_iload_n hx hb dX8_init_22 rfl (lv_at hl 0 rfl) ?_
  refine lv_bipush (v := nI 8) hx hb dX8_init_23 (by decide) ?_
  refine nx_icmp_ge (a := 0) (b := 8) (tgt := 47) hx hb dX8_init_25 (by decide) (by decide) (by decide) (fun h9 => absurd h9 (by decide)) (fun _ => ?_)
  refine lv_aload_n hx hb dX8_init_28 rfl (lv_at hl 1 rfl) ?_
  refine va_get (D := (dC, dI)) (ci := 8) (C := RX8) (T := TX8) (N := 4) hx hb hts hin8 hown hK hP 0 rfl rfl 2 (by decide) lk6 (fun _ h9 => h9) rfl dX8_init_29 ?_
  refine lv_iload_n hx hb dX8_init_32 rfl (lv_at hl 0 rfl) ?_
  refine xn_newN (ix := 15) (index := 21) (ci := 4) (C := RX4) (T := TX4) (N := 3) (fs := [.null, .null, .int 0]) (sh := sh4 aC) (rest := [.int (nI 0), .ref r1]) ⟨hx, hb, hml, hown, hts⟩ hin4 tyX4 tyX4_ok lk5 lk9 lk7 hN hK hP hD hS (fun q h => Or.inr h) rfl (fun j hj => by rcases (show j = 0 ∨ j = 1 ∨ j = 2 by omega) with rfl | rfl | rfl <;> rfl) (fun q => n_4 l dC dI aC q) ⟨va_cnB 0 hts gX8_init_X4_init_n21 rfl rfl rfl nk4 lk7 (by decide +kernel) ⟨Nat.le_of_ble_eq_true rfl, Nat.le_of_ble_eq_true rfl⟩, rfl, lk8⟩ hl.1 (Nat.le_of_ble_eq_true rfl) (Nat.le_of_ble_eq_true rfl) (Nat.le_of_ble_eq_true rfl) dX8_init_33 dX8_init_36 dX8_init_37 (fun o2 a2 H locs hP hD hS => ?_)
  have hP : va_P (dC, dI) vwCl ((o, .inr (8, [.ref r0, .int 0, .ref r1, .int 0])) :: (r1, .inl (aC 4, 8, .inr (.inr (.inr (.inr (fun _ => none)))))) :: (G ++ sh4 aC o2 a2)) H := hP
  have hD : va_D (nA o s.heap.size) ((o, .inr (8, [.ref r0, .int 0, .ref r1, .int 0])) :: (r1, .inl (aC 4, 8, .inr (.inr (.inr (.inr (fun _ => none)))))) :: (G ++ sh4 aC o2 a2)) := hD
  refine va_astq hx hb hK hP hD hS 1 4 (G.length + 2) 4 rfl rfl (by exact ix_new) rfl (vp_in_nI (n := 0) (N := 8) (by decide) (by decide)) dX8_init_40 (fun H locs hP hD hS => ?_)
  have hP : va_P (dC, dI) vwCl ((o, .inr (8, [.ref r0, .int 0, .ref r1, .int 0])) :: (r1, .inl (aC 4, 8, .inr (.inr (.inr (.inr (va_up (fun _ => none) 0 (some o2))))))) :: (G ++ sh4 aC o2 a2)) H := hP
  have hD : va_D (nA o s.heap.size) ((o, .inr (8, [.ref r0, .int 0, .ref r1, .int 0])) :: (r1, .inl (aC 4, 8, .inr (.inr (.inr (.inr (va_up (fun _ => none) 0 (some o2))))))) :: (G ++ sh4 aC o2 a2)) := hD
  obtain ⟨G2, hG2⟩ : ∃ z, z = G ++ sh4 aC o2 a2 := ⟨_, rfl⟩
  rw [← hG2] at hP hD
  obtain ⟨G, hE2⟩ : ∃ z, z = G2 := ⟨_, rfl⟩
  rw [← hE2] at hP hD
  refine lv_iinc (v := nI 1) (lv' := [(1, .int (nI 1)), (0, .ref o)]) hx hb dX8_init_41 hl (k := 0) rfl (by decide) (by decide) rfl (fun ls hl => ?_)
  refine lv_goto (tgt := 22) hx hb dX8_init_44 (by decide) ?_
  refine lv_iload_n hx hb dX8_init_22 rfl (lv_at hl 0 rfl) ?_
  refine lv_bipush (v := nI 8) hx hb dX8_init_23 (by decide) ?_
  refine nx_icmp_ge (a := 1) (b := 8) (tgt := 47) hx hb dX8_init_25 (by decide) (by decide) (by decide) (fun h9 => absurd h9 (by decide)) (fun _ => ?_)
  refine lv_aload_n hx hb dX8_init_28 rfl (lv_at hl 1 rfl) ?_
  refine va_get (D := (dC, dI)) (ci := 8) (C := RX8) (T := TX8) (N := 4) hx hb hts hin8 hown hK hP 0 rfl rfl 2 (by decide) lk6 (fun _ h9 => h9) rfl dX8_init_29 ?_
  refine lv_iload_n hx hb dX8_init_32 rfl (lv_at hl 0 rfl) ?_
  refine xn_newN (ix := 15) (index := 21) (ci := 4) (C := RX4) (T := TX4) (N := 3) (fs := [.null, .null, .int 0]) (sh := sh4 aC) (rest := [.int (nI 1), .ref r1]) ⟨hx, hb, hml, hown, hts⟩ hin4 tyX4 tyX4_ok lk5 lk9 lk7 hN hK hP hD hS (fun q h => Or.inr h) rfl (fun j hj => by rcases (show j = 0 ∨ j = 1 ∨ j = 2 by omega) with rfl | rfl | rfl <;> rfl) (fun q => n_4 l dC dI aC q) ⟨va_cnB 0 hts gX8_init_X4_init_n21 rfl rfl rfl nk4 lk7 (by decide +kernel) ⟨Nat.le_of_ble_eq_true rfl, Nat.le_of_ble_eq_true rfl⟩, rfl, lk8⟩ hl.1 (Nat.le_of_ble_eq_true rfl) (Nat.le_of_ble_eq_true rfl) (Nat.le_of_ble_eq_true rfl) dX8_init_33 dX8_init_36 dX8_init_37 (fun o3 a3 H locs hP hD hS => ?_)
  have hP : va_P (dC, dI) vwCl ((o, .inr (8, [.ref r0, .int 0, .ref r1, .int 0])) :: (r1, .inl (aC 4, 8, .inr (.inr (.inr (.inr (va_up (fun _ => none) 0 (some o2))))))) :: (G ++ sh4 aC o3 a3)) H := hP
  have hD : va_D (nA o s.heap.size) ((o, .inr (8, [.ref r0, .int 0, .ref r1, .int 0])) :: (r1, .inl (aC 4, 8, .inr (.inr (.inr (.inr (va_up (fun _ => none) 0 (some o2))))))) :: (G ++ sh4 aC o3 a3)) := hD
  refine va_astq hx hb hK hP hD hS 1 4 (G.length + 2) 4 rfl rfl (by exact ix_new) rfl (vp_in_nI (n := 1) (N := 8) (by decide) (by decide)) dX8_init_40 (fun H locs hP hD hS => ?_)
  have hP : va_P (dC, dI) vwCl ((o, .inr (8, [.ref r0, .int 0, .ref r1, .int 0])) :: (r1, .inl (aC 4, 8, .inr (.inr (.inr (.inr (va_up (va_up (fun _ => none) 0 (some o2)) 1 (some o3))))))) :: (G ++ sh4 aC o3 a3)) H := hP
  have hD : va_D (nA o s.heap.size) ((o, .inr (8, [.ref r0, .int 0, .ref r1, .int 0])) :: (r1, .inl (aC 4, 8, .inr (.inr (.inr (.inr (va_up (va_up (fun _ => none) 0 (some o2)) 1 (some o3))))))) :: (G ++ sh4 aC o3 a3)) := hD
  obtain ⟨G3, hG3⟩ : ∃ z, z = G ++ sh4 aC o3 a3 := ⟨_, rfl⟩
  rw [← hG3] at hP hD
  obtain ⟨G, hE3⟩ : ∃ z, z = G3 := ⟨_, rfl⟩
  rw [← hE3] at hP hD
  refine lv_iinc (v := nI 2) (lv' := [(1, .int (nI 2)), (0, .ref o)]) hx hb dX8_init_41 hl (k := 0) rfl (by decide) (by decide) rfl (fun ls hl => ?_)
  refine lv_goto (tgt := 22) hx hb dX8_init_44 (by decide) ?_
  refine lv_iload_n hx hb dX8_init_22 rfl (lv_at hl 0 rfl) ?_
  refine lv_bipush (v := nI 8) hx hb dX8_init_23 (by decide) ?_
  refine nx_icmp_ge (a := 2) (b := 8) (tgt := 47) hx hb dX8_init_25 (by decide) (by decide) (by decide) (fun h9 => absurd h9 (by decide)) (fun _ => ?_)
  refine lv_aload_n hx hb dX8_init_28 rfl (lv_at hl 1 rfl) ?_
  refine va_get (D := (dC, dI)) (ci := 8) (C := RX8) (T := TX8) (N := 4) hx hb hts hin8 hown hK hP 0 rfl rfl 2 (by decide) lk6 (fun _ h9 => h9) rfl dX8_init_29 ?_
  refine lv_iload_n hx hb dX8_init_32 rfl (lv_at hl 0 rfl) ?_
  refine xn_newN (ix := 15) (index := 21) (ci := 4) (C := RX4) (T := TX4) (N := 3) (fs := [.null, .null, .int 0]) (sh := sh4 aC) (rest := [.int (nI 2), .ref r1]) ⟨hx, hb, hml, hown, hts⟩ hin4 tyX4 tyX4_ok lk5 lk9 lk7 hN hK hP hD hS (fun q h => Or.inr h) rfl (fun j hj => by rcases (show j = 0 ∨ j = 1 ∨ j = 2 by omega) with rfl | rfl | rfl <;> rfl) (fun q => n_4 l dC dI aC q) ⟨va_cnB 0 hts gX8_init_X4_init_n21 rfl rfl rfl nk4 lk7 (by decide +kernel) ⟨Nat.le_of_ble_eq_true rfl, Nat.le_of_ble_eq_true rfl⟩, rfl, lk8⟩ hl.1 (Nat.le_of_ble_eq_true rfl) (Nat.le_of_ble_eq_true rfl) (Nat.le_of_ble_eq_true rfl) dX8_init_33 dX8_init_36 dX8_init_37 (fun o4 a4 H locs hP hD hS => ?_)
  have hP : va_P (dC, dI) vwCl ((o, .inr (8, [.ref r0, .int 0, .ref r1, .int 0])) :: (r1, .inl (aC 4, 8, .inr (.inr (.inr (.inr (va_up (va_up (fun _ => none) 0 (some o2)) 1 (some o3))))))) :: (G ++ sh4 aC o4 a4)) H := hP
  have hD : va_D (nA o s.heap.size) ((o, .inr (8, [.ref r0, .int 0, .ref r1, .int 0])) :: (r1, .inl (aC 4, 8, .inr (.inr (.inr (.inr (va_up (va_up (fun _ => none) 0 (some o2)) 1 (some o3))))))) :: (G ++ sh4 aC o4 a4)) := hD
  refine va_astq hx hb hK hP hD hS 1 4 (G.length + 2) 4 rfl rfl (by exact ix_new) rfl (vp_in_nI (n := 2) (N := 8) (by decide) (by decide)) dX8_init_40 (fun H locs hP hD hS => ?_)
  have hP : va_P (dC, dI) vwCl ((o, .inr (8, [.ref r0, .int 0, .ref r1, .int 0])) :: (r1, .inl (aC 4, 8, .inr (.inr (.inr (.inr (va_up (va_up (va_up (fun _ => none) 0 (some o2)) 1 (some o3)) 2 (some o4))))))) :: (G ++ sh4 aC o4 a4)) H := hP
  have hD : va_D (nA o s.heap.size) ((o, .inr (8, [.ref r0, .int 0, .ref r1, .int 0])) :: (r1, .inl (aC 4, 8, .inr (.inr (.inr (.inr (va_up (va_up (va_up (fun _ => none) 0 (some o2)) 1 (some o3)) 2 (some o4))))))) :: (G ++ sh4 aC o4 a4)) := hD
  obtain ⟨G4, hG4⟩ : ∃ z, z = G ++ sh4 aC o4 a4 := ⟨_, rfl⟩
  rw [← hG4] at hP hD
  obtain ⟨G, hE4⟩ : ∃ z, z = G4 := ⟨_, rfl⟩
  rw [← hE4] at hP hD
  refine lv_iinc (v := nI 3) (lv' := [(1, .int (nI 3)), (0, .ref o)]) hx hb dX8_init_41 hl (k := 0) rfl (by decide) (by decide) rfl (fun ls hl => ?_)
  refine lv_goto (tgt := 22) hx hb dX8_init_44 (by decide) ?_
  refine lv_iload_n hx hb dX8_init_22 rfl (lv_at hl 0 rfl) ?_
  refine lv_bipush (v := nI 8) hx hb dX8_init_23 (by decide) ?_
  refine nx_icmp_ge (a := 3) (b := 8) (tgt := 47) hx hb dX8_init_25 (by decide) (by decide) (by decide) (fun h9 => absurd h9 (by decide)) (fun _ => ?_)
  refine lv_aload_n hx hb dX8_init_28 rfl (lv_at hl 1 rfl) ?_
  refine va_get (D := (dC, dI)) (ci := 8) (C := RX8) (T := TX8) (N := 4) hx hb hts hin8 hown hK hP 0 rfl rfl 2 (by decide) lk6 (fun _ h9 => h9) rfl dX8_init_29 ?_
  refine lv_iload_n hx hb dX8_init_32 rfl (lv_at hl 0 rfl) ?_
  refine xn_newN (ix := 15) (index := 21) (ci := 4) (C := RX4) (T := TX4) (N := 3) (fs := [.null, .null, .int 0]) (sh := sh4 aC) (rest := [.int (nI 3), .ref r1]) ⟨hx, hb, hml, hown, hts⟩ hin4 tyX4 tyX4_ok lk5 lk9 lk7 hN hK hP hD hS (fun q h => Or.inr h) rfl (fun j hj => by rcases (show j = 0 ∨ j = 1 ∨ j = 2 by omega) with rfl | rfl | rfl <;> rfl) (fun q => n_4 l dC dI aC q) ⟨va_cnB 0 hts gX8_init_X4_init_n21 rfl rfl rfl nk4 lk7 (by decide +kernel) ⟨Nat.le_of_ble_eq_true rfl, Nat.le_of_ble_eq_true rfl⟩, rfl, lk8⟩ hl.1 (Nat.le_of_ble_eq_true rfl) (Nat.le_of_ble_eq_true rfl) (Nat.le_of_ble_eq_true rfl) dX8_init_33 dX8_init_36 dX8_init_37 (fun o5 a5 H locs hP hD hS => ?_)
  have hP : va_P (dC, dI) vwCl ((o, .inr (8, [.ref r0, .int 0, .ref r1, .int 0])) :: (r1, .inl (aC 4, 8, .inr (.inr (.inr (.inr (va_up (va_up (va_up (fun _ => none) 0 (some o2)) 1 (some o3)) 2 (some o4))))))) :: (G ++ sh4 aC o5 a5)) H := hP
  have hD : va_D (nA o s.heap.size) ((o, .inr (8, [.ref r0, .int 0, .ref r1, .int 0])) :: (r1, .inl (aC 4, 8, .inr (.inr (.inr (.inr (va_up (va_up (va_up (fun _ => none) 0 (some o2)) 1 (some o3)) 2 (some o4))))))) :: (G ++ sh4 aC o5 a5)) := hD
  refine va_astq hx hb hK hP hD hS 1 4 (G.length + 2) 4 rfl rfl (by exact ix_new) rfl (vp_in_nI (n := 3) (N := 8) (by decide) (by decide)) dX8_init_40 (fun H locs hP hD hS => ?_)
  have hP : va_P (dC, dI) vwCl ((o, .inr (8, [.ref r0, .int 0, .ref r1, .int 0])) :: (r1, .inl (aC 4, 8, .inr (.inr (.inr (.inr (va_up (va_up (va_up (va_up (fun _ => none) 0 (some o2)) 1 (some o3)) 2 (some o4)) 3 (some o5))))))) :: (G ++ sh4 aC o5 a5)) H := hP
  have hD : va_D (nA o s.heap.size) ((o, .inr (8, [.ref r0, .int 0, .ref r1, .int 0])) :: (r1, .inl (aC 4, 8, .inr (.inr (.inr (.inr (va_up (va_up (va_up (va_up (fun _ => none) 0 (some o2)) 1 (some o3)) 2 (some o4)) 3 (some o5))))))) :: (G ++ sh4 aC o5 a5)) := hD
  obtain ⟨G5, hG5⟩ : ∃ z, z = G ++ sh4 aC o5 a5 := ⟨_, rfl⟩
  rw [← hG5] at hP hD
  obtain ⟨G, hE5⟩ : ∃ z, z = G5 := ⟨_, rfl⟩
  rw [← hE5] at hP hD
  refine lv_iinc (v := nI 4) (lv' := [(1, .int (nI 4)), (0, .ref o)]) hx hb dX8_init_41 hl (k := 0) rfl (by decide) (by decide) rfl (fun ls hl => ?_)
  refine lv_goto (tgt := 22) hx hb dX8_init_44 (by decide) ?_
  refine lv_iload_n hx hb dX8_init_22 rfl (lv_at hl 0 rfl) ?_
  refine lv_bipush (v := nI 8) hx hb dX8_init_23 (by decide) ?_
  refine nx_icmp_ge (a := 4) (b := 8) (tgt := 47) hx hb dX8_init_25 (by decide) (by decide) (by decide) (fun h9 => absurd h9 (by decide)) (fun _ => ?_)
  refine lv_aload_n hx hb dX8_init_28 rfl (lv_at hl 1 rfl) ?_
  refine va_get (D := (dC, dI)) (ci := 8) (C := RX8) (T := TX8) (N := 4) hx hb hts hin8 hown hK hP 0 rfl rfl 2 (by decide) lk6 (fun _ h9 => h9) rfl dX8_init_29 ?_
  refine lv_iload_n hx hb dX8_init_32 rfl (lv_at hl 0 rfl) ?_
  refine xn_newN (ix := 15) (index := 21) (ci := 4) (C := RX4) (T := TX4) (N := 3) (fs := [.null, .null, .int 0]) (sh := sh4 aC) (rest := [.int (nI 4), .ref r1]) ⟨hx, hb, hml, hown, hts⟩ hin4 tyX4 tyX4_ok lk5 lk9 lk7 hN hK hP hD hS (fun q h => Or.inr h) rfl (fun j hj => by rcases (show j = 0 ∨ j = 1 ∨ j = 2 by omega) with rfl | rfl | rfl <;> rfl) (fun q => n_4 l dC dI aC q) ⟨va_cnB 0 hts gX8_init_X4_init_n21 rfl rfl rfl nk4 lk7 (by decide +kernel) ⟨Nat.le_of_ble_eq_true rfl, Nat.le_of_ble_eq_true rfl⟩, rfl, lk8⟩ hl.1 (Nat.le_of_ble_eq_true rfl) (Nat.le_of_ble_eq_true rfl) (Nat.le_of_ble_eq_true rfl) dX8_init_33 dX8_init_36 dX8_init_37 (fun o6 a6 H locs hP hD hS => ?_)
  have hP : va_P (dC, dI) vwCl ((o, .inr (8, [.ref r0, .int 0, .ref r1, .int 0])) :: (r1, .inl (aC 4, 8, .inr (.inr (.inr (.inr (va_up (va_up (va_up (va_up (fun _ => none) 0 (some o2)) 1 (some o3)) 2 (some o4)) 3 (some o5))))))) :: (G ++ sh4 aC o6 a6)) H := hP
  have hD : va_D (nA o s.heap.size) ((o, .inr (8, [.ref r0, .int 0, .ref r1, .int 0])) :: (r1, .inl (aC 4, 8, .inr (.inr (.inr (.inr (va_up (va_up (va_up (va_up (fun _ => none) 0 (some o2)) 1 (some o3)) 2 (some o4)) 3 (some o5))))))) :: (G ++ sh4 aC o6 a6)) := hD
  refine va_astq hx hb hK hP hD hS 1 4 (G.length + 2) 4 rfl rfl (by exact ix_new) rfl (vp_in_nI (n := 4) (N := 8) (by decide) (by decide)) dX8_init_40 (fun H locs hP hD hS => ?_)
  have hP : va_P (dC, dI) vwCl ((o, .inr (8, [.ref r0, .int 0, .ref r1, .int 0])) :: (r1, .inl (aC 4, 8, .inr (.inr (.inr (.inr (va_up (va_up (va_up (va_up (va_up (fun _ => none) 0 (some o2)) 1 (some o3)) 2 (some o4)) 3 (some o5)) 4 (some o6))))))) :: (G ++ sh4 aC o6 a6)) H := hP
  have hD : va_D (nA o s.heap.size) ((o, .inr (8, [.ref r0, .int 0, .ref r1, .int 0])) :: (r1, .inl (aC 4, 8, .inr (.inr (.inr (.inr (va_up (va_up (va_up (va_up (va_up (fun _ => none) 0 (some o2)) 1 (some o3)) 2 (some o4)) 3 (some o5)) 4 (some o6))))))) :: (G ++ sh4 aC o6 a6)) := hD
  obtain ⟨G6, hG6⟩ : ∃ z, z = G ++ sh4 aC o6 a6 := ⟨_, rfl⟩
  rw [← hG6] at hP hD
  obtain ⟨G, hE6⟩ : ∃ z, z = G6 := ⟨_, rfl⟩
  rw [← hE6] at hP hD
  refine lv_iinc (v := nI 5) (lv' := [(1, .int (nI 5)), (0, .ref o)]) hx hb dX8_init_41 hl (k := 0) rfl (by decide) (by decide) rfl (fun ls hl => ?_)
  refine lv_goto (tgt := 22) hx hb dX8_init_44 (by decide) ?_
  refine lv_iload_n hx hb dX8_init_22 rfl (lv_at hl 0 rfl) ?_
  refine lv_bipush (v := nI 8) hx hb dX8_init_23 (by decide) ?_
  refine nx_icmp_ge (a := 5) (b := 8) (tgt := 47) hx hb dX8_init_25 (by decide) (by decide) (by decide) (fun h9 => absurd h9 (by decide)) (fun _ => ?_)
  refine lv_aload_n hx hb dX8_init_28 rfl (lv_at hl 1 rfl) ?_
  refine va_get (D := (dC, dI)) (ci := 8) (C := RX8) (T := TX8) (N := 4) hx hb hts hin8 hown hK hP 0 rfl rfl 2 (by decide) lk6 (fun _ h9 => h9) rfl dX8_init_29 ?_
  refine lv_iload_n hx hb dX8_init_32 rfl (lv_at hl 0 rfl) ?_
  refine xn_newN (ix := 15) (index := 21) (ci := 4) (C := RX4) (T := TX4) (N := 3) (fs := [.null, .null, .int 0]) (sh := sh4 aC) (rest := [.int (nI 5), .ref r1]) ⟨hx, hb, hml, hown, hts⟩ hin4 tyX4 tyX4_ok lk5 lk9 lk7 hN hK hP hD hS (fun q h => Or.inr h) rfl (fun j hj => by rcases (show j = 0 ∨ j = 1 ∨ j = 2 by omega) with rfl | rfl | rfl <;> rfl) (fun q => n_4 l dC dI aC q) ⟨va_cnB 0 hts gX8_init_X4_init_n21 rfl rfl rfl nk4 lk7 (by decide +kernel) ⟨Nat.le_of_ble_eq_true rfl, Nat.le_of_ble_eq_true rfl⟩, rfl, lk8⟩ hl.1 (Nat.le_of_ble_eq_true rfl) (Nat.le_of_ble_eq_true rfl) (Nat.le_of_ble_eq_true rfl) dX8_init_33 dX8_init_36 dX8_init_37 (fun o7 a7 H locs hP hD hS => ?_)
  have hP : va_P (dC, dI) vwCl ((o, .inr (8, [.ref r0, .int 0, .ref r1, .int 0])) :: (r1, .inl (aC 4, 8, .inr (.inr (.inr (.inr (va_up (va_up (va_up (va_up (va_up (fun _ => none) 0 (some o2)) 1 (some o3)) 2 (some o4)) 3 (some o5)) 4 (some o6))))))) :: (G ++ sh4 aC o7 a7)) H := hP
  have hD : va_D (nA o s.heap.size) ((o, .inr (8, [.ref r0, .int 0, .ref r1, .int 0])) :: (r1, .inl (aC 4, 8, .inr (.inr (.inr (.inr (va_up (va_up (va_up (va_up (va_up (fun _ => none) 0 (some o2)) 1 (some o3)) 2 (some o4)) 3 (some o5)) 4 (some o6))))))) :: (G ++ sh4 aC o7 a7)) := hD
  refine va_astq hx hb hK hP hD hS 1 4 (G.length + 2) 4 rfl rfl (by exact ix_new) rfl (vp_in_nI (n := 5) (N := 8) (by decide) (by decide)) dX8_init_40 (fun H locs hP hD hS => ?_)
  have hP : va_P (dC, dI) vwCl ((o, .inr (8, [.ref r0, .int 0, .ref r1, .int 0])) :: (r1, .inl (aC 4, 8, .inr (.inr (.inr (.inr (va_up (va_up (va_up (va_up (va_up (va_up (fun _ => none) 0 (some o2)) 1 (some o3)) 2 (some o4)) 3 (some o5)) 4 (some o6)) 5 (some o7))))))) :: (G ++ sh4 aC o7 a7)) H := hP
  have hD : va_D (nA o s.heap.size) ((o, .inr (8, [.ref r0, .int 0, .ref r1, .int 0])) :: (r1, .inl (aC 4, 8, .inr (.inr (.inr (.inr (va_up (va_up (va_up (va_up (va_up (va_up (fun _ => none) 0 (some o2)) 1 (some o3)) 2 (some o4)) 3 (some o5)) 4 (some o6)) 5 (some o7))))))) :: (G ++ sh4 aC o7 a7)) := hD
  obtain ⟨G7, hG7⟩ : ∃ z, z = G ++ sh4 aC o7 a7 := ⟨_, rfl⟩
  rw [← hG7] at hP hD
  obtain ⟨G, hE7⟩ : ∃ z, z = G7 := ⟨_, rfl⟩
  rw [← hE7] at hP hD
  refine lv_iinc (v := nI 6) (lv' := [(1, .int (nI 6)), (0, .ref o)]) hx hb dX8_init_41 hl (k := 0) rfl (by decide) (by decide) rfl (fun ls hl => ?_)
  refine lv_goto (tgt := 22) hx hb dX8_init_44 (by decide) ?_
  refine lv_iload_n hx hb dX8_init_22 rfl (lv_at hl 0 rfl) ?_
  refine lv_bipush (v := nI 8) hx hb dX8_init_23 (by decide) ?_
  refine nx_icmp_ge (a := 6) (b := 8) (tgt := 47) hx hb dX8_init_25 (by decide) (by decide) (by decide) (fun h9 => absurd h9 (by decide)) (fun _ => ?_)
  refine lv_aload_n hx hb dX8_init_28 rfl (lv_at hl 1 rfl) ?_
  refine va_get (D := (dC, dI)) (ci := 8) (C := RX8) (T := TX8) (N := 4) hx hb hts hin8 hown hK hP 0 rfl rfl 2 (by decide) lk6 (fun _ h9 => h9) rfl dX8_init_29 ?_
  refine lv_iload_n hx hb dX8_init_32 rfl (lv_at hl 0 rfl) ?_
  refine xn_newN (ix := 15) (index := 21) (ci := 4) (C := RX4) (T := TX4) (N := 3) (fs := [.null, .null, .int 0]) (sh := sh4 aC) (rest := [.int (nI 6), .ref r1]) ⟨hx, hb, hml, hown, hts⟩ hin4 tyX4 tyX4_ok lk5 lk9 lk7 hN hK hP hD hS (fun q h => Or.inr h) rfl (fun j hj => by rcases (show j = 0 ∨ j = 1 ∨ j = 2 by omega) with rfl | rfl | rfl <;> rfl) (fun q => n_4 l dC dI aC q) ⟨va_cnB 0 hts gX8_init_X4_init_n21 rfl rfl rfl nk4 lk7 (by decide +kernel) ⟨Nat.le_of_ble_eq_true rfl, Nat.le_of_ble_eq_true rfl⟩, rfl, lk8⟩ hl.1 (Nat.le_of_ble_eq_true rfl) (Nat.le_of_ble_eq_true rfl) (Nat.le_of_ble_eq_true rfl) dX8_init_33 dX8_init_36 dX8_init_37 (fun o8 a8 H locs hP hD hS => ?_)
  have hP : va_P (dC, dI) vwCl ((o, .inr (8, [.ref r0, .int 0, .ref r1, .int 0])) :: (r1, .inl (aC 4, 8, .inr (.inr (.inr (.inr (va_up (va_up (va_up (va_up (va_up (va_up (fun _ => none) 0 (some o2)) 1 (some o3)) 2 (some o4)) 3 (some o5)) 4 (some o6)) 5 (some o7))))))) :: (G ++ sh4 aC o8 a8)) H := hP
  have hD : va_D (nA o s.heap.size) ((o, .inr (8, [.ref r0, .int 0, .ref r1, .int 0])) :: (r1, .inl (aC 4, 8, .inr (.inr (.inr (.inr (va_up (va_up (va_up (va_up (va_up (va_up (fun _ => none) 0 (some o2)) 1 (some o3)) 2 (some o4)) 3 (some o5)) 4 (some o6)) 5 (some o7))))))) :: (G ++ sh4 aC o8 a8)) := hD
  refine va_astq hx hb hK hP hD hS 1 4 (G.length + 2) 4 rfl rfl (by exact ix_new) rfl (vp_in_nI (n := 6) (N := 8) (by decide) (by decide)) dX8_init_40 (fun H locs hP hD hS => ?_)
  have hP : va_P (dC, dI) vwCl ((o, .inr (8, [.ref r0, .int 0, .ref r1, .int 0])) :: (r1, .inl (aC 4, 8, .inr (.inr (.inr (.inr (va_up (va_up (va_up (va_up (va_up (va_up (va_up (fun _ => none) 0 (some o2)) 1 (some o3)) 2 (some o4)) 3 (some o5)) 4 (some o6)) 5 (some o7)) 6 (some o8))))))) :: (G ++ sh4 aC o8 a8)) H := hP
  have hD : va_D (nA o s.heap.size) ((o, .inr (8, [.ref r0, .int 0, .ref r1, .int 0])) :: (r1, .inl (aC 4, 8, .inr (.inr (.inr (.inr (va_up (va_up (va_up (va_up (va_up (va_up (va_up (fun _ => none) 0 (some o2)) 1 (some o3)) 2 (some o4)) 3 (some o5)) 4 (some o6)) 5 (some o7)) 6 (some o8))))))) :: (G ++ sh4 aC o8 a8)) := hD
  obtain ⟨G8, hG8⟩ : ∃ z, z = G ++ sh4 aC o8 a8 := ⟨_, rfl⟩
  rw [← hG8] at hP hD
  obtain ⟨G, hE8⟩ : ∃ z, z = G8 := ⟨_, rfl⟩
  rw [← hE8] at hP hD
  refine lv_iinc (v := nI 7) (lv' := [(1, .int (nI 7)), (0, .ref o)]) hx hb dX8_init_41 hl (k := 0) rfl (by decide) (by decide) rfl (fun ls hl => ?_)
  refine lv_goto (tgt := 22) hx hb dX8_init_44 (by decide) ?_
  refine lv_iload_n hx hb dX8_init_22 rfl (lv_at hl 0 rfl) ?_
  refine lv_bipush (v := nI 8) hx hb dX8_init_23 (by decide) ?_
  refine nx_icmp_ge (a := 7) (b := 8) (tgt := 47) hx hb dX8_init_25 (by decide) (by decide) (by decide) (fun h9 => absurd h9 (by decide)) (fun _ => ?_)
  refine lv_aload_n hx hb dX8_init_28 rfl (lv_at hl 1 rfl) ?_
  refine va_get (D := (dC, dI)) (ci := 8) (C := RX8) (T := TX8) (N := 4) hx hb hts hin8 hown hK hP 0 rfl rfl 2 (by decide) lk6 (fun _ h9 => h9) rfl dX8_init_29 ?_
  refine lv_iload_n hx hb dX8_init_32 rfl (lv_at hl 0 rfl) ?_
  refine xn_newN (ix := 15) (index := 21) (ci := 4) (C := RX4) (T := TX4) (N := 3) (fs := [.null, .null, .int 0]) (sh := sh4 aC) (rest := [.int (nI 7), .ref r1]) ⟨hx, hb, hml, hown, hts⟩ hin4 tyX4 tyX4_ok lk5 lk9 lk7 hN hK hP hD hS (fun q h => Or.inr h) rfl (fun j hj => by rcases (show j = 0 ∨ j = 1 ∨ j = 2 by omega) with rfl | rfl | rfl <;> rfl) (fun q => n_4 l dC dI aC q) ⟨va_cnB 0 hts gX8_init_X4_init_n21 rfl rfl rfl nk4 lk7 (by decide +kernel) ⟨Nat.le_of_ble_eq_true rfl, Nat.le_of_ble_eq_true rfl⟩, rfl, lk8⟩ hl.1 (Nat.le_of_ble_eq_true rfl) (Nat.le_of_ble_eq_true rfl) (Nat.le_of_ble_eq_true rfl) dX8_init_33 dX8_init_36 dX8_init_37 (fun o9 a9 H locs hP hD hS => ?_)
  have hP : va_P (dC, dI) vwCl ((o, .inr (8, [.ref r0, .int 0, .ref r1, .int 0])) :: (r1, .inl (aC 4, 8, .inr (.inr (.inr (.inr (va_up (va_up (va_up (va_up (va_up (va_up (va_up (fun _ => none) 0 (some o2)) 1 (some o3)) 2 (some o4)) 3 (some o5)) 4 (some o6)) 5 (some o7)) 6 (some o8))))))) :: (G ++ sh4 aC o9 a9)) H := hP
  have hD : va_D (nA o s.heap.size) ((o, .inr (8, [.ref r0, .int 0, .ref r1, .int 0])) :: (r1, .inl (aC 4, 8, .inr (.inr (.inr (.inr (va_up (va_up (va_up (va_up (va_up (va_up (va_up (fun _ => none) 0 (some o2)) 1 (some o3)) 2 (some o4)) 3 (some o5)) 4 (some o6)) 5 (some o7)) 6 (some o8))))))) :: (G ++ sh4 aC o9 a9)) := hD
  refine va_astq hx hb hK hP hD hS 1 4 (G.length + 2) 4 rfl rfl (by exact ix_new) rfl (vp_in_nI (n := 7) (N := 8) (by decide) (by decide)) dX8_init_40 (fun H locs hP hD hS => ?_)
  have hP : va_P (dC, dI) vwCl ((o, .inr (8, [.ref r0, .int 0, .ref r1, .int 0])) :: (r1, .inl (aC 4, 8, .inr (.inr (.inr (.inr (va_up (va_up (va_up (va_up (va_up (va_up (va_up (va_up (fun _ => none) 0 (some o2)) 1 (some o3)) 2 (some o4)) 3 (some o5)) 4 (some o6)) 5 (some o7)) 6 (some o8)) 7 (some o9))))))) :: (G ++ sh4 aC o9 a9)) H := hP
  have hD : va_D (nA o s.heap.size) ((o, .inr (8, [.ref r0, .int 0, .ref r1, .int 0])) :: (r1, .inl (aC 4, 8, .inr (.inr (.inr (.inr (va_up (va_up (va_up (va_up (va_up (va_up (va_up (va_up (fun _ => none) 0 (some o2)) 1 (some o3)) 2 (some o4)) 3 (some o5)) 4 (some o6)) 5 (some o7)) 6 (some o8)) 7 (some o9))))))) :: (G ++ sh4 aC o9 a9)) := hD
  obtain ⟨G9, hG9⟩ : ∃ z, z = G ++ sh4 aC o9 a9 := ⟨_, rfl⟩
  rw [← hG9] at hP hD
  obtain ⟨G, hE9⟩ : ∃ z, z = G9 := ⟨_, rfl⟩
  rw [← hE9] at hP hD
  refine lv_iinc (v := nI 8) (lv' := [(1, .int (nI 8)), (0, .ref o)]) hx hb dX8_init_41 hl (k := 0) rfl (by decide) (by decide) rfl (fun ls hl => ?_)
  refine lv_goto (tgt := 22) hx hb dX8_init_44 (by decide) ?_
  refine lv_iload_n hx hb dX8_init_22 rfl (lv_at hl 0 rfl) ?_
  refine lv_bipush (v := nI 8) hx hb dX8_init_23 (by decide) ?_
  refine nx_icmp_ge (a := 8) (b := 8) (tgt := 47) hx hb dX8_init_25 (by decide) (by decide) (by decide) (fun _ => ?_) (fun h9 => absurd h9 (by decide))
  have hP : va_P (dC, dI) vwCl ((o, .inr (8, [.ref r0, .int 0, .ref r1, .int 0])) :: (r1, .inl (aC 4, 8, .inr (.inr (.inr (.inr (upsF (fun i => ((pkF (o9, a9) [(o2, a2), (o3, a3), (o4, a4), (o5, a5), (o6, a6), (o7, a7), (o8, a8), (o9, a9)]) i).1) 8)))))) :: G) H := hP
  have hD : va_D (nA o s.heap.size) ((o, .inr (8, [.ref r0, .int 0, .ref r1, .int 0])) :: (r1, .inl (aC 4, 8, .inr (.inr (.inr (.inr (upsF (fun i => ((pkF (o9, a9) [(o2, a2), (o3, a3), (o4, a4), (o5, a5), (o6, a6), (o7, a7), (o8, a8), (o9, a9)]) i).1) 8)))))) :: G) := hD
  rw [upsF_eq] at hP hD
  subst hQ
  subst hE9
  subst hG9
  subst hE8
  subst hG8
  subst hE7
  subst hG7
  subst hE6
  subst hG6
  subst hE5
  subst hG5
  subst hE4
  subst hG4
  subst hE3
  subst hG3
  subst hE2
  subst hG2
  subst hE1
  subst hG1
  subst hE0
  exact xn_ret (sh := sh8 aC) (a := (r0, r1, (pkF (o9, a9) [(o2, a2), (o3, a3), (o4, a4), (o5, a5), (o6, a6), (o7, a7), (o8, a8), (o9, a9)]))) hx hb hret hlocks hP hD hS (Nat.le_of_ble_eq_true rfl) (Nat.le_of_ble_eq_true rfl) dX8_init_47

def sh10 (aC : Nat → ClassId) (o : Nat) (a : Nat → Nat) : va_W := (o, .inr (10, [.int 0, .ref (a 0), .ref (a 1), .ref (a 2), .int 0, .ref (a 3), .int 0, .ref (a 4), .ref (a 5), .ref (a 6), .ref (a 7), .int 0, .int 0, .int 0, .int 0, .int 0, .ref (a 8), .int 0, .ref (a 9), .ref (a 10), .ref (a 11), .ref (a 12)])) :: (((((((((((((([] : va_W) ++ [(a 0, .inl (aC 0, 4, .inl (fun _ => 0)))]) ++ [(a 1, .inl (aC 0, 1800, .inl (fun _ => 0)))]) ++ [(a 2, .inl (aC 0, 30, .inl (fun _ => 0)))]) ++ [(a 3, .inl (aC 2, 8, .inl (fun _ => 0)))]) ++ [(a 4, .inl (aC 1, 7, .inr (.inl (fun _ => 0))))]) ++ [(a 5, .inl (aC 0, 61, .inl (fun _ => 0)))]) ++ [(a 6, .inl (aC 0, 13, .inl (fun _ => 0)))]) ++ [(a 7, .inl (aC 0, 13, .inl (fun _ => 0)))]) ++ [(a 8, .inl (aC 0, 60, .inl (fun _ => 0)))]) ++ [(a 9, .inl (aC 1, 49, .inr (.inl (fun _ => 0))))]) ++ [(a 10, .inl (aC 1, 7, .inr (.inl (fun _ => 0))))]) ++ [(a 11, .inl (aC 2, 32, .inl (fun _ => 0)))]) ++ [(a 12, .inl (aC 1, 28, .inr (.inl (fun _ => 0))))])
set_option maxHeartbeats 4000000 in
set_option maxRecDepth 100000 in
theorem n_10 (l : Launch) (dC : Nat → ClassId) (dI : Nat → Nat → Nat) (aC : Nat → ClassId) (o : Nat) : Met l yX10_init wsX10_init ({ frames := 1, cells := 13, slots := 2112, locals := 12 } : Room) (va_Pc [.ref o] (NP dC dI aC o (.inr (10, [.int 0, .null, .null, .null, .int 0, .null, .int 0, .null, .null, .null, .null, .int 0, .int 0, .int 0, .int 0, .int 0, .null, .int 0, .null, .null, .null, .null])))) (NQ dC dI (sh10 aC) o) 13 2112 (fun q => q = o) := by
  refine Met.ofW (cc := cX10_init) (maxL := 1) (ret := none) (by decide) rfl ?_
  intro p e s m args below meth c s₁ B hml hv
  obtain ⟨rfl, hK, hP, hN⟩ := hv
  have hx := B.exec
  have hb := B.bytes
  have hret := B.returns
  have hts := atoms_spec (ws := wsX10_init) B.pre
  have hown : s.vm.findClass RX10 = some m.cls := findClass_of_methodNamed B.named
  have hlocks := B.notSynchronized
  have hnm : meth.name = "<init>" := (name_of_methodNamed B.named B.method).1
  have lk0 := hts (.methodLink RX10 1 objectInit) (by decide +kernel)
  have lk1 := hts (.instanceMethod objectInit) (by decide +kernel)
  have lk2 := hts (.code objectInit ⟨#[0xb1]⟩ 1 none) (by decide +kernel)
  have lk3 := hts (.arrayClass .int) (by decide +kernel)
  have lk4 := hts (.fieldLink RX10 7 "LeafTreesModel" "entries" "[I") (by decide +kernel)
  have lk5 := hts (.fieldLink RX10 13 "LeafTreesModel" "symbol" "[I") (by decide +kernel)
  have lk6 := hts (.fieldLink RX10 16 "LeafTreesModel" "size" "[I") (by decide +kernel)
  have lk7 := hts (.arrayClass .boolean) (by decide +kernel)
  have lk8 := hts (.fieldLink RX10 19 "LeafTreesModel" "isNought" "[Z") (by decide +kernel)
  have lk9 := hts (.arrayClass .long) (by decide +kernel)
  have lk10 := hts (.fieldLink RX10 23 "LeafTreesModel" "counted" "[J") (by decide +kernel)
  have lk11 := hts (.fieldLink RX10 27 "LeafTreesModel" "open" "[I") (by decide +kernel)
  have lk12 := hts (.fieldLink RX10 30 "LeafTreesModel" "matchFrom" "[I") (by decide +kernel)
  have lk13 := hts (.fieldLink RX10 33 "LeafTreesModel" "matchTo" "[I") (by decide +kernel)
  have lk14 := hts (.fieldLink RX10 36 "LeafTreesModel" "keptRow" "[I") (by decide +kernel)
  have lk15 := hts (.fieldLink RX10 39 "LeafTreesModel" "parts" "[J") (by decide +kernel)
  have lk16 := hts (.fieldLink RX10 42 "LeafTreesModel" "turnedOf" "[J") (by decide +kernel)
  have lk17 := hts (.fieldLink RX10 45 "LeafTreesModel" "may" "[Z") (by decide +kernel)
  have lk18 := hts (.fieldLink RX10 48 "LeafTreesModel" "byTop" "[J") (by decide +kernel)
  have hin10 : ∀ w ∈ u_ws RX10 TX10 22, w ∈ wsX10_init := by decide +kernel
  have hS : va_S (nA o s.heap.size) s.heap s.heap [] := va_S.rf
  have hD : va_D (nA o s.heap.size) [(o, .inr (10, [.int 0, .null, .null, .null, .int 0, .null, .int 0, .null, .null, .null, .null, .int 0, .int 0, .int 0, .int 0, .int 0, .null, .int 0, .null, .null, .null, .null]))] := va_D_one (Or.inl rfl)
  have hl := lv_entry [.ref o] (n := 1) (Nat.le_of_ble_eq_true rfl)
  rw [lg_entry_eq]
  generalize (lg_sl [.ref o] ++ List.replicate (1 - (lg_sl [.ref o]).length) Slot.unset).toArray = ls at hl ⊢
  have hl : lv_has ls 1 [(0, .ref o)] := hl
  refine nx_Q (R := ({ frames := 1, cells := 13, slots := 2112, locals := 12 } : Room)) (fun Q hQ => ?_)
  obtain ⟨G, hE0⟩ : ∃ z : va_W, z = [] := ⟨_, rfl⟩
  rw [← hE0] at hP hD
  refine lv_aload_n hx hb dX10_init_0 rfl (lv_at hl 0 rfl) ?_
  refine W.objInit hx hb hown lk0 lk1 lk2 rfl (by rw [hml]; exact hl.1) rfl dX10_init_1 (Nat.le_of_ble_eq_true rfl) (Nat.le_of_ble_eq_true rfl) ?_
  refine W.eq (g2 := F0 m 4 ls []) rfl ?_
  refine lv_aload_n hx hb dX10_init_4 rfl (lv_at hl 0 rfl) ?_
  refine lv_iconst (v := nI 4) hx hb dX10_init_5 (by decide) ?_
  refine va_newa (atype := .int) (ty := .int) (N' := 4) (a0 := (4, .inl (fun _ => 0))) hx hb lk3 rfl hK hP hD hS (fun q h => Or.inr h) (fun cA => rfl) (nI_pos (by decide)) (nI_clamp (by decide)) (by decide) (Nat.le_of_ble_eq_true rfl) (Nat.le_of_ble_eq_true rfl) dX10_init_6 (fun r0 cA H hK1 hP hD hS => ?_)
  obtain rfl := aC_int hK hK1
  clear hK1
  have hP : va_P (dC, dI) vwCl ((o, .inr (10, [.int 0, .null, .null, .null, .int 0, .null, .int 0, .null, .null, .null, .null, .int 0, .int 0, .int 0, .int 0, .int 0, .null, .int 0, .null, .null, .null, .null])) :: (G ++ [(r0, .inl (aC 0, 4, .inl (fun _ => 0)))])) H := hP
  have hD : va_D (nA o s.heap.size) ((o, .inr (10, [.int 0, .null, .null, .null, .int 0, .null, .int 0, .null, .null, .null, .null, .int 0, .int 0, .int 0, .int 0, .int 0, .null, .int 0, .null, .null, .null, .null])) :: (G ++ [(r0, .inl (aC 0, 4, .inl (fun _ => 0)))])) := hD
  obtain ⟨G1, hG1⟩ : ∃ z, z = G ++ [(r0, .inl (aC 0, 4, .inl (fun _ => 0)))] := ⟨_, rfl⟩
  rw [← hG1] at hP hD
  obtain ⟨G, hE1⟩ : ∃ z, z = G1 := ⟨_, rfl⟩
  rw [← hE1] at hP hD
  refine va_putF (D := (dC, dI)) (ci := 10) (v := .ref r0) (ty := .array .int) (C := RX10) (T := TX10) (N := 22) hx hb hts hin10 tyX10 tyX10_ok nmX10 hown hK hP hD hS 0 rfl rfl 1 (by decide) lk4 (fun _ h9 => h9) rfl hnm rfl (by decide +kernel) rfl rfl (Nat.le_of_ble_eq_true rfl) dX10_init_8 (fun H locs hP hD hS => ?_)
  have hP : va_P (dC, dI) vwCl ((o, .inr (10, [.int 0, .ref r0, .null, .null, .int 0, .null, .int 0, .null, .null, .null, .null, .int 0, .int 0, .int 0, .int 0, .int 0, .null, .int 0, .null, .null, .null, .null])) :: G) H := hP
  have hD : va_D (nA o s.heap.size) ((o, .inr (10, [.int 0, .ref r0, .null, .null, .int 0, .null, .int 0, .null, .null, .null, .null, .int 0, .int 0, .int 0, .int 0, .int 0, .null, .int 0, .null, .null, .null, .null])) :: G) := hD
  refine lv_aload_n hx hb dX10_init_11 rfl (lv_at hl 0 rfl) ?_
  refine lv_sipush (v := nI 1800) hx hb dX10_init_12 (by decide) ?_
  refine va_newa (atype := .int) (ty := .int) (N' := 1800) (a0 := (1800, .inl (fun _ => 0))) hx hb lk3 rfl hK hP hD hS (fun q h => Or.inr h) (fun cA => rfl) (nI_pos (by decide)) (nI_clamp (by decide)) (by decide) (Nat.le_of_ble_eq_true rfl) (Nat.le_of_ble_eq_true rfl) dX10_init_15 (fun r1 cA H hK1 hP hD hS => ?_)
  obtain rfl := aC_int hK hK1
  clear hK1
  have hP : va_P (dC, dI) vwCl ((o, .inr (10, [.int 0, .ref r0, .null, .null, .int 0, .null, .int 0, .null, .null, .null, .null, .int 0, .int 0, .int 0, .int 0, .int 0, .null, .int 0, .null, .null, .null, .null])) :: (G ++ [(r1, .inl (aC 0, 1800, .inl (fun _ => 0)))])) H := hP
  have hD : va_D (nA o s.heap.size) ((o, .inr (10, [.int 0, .ref r0, .null, .null, .int 0, .null, .int 0, .null, .null, .null, .null, .int 0, .int 0, .int 0, .int 0, .int 0, .null, .int 0, .null, .null, .null, .null])) :: (G ++ [(r1, .inl (aC 0, 1800, .inl (fun _ => 0)))])) := hD
  obtain ⟨G2, hG2⟩ : ∃ z, z = G ++ [(r1, .inl (aC 0, 1800, .inl (fun _ => 0)))] := ⟨_, rfl⟩
  rw [← hG2] at hP hD
  obtain ⟨G, hE2⟩ : ∃ z, z = G2 := ⟨_, rfl⟩
  rw [← hE2] at hP hD
  refine va_putF (D := (dC, dI)) (ci := 10) (v := .ref r1) (ty := .array .int) (C := RX10) (T := TX10) (N := 22) hx hb hts hin10 tyX10 tyX10_ok nmX10 hown hK hP hD hS 0 rfl rfl 2 (by decide) lk5 (fun _ h9 => h9) rfl hnm rfl (by decide +kernel) rfl rfl (Nat.le_of_ble_eq_true rfl) dX10_init_17 (fun H locs hP hD hS => ?_)
  have hP : va_P (dC, dI) vwCl ((o, .inr (10, [.int 0, .ref r0, .ref r1, .null, .int 0, .null, .int 0, .null, .null, .null, .null, .int 0, .int 0, .int 0, .int 0, .int 0, .null, .int 0, .null, .null, .null, .null])) :: G) H := hP
  have hD : va_D (nA o s.heap.size) ((o, .inr (10, [.int 0, .ref r0, .ref r1, .null, .int 0, .null, .int 0, .null, .null, .null, .null, .int 0, .int 0, .int 0, .int 0, .int 0, .null, .int 0, .null, .null, .null, .null])) :: G) := hD
  refine lv_aload_n hx hb dX10_init_20 rfl (lv_at hl 0 rfl) ?_
  refine lv_bipush (v := nI 30) hx hb dX10_init_21 (by decide) ?_
  refine va_newa (atype := .int) (ty := .int) (N' := 30) (a0 := (30, .inl (fun _ => 0))) hx hb lk3 rfl hK hP hD hS (fun q h => Or.inr h) (fun cA => rfl) (nI_pos (by decide)) (nI_clamp (by decide)) (by decide) (Nat.le_of_ble_eq_true rfl) (Nat.le_of_ble_eq_true rfl) dX10_init_23 (fun r2 cA H hK1 hP hD hS => ?_)
  obtain rfl := aC_int hK hK1
  clear hK1
  have hP : va_P (dC, dI) vwCl ((o, .inr (10, [.int 0, .ref r0, .ref r1, .null, .int 0, .null, .int 0, .null, .null, .null, .null, .int 0, .int 0, .int 0, .int 0, .int 0, .null, .int 0, .null, .null, .null, .null])) :: (G ++ [(r2, .inl (aC 0, 30, .inl (fun _ => 0)))])) H := hP
  have hD : va_D (nA o s.heap.size) ((o, .inr (10, [.int 0, .ref r0, .ref r1, .null, .int 0, .null, .int 0, .null, .null, .null, .null, .int 0, .int 0, .int 0, .int 0, .int 0, .null, .int 0, .null, .null, .null, .null])) :: (G ++ [(r2, .inl (aC 0, 30, .inl (fun _ => 0)))])) := hD
  obtain ⟨G3, hG3⟩ : ∃ z, z = G ++ [(r2, .inl (aC 0, 30, .inl (fun _ => 0)))] := ⟨_, rfl⟩
  rw [← hG3] at hP hD
  obtain ⟨G, hE3⟩ : ∃ z, z = G3 := ⟨_, rfl⟩
  rw [← hE3] at hP hD
  refine va_putF (D := (dC, dI)) (ci := 10) (v := .ref r2) (ty := .array .int) (C := RX10) (T := TX10) (N := 22) hx hb hts hin10 tyX10 tyX10_ok nmX10 hown hK hP hD hS 0 rfl rfl 3 (by decide) lk6 (fun _ h9 => h9) rfl hnm rfl (by decide +kernel) rfl rfl (Nat.le_of_ble_eq_true rfl) dX10_init_25 (fun H locs hP hD hS => ?_)
  have hP : va_P (dC, dI) vwCl ((o, .inr (10, [.int 0, .ref r0, .ref r1, .ref r2, .int 0, .null, .int 0, .null, .null, .null, .null, .int 0, .int 0, .int 0, .int 0, .int 0, .null, .int 0, .null, .null, .null, .null])) :: G) H := hP
  have hD : va_D (nA o s.heap.size) ((o, .inr (10, [.int 0, .ref r0, .ref r1, .ref r2, .int 0, .null, .int 0, .null, .null, .null, .null, .int 0, .int 0, .int 0, .int 0, .int 0, .null, .int 0, .null, .null, .null, .null])) :: G) := hD
  refine lv_aload_n hx hb dX10_init_28 rfl (lv_at hl 0 rfl) ?_
  refine lv_bipush (v := nI 8) hx hb dX10_init_29 (by decide) ?_
  refine va_newa (atype := .boolean) (ty := .boolean) (N' := 8) (a0 := (8, .inl (fun _ => 0))) hx hb lk7 rfl hK hP hD hS (fun q h => Or.inr h) (fun cA => rfl) (nI_pos (by decide)) (nI_clamp (by decide)) (by decide) (Nat.le_of_ble_eq_true rfl) (Nat.le_of_ble_eq_true rfl) dX10_init_31 (fun r3 cA H hK1 hP hD hS => ?_)
  obtain rfl := aC_bool hK hK1
  clear hK1
  have hP : va_P (dC, dI) vwCl ((o, .inr (10, [.int 0, .ref r0, .ref r1, .ref r2, .int 0, .null, .int 0, .null, .null, .null, .null, .int 0, .int 0, .int 0, .int 0, .int 0, .null, .int 0, .null, .null, .null, .null])) :: (G ++ [(r3, .inl (aC 2, 8, .inl (fun _ => 0)))])) H := hP
  have hD : va_D (nA o s.heap.size) ((o, .inr (10, [.int 0, .ref r0, .ref r1, .ref r2, .int 0, .null, .int 0, .null, .null, .null, .null, .int 0, .int 0, .int 0, .int 0, .int 0, .null, .int 0, .null, .null, .null, .null])) :: (G ++ [(r3, .inl (aC 2, 8, .inl (fun _ => 0)))])) := hD
  obtain ⟨G4, hG4⟩ : ∃ z, z = G ++ [(r3, .inl (aC 2, 8, .inl (fun _ => 0)))] := ⟨_, rfl⟩
  rw [← hG4] at hP hD
  obtain ⟨G, hE4⟩ : ∃ z, z = G4 := ⟨_, rfl⟩
  rw [← hE4] at hP hD
  refine va_putF (D := (dC, dI)) (ci := 10) (v := .ref r3) (ty := .array .boolean) (C := RX10) (T := TX10) (N := 22) hx hb hts hin10 tyX10 tyX10_ok nmX10 hown hK hP hD hS 0 rfl rfl 5 (by decide) lk8 (fun _ h9 => h9) rfl hnm rfl (by decide +kernel) rfl rfl (Nat.le_of_ble_eq_true rfl) dX10_init_33 (fun H locs hP hD hS => ?_)
  have hP : va_P (dC, dI) vwCl ((o, .inr (10, [.int 0, .ref r0, .ref r1, .ref r2, .int 0, .ref r3, .int 0, .null, .null, .null, .null, .int 0, .int 0, .int 0, .int 0, .int 0, .null, .int 0, .null, .null, .null, .null])) :: G) H := hP
  have hD : va_D (nA o s.heap.size) ((o, .inr (10, [.int 0, .ref r0, .ref r1, .ref r2, .int 0, .ref r3, .int 0, .null, .null, .null, .null, .int 0, .int 0, .int 0, .int 0, .int 0, .null, .int 0, .null, .null, .null, .null])) :: G) := hD
  refine lv_aload_n hx hb dX10_init_36 rfl (lv_at hl 0 rfl) ?_
  refine lv_bipush (v := nI 7) hx hb dX10_init_37 (by decide) ?_
  refine va_newa (atype := .long) (ty := .long) (N' := 7) (a0 := (7, .inr (.inl (fun _ => 0)))) hx hb lk9 rfl hK hP hD hS (fun q h => Or.inr h) (fun cA => rfl) (nI_pos (by decide)) (nI_clamp (by decide)) (by decide) (Nat.le_of_ble_eq_true rfl) (Nat.le_of_ble_eq_true rfl) dX10_init_39 (fun r4 cA H hK1 hP hD hS => ?_)
  obtain rfl := aC_long hK hK1
  clear hK1
  have hP : va_P (dC, dI) vwCl ((o, .inr (10, [.int 0, .ref r0, .ref r1, .ref r2, .int 0, .ref r3, .int 0, .null, .null, .null, .null, .int 0, .int 0, .int 0, .int 0, .int 0, .null, .int 0, .null, .null, .null, .null])) :: (G ++ [(r4, .inl (aC 1, 7, .inr (.inl (fun _ => 0))))])) H := hP
  have hD : va_D (nA o s.heap.size) ((o, .inr (10, [.int 0, .ref r0, .ref r1, .ref r2, .int 0, .ref r3, .int 0, .null, .null, .null, .null, .int 0, .int 0, .int 0, .int 0, .int 0, .null, .int 0, .null, .null, .null, .null])) :: (G ++ [(r4, .inl (aC 1, 7, .inr (.inl (fun _ => 0))))])) := hD
  obtain ⟨G5, hG5⟩ : ∃ z, z = G ++ [(r4, .inl (aC 1, 7, .inr (.inl (fun _ => 0))))] := ⟨_, rfl⟩
  rw [← hG5] at hP hD
  obtain ⟨G, hE5⟩ : ∃ z, z = G5 := ⟨_, rfl⟩
  rw [← hE5] at hP hD
  refine va_putF (D := (dC, dI)) (ci := 10) (v := .ref r4) (ty := .array .long) (C := RX10) (T := TX10) (N := 22) hx hb hts hin10 tyX10 tyX10_ok nmX10 hown hK hP hD hS 0 rfl rfl 7 (by decide) lk10 (fun _ h9 => h9) rfl hnm rfl (by decide +kernel) rfl rfl (Nat.le_of_ble_eq_true rfl) dX10_init_41 (fun H locs hP hD hS => ?_)
  have hP : va_P (dC, dI) vwCl ((o, .inr (10, [.int 0, .ref r0, .ref r1, .ref r2, .int 0, .ref r3, .int 0, .ref r4, .null, .null, .null, .int 0, .int 0, .int 0, .int 0, .int 0, .null, .int 0, .null, .null, .null, .null])) :: G) H := hP
  have hD : va_D (nA o s.heap.size) ((o, .inr (10, [.int 0, .ref r0, .ref r1, .ref r2, .int 0, .ref r3, .int 0, .ref r4, .null, .null, .null, .int 0, .int 0, .int 0, .int 0, .int 0, .null, .int 0, .null, .null, .null, .null])) :: G) := hD
  refine lv_aload_n hx hb dX10_init_44 rfl (lv_at hl 0 rfl) ?_
  refine lv_bipush (v := nI 61) hx hb dX10_init_45 (by decide) ?_
  refine va_newa (atype := .int) (ty := .int) (N' := 61) (a0 := (61, .inl (fun _ => 0))) hx hb lk3 rfl hK hP hD hS (fun q h => Or.inr h) (fun cA => rfl) (nI_pos (by decide)) (nI_clamp (by decide)) (by decide) (Nat.le_of_ble_eq_true rfl) (Nat.le_of_ble_eq_true rfl) dX10_init_47 (fun r5 cA H hK1 hP hD hS => ?_)
  obtain rfl := aC_int hK hK1
  clear hK1
  have hP : va_P (dC, dI) vwCl ((o, .inr (10, [.int 0, .ref r0, .ref r1, .ref r2, .int 0, .ref r3, .int 0, .ref r4, .null, .null, .null, .int 0, .int 0, .int 0, .int 0, .int 0, .null, .int 0, .null, .null, .null, .null])) :: (G ++ [(r5, .inl (aC 0, 61, .inl (fun _ => 0)))])) H := hP
  have hD : va_D (nA o s.heap.size) ((o, .inr (10, [.int 0, .ref r0, .ref r1, .ref r2, .int 0, .ref r3, .int 0, .ref r4, .null, .null, .null, .int 0, .int 0, .int 0, .int 0, .int 0, .null, .int 0, .null, .null, .null, .null])) :: (G ++ [(r5, .inl (aC 0, 61, .inl (fun _ => 0)))])) := hD
  obtain ⟨G6, hG6⟩ : ∃ z, z = G ++ [(r5, .inl (aC 0, 61, .inl (fun _ => 0)))] := ⟨_, rfl⟩
  rw [← hG6] at hP hD
  obtain ⟨G, hE6⟩ : ∃ z, z = G6 := ⟨_, rfl⟩
  rw [← hE6] at hP hD
  refine va_putF (D := (dC, dI)) (ci := 10) (v := .ref r5) (ty := .array .int) (C := RX10) (T := TX10) (N := 22) hx hb hts hin10 tyX10 tyX10_ok nmX10 hown hK hP hD hS 0 rfl rfl 8 (by decide) lk11 (fun _ h9 => h9) rfl hnm rfl (by decide +kernel) rfl rfl (Nat.le_of_ble_eq_true rfl) dX10_init_49 (fun H locs hP hD hS => ?_)
  have hP : va_P (dC, dI) vwCl ((o, .inr (10, [.int 0, .ref r0, .ref r1, .ref r2, .int 0, .ref r3, .int 0, .ref r4, .ref r5, .null, .null, .int 0, .int 0, .int 0, .int 0, .int 0, .null, .int 0, .null, .null, .null, .null])) :: G) H := hP
  have hD : va_D (nA o s.heap.size) ((o, .inr (10, [.int 0, .ref r0, .ref r1, .ref r2, .int 0, .ref r3, .int 0, .ref r4, .ref r5, .null, .null, .int 0, .int 0, .int 0, .int 0, .int 0, .null, .int 0, .null, .null, .null, .null])) :: G) := hD
  refine lv_aload_n hx hb dX10_init_52 rfl (lv_at hl 0 rfl) ?_
  refine lv_bipush (v := nI 13) hx hb dX10_init_53 (by decide) ?_
  refine va_newa (atype := .int) (ty := .int) (N' := 13) (a0 := (13, .inl (fun _ => 0))) hx hb lk3 rfl hK hP hD hS (fun q h => Or.inr h) (fun cA => rfl) (nI_pos (by decide)) (nI_clamp (by decide)) (by decide) (Nat.le_of_ble_eq_true rfl) (Nat.le_of_ble_eq_true rfl) dX10_init_55 (fun r6 cA H hK1 hP hD hS => ?_)
  obtain rfl := aC_int hK hK1
  clear hK1
  have hP : va_P (dC, dI) vwCl ((o, .inr (10, [.int 0, .ref r0, .ref r1, .ref r2, .int 0, .ref r3, .int 0, .ref r4, .ref r5, .null, .null, .int 0, .int 0, .int 0, .int 0, .int 0, .null, .int 0, .null, .null, .null, .null])) :: (G ++ [(r6, .inl (aC 0, 13, .inl (fun _ => 0)))])) H := hP
  have hD : va_D (nA o s.heap.size) ((o, .inr (10, [.int 0, .ref r0, .ref r1, .ref r2, .int 0, .ref r3, .int 0, .ref r4, .ref r5, .null, .null, .int 0, .int 0, .int 0, .int 0, .int 0, .null, .int 0, .null, .null, .null, .null])) :: (G ++ [(r6, .inl (aC 0, 13, .inl (fun _ => 0)))])) := hD
  obtain ⟨G7, hG7⟩ : ∃ z, z = G ++ [(r6, .inl (aC 0, 13, .inl (fun _ => 0)))] := ⟨_, rfl⟩
  rw [← hG7] at hP hD
  obtain ⟨G, hE7⟩ : ∃ z, z = G7 := ⟨_, rfl⟩
  rw [← hE7] at hP hD
  refine va_putF (D := (dC, dI)) (ci := 10) (v := .ref r6) (ty := .array .int) (C := RX10) (T := TX10) (N := 22) hx hb hts hin10 tyX10 tyX10_ok nmX10 hown hK hP hD hS 0 rfl rfl 9 (by decide) lk12 (fun _ h9 => h9) rfl hnm rfl (by decide +kernel) rfl rfl (Nat.le_of_ble_eq_true rfl) dX10_init_57 (fun H locs hP hD hS => ?_)
  have hP : va_P (dC, dI) vwCl ((o, .inr (10, [.int 0, .ref r0, .ref r1, .ref r2, .int 0, .ref r3, .int 0, .ref r4, .ref r5, .ref r6, .null, .int 0, .int 0, .int 0, .int 0, .int 0, .null, .int 0, .null, .null, .null, .null])) :: G) H := hP
  have hD : va_D (nA o s.heap.size) ((o, .inr (10, [.int 0, .ref r0, .ref r1, .ref r2, .int 0, .ref r3, .int 0, .ref r4, .ref r5, .ref r6, .null, .int 0, .int 0, .int 0, .int 0, .int 0, .null, .int 0, .null, .null, .null, .null])) :: G) := hD
  refine lv_aload_n hx hb dX10_init_60 rfl (lv_at hl 0 rfl) ?_
  refine lv_bipush (v := nI 13) hx hb dX10_init_61 (by decide) ?_
  refine va_newa (atype := .int) (ty := .int) (N' := 13) (a0 := (13, .inl (fun _ => 0))) hx hb lk3 rfl hK hP hD hS (fun q h => Or.inr h) (fun cA => rfl) (nI_pos (by decide)) (nI_clamp (by decide)) (by decide) (Nat.le_of_ble_eq_true rfl) (Nat.le_of_ble_eq_true rfl) dX10_init_63 (fun r7 cA H hK1 hP hD hS => ?_)
  obtain rfl := aC_int hK hK1
  clear hK1
  have hP : va_P (dC, dI) vwCl ((o, .inr (10, [.int 0, .ref r0, .ref r1, .ref r2, .int 0, .ref r3, .int 0, .ref r4, .ref r5, .ref r6, .null, .int 0, .int 0, .int 0, .int 0, .int 0, .null, .int 0, .null, .null, .null, .null])) :: (G ++ [(r7, .inl (aC 0, 13, .inl (fun _ => 0)))])) H := hP
  have hD : va_D (nA o s.heap.size) ((o, .inr (10, [.int 0, .ref r0, .ref r1, .ref r2, .int 0, .ref r3, .int 0, .ref r4, .ref r5, .ref r6, .null, .int 0, .int 0, .int 0, .int 0, .int 0, .null, .int 0, .null, .null, .null, .null])) :: (G ++ [(r7, .inl (aC 0, 13, .inl (fun _ => 0)))])) := hD
  obtain ⟨G8, hG8⟩ : ∃ z, z = G ++ [(r7, .inl (aC 0, 13, .inl (fun _ => 0)))] := ⟨_, rfl⟩
  rw [← hG8] at hP hD
  obtain ⟨G, hE8⟩ : ∃ z, z = G8 := ⟨_, rfl⟩
  rw [← hE8] at hP hD
  refine va_putF (D := (dC, dI)) (ci := 10) (v := .ref r7) (ty := .array .int) (C := RX10) (T := TX10) (N := 22) hx hb hts hin10 tyX10 tyX10_ok nmX10 hown hK hP hD hS 0 rfl rfl 10 (by decide) lk13 (fun _ h9 => h9) rfl hnm rfl (by decide +kernel) rfl rfl (Nat.le_of_ble_eq_true rfl) dX10_init_65 (fun H locs hP hD hS => ?_)
  have hP : va_P (dC, dI) vwCl ((o, .inr (10, [.int 0, .ref r0, .ref r1, .ref r2, .int 0, .ref r3, .int 0, .ref r4, .ref r5, .ref r6, .ref r7, .int 0, .int 0, .int 0, .int 0, .int 0, .null, .int 0, .null, .null, .null, .null])) :: G) H := hP
  have hD : va_D (nA o s.heap.size) ((o, .inr (10, [.int 0, .ref r0, .ref r1, .ref r2, .int 0, .ref r3, .int 0, .ref r4, .ref r5, .ref r6, .ref r7, .int 0, .int 0, .int 0, .int 0, .int 0, .null, .int 0, .null, .null, .null, .null])) :: G) := hD
  refine lv_aload_n hx hb dX10_init_68 rfl (lv_at hl 0 rfl) ?_
  refine lv_bipush (v := nI 60) hx hb dX10_init_69 (by decide) ?_
  refine va_newa (atype := .int) (ty := .int) (N' := 60) (a0 := (60, .inl (fun _ => 0))) hx hb lk3 rfl hK hP hD hS (fun q h => Or.inr h) (fun cA => rfl) (nI_pos (by decide)) (nI_clamp (by decide)) (by decide) (Nat.le_of_ble_eq_true rfl) (Nat.le_of_ble_eq_true rfl) dX10_init_71 (fun r8 cA H hK1 hP hD hS => ?_)
  obtain rfl := aC_int hK hK1
  clear hK1
  have hP : va_P (dC, dI) vwCl ((o, .inr (10, [.int 0, .ref r0, .ref r1, .ref r2, .int 0, .ref r3, .int 0, .ref r4, .ref r5, .ref r6, .ref r7, .int 0, .int 0, .int 0, .int 0, .int 0, .null, .int 0, .null, .null, .null, .null])) :: (G ++ [(r8, .inl (aC 0, 60, .inl (fun _ => 0)))])) H := hP
  have hD : va_D (nA o s.heap.size) ((o, .inr (10, [.int 0, .ref r0, .ref r1, .ref r2, .int 0, .ref r3, .int 0, .ref r4, .ref r5, .ref r6, .ref r7, .int 0, .int 0, .int 0, .int 0, .int 0, .null, .int 0, .null, .null, .null, .null])) :: (G ++ [(r8, .inl (aC 0, 60, .inl (fun _ => 0)))])) := hD
  obtain ⟨G9, hG9⟩ : ∃ z, z = G ++ [(r8, .inl (aC 0, 60, .inl (fun _ => 0)))] := ⟨_, rfl⟩
  rw [← hG9] at hP hD
  obtain ⟨G, hE9⟩ : ∃ z, z = G9 := ⟨_, rfl⟩
  rw [← hE9] at hP hD
  refine va_putF (D := (dC, dI)) (ci := 10) (v := .ref r8) (ty := .array .int) (C := RX10) (T := TX10) (N := 22) hx hb hts hin10 tyX10 tyX10_ok nmX10 hown hK hP hD hS 0 rfl rfl 16 (by decide) lk14 (fun _ h9 => h9) rfl hnm rfl (by decide +kernel) rfl rfl (Nat.le_of_ble_eq_true rfl) dX10_init_73 (fun H locs hP hD hS => ?_)
  have hP : va_P (dC, dI) vwCl ((o, .inr (10, [.int 0, .ref r0, .ref r1, .ref r2, .int 0, .ref r3, .int 0, .ref r4, .ref r5, .ref r6, .ref r7, .int 0, .int 0, .int 0, .int 0, .int 0, .ref r8, .int 0, .null, .null, .null, .null])) :: G) H := hP
  have hD : va_D (nA o s.heap.size) ((o, .inr (10, [.int 0, .ref r0, .ref r1, .ref r2, .int 0, .ref r3, .int 0, .ref r4, .ref r5, .ref r6, .ref r7, .int 0, .int 0, .int 0, .int 0, .int 0, .ref r8, .int 0, .null, .null, .null, .null])) :: G) := hD
  refine lv_aload_n hx hb dX10_init_76 rfl (lv_at hl 0 rfl) ?_
  refine lv_bipush (v := nI 49) hx hb dX10_init_77 (by decide) ?_
  refine va_newa (atype := .long) (ty := .long) (N' := 49) (a0 := (49, .inr (.inl (fun _ => 0)))) hx hb lk9 rfl hK hP hD hS (fun q h => Or.inr h) (fun cA => rfl) (nI_pos (by decide)) (nI_clamp (by decide)) (by decide) (Nat.le_of_ble_eq_true rfl) (Nat.le_of_ble_eq_true rfl) dX10_init_79 (fun r9 cA H hK1 hP hD hS => ?_)
  obtain rfl := aC_long hK hK1
  clear hK1
  have hP : va_P (dC, dI) vwCl ((o, .inr (10, [.int 0, .ref r0, .ref r1, .ref r2, .int 0, .ref r3, .int 0, .ref r4, .ref r5, .ref r6, .ref r7, .int 0, .int 0, .int 0, .int 0, .int 0, .ref r8, .int 0, .null, .null, .null, .null])) :: (G ++ [(r9, .inl (aC 1, 49, .inr (.inl (fun _ => 0))))])) H := hP
  have hD : va_D (nA o s.heap.size) ((o, .inr (10, [.int 0, .ref r0, .ref r1, .ref r2, .int 0, .ref r3, .int 0, .ref r4, .ref r5, .ref r6, .ref r7, .int 0, .int 0, .int 0, .int 0, .int 0, .ref r8, .int 0, .null, .null, .null, .null])) :: (G ++ [(r9, .inl (aC 1, 49, .inr (.inl (fun _ => 0))))])) := hD
  obtain ⟨G10, hG10⟩ : ∃ z, z = G ++ [(r9, .inl (aC 1, 49, .inr (.inl (fun _ => 0))))] := ⟨_, rfl⟩
  rw [← hG10] at hP hD
  obtain ⟨G, hE10⟩ : ∃ z, z = G10 := ⟨_, rfl⟩
  rw [← hE10] at hP hD
  refine va_putF (D := (dC, dI)) (ci := 10) (v := .ref r9) (ty := .array .long) (C := RX10) (T := TX10) (N := 22) hx hb hts hin10 tyX10 tyX10_ok nmX10 hown hK hP hD hS 0 rfl rfl 18 (by decide) lk15 (fun _ h9 => h9) rfl hnm rfl (by decide +kernel) rfl rfl (Nat.le_of_ble_eq_true rfl) dX10_init_81 (fun H locs hP hD hS => ?_)
  have hP : va_P (dC, dI) vwCl ((o, .inr (10, [.int 0, .ref r0, .ref r1, .ref r2, .int 0, .ref r3, .int 0, .ref r4, .ref r5, .ref r6, .ref r7, .int 0, .int 0, .int 0, .int 0, .int 0, .ref r8, .int 0, .ref r9, .null, .null, .null])) :: G) H := hP
  have hD : va_D (nA o s.heap.size) ((o, .inr (10, [.int 0, .ref r0, .ref r1, .ref r2, .int 0, .ref r3, .int 0, .ref r4, .ref r5, .ref r6, .ref r7, .int 0, .int 0, .int 0, .int 0, .int 0, .ref r8, .int 0, .ref r9, .null, .null, .null])) :: G) := hD
  refine lv_aload_n hx hb dX10_init_84 rfl (lv_at hl 0 rfl) ?_
  refine lv_bipush (v := nI 7) hx hb dX10_init_85 (by decide) ?_
  refine va_newa (atype := .long) (ty := .long) (N' := 7) (a0 := (7, .inr (.inl (fun _ => 0)))) hx hb lk9 rfl hK hP hD hS (fun q h => Or.inr h) (fun cA => rfl) (nI_pos (by decide)) (nI_clamp (by decide)) (by decide) (Nat.le_of_ble_eq_true rfl) (Nat.le_of_ble_eq_true rfl) dX10_init_87 (fun r10 cA H hK1 hP hD hS => ?_)
  obtain rfl := aC_long hK hK1
  clear hK1
  have hP : va_P (dC, dI) vwCl ((o, .inr (10, [.int 0, .ref r0, .ref r1, .ref r2, .int 0, .ref r3, .int 0, .ref r4, .ref r5, .ref r6, .ref r7, .int 0, .int 0, .int 0, .int 0, .int 0, .ref r8, .int 0, .ref r9, .null, .null, .null])) :: (G ++ [(r10, .inl (aC 1, 7, .inr (.inl (fun _ => 0))))])) H := hP
  have hD : va_D (nA o s.heap.size) ((o, .inr (10, [.int 0, .ref r0, .ref r1, .ref r2, .int 0, .ref r3, .int 0, .ref r4, .ref r5, .ref r6, .ref r7, .int 0, .int 0, .int 0, .int 0, .int 0, .ref r8, .int 0, .ref r9, .null, .null, .null])) :: (G ++ [(r10, .inl (aC 1, 7, .inr (.inl (fun _ => 0))))])) := hD
  obtain ⟨G11, hG11⟩ : ∃ z, z = G ++ [(r10, .inl (aC 1, 7, .inr (.inl (fun _ => 0))))] := ⟨_, rfl⟩
  rw [← hG11] at hP hD
  obtain ⟨G, hE11⟩ : ∃ z, z = G11 := ⟨_, rfl⟩
  rw [← hE11] at hP hD
  refine va_putF (D := (dC, dI)) (ci := 10) (v := .ref r10) (ty := .array .long) (C := RX10) (T := TX10) (N := 22) hx hb hts hin10 tyX10 tyX10_ok nmX10 hown hK hP hD hS 0 rfl rfl 19 (by decide) lk16 (fun _ h9 => h9) rfl hnm rfl (by decide +kernel) rfl rfl (Nat.le_of_ble_eq_true rfl) dX10_init_89 (fun H locs hP hD hS => ?_)
  have hP : va_P (dC, dI) vwCl ((o, .inr (10, [.int 0, .ref r0, .ref r1, .ref r2, .int 0, .ref r3, .int 0, .ref r4, .ref r5, .ref r6, .ref r7, .int 0, .int 0, .int 0, .int 0, .int 0, .ref r8, .int 0, .ref r9, .ref r10, .null, .null])) :: G) H := hP
  have hD : va_D (nA o s.heap.size) ((o, .inr (10, [.int 0, .ref r0, .ref r1, .ref r2, .int 0, .ref r3, .int 0, .ref r4, .ref r5, .ref r6, .ref r7, .int 0, .int 0, .int 0, .int 0, .int 0, .ref r8, .int 0, .ref r9, .ref r10, .null, .null])) :: G) := hD
  refine lv_aload_n hx hb dX10_init_92 rfl (lv_at hl 0 rfl) ?_
  refine lv_bipush (v := nI 32) hx hb dX10_init_93 (by decide) ?_
  refine va_newa (atype := .boolean) (ty := .boolean) (N' := 32) (a0 := (32, .inl (fun _ => 0))) hx hb lk7 rfl hK hP hD hS (fun q h => Or.inr h) (fun cA => rfl) (nI_pos (by decide)) (nI_clamp (by decide)) (by decide) (Nat.le_of_ble_eq_true rfl) (Nat.le_of_ble_eq_true rfl) dX10_init_95 (fun r11 cA H hK1 hP hD hS => ?_)
  obtain rfl := aC_bool hK hK1
  clear hK1
  have hP : va_P (dC, dI) vwCl ((o, .inr (10, [.int 0, .ref r0, .ref r1, .ref r2, .int 0, .ref r3, .int 0, .ref r4, .ref r5, .ref r6, .ref r7, .int 0, .int 0, .int 0, .int 0, .int 0, .ref r8, .int 0, .ref r9, .ref r10, .null, .null])) :: (G ++ [(r11, .inl (aC 2, 32, .inl (fun _ => 0)))])) H := hP
  have hD : va_D (nA o s.heap.size) ((o, .inr (10, [.int 0, .ref r0, .ref r1, .ref r2, .int 0, .ref r3, .int 0, .ref r4, .ref r5, .ref r6, .ref r7, .int 0, .int 0, .int 0, .int 0, .int 0, .ref r8, .int 0, .ref r9, .ref r10, .null, .null])) :: (G ++ [(r11, .inl (aC 2, 32, .inl (fun _ => 0)))])) := hD
  obtain ⟨G12, hG12⟩ : ∃ z, z = G ++ [(r11, .inl (aC 2, 32, .inl (fun _ => 0)))] := ⟨_, rfl⟩
  rw [← hG12] at hP hD
  obtain ⟨G, hE12⟩ : ∃ z, z = G12 := ⟨_, rfl⟩
  rw [← hE12] at hP hD
  refine va_putF (D := (dC, dI)) (ci := 10) (v := .ref r11) (ty := .array .boolean) (C := RX10) (T := TX10) (N := 22) hx hb hts hin10 tyX10 tyX10_ok nmX10 hown hK hP hD hS 0 rfl rfl 20 (by decide) lk17 (fun _ h9 => h9) rfl hnm rfl (by decide +kernel) rfl rfl (Nat.le_of_ble_eq_true rfl) dX10_init_97 (fun H locs hP hD hS => ?_)
  have hP : va_P (dC, dI) vwCl ((o, .inr (10, [.int 0, .ref r0, .ref r1, .ref r2, .int 0, .ref r3, .int 0, .ref r4, .ref r5, .ref r6, .ref r7, .int 0, .int 0, .int 0, .int 0, .int 0, .ref r8, .int 0, .ref r9, .ref r10, .ref r11, .null])) :: G) H := hP
  have hD : va_D (nA o s.heap.size) ((o, .inr (10, [.int 0, .ref r0, .ref r1, .ref r2, .int 0, .ref r3, .int 0, .ref r4, .ref r5, .ref r6, .ref r7, .int 0, .int 0, .int 0, .int 0, .int 0, .ref r8, .int 0, .ref r9, .ref r10, .ref r11, .null])) :: G) := hD
  refine lv_aload_n hx hb dX10_init_100 rfl (lv_at hl 0 rfl) ?_
  refine lv_bipush (v := nI 28) hx hb dX10_init_101 (by decide) ?_
  refine va_newa (atype := .long) (ty := .long) (N' := 28) (a0 := (28, .inr (.inl (fun _ => 0)))) hx hb lk9 rfl hK hP hD hS (fun q h => Or.inr h) (fun cA => rfl) (nI_pos (by decide)) (nI_clamp (by decide)) (by decide) (Nat.le_of_ble_eq_true rfl) (Nat.le_of_ble_eq_true rfl) dX10_init_103 (fun r12 cA H hK1 hP hD hS => ?_)
  obtain rfl := aC_long hK hK1
  clear hK1
  have hP : va_P (dC, dI) vwCl ((o, .inr (10, [.int 0, .ref r0, .ref r1, .ref r2, .int 0, .ref r3, .int 0, .ref r4, .ref r5, .ref r6, .ref r7, .int 0, .int 0, .int 0, .int 0, .int 0, .ref r8, .int 0, .ref r9, .ref r10, .ref r11, .null])) :: (G ++ [(r12, .inl (aC 1, 28, .inr (.inl (fun _ => 0))))])) H := hP
  have hD : va_D (nA o s.heap.size) ((o, .inr (10, [.int 0, .ref r0, .ref r1, .ref r2, .int 0, .ref r3, .int 0, .ref r4, .ref r5, .ref r6, .ref r7, .int 0, .int 0, .int 0, .int 0, .int 0, .ref r8, .int 0, .ref r9, .ref r10, .ref r11, .null])) :: (G ++ [(r12, .inl (aC 1, 28, .inr (.inl (fun _ => 0))))])) := hD
  obtain ⟨G13, hG13⟩ : ∃ z, z = G ++ [(r12, .inl (aC 1, 28, .inr (.inl (fun _ => 0))))] := ⟨_, rfl⟩
  rw [← hG13] at hP hD
  obtain ⟨G, hE13⟩ : ∃ z, z = G13 := ⟨_, rfl⟩
  rw [← hE13] at hP hD
  refine va_putF (D := (dC, dI)) (ci := 10) (v := .ref r12) (ty := .array .long) (C := RX10) (T := TX10) (N := 22) hx hb hts hin10 tyX10 tyX10_ok nmX10 hown hK hP hD hS 0 rfl rfl 21 (by decide) lk18 (fun _ h9 => h9) rfl hnm rfl (by decide +kernel) rfl rfl (Nat.le_of_ble_eq_true rfl) dX10_init_105 (fun H locs hP hD hS => ?_)
  have hP : va_P (dC, dI) vwCl ((o, .inr (10, [.int 0, .ref r0, .ref r1, .ref r2, .int 0, .ref r3, .int 0, .ref r4, .ref r5, .ref r6, .ref r7, .int 0, .int 0, .int 0, .int 0, .int 0, .ref r8, .int 0, .ref r9, .ref r10, .ref r11, .ref r12])) :: G) H := hP
  have hD : va_D (nA o s.heap.size) ((o, .inr (10, [.int 0, .ref r0, .ref r1, .ref r2, .int 0, .ref r3, .int 0, .ref r4, .ref r5, .ref r6, .ref r7, .int 0, .int 0, .int 0, .int 0, .int 0, .ref r8, .int 0, .ref r9, .ref r10, .ref r11, .ref r12])) :: G) := hD
  subst hQ
  subst hE13
  subst hG13
  subst hE12
  subst hG12
  subst hE11
  subst hG11
  subst hE10
  subst hG10
  subst hE9
  subst hG9
  subst hE8
  subst hG8
  subst hE7
  subst hG7
  subst hE6
  subst hG6
  subst hE5
  subst hG5
  subst hE4
  subst hG4
  subst hE3
  subst hG3
  subst hE2
  subst hG2
  subst hE1
  subst hG1
  subst hE0
  exact xn_ret (sh := sh10 aC) (a := (pkF r12 [r0, r1, r2, r3, r4, r5, r6, r7, r8, r9, r10, r11, r12])) hx hb hret hlocks hP hD hS (Nat.le_of_ble_eq_true rfl) (Nat.le_of_ble_eq_true rfl) dX10_init_108
