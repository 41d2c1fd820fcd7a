/-! making objects -/
def va_AOA (t : FieldType) (U : State) : Prop := (Cond.arrayOver (.array t)).before #[] U = true
theorem va_AOA.of {t : FieldType} {A : Array Value} {U : State} (h : (Cond.arrayOver (.array t)).before A U = true) : va_AOA t U := h
theorem va_AOA.use {t : FieldType} {A : Array Value} {U : State} (h : va_AOA t U) : (Cond.arrayOver (.array t)).before A U = true := h
theorem va_AOA.moved {t : FieldType} {u U : State} (hvm : u.vm.Alike U.vm) (h : va_AOA t u) : va_AOA t U := by
  unfold va_AOA Cond.before Cond.holds at h ⊢
  simp only [Cond.value, beq_iff_eq] at h ⊢
  rw [hvm.findClass]
  cases hc : u.vm.findClass (FieldType.array t).toString with
  | none => rw [hc] at h; cases h
  | some comp =>
    rw [hc] at h
    simp only [Option.bind_some] at h ⊢
    have hi := va_idx_bare U.vm comp
    rw [hvm.bare_eq, va_idx_bare u.vm comp] at hi
    generalize hg : Array.findIdx? _ U.vm.classes = oU
    generalize hu : Array.findIdx? _ u.vm.classes = ou at h
    have he : oU = ou := by
      rw [← hg, ← hu]
      first | exact hi | exact hi.symm
    rw [he]
    cases ou with
    | none => cases h
    | some c =>
      simp only [Option.bind_some] at h ⊢
      cases hk : u.vm.classes[c]? with
      | none => rw [hk] at h; cases h
      | some k =>
        obtain ⟨k', hk', he⟩ := hvm.2.2 _ _ hk
        rw [hk] at h
        rw [hk']
        simp only [Option.map_some] at h ⊢
        have hkind : k'.kind = k.kind := by rw [he]
        rw [hkind, hvm.findClass]
        exact h
def nW : List (String × Nat × MethodName) := [(RX4, 9, yX3_init), (RX1, 11, yX3_init), (RX2, 11, yX6_init), (RX2, 24, yX3_init), (RX8, 21, yX4_init), (RX0, 30, yX7_init), (RX9, 22, yX3_init), (RX9, 29, yX6_init), (RX9, 36, yX2_init), (RX9, 43, yX1_init), (RX9, 57, yX5_init)]
def nwOK (U : State) : Prop := (∀ q ∈ nW, va_Nw (.methodLinkNest q.1 q.2.1 q.2.2 "LeafTrees") U) ∧ va_AO "LeafTrees$Row" U ∧ va_AO "LeafTrees$Rule" U ∧ va_AO "LeafTrees$Tally" U ∧ va_AOA .long U
theorem nwOK.warm {u U : State} (hW : u.WarmedH U.vm) (h : nwOK u) : nwOK U := ⟨fun q hq => va_Nw.warmM hW (h.1 q hq), va_AO.moved hW.alike h.2.1, va_AO.moved hW.alike h.2.2.1, va_AO.moved hW.alike h.2.2.2.1, va_AOA.moved hW.alike h.2.2.2.2⟩
theorem nwOK.same {u U : State} (hv : u.vm = U.vm) (h : nwOK u) : nwOK U := ⟨fun q hq => va_Nw.same rfl hv (h.1 q hq), va_AO.moved (by rw [hv]; exact Vm.Alike.refl _) h.2.1, va_AO.moved (by rw [hv]; exact Vm.Alike.refl _) h.2.2.1, va_AO.moved (by rw [hv]; exact Vm.Alike.refl _) h.2.2.2.1, va_AOA.moved (by rw [hv]; exact Vm.Alike.refl _) h.2.2.2.2⟩
abbrev nA (o z : Nat) : Nat → Prop := fun q => q = o ∨ z ≤ q
def NQ {α : Type} (dC : Nat → ClassId) (dI : Nat → Nat → Nat) (sh : Nat → α → va_W) (o : Nat) : Array Value → State → Outcome → State → Prop := fun _ u r t => ∃ a : α, r = .returned none ∧ va_P (dC, dI) vwCl (sh o a) t.heap ∧ va_D (nA o u.heap.size) (sh o a) ∧ u.heap.size ≤ t.heap.size ∧ ∀ i : Nat, i < u.heap.size → i ≠ o → t.heap[i]? = u.heap[i]?
abbrev NP (dC : Nat → ClassId) (dI : Nat → Nat → Nat) (aC : Nat → ClassId) (o : Nat) (x : va_E) : State → Prop := fun U => va_K (dC, dI) vwCl (gT aC) U ∧ va_P (dC, dI) vwCl [(o, x)] U.heap ∧ nwOK U
theorem NP_blind {dC : Nat → ClassId} {dI : Nat → Nat → Nat} {aC : Nat → ClassId} {o : Nat} {x : va_E} {av : List Value} : FrameBlind (va_Pc av (NP dC dI aC o x)) := fun _ U g mk h => ⟨h.1, va_K.moved (Vm.Alike.refl _) h.2.1, h.2.2.1, nwOK.same rfl h.2.2.2⟩
section NW
variable {p : Program} {l : Launch} {e : Env} {R : Room} {s : State} {m : MethodId} {args : Array Value} {below : List Frame} {meth : Method} {c : Code} {H : Heap} {locs : List Loc} {cells slots : Nat} {Q : State → Prop}
variable {cc : ByteArray} {pc : Nat} {ls : Array Slot} {rest : List Value} {H0 : Heap} {Ts ws : List Cond} {own C : String} {index ix n nL maxL k mc ms N ci : Nat} {y : MethodName} {bytes : ByteArray} {rm : Room} {A : Nat → Prop} {T : u_T} {w : va_W} {fs : List Value} {α : Type} {sh : Nat → α → va_W}
variable {dC : Nat → ClassId} {dI : Nat → Nat → Nat} {aC : Nat → ClassId}
theorem xn_new (Sx : CallFix p m c cc nL s args Ts own) (hin : ∀ q ∈ u_ws C T N, q ∈ Ts) (ty : Nat → FieldType) (hty : ∀ j, j < N → parseFieldDescriptor (T j).2.2.1 = some (ty j)) (hcl : (Cond.classLink own ix C).before args s = true) (hinst : (Cond.instantiable C N).before args s = true) (hini : (Cond.initialized C).before args s = true)
    (hN : nwOK s) (hK : va_K (dC, dI) vwCl (gT aC) s) (hP : va_P (dC, dI) vwCl w H) (hD : va_D A w) (hS : va_S A H0 H locs) (hA : ∀ q, H0.size ≤ q → A q) (hc : vwCl[ci]? = some (C, T, N)) (hfs : ∀ j, j < N → defaultValue (ty j) = vp_V fs j)
    (hM : ∀ o, Met l y ws rm (va_Pc [.ref o] (NP dC dI aC o (.inr (ci, fs)))) (NQ dC dI sh o) mc ms (fun q => q = o)) (cw : CallB R s args own index y bytes maxL none ws rm mc ms 0 ∧ y.name = "<init>" ∧ (Cond.instanceMethod y).before args s = true)
    (hsize : ls.size = nL) (hroom : ((.ref 0 :: rest).map fun v => v.category).sum ≤ 8) (hc1 : cells + 1 + mc ≤ R.cells) (hs1 : slots + N + ms ≤ R.slots) (d1 : decode cc pc = .ok (.new ix, 3)) (d2 : decode cc (pc + 3) = .ok (.dup, 1)) (d3 : decode cc (pc + 3 + 1) = .ok (.invokespecial index, 3))
    (kk : ∀ (q : Nat) (a : α) (H1 : Heap) (locs1 : List Loc), va_P (dC, dI) vwCl (w ++ sh q a) H1 → va_D A (w ++ sh q a) → va_S A H0 H1 locs1 → W p l e R s m args below meth c H1 locs1 (cells + 1 + mc) (slots + N + ms) Q (F0 m (pc + 3 + 1 + 3) ls (.ref q :: rest))) : W p l e R s m args below meth c H locs cells slots Q (F0 m pc ls rest) := by
  obtain ⟨hx, hb, hml, hown, hts⟩ := Sx
  refine va_new (fs := fs) hx hb hts hin ty hty hown hcl hinst hini hK hP hD hS hA hc hfs (by omega) (by omega) d1 (fun q H1 hP1 hD1 hS1 => ?_)
  refine lv_dup hx hb d2 rfl ?_
  intro X0 hX0 X
  have hPq : va_P (dC, dI) vwCl [(q, .inr (ci, fs))] H1 := fun j x hj => by
    cases j with
    | zero => cases hj; exact hP1 w.length _ (by rw [List.getElem?_append_right (Nat.le_refl _), Nat.sub_self]; rfl)
    | succ j => cases hj
  have hql : q < H1.size := (hPq 0 _ rfl).lt
  obtain ⟨r, u0, t, T', L, h0, X', hL, e1, e2, ⟨a, ho, g1, g2, g4, g5⟩, go⟩ := va_runI (b := q) (As := []) (rest := .ref q :: rest) ⟨hx, hb, hml, hown, hts⟩ (hM q) cw ⟨NP_blind, fun U hU hW => ⟨rfl, va_K.moved hW.alike hK, by rw [hU]; exact hPq, nwOK.warm hW hN⟩⟩ rfl rfl hsize rfl (lv_room (show ((Value.ref q :: rest).map fun v => v.category).sum ≤ 8 from hroom)) d3 ⟨hc1, hs1⟩ X0 hX0 X
  cases ho
  rw [h0] at g2 g4 g5
  have hw : va_P (dC, dI) vwCl w H1 := fun j x hj => hP1 j x (gA_l hj)
  have hne : ∀ (j : Nat) (x : Nat × va_E), w[j]? = some x → x.1 ≠ q := fun j x hj he => by
    have hjl := (List.getElem?_eq_some_iff.mp hj).1
    have := hD1.1 j w.length x (q, .inr (ci, fs)) (gA_l hj) (by rw [List.getElem?_append_right (Nat.le_refl _), Nat.sub_self]; rfl) he
    omega
  have hAq : A q := hD1.2 w.length (q, .inr (ci, fs)) (by rw [List.getElem?_append_right (Nat.le_refl _), Nat.sub_self]; rfl)
  have hA1 : ∀ i, H1.size ≤ i → A i := fun i hi => hA i (Nat.le_trans hS1.1 hi)
  have hDw : va_D A w := hD
  have hDs : va_D A (sh q a) := g2.weaken (fun _ _ _ h => h.elim (fun z => by rw [z]; exact hAq) (fun z => hA1 _ z))
  obtain ⟨t2, r1, r2⟩ := kk q a T'.heap (locs ++ L) (va_P.app (hw.kept (fun j x hj => by rw [e1]; exact g5 _ (hw j x hj).lt (hne j x hj))) (by rw [e1]; exact g1)) (va_D.app hDw hDs (fun i j x z hi hj he => by
    have hxl := (hw i x hi).lt
    rcases g2.2 j z hj with q2 | q2
    · exact hne i x hi (he.trans q2)
    · omega)) ⟨Nat.le_trans hS1.1 (by rw [e1]; exact g4), fun i h1 h2 => by rw [e1, g5 i (Nat.lt_of_lt_of_le h1 hS1.1) (fun z => h2 (by rw [z]; exact hAq))]; exact hS1.2.1 i h1 h2, fun i hi => by
      rcases List.mem_append.mp hi with h | h
      · exact hS1.2.2 i h
      · rw [hL i h]; exact hAq⟩ T' rfl X'
  exact ⟨t2, go t2 r1, r2⟩
theorem xn_newN (Sx : CallFix p m c cc nL s args Ts own) (hin : ∀ q ∈ u_ws C T N, q ∈ Ts) (ty : Nat → FieldType) (hty : ∀ j, j < N → parseFieldDescriptor (T j).2.2.1 = some (ty j)) (hcl : (Cond.classLink own ix C).before args s = true) (hinst : (Cond.instantiable C N).before args s = true) (hini : (Cond.initialized C).before args s = true)
    (hN : nwOK s) (hK : va_K (dC, dI) vwCl (gT aC) s) (hP : va_P (dC, dI) vwCl w H) (hD : va_D A w) (hS : va_S A H0 H locs) (hA : ∀ q, H0.size ≤ q → A q) (hc : vwCl[ci]? = some (C, T, N)) (hfs : ∀ j, j < N → defaultValue (ty j) = vp_V fs j)
    (hM : ∀ o, Met l y ws rm (va_Pc [.ref o] (NP dC dI aC o (.inr (ci, fs)))) (NQ dC dI sh o) mc ms (fun q => q = o)) (cw : va_CN R s args own index y "LeafTrees" bytes maxL none ws rm mc ms 0 ∧ y.name = "<init>" ∧ (Cond.instanceMethod y).before args s = true)
    (hsize : ls.size = nL) (hroom : ((.ref 0 :: rest).map fun v => v.category).sum ≤ 8) (hc1 : cells + 1 + mc ≤ R.cells) (hs1 : slots + N + ms ≤ R.slots) (d1 : decode cc pc = .ok (.new ix, 3)) (d2 : decode cc (pc + 3) = .ok (.dup, 1)) (d3 : decode cc (pc + 3 + 1) = .ok (.invokespecial index, 3))
    (kk : ∀ (q : Nat) (a : α) (H1 : Heap) (locs1 : List Loc), va_P (dC, dI) vwCl (w ++ sh q a) H1 → va_D A (w ++ sh q a) → va_S A H0 H1 locs1 → W p l e R s m args below meth c H1 locs1 (cells + 1 + mc) (slots + N + ms) Q (F0 m (pc + 3 + 1 + 3) ls (.ref q :: rest))) : W p l e R s m args below meth c H locs cells slots Q (F0 m pc ls rest) := by
  obtain ⟨hx, hb, hml, hown, hts⟩ := Sx
  refine va_new (fs := fs) hx hb hts hin ty hty hown hcl hinst hini hK hP hD hS hA hc hfs (by omega) (by omega) d1 (fun q H1 hP1 hD1 hS1 => ?_)
  refine lv_dup hx hb d2 rfl ?_
  intro X0 hX0 X
  have hPq : va_P (dC, dI) vwCl [(q, .inr (ci, fs))] H1 := fun j x hj => by
    cases j with
    | zero => cases hj; exact hP1 w.length _ (by rw [List.getElem?_append_right (Nat.le_refl _), Nat.sub_self]; rfl)
    | succ j => cases hj
  have hql : q < H1.size := (hPq 0 _ rfl).lt
  obtain ⟨r, u0, t, T', L, h0, X', hL, e1, e2, ⟨a, ho, g1, g2, g4, g5⟩, go⟩ := va_runIN (b := q) (As := []) (rest := .ref q :: rest) ⟨hx, hb, hml, hown, hts⟩ (hM q) cw ⟨NP_blind, fun U hU hW => ⟨rfl, va_K.moved hW.alike hK, by rw [hU]; exact hPq, nwOK.warm hW hN⟩⟩ rfl rfl hsize rfl (lv_room (show ((Value.ref q :: rest).map fun v => v.category).sum ≤ 8 from hroom)) d3 ⟨hc1, hs1⟩ X0 hX0 X
  cases ho
  rw [h0] at g2 g4 g5
  have hw : va_P (dC, dI) vwCl w H1 := fun j x hj => hP1 j x (gA_l hj)
  have hne : ∀ (j : Nat) (x : Nat × va_E), w[j]? = some x → x.1 ≠ q := fun j x hj he => by
    have hjl := (List.getElem?_eq_some_iff.mp hj).1
    have := hD1.1 j w.length x (q, .inr (ci, fs)) (gA_l hj) (by rw [List.getElem?_append_right (Nat.le_refl _), Nat.sub_self]; rfl) he
    omega
  have hAq : A q := hD1.2 w.length (q, .inr (ci, fs)) (by rw [List.getElem?_append_right (Nat.le_refl _), Nat.sub_self]; rfl)
  have hA1 : ∀ i, H1.size ≤ i → A i := fun i hi => hA i (Nat.le_trans hS1.1 hi)
  have hDw : va_D A w := hD
  have hDs : va_D A (sh q a) := g2.weaken (fun _ _ _ h => h.elim (fun z => by rw [z]; exact hAq) (fun z => hA1 _ z))
  obtain ⟨t2, r1, r2⟩ := kk q a T'.heap (locs ++ L) (va_P.app (hw.kept (fun j x hj => by rw [e1]; exact g5 _ (hw j x hj).lt (hne j x hj))) (by rw [e1]; exact g1)) (va_D.app hDw hDs (fun i j x z hi hj he => by
    have hxl := (hw i x hi).lt
    rcases g2.2 j z hj with q2 | q2
    · exact hne i x hi (he.trans q2)
    · omega)) ⟨Nat.le_trans hS1.1 (by rw [e1]; exact g4), fun i h1 h2 => by rw [e1, g5 i (Nat.lt_of_lt_of_le h1 hS1.1) (fun z => h2 (by rw [z]; exact hAq))]; exact hS1.2.1 i h1 h2, fun i hi => by
      rcases List.mem_append.mp hi with h | h
      · exact hS1.2.2 i h
      · rw [hL i h]; exact hAq⟩ T' rfl X'
  exact ⟨t2, go t2 r1, r2⟩
/-- the end of a constructor -/
theorem xn_ret {o : Nat} {a : α} (hx : p.tables.exec = Jvm.exec) (hb : c.code = cc) (hret : meth.sig.returnType = none) (hlocks : meth.locks = false) (hP : va_P (dC, dI) vwCl (sh o a) H) (hD : va_D (nA o s.heap.size) (sh o a)) (hS : va_S (nA o s.heap.size) s.heap H locs) (hm : cells ≤ mc) (hm2 : slots ≤ ms) (hdg : decode cc pc = .ok (.return_, 1)) : W p l e R s m args below meth c H locs cells slots (MQ below (NQ dC dI sh o) args s mc ms (fun q => q = o)) (F0 m pc ls []) := by
  intro T hT X
  obtain ⟨t, go, r, b1, b2, ⟨o1, o2, o3⟩, L, hF, hL⟩ := W.vret (free := nA o s.heap.size) (Qc := fun _ _ r t => r = .returned none ∧ t.heap = H ∧ s.WarmedH t.vm) hx hb hret (fun t h1 h2 => ⟨rfl, h1, h2⟩) hS.2.2 hdg hlocks T hT X
  refine ⟨t, go, r, b1, b2, ⟨a, o1, by rw [o2]; exact hP, hD, by rw [o2]; exact hS.1, fun i h1 h2 => by rw [o2]; exact hS.2.1 i h1 (fun h => h.elim h2 (fun z => absurd h1 (Nat.not_lt.mpr z)))⟩, _, frame_old hm hm2 hF, fun q hq => ?_⟩
  obtain ⟨z1, z2⟩ := List.mem_filter.mp hq
  exact (hL q z1).elim id (fun z => absurd (of_decide_eq_true z2) (Nat.not_lt.mpr z))
theorem ix_last {x y : Nat × va_E} {g : va_W} : ((x :: g) ++ [y])[g.length + 1]? = some y := by
  show (g ++ [y])[g.length]? = some y
  rw [List.getElem?_append_right (Nat.le_refl _), Nat.sub_self]; rfl
/-- a piece that was laid behind comes to the second place -/
theorem fr_P {x y : Nat × va_E} {g : va_W} (h : va_P (dC, dI) vwCl ((x :: g) ++ [y]) H) : va_P (dC, dI) vwCl (x :: y :: g) H := by
  intro i q hi
  match i, hi with
  | 0, hi => exact h 0 q hi
  | 1, hi => cases hi; exact h (g.length + 1) y ix_last
  | i + 2, hi => exact h (i + 1) q (gA_l (show (x :: g)[i + 1]? = some q from hi))
theorem fr_D {x y : Nat × va_E} {g : va_W} (h : va_D A ((x :: g) ++ [y])) : va_D A (x :: y :: g) := by
  have ix : ∀ (i : Nat) (q : Nat × va_E), (x :: y :: g)[i]? = some q → ((x :: g) ++ [y])[if i = 0 then 0 else if i = 1 then g.length + 1 else i - 1]? = some q ∧ i < g.length + 2 := by
    intro i q hi
    match i, hi with
    | 0, hi => exact ⟨hi, by omega⟩
    | 1, hi => cases hi; exact ⟨by rw [if_neg (by decide), if_pos rfl]; exact ix_last, by omega⟩
    | i + 2, hi =>
      have h2 : (x :: g)[i + 1]? = some q := hi
      have h3 := (List.getElem?_eq_some_iff.mp h2).1
      rw [List.length_cons] at h3
      exact ⟨by rw [if_neg (by omega), if_neg (by omega)]; exact gA_l h2, by omega⟩
  refine ⟨fun i j q r hi hj he => ?_, fun i q hi => h.2 _ q (ix i q hi).1⟩
  have h1 := ix i q hi
  have h2 := ix j r hj
  have h3 := h.1 _ _ q r h1.1 h2.1 he
  split at h3 <;> split at h3 <;> first | omega | (split at h3 <;> first | omega | (split at h3 <;> omega))
theorem ix_new {x y z : Nat × va_E} {g t : va_W} : (x :: y :: (g ++ z :: t))[g.length + 2]? = some z := by
  show (g ++ z :: t)[g.length]? = some z
  rw [List.getElem?_append_right (Nat.le_refl _), Nat.sub_self]; rfl
theorem aC_int {cA : ClassId} (hK : va_K (dC, dI) vwCl (gT aC) s) (hK1 : va_K (dC, dI) vwCl (gT aC ++ [(cA, .int)]) s) : cA = aC 0 := Option.some.inj ((va_nm_int (hK1.2 7 _ rfl).2).symm.trans (va_nm_int (hK.2 0 _ rfl).2))
theorem aC_long {cA : ClassId} (hK : va_K (dC, dI) vwCl (gT aC) s) (hK1 : va_K (dC, dI) vwCl (gT aC ++ [(cA, .long)]) s) : cA = aC 1 := Option.some.inj ((va_nm_long (hK1.2 7 _ rfl).2).symm.trans (va_nm_long (hK.2 1 _ rfl).2))
theorem aC_bool {cA : ClassId} (hK : va_K (dC, dI) vwCl (gT aC) s) (hK1 : va_K (dC, dI) vwCl (gT aC ++ [(cA, .boolean)]) s) : cA = aC 2 := Option.some.inj ((va_nm_boolean (hK1.2 7 _ rfl).2).symm.trans (va_nm_boolean (hK.2 2 _ rfl).2))
theorem aC_obj {cA cB : ClassId} {C : String} {tys : List (ClassId × FieldType)} {i j : Nat} (hK : va_K (dC, dI) vwCl tys s) (hi : tys[i]? = some (cA, .object C)) (hj : tys[j]? = some (cB, .object C)) : cA = cB := by
  obtain ⟨-, kA, comp, -, -, -, h1⟩ := hK.2 i _ hi
  obtain ⟨-, kB, comp', -, -, -, h2⟩ := hK.2 j _ hj
  exact Option.some.inj (h1.symm.trans h2)
end NW
