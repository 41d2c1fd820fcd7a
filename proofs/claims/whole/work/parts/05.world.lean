/-! the reference's world: one object, thirteen arrays; rows of symbols as lists -/
abbrev gT (aC : Nat → ClassId) : List (ClassId × FieldType) := [(aC 0, .int), (aC 1, .long), (aC 2, .boolean), (aC 3, .object "LeafTrees$Row"), (aC 4, .object "LeafTrees$Rule"), (aC 5, .object "LeafTrees$Tally"), (aC 6, .array .long)]
def gD (l : List Int32) (i : Nat) : Int32 := l.getD i 0
def wsM (aC : Nat → ClassId) (am : Nat → Nat) (v S Z : Nat → Int32) (F : Nat → Nat → Int32) (G : Nat → Nat → Int64) : va_W :=
  [(am 0, .inr (10, [.int (v 0), .ref (am 1), .ref (am 2), .ref (am 3), .int (v 4), .ref (am 4), .int (v 6), .ref (am 5), .ref (am 6), .ref (am 7), .ref (am 8), .int (v 11), .int (v 12), .int (v 13), .int (v 14), .int (v 15), .ref (am 9), .int (v 17), .ref (am 10), .ref (am 11), .ref (am 12), .ref (am 13)])),
   (am 1, .inl (aC 0, 4, .inl (F 1))), (am 2, .inl (aC 0, 1800, .inl S)), (am 3, .inl (aC 0, 30, .inl Z)), (am 4, .inl (aC 2, 8, .inl (F 4))), (am 5, .inl (aC 1, 7, .inr (.inl (G 5)))), (am 6, .inl (aC 0, 61, .inl (F 6))), (am 7, .inl (aC 0, 13, .inl (F 7))), (am 8, .inl (aC 0, 13, .inl (F 8))), (am 9, .inl (aC 0, 60, .inl (F 9))), (am 10, .inl (aC 1, 49, .inr (.inl (G 10)))), (am 11, .inl (aC 1, 7, .inr (.inl (G 11)))), (am 12, .inl (aC 2, 32, .inl (F 12))), (am 13, .inl (aC 1, 28, .inr (.inl (G 13))))]
/-- the rows of symbols, 60 places each, and how many each has -/
def mOK (S Z : Nat → Int32) (R : Nat → List Int32) : Prop := ∀ k, k < 30 → (R k).length ≤ 60 ∧ Z k = nI (R k).length ∧ ∀ i, i < (R k).length → S (60 * k + i) = gD (R k) i
abbrev MS : Type := (Nat → Int32) × (Nat → List Int32) × (Nat → Nat → Int32) × (Nat → Nat → Int64)
def MB (dC : Nat → ClassId) (dI : Nat → Nat → Nat) (aC : Nat → ClassId) (am : Nat → Nat) (u : MS) (U : State) : Prop := va_K (dC, dI) vwCl (gT aC) U ∧ ∃ S Z, mOK S Z u.2.1 ∧ va_P (dC, dI) vwCl (wsM aC am u.1 S Z u.2.2.1 u.2.2.2) U.heap
def mA (am : Nat → Nat) : Nat → Prop := fun q => ∃ n, n < 14 ∧ q = am n
def mI (am : Nat → Nat) : Prop := ∀ i j, i < 14 → j < 14 → am i = am j → i = j
theorem ws_fst {ws : va_W} {ad : Nat → Nat} {N : Nat} (h : ws.map Prod.fst = (List.range N).map ad) {k : Nat} {q : Nat × va_E} (hk : ws[k]? = some q) : k < N ∧ q.1 = ad k := by
  have h1 := congrArg (fun l => l[k]?) h
  simp only [List.getElem?_map, hk, Option.map_some] at h1
  by_cases hl : k < N
  · rw [List.getElem?_range hl] at h1
    exact ⟨hl, Option.some.inj h1⟩
  · rw [List.getElem?_eq_none (by rw [List.length_range]; omega)] at h1
    cases h1
theorem ws_D {ws : va_W} {ad : Nat → Nat} {N : Nat} {A : Nat → Prop} (h : ws.map Prod.fst = (List.range N).map ad) (hI : ∀ i j, i < N → j < N → ad i = ad j → i = j) (hA : ∀ n, n < N → A (ad n)) : va_D A ws := by
  refine ⟨fun i j x y hi hj hxy => ?_, fun k q hk => ?_⟩
  · obtain ⟨h1, h2⟩ := ws_fst h hi
    obtain ⟨h3, h4⟩ := ws_fst h hj
    exact hI i j h1 h3 (h2.symm.trans (hxy.trans h4))
  · obtain ⟨h1, h2⟩ := ws_fst h hk
    rw [h2]
    exact hA k h1
theorem wsM_D {aC : Nat → ClassId} {am : Nat → Nat} {v S Z : Nat → Int32} {F : Nat → Nat → Int32} {G : Nat → Nat → Int64} (hI : mI am) : va_D (mA am) (wsM aC am v S Z F G) := ws_D (N := 14) rfl hI (fun n h => ⟨n, h, rfl⟩)
theorem MB_blind {dC : Nat → ClassId} {dI : Nat → Nat → Nat} {aC : Nat → ClassId} {am : Nat → Nat} {av : List Value} {u : MS} : FrameBlind (va_Pc av (MB dC dI aC am u)) := fun a U g mk q => ⟨q.1, va_K.moved (u := U) (U := U.calling g mk a) (Vm.Alike.refl U.vm) q.2.1, q.2.2⟩
section MC
variable {p : Program} {l : Launch} {e : Env} {R : Room} {s : State} {m : MethodId} {args : Array Value} {below : List Frame} {meth : Method} {c : Code} {H : Heap} {locs : List Loc} {cells slots : Nat} {Q : State → Prop}
variable {cc : ByteArray} {pc : Nat} {ls : Array Slot} {rest st As : List Value} {H0 : Heap} {Ts ws : List Cond} {own : String} {index n nL maxL : Nat} {y : MethodName} {bytes : ByteArray} {ret : Option FieldType} {rm : Room}
variable {dC : Nat → ClassId} {dI : Nat → Nat → Nat} {aC : Nat → ClassId} {am : Nat → Nat} {v S Z : Nat → Int32} {RR : Nat → List Int32} {F : Nat → Nat → Int32} {G : Nat → Nat → Int64}
theorem mPre (hK : va_K (dC, dI) vwCl (gT aC) s) (hZ : mOK S Z RR) (hP : va_P (dC, dI) vwCl (wsM aC am v S Z F G) H) : PreV s H RX10 (am 0) (va_Pc (.ref (am 0) :: As) (MB dC dI aC am (v, RR, F, G))) As :=
  ⟨MB_blind, va_recv (q0 := 0) (ci := 10) hK hP rfl rfl, fun U hU hW => ⟨rfl, va_K.moved hW.alike hK, S, Z, hZ, by rw [hU]; exact hP⟩⟩
/-- a call of the reference's own method that only reads: an int -/
theorem mp_i {post : Int32 → Prop} (Sx : CallFix p m c cc nL s args Ts own) (hM : Met l y ws rm (va_Pc (.ref (am 0) :: As) (MB dC dI aC am (v, RR, F, G))) (vp_Si post) 0 0 (fun _ => False)) (cw : CallW R s args own RX10 index y bytes maxL ret ws rm 0 0 n) (hK : va_K (dC, dI) vwCl (gT aC) s) (hZ : mOK S Z RR) (hP : va_P (dC, dI) vwCl (wsM aC am v S Z F G) H)
    (hn : As.length = n) (hsize : ls.size = nL) (hst : st = As.reverse ++ .ref (am 0) :: rest) (hroom : (rest.map fun v => v.category).sum ≤ 8) (hdg : decode cc pc = .ok (.invokevirtual index, 3)) (hf : cells ≤ R.cells ∧ slots ≤ R.slots)
    (kk : ∀ r : Int32, post r → W p l e R s m args below meth c H locs cells slots Q (F0 m (pc + 3) ls (.int r :: rest))) : W p l e R s m args below meth c H locs cells slots Q (F0 m pc ls st) :=
  vp_callSi (W.runV Sx hM cw (mPre hK hZ hP) rfl hn hsize hst (lv_room hroom) hdg hf) kk
/-- a call of the reference's own method that only reads: a long -/
theorem mp_l {post : Int64 → Prop} (Sx : CallFix p m c cc nL s args Ts own) (hM : Met l y ws rm (va_Pc (.ref (am 0) :: As) (MB dC dI aC am (v, RR, F, G))) (vp_Sl post) 0 0 (fun _ => False)) (cw : CallW R s args own RX10 index y bytes maxL ret ws rm 0 0 n) (hK : va_K (dC, dI) vwCl (gT aC) s) (hZ : mOK S Z RR) (hP : va_P (dC, dI) vwCl (wsM aC am v S Z F G) H)
    (hn : As.length = n) (hsize : ls.size = nL) (hst : st = As.reverse ++ .ref (am 0) :: rest) (hroom : (rest.map fun v => v.category).sum ≤ 8) (hdg : decode cc pc = .ok (.invokevirtual index, 3)) (hf : cells ≤ R.cells ∧ slots ≤ R.slots)
    (kk : ∀ r : Int64, post r → W p l e R s m args below meth c H locs cells slots Q (F0 m (pc + 3) ls (.long r :: rest))) : W p l e R s m args below meth c H locs cells slots Q (F0 m pc ls st) :=
  vp_callSl (W.runV Sx hM cw (mPre hK hZ hP) rfl hn hsize hst (lv_room hroom) hdg hf) kk
/-- a call of one of its own static methods: an int -/
theorem ms_i {post : Int32 → Prop} (Sx : CallFix p m c cc nL s args Ts own) (hM : Met l y ws rm (va_Pc As (fun _ => True)) (vp_Si post) 0 0 (fun _ => False)) (cw : CallB R s args own index y bytes maxL ret ws rm 0 0 n ∧ (Cond.static y).before args s = true)
    (hn : As.length = n) (hsize : ls.size = nL) (hst : st = As.reverse ++ rest) (hroom : (rest.map fun v => v.category).sum ≤ 8) (hdg : decode cc pc = .ok (.invokestatic index, 3)) (hf : cells ≤ R.cells ∧ slots ≤ R.slots)
    (kk : ∀ r : Int32, post r → W p l e R s m args below meth c H locs cells slots Q (F0 m (pc + 3) ls (.int r :: rest))) : W p l e R s m args below meth c H locs cells slots Q (F0 m pc ls st) :=
  vp_callSi (W.runS Sx hM cw ⟨fun _ _ _ _ q => q, fun _ _ _ => ⟨rfl, trivial⟩⟩ rfl hn hsize hst (lv_room hroom) hdg hf) kk
/-- a call of its own method that writes: an int -/
theorem mc_i {post : Int32 → MS → Prop} (Sx : CallFix p m c cc nL s args Ts own) (hM : Met l y ws rm (va_Pc (.ref (am 0) :: As) (MB dC dI aC am (v, RR, F, G))) (va_Qi post (MB dC dI aC am) (mA am)) 0 0 (mA am)) (cw : CallW R s args own RX10 index y bytes maxL ret ws rm 0 0 n) (hK : va_K (dC, dI) vwCl (gT aC) s) (hZ : mOK S Z RR) (hP : va_P (dC, dI) vwCl (wsM aC am v S Z F G) H) (hS : va_S (mA am) H0 H locs)
    (hn : As.length = n) (hsize : ls.size = nL) (hst : st = As.reverse ++ .ref (am 0) :: rest) (hroom : (rest.map fun v => v.category).sum ≤ 8) (hdg : decode cc pc = .ok (.invokevirtual index, 3)) (hf : cells ≤ R.cells ∧ slots ≤ R.slots)
    (kk : ∀ (r : Int32) (v1 : Nat → Int32) (R1 : Nat → List Int32) (F1 : Nat → Nat → Int32) (G1 : Nat → Nat → Int64) (S1 Z1 : Nat → Int32) (H1 : Heap) (locs1 : List Loc), post r (v1, R1, F1, G1) → mOK S1 Z1 R1 → va_P (dC, dI) vwCl (wsM aC am v1 S1 Z1 F1 G1) H1 → va_S (mA am) H0 H1 locs1 → W p l e R s m args below meth c H1 locs1 cells slots Q (F0 m (pc + 3) ls (.int r :: rest))) : W p l e R s m args below meth c H locs cells slots Q (F0 m pc ls st) :=
  va_calli (va_runV Sx hM cw (mPre hK hZ hP) rfl hn hsize hst (lv_room hroom) hdg hf) hS (fun _ _ h => h) (fun _ h => h) (fun r u t H1 locs1 ht hvm hw hB _ _ hS => by
    obtain ⟨v1, R1, F1, G1⟩ := u
    obtain ⟨-, S1, Z1, h1, h2⟩ := hB
    rw [ht] at h2
    exact kk r v1 R1 F1 G1 S1 Z1 H1 locs1 hw h1 h2 hS)
theorem mc_v {post : MS → Prop} (Sx : CallFix p m c cc nL s args Ts own) (hM : Met l y ws rm (va_Pc (.ref (am 0) :: As) (MB dC dI aC am (v, RR, F, G))) (va_Qv post (MB dC dI aC am) (mA am)) 0 0 (mA am)) (cw : CallW R s args own RX10 index y bytes maxL ret ws rm 0 0 n) (hK : va_K (dC, dI) vwCl (gT aC) s) (hZ : mOK S Z RR) (hP : va_P (dC, dI) vwCl (wsM aC am v S Z F G) H) (hS : va_S (mA am) H0 H locs)
    (hn : As.length = n) (hsize : ls.size = nL) (hst : st = As.reverse ++ .ref (am 0) :: rest) (hroom : (rest.map fun v => v.category).sum ≤ 8) (hdg : decode cc pc = .ok (.invokevirtual index, 3)) (hf : cells ≤ R.cells ∧ slots ≤ R.slots)
    (kk : ∀ (v1 : Nat → Int32) (R1 : Nat → List Int32) (F1 : Nat → Nat → Int32) (G1 : Nat → Nat → Int64) (S1 Z1 : Nat → Int32) (H1 : Heap) (locs1 : List Loc), post (v1, R1, F1, G1) → mOK S1 Z1 R1 → va_P (dC, dI) vwCl (wsM aC am v1 S1 Z1 F1 G1) H1 → va_S (mA am) H0 H1 locs1 → W p l e R s m args below meth c H1 locs1 cells slots Q (F0 m (pc + 3) ls rest)) : W p l e R s m args below meth c H locs cells slots Q (F0 m pc ls st) :=
  va_callv (va_runV Sx hM cw (mPre hK hZ hP) rfl hn hsize hst (lv_room hroom) hdg hf) hS (fun _ _ h => h) (fun _ h => h) (fun u t H1 locs1 ht hvm hw hB _ _ hS => by
    obtain ⟨v1, R1, F1, G1⟩ := u
    obtain ⟨-, S1, Z1, h1, h2⟩ := hB
    rw [ht] at h2
    exact kk v1 R1 F1 G1 S1 Z1 H1 locs1 hw h1 h2 hS)
theorem mc_l {post : Int64 → MS → Prop} (Sx : CallFix p m c cc nL s args Ts own) (hM : Met l y ws rm (va_Pc (.ref (am 0) :: As) (MB dC dI aC am (v, RR, F, G))) (va_Ql post (MB dC dI aC am) (mA am)) 0 0 (mA am)) (cw : CallW R s args own RX10 index y bytes maxL ret ws rm 0 0 n) (hK : va_K (dC, dI) vwCl (gT aC) s) (hZ : mOK S Z RR) (hP : va_P (dC, dI) vwCl (wsM aC am v S Z F G) H) (hS : va_S (mA am) H0 H locs)
    (hn : As.length = n) (hsize : ls.size = nL) (hst : st = As.reverse ++ .ref (am 0) :: rest) (hroom : (rest.map fun v => v.category).sum ≤ 8) (hdg : decode cc pc = .ok (.invokevirtual index, 3)) (hf : cells ≤ R.cells ∧ slots ≤ R.slots)
    (kk : ∀ (r : Int64) (v1 : Nat → Int32) (R1 : Nat → List Int32) (F1 : Nat → Nat → Int32) (G1 : Nat → Nat → Int64) (S1 Z1 : Nat → Int32) (H1 : Heap) (locs1 : List Loc), post r (v1, R1, F1, G1) → mOK S1 Z1 R1 → va_P (dC, dI) vwCl (wsM aC am v1 S1 Z1 F1 G1) H1 → va_S (mA am) H0 H1 locs1 → W p l e R s m args below meth c H1 locs1 cells slots Q (F0 m (pc + 3) ls (.long r :: rest))) : W p l e R s m args below meth c H locs cells slots Q (F0 m pc ls st) :=
  va_calll (va_runV Sx hM cw (mPre hK hZ hP) rfl hn hsize hst (lv_room hroom) hdg hf) hS (fun _ _ h => h) (fun _ h => h) (fun r u t H1 locs1 ht hvm hw hB _ _ hS => by
    obtain ⟨v1, R1, F1, G1⟩ := u
    obtain ⟨-, S1, Z1, h1, h2⟩ := hB
    rw [ht] at h2
    exact kk r v1 R1 F1 G1 S1 Z1 H1 locs1 hw h1 h2 hS)
end MC
