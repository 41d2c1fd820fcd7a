/-! the law's calls: two worlds beside each other -/
def WO (dC : Nat → ClassId) (dI : Nat → Nat → Nat) (aC : Nat → ClassId) (am : Nat → Nat) (z0 : Nat) (ad cap : Nat → Nat) (u z : MS) (H : Heap) : Prop :=
  xI ad ∧ mI am ∧ (∀ i j, i < 120 → j < 14 → ad i ≠ am j) ∧ (∀ i, i < 120 → z0 ≤ ad i) ∧ (∀ j, j < 14 → z0 ≤ am j) ∧ (∀ j, j < 6 → 16 ≤ cap j ∧ cap j ≤ 8192) ∧ (∃ Z S, xOK Z S u.2.1 ∧ va_P (dC, dI) vwCl (wsX aC ad cap u.1 Z S u.2.2.1 u.2.2.2) H) ∧ ∃ S Z, mOK S Z z.2.1 ∧ va_P (dC, dI) vwCl (wsM aC am z.1 S Z z.2.2.1 z.2.2.2) H
abbrev lwA (s : State) : Nat → Prop := fun q => s.heap.size ≤ q
section LY
variable {p : Program} {l : Launch} {e : Env} {R : Room} {s : State} {m : MethodId} {args : Array Value} {below : List Frame} {meth : Method} {c : Code} {H H1 : Heap} {locs : List Loc} {cells slots : Nat} {Q : State → Prop}
variable {cc : ByteArray} {pc : Nat} {ls : Array Slot} {rest st As : List Value} {Ts ws : List Cond} {own : String} {index n nL maxL mc ms c0 s0 : Nat} {y : MethodName} {bytes : ByteArray} {ret : Option FieldType} {rm : Room}
variable {dC : Nat → ClassId} {dI : Nat → Nat → Nat} {aC : Nat → ClassId} {am ad cap : Nat → Nat} {v : Nat → Int32} {F : Nat → Nat → Int32} {G : Nat → Nat → Int64} {u z : MS}
theorem wsM_kept {S Z : Nat → Int32} (hP : va_P (dC, dI) vwCl (wsM aC am v S Z F G) H) (hk : ∀ q : Nat, q < H.size → ¬ xA ad q → H1[q]? = H[q]?) (ha : ∀ i j, i < 120 → j < 14 → ad i ≠ am j) : va_P (dC, dI) vwCl (wsM aC am v S Z F G) H1 :=
  hP.kept (fun k q hq => by
    obtain ⟨h1, h2⟩ := ws_fst (N := 14) (ad := am) rfl hq
    refine hk q.1 (hP k q hq).lt (fun ⟨n, hn, e⟩ => ha n k hn h1 ?_)
    rw [← e, h2])
theorem wsX_kept {Z : Nat → Int32} {S : Nat → Nat → Int32} (hP : va_P (dC, dI) vwCl (wsX aC ad cap v Z S F G) H) (hk : ∀ q : Nat, q < H.size → ¬ mA am q → H1[q]? = H[q]?) (ha : ∀ i j, i < 120 → j < 14 → ad i ≠ am j) : va_P (dC, dI) vwCl (wsX aC ad cap v Z S F G) H1 :=
  hP.kept (fun k q hq => by
    obtain ⟨h1, h2⟩ := ws_fst (N := 120) (ad := ad) rfl hq
    refine hk q.1 (hP k q hq).lt (fun ⟨n, hn, e⟩ => ha k n h1 hn ?_)
    rw [← e, h2])
theorem wsM_lt {S Z : Nat → Int32} (hP : va_P (dC, dI) vwCl (wsM aC am v S Z F G) H) {j : Nat} (hj : j < 14) : am j < H.size := by
  have hq : (wsM aC am v S Z F G)[j]? = some ((wsM aC am v S Z F G)[j]'(show j < 14 from hj)) := List.getElem?_eq_getElem _
  have h := (hP j _ hq).lt
  rw [(ws_fst (N := 14) (ad := am) rfl hq).2] at h
  exact h
theorem WO.ax (h : WO dC dI aC am s.heap.size ad cap u z H) : ∀ q, xA ad q → lwA s q := fun q ⟨n, hn, e⟩ => by
  show s.heap.size ≤ q
  rw [e]; exact h.2.2.2.1 n hn
theorem WO.bx (h : WO dC dI aC am s.heap.size ad cap u z H) : ∀ q, mA am q → lwA s q := fun q ⟨n, hn, e⟩ => by
  show s.heap.size ≤ q
  rw [e]; exact h.2.2.2.2.1 n hn
theorem ly_xi {post : Int32 → MS → Prop} (Sx : CallFix p m c cc nL s args Ts own) (hM : Met l y ws rm (va_Pc (.ref (ad 0) :: As) (XB dC dI aC ad cap u)) (va_Qi post (XB dC dI aC ad cap) (xA ad)) 0 0 (xA ad)) (cw : CallW R s args own RX9 index y bytes maxL ret ws rm 0 0 n) (hK : va_K (dC, dI) vwCl (gT aC) s) (hW : WO dC dI aC am s.heap.size ad cap u z H) (hS : va_S (lwA s) s.heap H locs)
    (hn : As.length = n) (hsize : ls.size = nL) (hst : st = As.reverse ++ .ref (ad 0) :: rest) (hroom : (rest.map fun v => v.category).sum ≤ 8) (hdg : decode cc pc = .ok (.invokevirtual index, 3)) (hf : cells ≤ R.cells ∧ slots ≤ R.slots)
    (kk : ∀ (r : Int32) (u1 : MS) (H1 : Heap) (locs1 : List Loc), post r u1 → WO dC dI aC am s.heap.size ad cap u1 z H1 → va_S (lwA s) s.heap H1 locs1 → W p l e R s m args below meth c H1 locs1 cells slots Q (F0 m (pc + 3) ls (.int r :: rest))) : W p l e R s m args below meth c H locs cells slots Q (F0 m pc ls st) := by
  have hA := hW.ax
  obtain ⟨v, RR, F, G⟩ := u
  obtain ⟨i1, i2, i3, i4, i5, i6, ⟨Z, S, hZ, hP⟩, ⟨S', Z', hZ', hP'⟩⟩ := hW
  exact va_calli (va_runV Sx hM cw (xPre (q0 := 0) (ci := 9) rfl rfl hK hZ hP) rfl hn hsize hst (lv_room hroom) hdg hf) hS (fun q _ h => hA q h) hA (fun r u1 t H1 locs1 ht hvm hw hB _ hk hS => by
    obtain ⟨-, Z1, S1, h1, h2⟩ := hB
    rw [ht] at h2
    exact kk r u1 H1 locs1 hw ⟨i1, i2, i3, i4, i5, i6, ⟨Z1, S1, h1, h2⟩, ⟨S', Z', hZ', wsM_kept hP' hk i3⟩⟩ hS)
theorem ly_xpi {post : Int32 → Prop} (Sx : CallFix p m c cc nL s args Ts own) (hM : Met l y ws rm (va_Pc (.ref (ad 0) :: As) (XB dC dI aC ad cap u)) (vp_Si post) 0 0 (fun _ => False)) (cw : CallW R s args own RX9 index y bytes maxL ret ws rm 0 0 n) (hK : va_K (dC, dI) vwCl (gT aC) s) (hW : WO dC dI aC am s.heap.size ad cap u z H)
    (hn : As.length = n) (hsize : ls.size = nL) (hst : st = As.reverse ++ .ref (ad 0) :: rest) (hroom : (rest.map fun v => v.category).sum ≤ 8) (hdg : decode cc pc = .ok (.invokevirtual index, 3)) (hf : cells ≤ R.cells ∧ slots ≤ R.slots)
    (kk : ∀ r : Int32, post r → W p l e R s m args below meth c H locs cells slots Q (F0 m (pc + 3) ls (.int r :: rest))) : W p l e R s m args below meth c H locs cells slots Q (F0 m pc ls st) := by
  obtain ⟨v, RR, F, G⟩ := u
  obtain ⟨i1, i2, i3, i4, i5, i6, ⟨Z, S, hZ, hP⟩, hz⟩ := hW
  exact xp_i (b := ad 0) Sx hM cw (xPre (q0 := 0) (ci := 9) rfl rfl hK hZ hP) hn hsize hst hroom hdg hf kk
theorem ly_xpl {post : Int64 → Prop} (Sx : CallFix p m c cc nL s args Ts own) (hM : Met l y ws rm (va_Pc (.ref (ad 0) :: As) (XB dC dI aC ad cap u)) (vp_Sl post) 0 0 (fun _ => False)) (cw : CallW R s args own RX9 index y bytes maxL ret ws rm 0 0 n) (hK : va_K (dC, dI) vwCl (gT aC) s) (hW : WO dC dI aC am s.heap.size ad cap u z H)
    (hn : As.length = n) (hsize : ls.size = nL) (hst : st = As.reverse ++ .ref (ad 0) :: rest) (hroom : (rest.map fun v => v.category).sum ≤ 8) (hdg : decode cc pc = .ok (.invokevirtual index, 3)) (hf : cells ≤ R.cells ∧ slots ≤ R.slots)
    (kk : ∀ r : Int64, post r → W p l e R s m args below meth c H locs cells slots Q (F0 m (pc + 3) ls (.long r :: rest))) : W p l e R s m args below meth c H locs cells slots Q (F0 m pc ls st) := by
  obtain ⟨v, RR, F, G⟩ := u
  obtain ⟨i1, i2, i3, i4, i5, i6, ⟨Z, S, hZ, hP⟩, hz⟩ := hW
  exact xp_l (b := ad 0) Sx hM cw (xPre (q0 := 0) (ci := 9) rfl rfl hK hZ hP) hn hsize hst hroom hdg hf kk
theorem ly_mpi {post : Int32 → Prop} (Sx : CallFix p m c cc nL s args Ts own) (hM : Met l y ws rm (va_Pc (.ref (am 0) :: As) (MB dC dI aC am z)) (vp_Si post) 0 0 (fun _ => False)) (cw : CallW R s args own RX10 index y bytes maxL ret ws rm 0 0 n) (hK : va_K (dC, dI) vwCl (gT aC) s) (hW : WO dC dI aC am s.heap.size ad cap u z H)
    (hn : As.length = n) (hsize : ls.size = nL) (hst : st = As.reverse ++ .ref (am 0) :: rest) (hroom : (rest.map fun v => v.category).sum ≤ 8) (hdg : decode cc pc = .ok (.invokevirtual index, 3)) (hf : cells ≤ R.cells ∧ slots ≤ R.slots)
    (kk : ∀ r : Int32, post r → W p l e R s m args below meth c H locs cells slots Q (F0 m (pc + 3) ls (.int r :: rest))) : W p l e R s m args below meth c H locs cells slots Q (F0 m pc ls st) := by
  obtain ⟨v, RR, F, G⟩ := z
  obtain ⟨i1, i2, i3, i4, i5, i6, hu, ⟨S', Z', hZ', hP'⟩⟩ := hW
  exact mp_i Sx hM cw hK hZ' hP' hn hsize hst hroom hdg hf kk
theorem ly_mpl {post : Int64 → Prop} (Sx : CallFix p m c cc nL s args Ts own) (hM : Met l y ws rm (va_Pc (.ref (am 0) :: As) (MB dC dI aC am z)) (vp_Sl post) 0 0 (fun _ => False)) (cw : CallW R s args own RX10 index y bytes maxL ret ws rm 0 0 n) (hK : va_K (dC, dI) vwCl (gT aC) s) (hW : WO dC dI aC am s.heap.size ad cap u z H)
    (hn : As.length = n) (hsize : ls.size = nL) (hst : st = As.reverse ++ .ref (am 0) :: rest) (hroom : (rest.map fun v => v.category).sum ≤ 8) (hdg : decode cc pc = .ok (.invokevirtual index, 3)) (hf : cells ≤ R.cells ∧ slots ≤ R.slots)
    (kk : ∀ r : Int64, post r → W p l e R s m args below meth c H locs cells slots Q (F0 m (pc + 3) ls (.long r :: rest))) : W p l e R s m args below meth c H locs cells slots Q (F0 m pc ls st) := by
  obtain ⟨v, RR, F, G⟩ := z
  obtain ⟨i1, i2, i3, i4, i5, i6, hu, ⟨S', Z', hZ', hP'⟩⟩ := hW
  exact mp_l Sx hM cw hK hZ' hP' hn hsize hst hroom hdg hf kk
theorem ly_mi {post : Int32 → MS → Prop} (Sx : CallFix p m c cc nL s args Ts own) (hM : Met l y ws rm (va_Pc (.ref (am 0) :: As) (MB dC dI aC am z)) (va_Qi post (MB dC dI aC am) (mA am)) 0 0 (mA am)) (cw : CallW R s args own RX10 index y bytes maxL ret ws rm 0 0 n) (hK : va_K (dC, dI) vwCl (gT aC) s) (hW : WO dC dI aC am s.heap.size ad cap u z H) (hS : va_S (lwA s) s.heap H locs)
    (hn : As.length = n) (hsize : ls.size = nL) (hst : st = As.reverse ++ .ref (am 0) :: rest) (hroom : (rest.map fun v => v.category).sum ≤ 8) (hdg : decode cc pc = .ok (.invokevirtual index, 3)) (hf : cells ≤ R.cells ∧ slots ≤ R.slots)
    (kk : ∀ (r : Int32) (z1 : MS) (H1 : Heap) (locs1 : List Loc), post r z1 → WO dC dI aC am s.heap.size ad cap u z1 H1 → va_S (lwA s) s.heap H1 locs1 → W p l e R s m args below meth c H1 locs1 cells slots Q (F0 m (pc + 3) ls (.int r :: rest))) : W p l e R s m args below meth c H locs cells slots Q (F0 m pc ls st) := by
  have hA := hW.bx
  obtain ⟨v, RR, F, G⟩ := z
  obtain ⟨i1, i2, i3, i4, i5, i6, ⟨Z, S, hZ, hP⟩, ⟨S', Z', hZ', hP'⟩⟩ := hW
  exact va_calli (va_runV Sx hM cw (mPre hK hZ' hP') rfl hn hsize hst (lv_room hroom) hdg hf) hS (fun q _ h => hA q h) hA (fun r u1 t H1 locs1 ht hvm hw hB _ hk hS => by
    obtain ⟨-, S1, Z1, h1, h2⟩ := hB
    rw [ht] at h2
    exact kk r u1 H1 locs1 hw ⟨i1, i2, i3, i4, i5, i6, ⟨Z, S, hZ, wsX_kept hP hk i3⟩, ⟨S1, Z1, h1, h2⟩⟩ hS)
theorem ly_ml {post : Int64 → MS → Prop} (Sx : CallFix p m c cc nL s args Ts own) (hM : Met l y ws rm (va_Pc (.ref (am 0) :: As) (MB dC dI aC am z)) (va_Ql post (MB dC dI aC am) (mA am)) 0 0 (mA am)) (cw : CallW R s args own RX10 index y bytes maxL ret ws rm 0 0 n) (hK : va_K (dC, dI) vwCl (gT aC) s) (hW : WO dC dI aC am s.heap.size ad cap u z H) (hS : va_S (lwA s) s.heap H locs)
    (hn : As.length = n) (hsize : ls.size = nL) (hst : st = As.reverse ++ .ref (am 0) :: rest) (hroom : (rest.map fun v => v.category).sum ≤ 8) (hdg : decode cc pc = .ok (.invokevirtual index, 3)) (hf : cells ≤ R.cells ∧ slots ≤ R.slots)
    (kk : ∀ (r : Int64) (z1 : MS) (H1 : Heap) (locs1 : List Loc), post r z1 → WO dC dI aC am s.heap.size ad cap u z1 H1 → va_S (lwA s) s.heap H1 locs1 → W p l e R s m args below meth c H1 locs1 cells slots Q (F0 m (pc + 3) ls (.long r :: rest))) : W p l e R s m args below meth c H locs cells slots Q (F0 m pc ls st) := by
  have hA := hW.bx
  obtain ⟨v, RR, F, G⟩ := z
  obtain ⟨i1, i2, i3, i4, i5, i6, ⟨Z, S, hZ, hP⟩, ⟨S', Z', hZ', hP'⟩⟩ := hW
  exact va_calll (va_runV Sx hM cw (mPre hK hZ' hP') rfl hn hsize hst (lv_room hroom) hdg hf) hS (fun q _ h => hA q h) hA (fun r u1 t H1 locs1 ht hvm hw hB _ hk hS => by
    obtain ⟨-, S1, Z1, h1, h2⟩ := hB
    rw [ht] at h2
    exact kk r u1 H1 locs1 hw ⟨i1, i2, i3, i4, i5, i6, ⟨Z, S, hZ, wsX_kept hP hk i3⟩, ⟨S1, Z1, h1, h2⟩⟩ hS)
theorem cs_96 (h : ∀ j, j < 6 → 16 ≤ cap j ∧ cap j ≤ 8192) : 96 ≤ cs cap ∧ cs cap ≤ 49152 := by
  have h0 := h 0 (by decide)
  have h1 := h 1 (by decide)
  have h2 := h 2 (by decide)
  have h3 := h 3 (by decide)
  have h4 := h 4 (by decide)
  have h5 := h 5 (by decide)
  rw [cs]; omega
/-- a call of the class that may make arrays -/
theorem ly_xg {post : Int64 → (Nat → Nat) → MS → Prop} (Sx : CallFix p m c cc nL s args Ts own) (hM : Met l y ws rm (va_Pc (.ref (ad 0) :: As) (XB dC dI aC ad cap u)) (GQl dC dI aC ad cap post) mc ms (xA ad)) (cw : CallW R s args own RX9 index y bytes maxL ret ws rm mc ms n) (hK : va_K (dC, dI) vwCl (gT aC) s) (hW : WO dC dI aC am s.heap.size ad cap u z H) (hS : va_S (lwA s) s.heap H locs)
    (hn : As.length = n) (hsize : ls.size = nL) (hst : st = As.reverse ++ .ref (ad 0) :: rest) (hroom : (rest.map fun v => v.category).sum ≤ 8) (hdg : decode cc pc = .ok (.invokevirtual index, 3)) (hf : c0 + (cs cap - 96) + mc ≤ R.cells ∧ s0 + 4 * (cs cap - 96) + ms ≤ R.slots)
    (kk : ∀ (r : Int64) (ad1 cap1 : Nat → Nat) (u1 : MS) (H1 : Heap) (locs1 : List Loc), post r cap1 u1 → ad1 0 = ad 0 → WO dC dI aC am s.heap.size ad1 cap1 u1 z H1 → va_S (lwA s) s.heap H1 locs1 → W p l e R s m args below meth c H1 locs1 (c0 + (cs cap1 - 96)) (s0 + 4 * (cs cap1 - 96)) Q (F0 m (pc + 3) ls (.long r :: rest))) : W p l e R s m args below meth c H locs (c0 + (cs cap - 96)) (s0 + 4 * (cs cap - 96)) Q (F0 m pc ls st) := by
  have hA := hW.ax
  obtain ⟨v, RR, F, G⟩ := u
  obtain ⟨i1, i2, i3, i4, i5, i6, ⟨Z, S, hZ, hP⟩, ⟨S', Z', hZ', hP'⟩⟩ := hW
  have h96 := (cs_96 i6).1
  intro T hT X
  obtain ⟨w, u0, t, T', L, h0, X', hL, e1, e2, ⟨r, ad1, cap1, u1, ho, hp1, hR, hB, ⟨L2, hF⟩, ⟨hz, hk⟩, hfr⟩, go⟩ := va_runV Sx hM cw (xPre (q0 := 0) (ci := 9) rfl rfl hK hZ hP) rfl hn hsize hst (lv_room hroom) hdg hf T hT X
  cases ho
  have hcm := cs_mono hR.2.2.1
  have X2 := stand_tight X X' (h0.trans hT.symm) e1 hF
  rw [show c0 + (cs cap - 96) + (cs cap1 - cs cap) = c0 + (cs cap1 - 96) by omega, show s0 + 4 * (cs cap - 96) + 4 * (cs cap1 - cs cap) = s0 + 4 * (cs cap1 - 96) by omega] at X2
  obtain ⟨-, Z1, S1, q1, q2⟩ := hB
  rw [h0] at hz hk hfr
  have hfr2 : ∀ i, i < 120 → xA ad (ad1 i) ∨ H.size ≤ ad1 i := fun i hi => hfr (ad1 i) ⟨i, hi, rfl⟩
  have hnew : WO dC dI aC am s.heap.size ad1 cap1 u1 z T'.heap := by
    refine ⟨hR.1, i2, fun i j hi hj he => ?_, fun i hi => ?_, i5, fun j hj => ⟨Nat.le_trans (i6 j hj).1 (hR.2.2.1 j hj), hR.2.2.2 j hj⟩, ⟨Z1, S1, q1, by rw [e1]; exact q2⟩, ⟨S', Z', hZ', wsM_kept hP' (fun q a b => by rw [e1]; exact hk q a b) i3⟩⟩
    · rcases hfr2 i hi with ⟨k, hk2, e⟩ | g
      · exact i3 k j hk2 hj (e.symm.trans he)
      · have := wsM_lt hP' hj
        omega
    · rcases hfr2 i hi with g | g
      · exact hA _ g
      · exact Nat.le_trans hS.1 g
  have hS2 : va_S (lwA s) s.heap T'.heap (locs ++ L) := ⟨Nat.le_trans hS.1 (by rw [e1]; exact hz), fun q a b => by rw [e1, hk q (Nat.lt_of_lt_of_le a hS.1) (fun g => b (hA q g))]; exact hS.2.1 q a b, fun q hq => by
    rcases List.mem_append.mp hq with h | h
    · exact hS.2.2 q h
    · exact hA _ (hL q h)⟩
  obtain ⟨t2, r1, r2⟩ := kk r ad1 cap1 u1 T'.heap (locs ++ L) hp1 (hR.2.1 0 (by omega)) hnew hS2 T' rfl X2
  exact ⟨t2, go t2 r1, r2⟩
end LY
