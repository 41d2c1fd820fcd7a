/-! calls that may make arrays: what they use is held against what has grown -/
def cs (cap : Nat → Nat) : Nat := cap 0 + cap 1 + cap 2 + cap 3 + cap 4 + cap 5
def xG (a : Nat → Nat) (z : Nat) : Nat → Prop := fun q => xA a q ∨ z ≤ q
def xgR (ad cap ad1 cap1 : Nat → Nat) : Prop := xI ad1 ∧ (∀ k, k < 38 ∨ 50 ≤ k → ad1 k = ad k) ∧ (∀ j, j < 6 → cap j ≤ cap1 j) ∧ ∀ j, j < 6 → cap1 j ≤ 8192
theorem cs_mono {a b : Nat → Nat} (h : ∀ j, j < 6 → a j ≤ b j) : cs a ≤ cs b := by
  have h0 := h 0 (by decide)
  have h1 := h 1 (by decide)
  have h2 := h 2 (by decide)
  have h3 := h 3 (by decide)
  have h4 := h 4 (by decide)
  have h5 := h 5 (by decide)
  rw [cs, cs]; omega
theorem cs_le {a : Nat → Nat} (h : ∀ j, j < 6 → a j ≤ 8192) : cs a ≤ 49152 := by
  have h0 := h 0 (by decide)
  have h1 := h 1 (by decide)
  have h2 := h 2 (by decide)
  have h3 := h 3 (by decide)
  have h4 := h 4 (by decide)
  have h5 := h 5 (by decide)
  rw [cs]; omega
theorem xg_le {R : Room} {cap : Nat → Nat} {C mc ms : Nat} (h : ∀ j, j < 6 → cap j ≤ 8192) (h1 : 49152 + mc ≤ R.cells) (h2 : 196608 + ms ≤ R.slots) : cs cap - C + mc ≤ R.cells ∧ 4 * (cs cap - C) + ms ≤ R.slots := by
  have := cs_le h
  omega
def szs (H : Heap) (a : Nat) : Nat := ((H.toList.drop a).map (·.slots.size)).sum
theorem szs_join {H H' : Heap} {a : Nat} (ha : a ≤ H.size) (hs : H.size ≤ H'.size) (hk : ∀ (i : Nat) (x : Cell), H[i]? = some x → ∃ y, H'[i]? = some y ∧ y.slots.size = x.slots.size) : szs H' a = szs H a + szs H' H.size := by
  have e : H'.toList.map (·.slots.size) = H.toList.map (·.slots.size) ++ (H'.toList.drop H.size).map (·.slots.size) := by
    refine List.ext_getElem? fun i => ?_
    rcases Nat.lt_or_ge i H.size with z | z
    · rw [List.getElem?_append_left (by rw [List.length_map, Array.length_toList]; exact z), List.getElem?_map, List.getElem?_map, Array.getElem?_toList, Array.getElem?_toList]
      obtain ⟨y, h1, h2⟩ := hk i H[i] (Array.getElem?_eq_getElem z)
      rw [h1, Array.getElem?_eq_getElem z, Option.map_some, Option.map_some, h2]
    · rw [List.getElem?_append_right (by rw [List.length_map, Array.length_toList]; exact z), List.getElem?_map, List.getElem?_map, List.getElem?_drop, List.length_map, Array.length_toList, show H.size + (i - H.size) = i by omega]
  rw [szs, szs, szs, List.map_drop, e, List.drop_append_of_le_length (by rw [List.length_map, Array.length_toList]; exact ha), List.sum_append, ← List.map_drop]
section XGR
variable {p : Program} {l : Launch} {e : Env} {R : Room} {s : State} {m : MethodId} {args : Array Value} {below : List Frame} {meth : Method} {c : Code} {H : Heap} {locs : List Loc} {cells slots : Nat} {Q : State → Prop}
variable {cc : ByteArray} {pc : Nat} {ls : Array Slot} {rest st As : List Value} {H0 : Heap} {Ts ws : List Cond} {own C : String} {index n nL maxL b mc ms K : Nat} {y : MethodName} {bytes : ByteArray} {ret : Option FieldType} {rm : Room}
variable {dC : Nat → ClassId} {dI : Nat → Nat → Nat} {aC : Nat → ClassId} {ad cap a0 c0 : Nat → Nat} {v Z : Nat → Int32} {S : Nat → Nat → Int32} {RR : Nat → List Int32} {F : Nat → Nat → Int32} {G : Nat → Nat → Int64}
theorem stand_tight {T T' : State} {locs' : List Loc} {cells' slots' k j : Nat} (X : Stand p l e R s m args below meth c T locs cells slots) (X' : Stand p l e R s m args below meth c T' locs' cells' slots') {u t : State} {o : Outcome} {L : List Loc} (h0 : u.heap = T.heap) (ht : T'.heap = t.heap) (hF : FrameEnd u o t L k j) : Stand p l e R s m args below meth c T' locs' (cells + k) (slots + j) := by
  obtain ⟨-, -, -, g2, g3, -, g5, g6⟩ := hF
  obtain ⟨-, a2, a3, -, a5, -⟩ := X.same
  obtain ⟨b1, b2, b3, b4, b5, b6⟩ := X'.same
  have g2 : u.heap.size ≤ t.heap.size := g2
  have g3 : t.heap.size ≤ u.heap.size + k := g3
  have g5 : szs t.heap u.heap.size ≤ j := g5
  have a2 : s.heap.size ≤ T.heap.size := a2
  have a3 : T.heap.size ≤ s.heap.size + cells := a3
  have a5 : szs T.heap s.heap.size ≤ slots := a5
  have q := szs_join (H := T.heap) (H' := t.heap) a2 (by rw [← h0]; exact g2) (fun i x hx => by
    obtain ⟨y, y1, -, y3, -⟩ := g6 i x (by rw [h0]; exact hx)
    exact ⟨y, y1, y3⟩)
  rw [← h0] at q
  rw [h0] at g3
  have e1 : T'.heap.size ≤ s.heap.size + (cells + k) := by rw [ht]; omega
  have e2 : szs T'.heap s.heap.size ≤ slots + j := by rw [ht, q]; rw [← h0] at a5; omega
  exact { X' with same := ⟨b1, b2, e1, b4, e2, b6⟩ }
theorem stand_more {T : State} {cells' slots' : Nat} (h1 : cells ≤ cells') (h2 : slots ≤ slots') (X : Stand p l e R s m args below meth c T locs cells slots) : Stand p l e R s m args below meth c T locs cells' slots' := by
  obtain ⟨b1, b2, b3, b4, b5, b6⟩ := X.same
  exact { X with same := ⟨b1, b2, Nat.le_trans b3 (Nat.add_le_add_left h1 _), b4, Nat.le_trans b5 h2, b6⟩ }
theorem xg_more {cells' slots' : Nat} {g : JFrame} (h1 : cells ≤ cells') (h2 : slots ≤ slots') (k : W p l e R s m args below meth c H locs cells' slots' Q g) : W p l e R s m args below meth c H locs cells slots Q g := fun T hT X => k T hT (stand_more h1 h2 X)
theorem frame_old {u t : State} {o : Outcome} {L : List Loc} {k j k' j' : Nat} (h1 : k ≤ k') (h2 : j ≤ j') (h : FrameEnd u o t L k j) : FrameEnd u o t (L.filter (fun q => decide (q.base < u.heap.size))) k' j' := by
  obtain ⟨f1, f2, g1, g2, g3, g4, g5, g6⟩ := h
  refine ⟨f1, f2, g1, g2, Nat.le_trans g3 (Nat.add_le_add_left h1 _), g4, Nat.le_trans g5 h2, fun a x hx => ?_⟩
  obtain ⟨y, y1, y2, y3, y4⟩ := g6 a x hx
  refine ⟨y, y1, y2, y3, fun i hi => y4 i (fun hm => hi (List.mem_filter.mpr ⟨hm, ?_⟩))⟩
  have : a < u.heap.size := by
    rcases Nat.lt_or_ge a u.heap.size with z | z
    · exact z
    · rw [Array.getElem?_eq_none z] at hx; cases hx
  exact decide_eq_true this
/-- the end of a method that may make arrays -/
def GQv (dC : Nat → ClassId) (dI : Nat → Nat → Nat) (aC : Nat → ClassId) (ad cap : Nat → Nat) (post : (Nat → Nat) → MS → Prop) : Array Value → State → Outcome → State → Prop := fun _ u o t => ∃ ad1 cap1 w, o = .returned none ∧ post cap1 w ∧ xgR ad cap ad1 cap1 ∧ XB dC dI aC ad1 cap1 w t ∧ (∃ L, FrameEnd u o t L (cs cap1 - cs cap) (4 * (cs cap1 - cs cap))) ∧ va_F (xA ad) u t ∧ ∀ q, xA ad1 q → xG ad u.heap.size q
def GQl (dC : Nat → ClassId) (dI : Nat → Nat → Nat) (aC : Nat → ClassId) (ad cap : Nat → Nat) (post : Int64 → (Nat → Nat) → MS → Prop) : Array Value → State → Outcome → State → Prop := fun _ u o t => ∃ r ad1 cap1 w, o = .returned (some (.long r)) ∧ post r cap1 w ∧ xgR ad cap ad1 cap1 ∧ XB dC dI aC ad1 cap1 w t ∧ (∃ L, FrameEnd u o t L (cs cap1 - cs cap) (4 * (cs cap1 - cs cap))) ∧ va_F (xA ad) u t ∧ ∀ q, xA ad1 q → xG ad u.heap.size q
theorem xg_S {T' t : State} {L : List Loc} (hS : va_S (xG a0 H0.size) H0 H locs) (hA0 : ∀ q, xA ad q → xG a0 H0.size q) (e1 : T'.heap = t.heap) (hz : H.size ≤ t.heap.size) (hk : ∀ q : Nat, q < H.size → ¬ xA ad q → t.heap[q]? = H[q]?) (hL : ∀ q ∈ L, xA ad q.base) : va_S (xG a0 H0.size) H0 T'.heap (locs ++ L) :=
  ⟨Nat.le_trans hS.1 (by rw [e1]; exact hz), fun q h1 h2 => by rw [e1, hk q (Nat.lt_of_lt_of_le h1 hS.1) (fun z => h2 (hA0 q z))]; exact hS.2.1 q h1 h2, fun q hq => by
    rcases List.mem_append.mp hq with h | h
    · exact hS.2.2 q h
    · exact hA0 _ (hL q h)⟩
theorem xg_v {post : (Nat → Nat) → MS → Prop} (Sx : CallFix p m c cc nL s args Ts own) (hM : Met l y ws rm (va_Pc (.ref b :: As) (XB dC dI aC ad cap (v, RR, F, G))) (GQv dC dI aC ad cap post) mc ms (xA ad)) (cw : CallW R s args own C index y bytes maxL ret ws rm mc ms n) (hp : PreV s H C b (va_Pc (.ref b :: As) (XB dC dI aC ad cap (v, RR, F, G))) As) (hS : va_S (xG a0 H0.size) H0 H locs) (hA0 : ∀ q, xA ad q → xG a0 H0.size q) (hC : K ≤ cs cap)
    (hn : As.length = n) (hsize : ls.size = nL) (hst : st = As.reverse ++ .ref b :: rest) (hroom : (rest.map fun v => v.category).sum ≤ 8) (hdg : decode cc pc = .ok (.invokevirtual index, 3)) (hf : cs cap - K + mc ≤ R.cells ∧ 4 * (cs cap - K) + ms ≤ R.slots)
    (kk : ∀ (ad1 cap1 : Nat → Nat) (v1 : Nat → Int32) (R1 : Nat → List Int32) (F1 : Nat → Nat → Int32) (G1 : Nat → Nat → Int64) (Z1 : Nat → Int32) (S1 : Nat → Nat → Int32) (H1 : Heap) (locs1 : List Loc), post cap1 (v1, R1, F1, G1) → xgR ad cap ad1 cap1 → xOK Z1 S1 R1 → va_P (dC, dI) vwCl (wsX aC ad1 cap1 v1 Z1 S1 F1 G1) H1 → (∀ q, xA ad1 q → xG a0 H0.size q) → va_S (xG a0 H0.size) H0 H1 locs1 → W p l e R s m args below meth c H1 locs1 (cs cap1 - K) (4 * (cs cap1 - K)) Q (F0 m (pc + 3) ls rest)) : W p l e R s m args below meth c H locs (cs cap - K) (4 * (cs cap - K)) Q (F0 m pc ls st) := by
  intro T hT X
  obtain ⟨w, u0, t, T', L, h0, X', hL, e1, e2, ⟨ad1, cap1, u, ho, hp1, hR, hB, ⟨L2, hF⟩, ⟨hz, hk⟩, hfr⟩, go⟩ := va_runV Sx hM cw hp rfl hn hsize hst (lv_room hroom) hdg hf T hT X
  cases ho
  have hcm := cs_mono hR.2.2.1
  have X2 := stand_tight X X' (h0.trans hT.symm) e1 hF
  rw [show cs cap - K + (cs cap1 - cs cap) = cs cap1 - K by omega, show 4 * (cs cap - K) + 4 * (cs cap1 - cs cap) = 4 * (cs cap1 - K) by omega] at X2
  obtain ⟨v1, R1, F1, G1⟩ := u
  obtain ⟨-, Z1, S1, q1, q2⟩ := hB
  rw [h0] at hz hk hfr
  obtain ⟨t2, r1, r2⟩ := kk ad1 cap1 v1 R1 F1 G1 Z1 S1 T'.heap (locs ++ L) hp1 hR q1 (by rw [e1]; exact q2) (fun q hq => (hfr q hq).elim (hA0 q) (fun z => Or.inr (Nat.le_trans hS.1 z))) (xg_S hS hA0 e1 hz hk hL) T' rfl X2
  exact ⟨t2, go t2 r1, r2⟩
theorem xg_l {post : Int64 → (Nat → Nat) → MS → Prop} (Sx : CallFix p m c cc nL s args Ts own) (hM : Met l y ws rm (va_Pc (.ref b :: As) (XB dC dI aC ad cap (v, RR, F, G))) (GQl dC dI aC ad cap post) mc ms (xA ad)) (cw : CallW R s args own C index y bytes maxL ret ws rm mc ms n) (hp : PreV s H C b (va_Pc (.ref b :: As) (XB dC dI aC ad cap (v, RR, F, G))) As) (hS : va_S (xG a0 H0.size) H0 H locs) (hA0 : ∀ q, xA ad q → xG a0 H0.size q) (hC : K ≤ cs cap)
    (hn : As.length = n) (hsize : ls.size = nL) (hst : st = As.reverse ++ .ref b :: rest) (hroom : (rest.map fun v => v.category).sum ≤ 8) (hdg : decode cc pc = .ok (.invokevirtual index, 3)) (hf : cs cap - K + mc ≤ R.cells ∧ 4 * (cs cap - K) + ms ≤ R.slots)
    (kk : ∀ (r : Int64) (ad1 cap1 : Nat → Nat) (v1 : Nat → Int32) (R1 : Nat → List Int32) (F1 : Nat → Nat → Int32) (G1 : Nat → Nat → Int64) (Z1 : Nat → Int32) (S1 : Nat → Nat → Int32) (H1 : Heap) (locs1 : List Loc), post r cap1 (v1, R1, F1, G1) → xgR ad cap ad1 cap1 → xOK Z1 S1 R1 → va_P (dC, dI) vwCl (wsX aC ad1 cap1 v1 Z1 S1 F1 G1) H1 → (∀ q, xA ad1 q → xG a0 H0.size q) → va_S (xG a0 H0.size) H0 H1 locs1 → W p l e R s m args below meth c H1 locs1 (cs cap1 - K) (4 * (cs cap1 - K)) Q (F0 m (pc + 3) ls (.long r :: rest))) : W p l e R s m args below meth c H locs (cs cap - K) (4 * (cs cap - K)) Q (F0 m pc ls st) := by
  intro T hT X
  obtain ⟨w, u0, t, T', L, h0, X', hL, e1, e2, ⟨r, ad1, cap1, u, ho, hp1, hR, hB, ⟨L2, hF⟩, ⟨hz, hk⟩, hfr⟩, go⟩ := va_runV Sx hM cw hp rfl hn hsize hst (lv_room hroom) hdg hf T hT X
  cases ho
  have hcm := cs_mono hR.2.2.1
  have X2 := stand_tight X X' (h0.trans hT.symm) e1 hF
  rw [show cs cap - K + (cs cap1 - cs cap) = cs cap1 - K by omega, show 4 * (cs cap - K) + 4 * (cs cap1 - cs cap) = 4 * (cs cap1 - K) by omega] at X2
  obtain ⟨v1, R1, F1, G1⟩ := u
  obtain ⟨-, Z1, S1, q1, q2⟩ := hB
  rw [h0] at hz hk hfr
  obtain ⟨t2, r1, r2⟩ := kk r ad1 cap1 v1 R1 F1 G1 Z1 S1 T'.heap (locs ++ L) hp1 hR q1 (by rw [e1]; exact q2) (fun q hq => (hfr q hq).elim (hA0 q) (fun z => Or.inr (Nat.le_trans hS.1 z))) (xg_S hS hA0 e1 hz hk hL) T' rfl X2
  exact ⟨t2, go t2 r1, r2⟩
/-- a call that makes nothing, from a method that may -/
theorem xh_v {post : MS → Prop} (Sx : CallFix p m c cc nL s args Ts own) (hM : Met l y ws rm (va_Pc (.ref b :: As) (XB dC dI aC ad cap (v, RR, F, G))) (va_Qv post (XB dC dI aC ad cap) (xA ad)) 0 0 (xA ad)) (cw : CallW R s args own C index y bytes maxL ret ws rm 0 0 n) (hp : PreV s H C b (va_Pc (.ref b :: As) (XB dC dI aC ad cap (v, RR, F, G))) As) (hS : va_S (xG a0 H0.size) H0 H locs) (hA0 : ∀ q, xA ad q → xG a0 H0.size q)
    (hn : As.length = n) (hsize : ls.size = nL) (hst : st = As.reverse ++ .ref b :: rest) (hroom : (rest.map fun v => v.category).sum ≤ 8) (hdg : decode cc pc = .ok (.invokevirtual index, 3)) (hf : cells ≤ R.cells ∧ slots ≤ R.slots)
    (kk : ∀ (v1 : Nat → Int32) (R1 : Nat → List Int32) (F1 : Nat → Nat → Int32) (G1 : Nat → Nat → Int64) (Z1 : Nat → Int32) (S1 : Nat → Nat → Int32) (H1 : Heap) (locs1 : List Loc), post (v1, R1, F1, G1) → xOK Z1 S1 R1 → va_P (dC, dI) vwCl (wsX aC ad cap v1 Z1 S1 F1 G1) H1 → va_S (xG a0 H0.size) H0 H1 locs1 → W p l e R s m args below meth c H1 locs1 cells slots Q (F0 m (pc + 3) ls rest)) : W p l e R s m args below meth c H locs cells slots Q (F0 m pc ls st) :=
  va_callv (va_runV Sx hM cw hp rfl hn hsize hst (lv_room hroom) hdg hf) hS (fun q _ h => hA0 q h) hA0 (fun u t H1 locs1 ht hvm hw hB _ _ hS => by
    obtain ⟨v1, R1, F1, G1⟩ := u
    obtain ⟨-, Z1, S1, h1, h2⟩ := hB
    rw [ht] at h2
    exact kk v1 R1 F1 G1 Z1 S1 H1 locs1 hw h1 h2 hS)
theorem xg_vret {post : (Nat → Nat) → MS → Prop} (hx : p.tables.exec = Jvm.exec) (hb : c.code = cc) (hret : meth.sig.returnType = none) (hlocks : meth.locks = false) (hK : va_K (dC, dI) vwCl (gT aC) s) (hZ : xOK Z S RR) (hP : va_P (dC, dI) vwCl (wsX aC ad cap v Z S F G) H) (hA0 : ∀ q, xA ad q → xG a0 s.heap.size q) (hS : va_S (xG a0 s.heap.size) s.heap H locs)
    (hR : xgR a0 c0 ad cap) (hpost : post cap (v, RR, F, G)) (hm : cs cap - cs c0 ≤ mc) (hm2 : 4 * (cs cap - cs c0) ≤ ms) {a1 c1 : Nat → Nat} (ea : a0 = a1) (ec : c0 = c1) (hdg : decode cc pc = .ok (.return_, 1)) : W p l e R s m args below meth c H locs (cs cap - cs c0) (4 * (cs cap - cs c0)) (MQ below (GQv dC dI aC a1 c1 post) args s mc ms (xA a1)) (F0 m pc ls []) := by
  subst ea
  subst ec
  intro T hT X
  obtain ⟨t, go, o, b1, b2, ⟨o1, o2, o3⟩, L, hF, hL⟩ := W.vret (Qc := fun _ _ o t => o = .returned none ∧ t.heap = H ∧ s.WarmedH t.vm) hx hb hret (fun t h1 h2 => ⟨rfl, h1, h2⟩) hS.2.2 hdg hlocks T hT X
  refine ⟨t, go, o, b1, b2, ⟨ad, cap, (v, RR, F, G), o1, hpost, hR, ⟨va_K.moved o3.alike hK, Z, S, hZ, by rw [o2]; exact hP⟩, ⟨L, hF⟩, ⟨by rw [o2]; exact hS.1, fun q h1 h2 => ?_⟩, hA0⟩, _, frame_old hm hm2 hF, fun q hq => ?_⟩
  · rw [o2]; exact hS.2.1 q h1 (fun h => h.elim h2 (fun z => absurd h1 (Nat.not_lt.mpr z)))
  · obtain ⟨z1, z2⟩ := List.mem_filter.mp hq
    exact (hL q z1).elim id (fun z => absurd (of_decide_eq_true z2) (Nat.not_lt.mpr z))
theorem xg_lret {post : Int64 → (Nat → Nat) → MS → Prop} {r : Int64} (hx : p.tables.exec = Jvm.exec) (hb : c.code = cc) (hret : meth.sig.returnType = some .long) (hlocks : meth.locks = false) (hK : va_K (dC, dI) vwCl (gT aC) s) (hZ : xOK Z S RR) (hP : va_P (dC, dI) vwCl (wsX aC ad cap v Z S F G) H) (hA0 : ∀ q, xA ad q → xG a0 s.heap.size q) (hS : va_S (xG a0 s.heap.size) s.heap H locs)
    (hR : xgR a0 c0 ad cap) (hpost : post r cap (v, RR, F, G)) (hm : cs cap - cs c0 ≤ mc) (hm2 : 4 * (cs cap - cs c0) ≤ ms) {a1 c1 : Nat → Nat} (ea : a0 = a1) (ec : c0 = c1) (hdg : decode cc pc = .ok (.lreturn, 1)) : W p l e R s m args below meth c H locs (cs cap - cs c0) (4 * (cs cap - cs c0)) (MQ below (GQl dC dI aC a1 c1 post) args s mc ms (xA a1)) (F0 m pc ls [.long r]) := by
  subst ea
  subst ec
  intro T hT X
  obtain ⟨t, go, o, b1, b2, ⟨o1, o2, o3⟩, L, hF, hL⟩ := W.lret (v := r) (Qc := fun _ _ o t => o = .returned (some (.long r)) ∧ t.heap = H ∧ s.WarmedH t.vm) hx hb hret (fun t h1 h2 => ⟨rfl, h1, h2⟩) hS.2.2 hdg hlocks T hT X
  refine ⟨t, go, o, b1, b2, ⟨r, ad, cap, (v, RR, F, G), o1, hpost, hR, ⟨va_K.moved o3.alike hK, Z, S, hZ, by rw [o2]; exact hP⟩, ⟨L, hF⟩, ⟨by rw [o2]; exact hS.1, fun q h1 h2 => ?_⟩, hA0⟩, _, frame_old hm hm2 hF, fun q hq => ?_⟩
  · rw [o2]; exact hS.2.1 q h1 (fun h => h.elim h2 (fun z => absurd h1 (Nat.not_lt.mpr z)))
  · obtain ⟨z1, z2⟩ := List.mem_filter.mp hq
    exact (hL q z1).elim id (fun z => absurd (of_decide_eq_true z2) (Nat.not_lt.mpr z))
end XGR
