/-! before the law's cases -/
section LP
variable {A n : Nat} {v w : Nat → Int32} {R Q : Nat → List Int32} {F K : Nat → Nat → Int32} {G J : Nat → Nat → Int64}
theorem LM.hE (ha : LA A n v R F) (h : LM A n v R F w Q K J) : vE A (K 1) := by rw [h.2.2.1]; exact ha.1
theorem LM.hV26 (ha : LA A n v R F) (h : LM A n v R F w Q K J) : ∀ r, r < 26 → vR A (Q r) := fun r hr => by rw [h.2.2.2.2.1 r hr]; exact ha.2.2.2.2.1 r hr
theorem LM.hV10 (ha : LA A n v R F) (h : LM A n v R F w Q K J) : ∀ r, r < 10 → vR A (Q r) := fun r hr => h.hV26 ha r (by omega)
theorem LM.hVl (ha : LA A n v R F) (h : LM A n v R F w Q K J) : ∀ j, j < n → vR A (Q (10 + j)) := fun j hj => h.hV26 ha _ (by have := ha.2.2.2.1; omega)
theorem LM.hVr (ha : LA A n v R F) (h : LM A n v R F w Q K J) : ∀ j, j < n → vR A (Q (18 + j)) := fun j hj => h.hV26 ha _ (by have := ha.2.2.2.1; omega)
theorem LM.hT (ha : LA A n v R F) (h : LM A n v R F w Q K J) : ∀ j, j < n → isT (K 1) (Q (10 + j)) := fun j hj => by rw [h.2.2.1, eqR_l h.2.2.2.2.1 ha.2.2.2.1 j hj]; exact ha.hT j hj
theorem LM.h13 (ha : LA A n v R F) (h : LM A n v R F w Q K J) : ∀ j, j < n → (Q (10 + j)).length ≤ 13 := fun j hj => by rw [eqR_l h.2.2.2.2.1 ha.2.2.2.1 j hj]; exact ha.h13 j hj
theorem LM.hL (ha : LA A n v R F) (h : LM A n v R F w Q K J) : ∀ j, j < n → lvs (Q (10 + j)) ≤ 13 := fun j hj => by rw [eqR_l h.2.2.2.2.1 ha.2.2.2.1 j hj]; exact ha.hL j hj
theorem LM.hQ0 (ha : LA A n v R F) (h : LM A n v R F w Q K J) : ∀ j, j < n → K 4 j = 0 → lvs (Q (10 + j)) = lvs (Q (18 + j)) := fun j hj e => by
  rw [h.2.2.2.1] at e
  rw [eqR_l h.2.2.2.2.1 ha.2.2.2.1 j hj, eqR_r h.2.2.2.2.1 ha.2.2.2.1 j hj]; exact ha.hQ0 j hj e
theorem LM.hcc (ha : LA A n v R F) (h : LM A n v R F w Q K J) : ¬ w 6 = 0 → ∀ j, 1 ≤ j → j ≤ 6 → J 5 j = cmM (K 1) Q n A j := fun q j h1 h2 => by
  rw [h.2.2.1, w_many (ru_eq h.2.2.2.2.1 ha.2.2.2.1)]; exact h.2.2.2.2.2 q j h1 h2
end LP
theorem and31 (y : Int32) : ∃ k, k < 32 ∧ (y &&& 31) = nI k := by
  have h1 : (y &&& 31).toBitVec.toNat ≤ 31 := by
    rw [Int32.toBitVec_and, BitVec.toNat_and]
    exact Nat.le_trans Nat.and_le_right (by decide)
  have h2 : (y &&& 31).toInt = ((y &&& 31).toBitVec.toNat : Int) := BitVec.toInt_eq_toNat_of_lt (by omega)
  exact rIn_of (n := 32) ⟨by omega, by omega⟩ (by decide)
theorem room5 {L i : Nat} (hL : L ≤ 2560) (hi : i < 2 ^ 30) (h : ¬ (Int32.ofNat L - 5 < nI i)) : i + 5 ≤ L := by
  rcases Nat.lt_or_ge L 5 with q | q
  · refine absurd ?_ h
    rw [i_lt, nI_toInt (by omega)]
    have : (Int32.ofNat L - 5).toInt < 0 := by
      rcases (show L = 0 ∨ L = 1 ∨ L = 2 ∨ L = 3 ∨ L = 4 by omega) with e | e | e | e | e <;> (rw [e]; decide)
    omega
  · have e : Int32.ofNat L - 5 = nI (L - 5) := by
      have h5 := nI_add (L - 5) 5
      rw [show L - 5 + 5 = L by omega] at h5
      show nI L - 5 = _
      rw [← h5]; exact Int32.add_sub_cancel _ _
    rw [e, nI_ltI (by omega) (by omega)] at h
    omega
/-- what stays all through the law -/
def LX (p : Program) (s : State) (m : MethodId) (c : Code) (b L : Nat) (xs : Nat → Int32) (dC : Nat → ClassId) (dI : Nat → Nat → Nat) (aC : Nat → ClassId) : Prop :=
  p.tables.exec = Jvm.exec ∧ c.code = cL_law ∧ c.maxLocals = 4 ∧ s.vm.findClass RL = some m.cls ∧ (∀ w ∈ wsL_law, w.before #[Value.ref b] s = true) ∧ va_X b L xs s s.heap ∧ b < s.heap.size ∧ va_K (dC, dI) vwCl (gT aC) s ∧ L ≤ 2560
/-- the next turn of the loop -/
def LN (p : Program) (l : Launch) (e : Env) (s : State) (m : MethodId) (below : List Frame) (meth : Method) (c : Code) (b : Nat) (dC : Nat → ClassId) (dI : Nat → Nat → Nat) (aC : Nat → ClassId) (am : Nat → Nat) (q0 : Nat) (Qp : State → Prop) (ls : Array Slot) : Prop :=
  ∀ (ad cap : Nat → Nat) (u z : MS) (H : Heap) (locs : List Loc), ad 0 = q0 → WO dC dI aC am s.heap.size ad cap u z H → va_S (lwA s) s.heap H locs → (∃ A n, LL A n u z) → W p l e room_1 s m #[Value.ref b] below meth c H locs (134 + (cs cap - 96)) (4820 + 4 * (cs cap - 96)) Qp (F0 m 726 ls [])
theorem la_room {cap : Nat → Nat} (h : ∀ j, j < 6 → 16 ≤ cap j ∧ cap j ≤ 8192) : 134 + (cs cap - 96) ≤ room_1.cells ∧ 4820 + 4 * (cs cap - 96) ≤ room_1.slots := by
  have := (cs_96 h).2
  show _ ≤ 600000 ∧ _ ≤ 7302250
  omega
theorem la_roomg {cap : Nat → Nat} (h : ∀ j, j < 6 → 16 ≤ cap j ∧ cap j ≤ 8192) : 134 + (cs cap - 96) + 303104 ≤ room_1.cells ∧ 4820 + 4 * (cs cap - 96) + 1212416 ≤ room_1.slots := by
  have := (cs_96 h).2
  show _ ≤ 600000 ∧ _ ≤ 7302250
  omega
section LQ
variable {p : Program} {l : Launch} {e : Env} {s : State} {m : MethodId} {below : List Frame} {meth : Method} {c : Code} {H : Heap} {locs : List Loc} {cells slots : Nat} {Qp : State → Prop} {b L i q0 m0 : Nat} {xs : Nat → Int32} {dC : Nat → ClassId} {dI : Nat → Nat → Nat} {aC : Nat → ClassId} {ls : Array Slot} {st : List Value}
theorem la_arg (hX : LX p s m c b L xs dC dI aC) (hS : va_S (lwA s) s.heap H locs) (hl : lv_has ls 4 [(0, .ref b), (1, .ref q0), (2, .ref m0), (3, .int (nI i))]) (hi : i + 5 ≤ L) {t pc : Nat} {k : Int} (ht : t ≤ 4) (hv : Int32.ofInt k = nI t) (d0 : decode cL_law pc = .ok (.aload_n 0, 1)) (d1 : decode cL_law (pc + 1) = .ok (.iload_n 3, 1)) (d2 : decode cL_law (pc + 1 + 1) = .ok (.iconst k, 1)) (d3 : decode cL_law (pc + 1 + 1 + 1) = .ok (.iadd, 1)) (d4 : decode cL_law (pc + 1 + 1 + 1 + 1) = .ok (.iaload, 1))
    (kk : W p l e room_1 s m #[Value.ref b] below meth c H locs cells slots Qp (F0 m (pc + 1 + 1 + 1 + 1 + 1) ls (.int (xs (i + t)) :: st))) : W p l e room_1 s m #[Value.ref b] below meth c H locs cells slots Qp (F0 m pc ls st) := by
  obtain ⟨hx, hb, hml, hown, hts, hXX, hbl, hK, hL⟩ := hX
  refine lv_aload_n hx hb d0 rfl (lv_at hl 0 rfl) ?_
  refine lv_iload_n hx hb d1 rfl (lv_at hl 3 rfl) ?_
  refine lv_iconst (v := nI t) hx hb d2 hv ?_
  refine lv_iadd hx hb d3 ?_
  rw [nI_add]
  refine va_sld hx hb hXX hbl (Nat.not_le.mpr hbl) hS (vp_in_nI (show i + t < L by omega) (by omega)) d4 ?_
  rw [nI_clamp (by omega)]
  exact kk
end LQ
