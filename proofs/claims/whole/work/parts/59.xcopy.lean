/-! Arrays.copyOf of longs, to twice the length -/
def CPQ (dC : Nat → ClassId) (dI : Nat → Nat → Nat) (aC : Nat → ClassId) (z : Nat) (f : Nat → Int64) : Array Value → State → Outcome → State → Prop := fun _ u o t => ∃ q, o = .returned (some (.ref q)) ∧ u.heap.size ≤ q ∧ va_P (dC, dI) vwCl [(q, .inl (aC 1, 2 * z, .inr (.inl (va_cpy f (fun _ => 0) 0 0 z))))] t.heap ∧ u.heap.size ≤ t.heap.size ∧ ∀ i : Nat, i < u.heap.size → t.heap[i]? = u.heap[i]?
abbrev CPB (dC : Nat → ClassId) (dI : Nat → Nat → Nat) (aC : Nat → ClassId) (a z : Nat) (f : Nat → Int64) : State → Prop := fun U => va_K (dC, dI) vwCl (gT aC) U ∧ va_P (dC, dI) vwCl [(a, .inl (aC 1, z, .inr (.inl f)))] U.heap
theorem va_D_one {A : Nat → Prop} {a : Nat} {e : va_E} (h : A a) : va_D A [(a, e)] := by
  have key : ∀ (k : Nat) (q : Nat × va_E), [(a, e)][k]? = some q → k = 0 ∧ q = (a, e) := by
    intro k q hk
    cases k with
    | zero => exact ⟨rfl, (Option.some.inj hk).symm⟩
    | succ k => cases hk
  refine ⟨fun i j x y hi hj _ => (key i x hi).1.trans (key j y hj).1.symm, fun k q hk => ?_⟩
  rw [(key k q hk).2]; exact h
theorem CPB_blind {dC : Nat → ClassId} {dI : Nat → Nat → Nat} {aC : Nat → ClassId} {a z : Nat} {f : Nat → Int64} {av : List Value} : FrameBlind (va_Pc av (CPB dC dI aC a z f)) := fun _ _ _ _ h => ⟨h.1, va_K.moved (Vm.Alike.refl _) h.2.1, h.2.2⟩
set_option maxHeartbeats 1000000 in
set_option maxRecDepth 100000 in
theorem x_copyOf (l : Launch) (dC : Nat → ClassId) (dI : Nat → Nat → Nat) (aC : Nat → ClassId) (a z : Nat) (f : Nat → Int64) (hz : 0 < z) (hz2 : z ≤ 4096) : Met l yJ7_copyOf_c38d5 wsJ7_copyOf_c38d5 ({ frames := 1, cells := 1, slots := 2 * z, locals := 60 } : Room) (va_Pc [.ref a, .int (nI (2 * z))] (CPB dC dI aC a z f)) (CPQ dC dI aC z f) 1 (2 * z) (fun q => q = a) := by
  refine Met.ofW (cc := cJ7_copyOf_c38d5) (maxL := 3) (ret := (some (.array .long))) (by decide) rfl ?_
  intro p e s m args below meth c s₁ B hml hv
  obtain ⟨rfl, hK, hP⟩ := hv
  have hx := B.exec
  have hb := B.bytes
  have hret := B.returns
  have hts := atoms_spec (ws := wsJ7_copyOf_c38d5) B.pre
  have hown : s.vm.findClass RJ7 = some m.cls := findClass_of_methodNamed B.named
  have hlocks := B.notSynchronized
  have lk0 := hts (.arrayClass .long) (by decide +kernel)
  have lk1 := hts (.methodLink RJ7 304 Lib.Math.min.name) (by decide +kernel)
  have lk2 := hts (.static Lib.Math.min.name) (by decide +kernel)
  have lk3 := hts (.initialized "java/lang/Math") (by decide +kernel)
  have lk4 := hts (.code Lib.Math.min.name Lib.Math.min.code 2 (some .int)) (by decide +kernel)
  have lk5 := hts (.methodLink RJ7 150 arraycopyName) (by decide +kernel)
  have lk6 := hts (.native arraycopyName) (by decide +kernel)
  have lk7 := hts (.static arraycopyName) (by decide +kernel)
  have lk8 := hts (.initialized "java/lang/System") (by decide +kernel)
  have hS : va_S (fun q => q = a ∨ s.heap.size ≤ q) s.heap s.heap [] := va_S.rf
  have hD : va_D (fun q => q = a ∨ s.heap.size ≤ q) [(a, .inl (aC 1, z, .inr (.inl f)))] := va_D_one (Or.inl rfl)
  have hl := lv_entry [.ref a, .int (nI (2 * z))] (n := 3) (Nat.le_of_ble_eq_true rfl)
  rw [lg_entry_eq]
  generalize (lg_sl [.ref a, .int (nI (2 * z))] ++ List.replicate (3 - (lg_sl [.ref a, .int (nI (2 * z))]).length) Slot.unset).toArray = ls at hl ⊢
  have hl : lv_has ls 3 [(0, .ref a), (1, .int (nI (2 * z)))] := hl
  refine nx_Q (R := ({ frames := 1, cells := 1, slots := 2 * z, locals := 60 } : Room)) (fun Q hQ => ?_)
  refine lv_iload_n hx hb dJ7_copyOf_c38d5_0 rfl (lv_at hl 1 rfl) ?_
  refine lv_aload_n hx hb dJ7_copyOf_c38d5_1 rfl (lv_at hl 0 rfl) ?_
  refine va_alen hx hb hK hP 0 1 rfl rfl (v := nI z) rfl dJ7_copyOf_c38d5_2 ?_
  refine nx_icmp_ne (a := 2 * z) (b := z) (tgt := 14) hx hb dJ7_copyOf_c38d5_3 (by decide) (by omega) (by omega) (fun _ => ?_) (fun h => absurd h (by omega))
  refine lv_iload_n hx hb dJ7_copyOf_c38d5_14 rfl (lv_at hl 1 rfl) ?_
  refine va_newa (atype := .long) (ty := .long) (N' := 2 * z) (a0 := (2 * z, .inr (.inl (fun _ => 0)))) hx hb lk0 rfl hK hP hD hS (fun q h => Or.inr h) (fun cA => rfl) (nI_pos (by omega)) (nI_clamp (by omega)) (by show 2 * z * 8 ≤ 536870912; omega) (Nat.le_of_ble_eq_true rfl) (by show 0 + 2 * z ≤ 2 * z; omega) dJ7_copyOf_c38d5_15 (fun q cA H1 hK1 hP1 hD1 hS1 => ?_)
  have hcA : aC 1 = cA := by
    have h1 := va_nm_long (hK1.2 7 (cA, .long) rfl).2
    have h2 := va_nm_long (hK.2 1 (aC 1, .long) rfl).2
    exact Option.some.inj (h2.symm.trans h1)
  subst hcA
  have hqs : s.heap.size ≤ q := by
    rcases hD1.2 1 _ rfl with h | h
    · exact absurd (hD1.1 0 1 _ _ rfl rfl h.symm) (by decide)
    · exact h
  refine lv_astore_n (lv' := [(2, .ref q), (0, .ref a), (1, .int (nI (2 * z)))]) hx hb dJ7_copyOf_c38d5_17 rfl hl (by decide) rfl (fun ls hl => ?_)
  refine lv_aload_n hx hb dJ7_copyOf_c38d5_18 rfl (lv_at hl 1 rfl) ?_
  refine lv_iconst (v := nI 0) hx hb dJ7_copyOf_c38d5_19 (by decide) ?_
  refine lv_aload_n hx hb dJ7_copyOf_c38d5_20 rfl (lv_at hl 0 rfl) ?_
  refine lv_iconst (v := nI 0) hx hb dJ7_copyOf_c38d5_21 (by decide) ?_
  refine lv_aload_n hx hb dJ7_copyOf_c38d5_22 rfl (lv_at hl 1 rfl) ?_
  refine va_alen hx hb hK1 hP1 0 1 rfl rfl (v := nI z) rfl dJ7_copyOf_c38d5_23 ?_
  refine lv_iload_n hx hb dJ7_copyOf_c38d5_24 rfl (lv_at hl 2 rfl) ?_
  refine va_mmin (rest := [.int (nI 0), .ref q, .int (nI 0), .ref a]) hx hb (hml.trans hl.1.symm) hown lk1 lk2 lk3 lk4 (Nat.le_of_ble_eq_true rfl) (Nat.le_of_ble_eq_true rfl) (Nat.le_of_ble_eq_true rfl) (by show 0 + 2 * z ≤ 2 * z; omega) dJ7_copyOf_c38d5_25 ?_
  refine nx_ti (y := nI z) (by rw [if_neg]; rw [i_lt, nI_toInt (by omega), nI_toInt (by omega)]; omega) ?_
  refine va_copyl (rest := []) (sp := nI 0) (dp := nI 0) (n := nI z) hx hb (hml.trans hl.1.symm) hown lk5 lk6 lk7 lk8 hK1 hP1 hD1 hS1 0 1 1 1 rfl rfl rfl rfl rfl (nI_pos (by omega)) (nI_pos (by omega)) (nI_pos (by omega)) (by rw [nI_clamp (by omega), nI_clamp (by omega)]; omega) (by rw [nI_clamp (by omega), nI_clamp (by omega)]; omega) (fun _ _ => rfl) (Nat.le_of_ble_eq_true rfl) (by show (List.map (fun v => v.category) ([] : List Value)).sum + (nativeFrameWords "java/lang/System" "arraycopy" 5 + 11) ≤ 60; decide) dJ7_copyOf_c38d5_28 (fun H2 locs2 hP2 hD2 hS2 => ?_)
  rw [nI_clamp (show (0 : Nat) < 2 ^ 31 by decide), nI_clamp (show z < 2 ^ 31 by omega)] at hP2
  refine lv_aload_n hx hb dJ7_copyOf_c38d5_31 rfl (lv_at hl 0 rfl) ?_
  have hkeep : ∀ i : Nat, i < s.heap.size → H2[i]? = s.heap[i]? := by
    intro i hi
    by_cases hia : i = a
    · subst hia
      have h1 := hP2 0 _ rfl
      have h2 := hP 0 _ rfl
      exact h1.trans h2.symm
    · exact hS2.2.1 i hi (fun h => h.elim hia (fun w => absurd hi (Nat.not_lt.mpr w)))
  subst hQ
  intro T hT X
  obtain ⟨t, go, o, b1, b2, ⟨o1, o2, o3⟩, L, hF, hL⟩ := W.aret (free := fun q => q = a ∨ s.heap.size ≤ q) (v := .ref q) (Qc := fun _ _ o t => o = .returned (some (.ref q)) ∧ t.heap = H2 ∧ s.WarmedH t.vm) hx hb hret (Or.inr ⟨_, rfl⟩) (Or.inr ⟨q, rfl⟩) (fun t h1 h2 => ⟨rfl, h1, h2⟩) hS2.2.2 dJ7_copyOf_c38d5_32 hlocks T hT X
  refine ⟨t, go, o, b1, b2, ⟨q, o1, hqs, ?_, by rw [o2]; exact hS2.1, fun i hi => by rw [o2]; exact hkeep i hi⟩, _, frame_old (Nat.le_of_ble_eq_true rfl) (by omega) hF, fun w hw => ?_⟩
  · rw [o2]
    intro k w hk
    cases k with
    | zero => cases hk; exact hP2 1 _ rfl
    | succ k => cases hk
  · obtain ⟨z1, z2⟩ := List.mem_filter.mp hw
    exact (hL w z1).elim id (fun w2 => absurd (of_decide_eq_true z2) (Nat.not_lt.mpr w2))
