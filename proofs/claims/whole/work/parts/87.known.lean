/-! what is known of the classes at the law's start -/
theorem arr_of {s : State} {cA : ClassId} {kA : Class} {comp : ClassId} {ty : FieldType} (h2 : s.vm.classes[cA]? = some kA) (h3 : kA.kind = .array comp ty) : ArrOfT s cA ty := fun n z => ⟨fun k h => (by cases h), kA, h2, comp, h3⟩
theorem known_arr {args : Array Value} {s : State} {ty : FieldType} (h : (Cond.arrayClass ty).before args s = true) (hn : ∀ C, ty ≠ .object C) : ∃ cA, ArrOfT s cA ty ∧ va_RA s cA ty := by
  obtain ⟨c, k, comp, h1, h2, h3⟩ := Cond.arrayClass_spec h
  refine ⟨c, arr_of h2 h3, ?_⟩
  cases ty with
  | object C => exact absurd rfl (hn C)
  | _ => exact h1
theorem known_obj {s : State} {C : String} (h : va_AO C s) : ∃ cA, ArrOfT s cA (.object C) ∧ va_RA s cA (.object C) := by
  obtain ⟨comp, c, k, h1, h2, h3, h4, h5⟩ := Cond.arrayOver_spec h
  exact ⟨c, arr_of h3 h4, k, comp, h3, h4, h1, h5⟩
theorem known_aoa {s : State} {t : FieldType} (h : va_AOA t s) : ∃ cA, ArrOfT s cA (.array t) ∧ va_RA s cA (.array t) := by
  obtain ⟨comp, c, k, h1, h2, h3, h4⟩ := Cond.arrayOver_specA h
  exact ⟨c, arr_of h2 h3, h4⟩
theorem known_all {Ts : List Cond} {args : Array Value} {s : State} (hts : ∀ w ∈ Ts, w.before args s = true) (hi0 : ∀ w ∈ u_ws RX0 TX0 6, w ∈ Ts) (hn0 : (Cond.instantiable RX0 6).before args s = true) (hi1 : ∀ w ∈ u_ws RX1 TX1 5, w ∈ Ts) (hn1 : (Cond.instantiable RX1 5).before args s = true) (hi2 : ∀ w ∈ u_ws RX2 TX2 5, w ∈ Ts) (hn2 : (Cond.instantiable RX2 5).before args s = true) (hi3 : ∀ w ∈ u_ws RX3 TX3 2, w ∈ Ts) (hn3 : (Cond.instantiable RX3 2).before args s = true) (hi4 : ∀ w ∈ u_ws RX4 TX4 3, w ∈ Ts) (hn4 : (Cond.instantiable RX4 3).before args s = true) (hi5 : ∀ w ∈ u_ws RX5 TX5 2, w ∈ Ts) (hn5 : (Cond.instantiable RX5 2).before args s = true) (hi6 : ∀ w ∈ u_ws RX6 TX6 1, w ∈ Ts) (hn6 : (Cond.instantiable RX6 1).before args s = true) (hi7 : ∀ w ∈ u_ws RX7 TX7 3, w ∈ Ts) (hn7 : (Cond.instantiable RX7 3).before args s = true) (hi8 : ∀ w ∈ u_ws RX8 TX8 4, w ∈ Ts) (hn8 : (Cond.instantiable RX8 4).before args s = true) (hi9 : ∀ w ∈ u_ws RX9 TX9 14, w ∈ Ts) (hn9 : (Cond.instantiable RX9 14).before args s = true) (hi10 : ∀ w ∈ u_ws RX10 TX10 22, w ∈ Ts) (hn10 : (Cond.instantiable RX10 22).before args s = true) (ha : (Cond.arrayClass .int).before args s = true) (hb : (Cond.arrayClass .long).before args s = true) (hc : (Cond.arrayClass .boolean).before args s = true) (hw : nwOK s) : ∃ (dC : Nat → ClassId) (dI : Nat → Nat → Nat) (aC : Nat → ClassId), va_K (dC, dI) vwCl (gT aC) s := by
  obtain ⟨c0, i0, k0⟩ := u_known hts hi0 hn0
  obtain ⟨c1, i1, k1⟩ := u_known hts hi1 hn1
  obtain ⟨c2, i2, k2⟩ := u_known hts hi2 hn2
  obtain ⟨c3, i3, k3⟩ := u_known hts hi3 hn3
  obtain ⟨c4, i4, k4⟩ := u_known hts hi4 hn4
  obtain ⟨c5, i5, k5⟩ := u_known hts hi5 hn5
  obtain ⟨c6, i6, k6⟩ := u_known hts hi6 hn6
  obtain ⟨c7, i7, k7⟩ := u_known hts hi7 hn7
  obtain ⟨c8, i8, k8⟩ := u_known hts hi8 hn8
  obtain ⟨c9, i9, k9⟩ := u_known hts hi9 hn9
  obtain ⟨c10, i10, k10⟩ := u_known hts hi10 hn10
  obtain ⟨a0, p0⟩ := known_arr ha (fun C h => by cases h)
  obtain ⟨a1, p1⟩ := known_arr hb (fun C h => by cases h)
  obtain ⟨a2, p2⟩ := known_arr hc (fun C h => by cases h)
  obtain ⟨a3, p3⟩ := known_obj hw.2.1
  obtain ⟨a4, p4⟩ := known_obj hw.2.2.1
  obtain ⟨a5, p5⟩ := known_obj hw.2.2.2.1
  obtain ⟨a6, p6⟩ := known_aoa hw.2.2.2.2
  refine ⟨pkF c0 [c0, c1, c2, c3, c4, c5, c6, c7, c8, c9, c10], pkF i0 [i0, i1, i2, i3, i4, i5, i6, i7, i8, i9, i10], pkF a0 [a0, a1, a2, a3, a4, a5, a6], fun k q hq => ?_, fun k q hq => ?_⟩
  · match k, hq with
    | 0, hq => cases hq; exact k0
    | 1, hq => cases hq; exact k1
    | 2, hq => cases hq; exact k2
    | 3, hq => cases hq; exact k3
    | 4, hq => cases hq; exact k4
    | 5, hq => cases hq; exact k5
    | 6, hq => cases hq; exact k6
    | 7, hq => cases hq; exact k7
    | 8, hq => cases hq; exact k8
    | 9, hq => cases hq; exact k9
    | 10, hq => cases hq; exact k10
    | k + 11, hq => cases hq
  · match k, hq with
    | 0, hq => cases hq; exact p0
    | 1, hq => cases hq; exact p1
    | 2, hq => cases hq; exact p2
    | 3, hq => cases hq; exact p3
    | 4, hq => cases hq; exact p4
    | 5, hq => cases hq; exact p5
    | 6, hq => cases hq; exact p6
    | k + 7, hq => cases hq
