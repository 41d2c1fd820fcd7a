/-! closes -/
theorem rx_n {R : Nat → List Int32} {a b c : List Int32} {k : Nat} (h : k < 26) : va_up (va_up (va_up R 26 a) 27 b) 28 c k = R k := by
  rw [upn (show k ≠ 28 by omega), upn (show k ≠ 27 by omega), upn (show k ≠ 26 by omega)]
theorem rx_27 {R : Nat → List Int32} {a b c : List Int32} : va_up (va_up (va_up R 26 a) 27 b) 28 c 27 = b := by
  rw [upn (show (27 : Nat) ≠ 28 by decide), va_up_self]
theorem rx_26 {R : Nat → List Int32} {a b c : List Int32} : va_up (va_up (va_up R 26 a) 27 b) 28 c 26 = a := by
  rw [upn (show (26 : Nat) ≠ 28 by decide), upn (show (26 : Nat) ≠ 27 by decide), va_up_self]
theorem rx_s27 {R : Nat → List Int32} {a b c d : List Int32} : va_up (va_up (va_up (va_up R 26 a) 27 b) 28 c) 27 d = va_up (va_up (va_up R 26 a) 27 d) 28 c := by
  rw [up_swap (show (28 : Nat) ≠ 27 by decide), up_up]
theorem rx_s26 {R : Nat → List Int32} {a b c d x : List Int32} : va_up (va_up (va_up (va_up (va_up R 26 a) 27 b) 28 c) 28 d) 26 x = va_up (va_up (va_up R 26 x) 27 b) 28 d := by
  rw [up_up, up_swap (show (28 : Nat) ≠ 26 by decide), up_swap (show (27 : Nat) ≠ 26 by decide), up_up]
theorem rx_eta (R : Nat → List Int32) : va_up (va_up (va_up R 26 (R 26)) 27 (R 27)) 28 (R 28) = R := by rw [up_eta, up_eta, up_eta]
theorem goL_congr {E : Nat → Int32} {R R' : Nat → List Int32} {n : Nat} {tn : Nat → Int32} {T : List Int32} {k u : Nat} (hk : k < n) (h : ∀ k, k < n → R' (10 + k) = R (10 + k)) (h2 : ∀ k, k < n → R' (18 + k) = R (18 + k)) : goL E R' n tn T k u = goL E R n tn T k u := by
  have e : ∀ q ac, useL R' tn T u k q ac = useL R tn T u k q ac := fun q ac => useL_congr (h2 k hk)
  have e2 : ∀ t, nfL E R' n tn t = nfL E R n tn t := fun t => nfL_congr h h2
  cases hm : mt E (R (10 + k)) T u with
  | none =>
    have hm' : mt E (R' (10 + k)) T u = none := by rw [h k hk]; exact hm
    rw [goL, goL, hm, hm']
  | some z =>
    obtain ⟨q, ac⟩ := z
    have hm' : mt E (R' (10 + k)) T u = some (q, ac) := by rw [h k hk]; exact hm
    by_cases h1 : (useL R tn T u k q ac).1 = 1
    · rw [goL_1 hm h1, goL_1 hm' (by rw [e]; exact h1), e, e2]
    · rw [goL_2 hm h1, goL_2 hm' (by rw [e]; exact h1), e]
theorem goL_val {E : Nat → Int32} {R : Nat → List Int32} {n : Nat} {tn : Nat → Int32} {T : List Int32} {k u : Nat} : (goL E R n tn T k u).1 = -5 ∨ (goL E R n tn T k u).1 = 0 ∨ (goL E R n tn T k u).1 = 1 := by
  cases hm : mt E (R (10 + k)) T u with
  | none => rw [goL, hm]; exact Or.inl rfl
  | some z =>
    obtain ⟨q, ac⟩ := z
    by_cases h1 : (useL R tn T u k q ac).1 = 1
    · rw [goL_1 hm h1]
      dsimp only
      split
      · exact Or.inl rfl
      · split
        · exact Or.inr (Or.inl rfl)
        · exact Or.inr (Or.inr rfl)
    · rw [goL_2 hm h1]
      dsimp only
      split
      · exact Or.inr (Or.inl rfl)
      · exact Or.inl rfl
theorem clF_n {E : Nat → Int32} {R : Nat → List Int32} {n : Nat} {tn : Nat → Int32} {L : List (Nat × List Int32)} {i : Nat} (h : L.length ≤ i) (hi : i ≤ L.length) : clF E R n tn L (L.length + 1 - i) i = -1 := by
  rw [show L.length + 1 - i = (L.length - i) + 1 by omega, clF, List.getElem?_eq_none h]
theorem clF_s {E : Nat → Int32} {R : Nat → List Int32} {n : Nat} {tn : Nat → Int32} {L : List (Nat × List Int32)} {i : Nat} {o : Nat × List Int32} (h : i < L.length) (ho : L[i]? = some o) : clF E R n tn L (L.length + 1 - i) i = if clO E R n tn o = -5 then -5 else if clO E R n tn o = 1 then clF E R n tn L (L.length + 1 - (i + 1)) (i + 1) else nI i := by
  rw [show L.length + 1 - i = (L.length + 1 - (i + 1)) + 1 by omega, clF, ho]
theorem clO_5 {E : Nat → Int32} {R : Nat → List Int32} {n : Nat} {tn : Nat → Int32} {o : Nat × List Int32} (h : (goL E R n tn o.2 (o.1 / 104) 0).1 = -5 ∨ (goL E R n tn o.2 (o.1 / 13 % 8) (o.1 % 13)).1 = -5) : clO E R n tn o = -5 := by rw [clO, if_pos h]
theorem clO_y {E : Nat → Int32} {R : Nat → List Int32} {n : Nat} {tn : Nat → Int32} {o : Nat × List Int32} (h : ¬ (goL E R n tn o.2 (o.1 / 104) 0).1 = -5) (h2 : ¬ (goL E R n tn o.2 (o.1 / 13 % 8) (o.1 % 13)).1 = -5) (h3 : (goL E R n tn o.2 (o.1 / 104) 0).1 = (goL E R n tn o.2 (o.1 / 13 % 8) (o.1 % 13)).1 ∧ ((goL E R n tn o.2 (o.1 / 104) 0).1 = 0 ∨ (goL E R n tn o.2 (o.1 / 104) 0).2 = (goL E R n tn o.2 (o.1 / 13 % 8) (o.1 % 13)).2)) : clO E R n tn o = 1 := by rw [clO, if_neg (fun q => q.elim h h2), if_pos h3]
theorem clO_n {E : Nat → Int32} {R : Nat → List Int32} {n : Nat} {tn : Nat → Int32} {o : Nat × List Int32} (h : ¬ (goL E R n tn o.2 (o.1 / 104) 0).1 = -5) (h2 : ¬ (goL E R n tn o.2 (o.1 / 13 % 8) (o.1 % 13)).1 = -5) (h3 : ¬ ((goL E R n tn o.2 (o.1 / 104) 0).1 = (goL E R n tn o.2 (o.1 / 13 % 8) (o.1 % 13)).1 ∧ ((goL E R n tn o.2 (o.1 / 104) 0).1 = 0 ∨ (goL E R n tn o.2 (o.1 / 104) 0).2 = (goL E R n tn o.2 (o.1 / 13 % 8) (o.1 % 13)).2))) : clO E R n tn o = 0 := by rw [clO, if_neg (fun q => q.elim h h2), if_neg h3]
/-- alike so far: the two answers, and the two rows up to k -/
abbrev clP (a b : Int32) (p q : List Int32) (k : Nat) : Prop := a = b ∧ (a = 0 ∨ (p.length = q.length ∧ eqF (gD p) (gD q) k = true))
abbrev clQ (a b : Int32) (p q : List Int32) : Prop := a = b ∧ (a = 0 ∨ p = q)
theorem clP_end {a b : Int32} {p q : List Int32} {k : Nat} (h : p.length ≤ k) : clP a b p q k ↔ clQ a b p q := and_congr_right (fun _ => or_congr_right (same_iff h))
theorem clP_of {a b : Int32} {p q : List Int32} (k : Nat) (h : clQ a b p q) : clP a b p q k := ⟨h.1, h.2.imp id (same_of k)⟩
theorem clP_0 {a b : Int32} {p q : List Int32} {k : Nat} (h : a = 0) : clP a b p q k ↔ clQ a b p q := ⟨fun z => ⟨z.1, Or.inl h⟩, fun z => ⟨z.1, Or.inl h⟩⟩
theorem clP_s {a b : Int32} {p q : List Int32} {k : Nat} (h : clP a b p q k) (ha : ¬ a = 0) (he : gD p k = gD q k) : clP a b p q (k + 1) := by
  refine ⟨h.1, Or.inr ⟨(h.2.resolve_left ha).1, ?_⟩⟩
  rw [eqF, (h.2.resolve_left ha).2, Bool.true_and]
  exact decide_eq_true he
theorem clP_x {a b : Int32} {p q : List Int32} {k : Nat} (ha : ¬ a = 0) (he : ¬ gD p k = gD q k) : ¬ clP a b p q (k + 1) := by
  intro h
  have := (h.2.resolve_left ha).2
  rw [eqF, Bool.and_eq_true, decide_eq_true_eq] at this
  exact he this.2
theorem mt_in {E : Nat → Int32} {l T : List Int32} {u : Nat} {z : Nat × List (Nat × Nat)} (h : mt E l T u = some z) (hl : 0 < l.length) : u ≤ T.length := by
  rcases Nat.lt_or_ge u T.length with q | q
  · omega
  · rw [mt] at h
    have := mtF_out (E := E) (t := T) (g := gD l) (n := l.length) (i := 0) (j := u) (ac := []) hl q
    rw [Nat.sub_zero] at this
    rw [this] at h
    cases h
theorem upd_ext {f g : Nat → Int32} {k : Nat} (h : ∀ j, j < k → f j = g j) : ∀ j, j < k + 1 → upd f k (g k) j = g j := by
  intro j hj
  by_cases hjk : j = k
  · rw [hjk, pk_us]
  · rw [pk_un hjk]
    exact h j (by omega)
theorem v13_up {v : Nat → Int32} {a b c d x : Int32} : va_up (va_up (va_up (va_up (va_up v 13 a) 14 b) 15 c) 17 d) 13 x = va_up (va_up (va_up (va_up v 13 x) 14 b) 15 c) 17 d := by
  rw [up_swap (show (17 : Nat) ≠ 13 by decide), up_swap (show (15 : Nat) ≠ 13 by decide), up_swap (show (14 : Nat) ≠ 13 by decide), up_up]
