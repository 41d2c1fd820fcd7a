/-! small rows for the Rewriter -/
theorem fnd_all {β : Type} {f : Nat → Option β} : ∀ {m k : Nat}, (∀ i, k ≤ i → i < k + m → f i = none) → fnd f m k = none
  | 0, _, _ => rfl
  | m + 1, k, h => by
    rw [fnd, h k (Nat.le_refl _) (by omega)]
    exact fnd_all (fun i h1 h2 => h i (by omega) (by omega))
theorem rlT_congr {E : Nat → Int32} {R R' : Nat → List Int32} {n : Nat} {tn : Nat → Int32} (hr : rlT E R n tn) (h : ∀ k, k < n → R' (10 + k) = R (10 + k)) (h2 : ∀ k, k < n → R' (18 + k) = R (18 + k)) : rlT E R' n tn := by
  intro k hk
  rw [h k hk, h2 k hk]
  exact hr k hk
theorem nf_sub (j : Nat) : (-10 : Int32) - nI j - nI 1 = -10 - nI (j + 1) := by
  rw [← nI_add j 1, Int32.sub_eq_add_neg, Int32.sub_eq_add_neg, Int32.sub_eq_add_neg (-10) (nI j + nI 1), Int32.neg_add, Int32.sub_eq_add_neg, Int32.add_assoc]
theorem row2 {R : Nat → List Int32} {a b : Nat} {x y : List Int32} {k : Nat} (h1 : k ≠ a) (h2 : k ≠ b) : va_up (va_up R a x) b y k = R k := by rw [upn h2, upn h1]
theorem row4 {R : Nat → List Int32} {a b c d : Nat} {x y z t : List Int32} {k : Nat} (h1 : k ≠ a) (h2 : k ≠ b) (h3 : k ≠ c) (h4 : k ≠ d) : va_up (va_up (va_up (va_up R a x) b y) c z) d t k = R k := by rw [upn h4, upn h3, upn h2, upn h1]
theorem up4 {α : Type} {f : Nat → α} {a b c d : α} : va_up (va_up (va_up (va_up f 2 a) 3 b) 2 c) 3 d = va_up (va_up f 2 c) 3 d := by
  rw [up_swap (show (3 : Nat) ≠ 2 by decide), up_up, up_up]
theorem goL_5a {E : Nat → Int32} {R : Nat → List Int32} {n : Nat} {tn : Nat → Int32} {T : List Int32} {k u q : Nat} {ac : List (Nat × Nat)} (h : mt E (R (10 + k)) T u = some (q, ac)) (h1 : (useL R tn T u k q ac).1 = 1) : (nfL E R n tn (useL R tn T u k q ac).2).1 = -5 ↔ (goL E R n tn T k u).1 = -5 := by
  rw [goL_1 h h1]
  show _ ↔ (if (nfL E R n tn (useL R tn T u k q ac).2).1 = -5 then (-5 : Int32) else if (nfL E R n tn (useL R tn T u k q ac).2).1 < 0 then 0 else 1) = -5
  by_cases h5 : (nfL E R n tn (useL R tn T u k q ac).2).1 = -5
  · rw [if_pos h5]; exact ⟨fun _ => rfl, fun _ => h5⟩
  · rw [if_neg h5]
    refine ⟨fun h => absurd h h5, fun h => ?_⟩
    split at h
    · exact absurd h (by decide)
    · exact absurd h (by decide)
theorem goL_5b {E : Nat → Int32} {R : Nat → List Int32} {n : Nat} {tn : Nat → Int32} {T : List Int32} {k u q : Nat} {ac : List (Nat × Nat)} (h : mt E (R (10 + k)) T u = some (q, ac)) (h1 : ¬ (useL R tn T u k q ac).1 = 1) : (useL R tn T u k q ac).1 = -5 ↔ (goL E R n tn T k u).1 = -5 := by
  rw [goL_2 h h1]
  show _ ↔ (if (useL R tn T u k q ac).1 = 2 then (0 : Int32) else -5) = -5
  rcases useL_val (R := R) (tn := tn) (t := T) (p := u) (k := k) (q := q) (ac := ac) with z | z | z
  · rw [z]; decide
  · exact absurd z h1
  · rw [z]; decide
theorem goL_n {E : Nat → Int32} {R : Nat → List Int32} {n : Nat} {tn : Nat → Int32} {T : List Int32} {k u : Nat} (h : mt E (R (10 + k)) T u = none) : goL E R n tn T k u = (-5, T) := by rw [goL, h]
