/-! steps keep what rows must be; what they read of the rules -/
theorem vR_app {A : Nat} {a b : List Int32} (ha : vR A a) (hb : vR A b) : vR A (a ++ b) := by
  intro i hi
  rw [List.length_append] at hi
  rcases Nat.lt_or_ge i a.length with q | q
  · rw [gD_app_l q]; exact ha i q
  · obtain ⟨j, rfl⟩ : ∃ j, i = a.length + j := ⟨i - a.length, by omega⟩
    rw [gD_app_r]; exact hb j (by omega)
theorem vR_nil (A : Nat) : vR A [] := fun i hi => absurd hi (Nat.not_lt_zero i)
theorem vR_one {A : Nat} {z : Int32} (h : vS A z) : vR A [z] := by
  intro i hi
  have : i = 0 := by simp at hi; omega
  subst this
  exact h
theorem vR_mem {A : Nat} {l : List Int32} : vR A l ↔ ∀ z ∈ l, vS A z := by
  refine ⟨fun h z hz => ?_, fun h i hi => ?_⟩
  · obtain ⟨i, hi, e⟩ := List.getElem_of_mem hz
    have := h i hi
    rwa [gD_lt hi, e] at this
  · rw [gD_lt hi]
    exact h _ (List.getElem_mem hi)
theorem vR_slc {A : Nat} {l : List Int32} (h : vR A l) (b q : Nat) : vR A (slc l b q) := by
  rw [vR_mem] at h ⊢
  intro z hz
  exact h z (List.mem_of_mem_take (List.mem_of_mem_drop hz))
theorem vR_exF {A : Nat} {t : List Int32} (h : vR A t) (ac : List (Nat × Nat)) {g : Nat → Int32} : ∀ n, (∀ i, i < n → vS A (g i)) → vR A (exF t ac g n)
  | 0, _ => vR_nil A
  | n + 1, hg => by
    rw [exF]
    refine vR_app (vR_exF h ac n (fun i hi => hg i (by omega))) ?_
    split
    · exact vR_slc h _ _
    · exact vR_one (hg n (by omega))
theorem vR_rpl {A : Nat} {t rt : List Int32} (h : vR A t) (hr : vR A rt) (p q : Nat) (ac : List (Nat × Nat)) : vR A (rplL t p q ac rt) :=
  vR_app (vR_app (vR_slc h _ _) (vR_exF h ac _ (fun i hi => hr i hi))) (vR_slc h _ _)
theorem fnd_lt {β : Type} {f : Nat → Option β} : ∀ {m k i : Nat} {b : β}, fnd f m k = some (i, b) → k ≤ i ∧ i < k + m ∧ f i = some b
  | 0, _, _, _, h => by cases h
  | m + 1, k, i, b, h => by
    rw [fnd] at h
    cases hf : f k with
    | none =>
      rw [hf] at h
      have := fnd_lt h
      exact ⟨by omega, by omega, this.2.2⟩
    | some c =>
      rw [hf] at h
      cases h
      exact ⟨Nat.le_refl _, by omega, hf⟩
theorem fnd_congr {β : Type} {f g : Nat → Option β} : ∀ {m k : Nat}, (∀ i, k ≤ i → i < k + m → f i = g i) → fnd f m k = fnd g m k
  | 0, _, _ => rfl
  | m + 1, k, h => by
    rw [fnd, fnd, h k (Nat.le_refl _) (by omega), fnd_congr (fun i h1 h2 => h i (by omega) (by omega))]
theorem fP_lt {E : Nat → Int32} {R : Nat → List Int32} {n : Nat} {t : List Int32} {p k q : Nat} {ac : List (Nat × Nat)} (h : fP E R n t = some (p, k, q, ac)) : p < t.length ∧ k < n ∧ mt E (R (10 + k)) t p = some (q, ac) := by
  have h1 := fnd_lt h
  have h2 := fnd_lt h1.2.2
  exact ⟨by omega, by omega, h2.2.2⟩
theorem vR_step {A : Nat} {E : Nat → Int32} {R : Nat → List Int32} {n : Nat} {tn : Nat → Int32} {t : List Int32} (h : vR A t) (hr : ∀ k, k < n → vR A (R (18 + k))) : vR A (stepL E R n tn t).2 := by
  cases hf : fP E R n t with
  | none => rw [stepL_no hf]; exact h
  | some z =>
    obtain ⟨p, k, q, ac⟩ := z
    rw [stepL_yes hf, useL]
    split
    · exact vR_nil A
    · split
      · exact vR_rpl h (hr k (fP_lt hf).2.1) _ _ _
      · exact h
theorem fP_congr {E : Nat → Int32} {R R' : Nat → List Int32} {n : Nat} {t : List Int32} (h : ∀ k, k < n → R' (10 + k) = R (10 + k)) : fP E R' n t = fP E R n t :=
  fnd_congr (fun p _ _ => fnd_congr (fun k _ hk => by rw [h k (by omega)]))
theorem stepL_congr {E : Nat → Int32} {R R' : Nat → List Int32} {n : Nat} {tn : Nat → Int32} {t : List Int32} (h : ∀ k, k < n → R' (10 + k) = R (10 + k)) (h2 : ∀ k, k < n → R' (18 + k) = R (18 + k)) : stepL E R' n tn t = stepL E R n tn t := by
  cases hf : fP E R n t with
  | none => rw [stepL_no hf, stepL_no ((fP_congr h).trans hf)]
  | some z =>
    obtain ⟨p, k, q, ac⟩ := z
    rw [stepL_yes hf, stepL_yes ((fP_congr h).trans hf), useL, useL, h2 k (fP_lt hf).2.1]
theorem nrm_step {st : List Int32 → Int32 × List Int32} {j : Nat} {t : List Int32} (hj : j ≤ 200) : nrmL st (201 - j) j t = if (st t).1 = 0 then (nI j, (st t).2) else if (st t).1 = -5 ∨ 200 < j + 1 then (-5, (st t).2) else if (st t).1 = 2 then (-10 - nI (j + 1), (st t).2) else nrmL st (201 - (j + 1)) (j + 1) (st t).2 := by
  rw [show 201 - j = (201 - (j + 1)) + 1 by omega, nrmL]
theorem up_swap {α : Type} {f : Nat → α} {a b : Nat} (h : a ≠ b) (x y : α) : va_up (va_up f a x) b y = va_up (va_up f b y) a x := by
  funext j
  by_cases h1 : j = a
  · subst h1; rw [upn h, va_up_self, va_up_self]
  · by_cases h2 : j = b
    · subst h2; rw [va_up_self, upn h1, va_up_self]
    · rw [upn h2, upn h1, upn h1, upn h2]
theorem nrm_up {R : Nat → List Int32} {M M' t t' : List Int32} {r : Nat} (h : r ≠ 28) : va_up (va_up (va_up (va_up R 28 M) r t) 28 M') r t' = va_up (va_up R 28 M') r t' := by
  rw [up_swap h, up_up, up_up]
def pStep (E : Nat → Int32) (R : Nat → List Int32) (n : Nat) (tn : Nat → Int32) (a : Int32) : Int32 := if tr E R a then (stepL E R n tn (R a.toNatClampNeg)).1 else -2
def uStep (E : Nat → Int32) (R : Nat → List Int32) (n : Nat) (tn : Nat → Int32) (a : Int32) : Nat → List Int32 := if tr E R a then va_up R a.toNatClampNeg (stepL E R n tn (R a.toNatClampNeg)).2 else R
def nfL (E : Nat → Int32) (R : Nat → List Int32) (n : Nat) (tn : Nat → Int32) (t : List Int32) : Int32 × List Int32 := nrmL (stepL E R n tn) 201 0 t
def pNormal (E : Nat → Int32) (R : Nat → List Int32) (n : Nat) (tn : Nat → Int32) (a : Int32) : Int32 := if tr E R a then (nfL E R n tn (R a.toNatClampNeg)).1 else -2
def uNormal2 (E : Nat → Int32) (R : Nat → List Int32) (n : Nat) (tn : Nat → Int32) (q : Nat) : Nat → List Int32 := if (nfL E R n tn (R q)).1 = -5 then R else va_up R q (nfL E R n tn (R q)).2
def uNormal (E : Nat → Int32) (R : Nat → List Int32) (n : Nat) (tn : Nat → Int32) (a : Int32) : Nat → List Int32 := if tr E R a then uNormal2 E R n tn a.toNatClampNeg else R
