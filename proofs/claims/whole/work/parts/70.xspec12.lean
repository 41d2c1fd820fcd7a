/-! the class's turning about -/
def srI (T : Nat → Int64) (n : Nat) (G : Nat → Nat → Int64) : Prop := (∀ j, 1 ≤ j → j < n → G 6 j = T j) ∧ (∀ k j, 1 ≤ k → k ≤ 6 → 1 ≤ j → j < n → G (7 + k) j = pwF T (k - 1) j) ∧ ∀ k j, 1 ≤ k → k ≤ 6 → 1 ≤ j → j < k → G (7 + k) j = 0
abbrev srZ (G : Nat → Nat → Int64) : Prop := ∀ k j, 1 ≤ k → k ≤ 6 → 1 ≤ j → j < k → G (7 + k) j = 0
theorem sr_1 {T : Nat → Int64} {G : Nat → Nat → Int64} (h0 : T 0 = 0) (h1 : T 1 = 1) (hz : srZ G) : srI T 2 (va_up (va_up G 6 (vp_updL (G 6) 1 1)) (7 + 1) (vp_updL (va_up G 6 (vp_updL (G 6) 1 1) (7 + 1)) 1 1)) := by
  refine ⟨fun j a1 a2 => ?_, fun k j a1 a2 a3 a4 => ?_, fun k j a1 a2 a3 a4 => ?_⟩
  · rw [show j = 1 by omega, upn (by decide), va_up_self, updL_s, h1]
  · rw [show j = 1 by omega]
    by_cases hk : k = 1
    · subst hk; rw [va_up_self, updL_s]; exact h1.symm
    · rw [upn (by omega), upn (by omega), hz k 1 a1 a2 (by omega) (by omega)]
      exact (pwF_zero h0 (k - 1) 1 (by omega)).symm
  · rw [upn (by omega), upn (by omega)]; exact hz k j a1 a2 a3 a4
theorem sr_k {T : Nat → Int64} {G : Nat → Nat → Int64} {n k : Nat} {y : Int64} (h : srI T n G) (hk : k + 2 ≤ n) : srI T n (va_up G (7 + (2 + k)) (vp_updL (G (7 + (2 + k))) n y)) := by
  refine ⟨fun j a1 a2 => ?_, fun q j a1 a2 a3 a4 => ?_, fun q j a1 a2 a3 a4 => ?_⟩
  · rw [upn (by omega)]; exact h.1 j a1 a2
  · by_cases hq : q = 2 + k
    · subst hq; rw [va_up_self, updL_n (by omega)]; exact h.2.1 _ j a1 a2 a3 a4
    · rw [upn (by omega)]; exact h.2.1 q j a1 a2 a3 a4
  · by_cases hq : q = 2 + k
    · subst hq; rw [va_up_self, updL_n (by omega)]; exact h.2.2 _ j a1 a2 a3 a4
    · rw [upn (by omega)]; exact h.2.2 q j a1 a2 a3 a4
theorem sr_s {T : Nat → Int64} {G : Nat → Nat → Int64} {n : Nat} {y : Int64} (h : srI T n G) (hn : 2 ≤ n) (h0 : T 0 = 0) (hB : ∀ q, 2 ≤ q → q ≤ n → G (7 + q) n = pwF T (q - 1) n) (hy : y = T n) : srI T (n + 1) (va_up (va_up G 6 (vp_updL (G 6) n y)) (7 + 1) (vp_updL (va_up G 6 (vp_updL (G 6) n y) (7 + 1)) n y)) := by
  refine ⟨fun j a1 a2 => ?_, fun k j a1 a2 a3 a4 => ?_, fun k j a1 a2 a3 a4 => ?_⟩
  · rw [upn (by decide : (6 : Nat) ≠ 7 + 1), va_up_self]
    by_cases hj : j = n
    · rw [hj, updL_s, hy]
    · rw [updL_n hj]; exact h.1 j a1 (by omega)
  · by_cases hk : k = 1
    · subst hk
      rw [va_up_self]
      by_cases hj : j = n
      · rw [hj, updL_s, hy]; rfl
      · rw [updL_n hj, upn (by decide : (7 + 1 : Nat) ≠ 6)]; exact h.2.1 1 j a1 a2 a3 (by omega)
    · rw [upn (by omega), upn (by omega)]
      by_cases hj : j = n
      · rw [hj]
        rcases Nat.lt_or_ge n k with z | z
        · rw [h.2.2 k n a1 a2 (by omega) z]; exact (pwF_zero h0 (k - 1) n (by omega)).symm
        · exact hB k (by omega) z
      · exact h.2.1 k j a1 a2 a3 (by omega)
  · by_cases hk : k = 1
    · omega
    · rw [upn (by omega), upn (by omega)]; exact h.2.2 k j a1 a2 a3 a4
theorem tn_at {c : Nat → Int64} {n : Nat} (h2 : 2 ≤ n) (h6 : n ≤ 6) : -(slF (fun q => c q * pwF (tnF c 6) (q - 1) n) 2 (n - 1)) = tnF c 6 n := by
  rw [tnF_le h6, tnF_at (by omega), tnV, if_neg (by omega)]
  refine congrArg _ (slF_congr (fun k h3 h4 => ?_))
  obtain ⟨k', rfl⟩ : ∃ k', k = k' + 2 := ⟨k - 2, by omega⟩
  rw [show k' + 2 - 1 = k' + 1 by omega, pwF_congr1 (T := tnF c 6) (T' := tnF c (n - 1)) k' n (fun m hm => by rw [tnF_le (show m ≤ 6 by omega), tnF_le (show m ≤ n - 1 by omega)])]
theorem tn_1 {c : Nat → Int64} : tnF c 6 1 = 1 := by rw [tnF_le (by decide), tnF_at (by decide), tnV, if_pos rfl]
/-- what a call that learns may change -/
def lRel (v v1 : Nat → Int32) (F F1 : Nat → Nat → Int32) (G G1 : Nat → Nat → Int64) : Prop := (∀ k, k ≠ 2 → k ≠ 3 → k < 10 ∨ 17 ≤ k → v1 k = v k) ∧ (∀ k, k ≠ 4 → F1 k = F k) ∧ ∀ k, 6 ≤ k → k < 14 → G1 k = G k
theorem lRel_rf {v : Nat → Int32} {F : Nat → Nat → Int32} {G : Nat → Nat → Int64} : lRel v v F F G G := ⟨fun _ _ _ _ => rfl, fun _ _ => rfl, fun _ _ _ => rfl⟩
abbrev SgT (T : NT) (E : Nat → Int32) (A n : Nat) : Int64 := Sg (fun b x y w => kdF T.2.1 (T.2.2.1 0) (T.2.2.1 1) (T.2.2.1 2) b x y w T.1) T.2.2.2.1 E A n (fun _ => 1)
theorem SgT_of {T : NT} {v : Nat → Int32} {F : Nat → Nat → Int32} {G : Nat → Nat → Int64} (h : ntOK T v F G) {E : Nat → Int32} {A n : Nat} : Sg (fun b x y w => kdF (F 4) (G 3) (G 4) (G 5) b x y w T.1) (G 26 0) E A n (fun _ => 1) = SgT T E A n := by
  rw [h.2.1, h.2.2.2.1, show G 3 = T.2.2.1 0 from h.2.2.1 0 (by decide), show G 4 = T.2.2.1 1 from h.2.2.1 1 (by decide), show G 5 = T.2.2.1 2 from h.2.2.1 2 (by decide)]
