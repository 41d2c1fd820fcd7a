/-! series turned about -/
def slF (f : Nat → Int64) (a : Nat) : Nat → Int64
  | 0 => 0
  | m + 1 => slF f a m + f (a + m)
theorem slF_congr {f g : Nat → Int64} {a : Nat} : ∀ {m : Nat}, (∀ k, a ≤ k → k < a + m → f k = g k) → slF f a m = slF g a m
  | 0, _ => rfl
  | m + 1, h => by rw [slF, slF, h (a + m) (by omega) (by omega), slF_congr (fun k h1 h2 => h k h1 (by omega))]
theorem slF_zero {f : Nat → Int64} {a : Nat} : ∀ {m : Nat}, (∀ k, a ≤ k → k < a + m → f k = 0) → slF f a m = 0
  | 0, _ => rfl
  | m + 1, h => by rw [slF, h (a + m) (by omega) (by omega), slF_zero (fun k h1 h2 => h k h1 (by omega))]; rfl
/-- the sums over rows of k + 1 numbers, together n -/
def pwF (T : Nat → Int64) : Nat → Nat → Int64
  | 0, n => T n
  | k + 1, n => slF (fun m => T m * pwF T k (n - m)) 1 (n - 1)
theorem pwF_zero {T : Nat → Int64} (h0 : T 0 = 0) : ∀ (k n : Nat), n ≤ k → pwF T k n = 0
  | 0, n, h => by rw [pwF, show n = 0 by omega]; exact h0
  | k + 1, n, h => by
    rw [pwF]
    refine slF_zero (fun m h1 h2 => ?_)
    rw [pwF_zero h0 k (n - m) (by omega)]
    exact Int64.mul_zero
theorem pwF_congr {T T' : Nat → Int64} : ∀ (k n : Nat), (∀ m, m ≤ n → T m = T' m) → pwF T k n = pwF T' k n
  | 0, n, h => h n (Nat.le_refl _)
  | k + 1, n, h => by
    rw [pwF, pwF]
    exact slF_congr (fun m h1 h2 => by rw [h m (by omega), pwF_congr k (n - m) (fun j hj => h j (by omega))])
theorem pwF_congr1 {T T' : Nat → Int64} (k n : Nat) (h : ∀ m, m < n → T m = T' m) : pwF T (k + 1) n = pwF T' (k + 1) n := by
  rw [pwF, pwF]
  exact slF_congr (fun m h1 h2 => by rw [h m (by omega), pwF_congr k (n - m) (fun j hj => h j (by omega))])
def tnV (c T : Nat → Int64) (n : Nat) : Int64 := if n = 1 then 1 else -(slF (fun k => c k * pwF T (k - 1) n) 2 (n - 1))
def tnF (c : Nat → Int64) : Nat → Nat → Int64
  | 0 => fun _ => 0
  | n + 1 => vp_updL (tnF c n) (n + 1) (tnV c (tnF c n) (n + 1))
theorem tnF_0 (c : Nat → Int64) : ∀ n, tnF c n 0 = 0
  | 0 => rfl
  | n + 1 => by rw [tnF, updL_n (by omega)]; exact tnF_0 c n
theorem tnF_s {c : Nat → Int64} {n : Nat} : tnF c (n + 1) (n + 1) = tnV c (tnF c n) (n + 1) := updL_s
theorem tnF_n {c : Nat → Int64} {n j : Nat} (h : j ≤ n) : tnF c (n + 1) j = tnF c n j := updL_n (by omega)
theorem tnV_congr {c c' T : Nat → Int64} {n : Nat} (h : ∀ j, 1 ≤ j → j ≤ n → c j = c' j) : tnV c T n = tnV c' T n := by
  rw [tnV, tnV]
  by_cases hn : n = 1
  · rw [if_pos hn, if_pos hn]
  · rw [if_neg hn, if_neg hn, slF_congr (fun k h1 h2 => by rw [h k (by omega) (by omega)])]
theorem tnF_congr {c c' : Nat → Int64} : ∀ n, (∀ j, 1 ≤ j → j ≤ n → c j = c' j) → tnF c n = tnF c' n
  | 0, _ => rfl
  | n + 1, h => by rw [tnF, tnF, tnF_congr n (fun j h1 h2 => h j h1 (by omega)), tnV_congr h]
/-- the table: sums for j < n -/
def pOK (c pf : Nat → Int64) (n : Nat) : Prop := (∀ k j, 1 ≤ k → k ≤ 6 → 1 ≤ j → j < n → j ≤ 6 → pf (7 * k + j) = pwF (tnF c (n - 1)) (k - 1) j) ∧ ∀ k j, 1 ≤ k → k ≤ 6 → n ≤ j → j ≤ 6 → pf (7 * k + j) = 0
/-- at n, the sums of less than k numbers stand -/
def pOKk (c pf : Nat → Int64) (n k0 : Nat) : Prop := (∀ k j, 1 ≤ k → k ≤ 6 → 1 ≤ j → j < n → j ≤ 6 → pf (7 * k + j) = pwF (tnF c (n - 1)) (k - 1) j) ∧ (∀ k j, 1 ≤ k → k ≤ 6 → n ≤ j → j ≤ 6 → ¬ (j = n ∧ 2 ≤ k ∧ k < k0) → pf (7 * k + j) = 0) ∧ ∀ k, 2 ≤ k → k < k0 → k ≤ 6 → pf (7 * k + n) = pwF (tnF c (n - 1)) (k - 1) n
theorem pOKk_0 {c pf : Nat → Int64} {n : Nat} (h : pOK c pf n) : pOKk c pf n 2 := ⟨h.1, fun k j h1 h2 h3 h4 _ => h.2 k j h1 h2 h3 h4, fun k h1 h2 _ => by omega⟩
theorem pOKk_s {c pf : Nat → Int64} {n k0 : Nat} (h : pOKk c pf n k0) (hn : n ≤ 6) (hn1 : 1 ≤ n) (h2 : 2 ≤ k0) (h6 : k0 ≤ 6) : pOKk c (vp_updL pf (7 * k0 + n) (pwF (tnF c (n - 1)) (k0 - 1) n)) n (k0 + 1) := by
  refine ⟨fun k j a1 a2 a3 a4 a5 => ?_, fun k j a1 a2 a3 a4 a5 => ?_, fun k a1 a2 a3 => ?_⟩
  · rw [updL_n (by omega)]; exact h.1 k j a1 a2 a3 a4 a5
  · rw [updL_n (by omega)]; exact h.2.1 k j a1 a2 a3 a4 (by omega)
  · by_cases hk : k = k0
    · rw [hk, updL_s]
    · rw [updL_n (by omega)]; exact h.2.2 k a1 (by omega) a3
theorem pOK_s {c pf : Nat → Int64} {n k0 : Nat} (h : pOKk c pf n k0) (hn : n ≤ 6) (hn1 : 1 ≤ n) (hk : n < k0) : pOK c (vp_updL pf (7 + n) (tnF c n n)) (n + 1) := by
  obtain ⟨N, rfl⟩ : ∃ N, n = N + 1 := ⟨n - 1, by omega⟩
  refine ⟨fun k j a1 a2 a3 a4 a5 => ?_, fun k j a1 a2 a3 a4 => ?_⟩
  · rw [Nat.add_sub_cancel]
    by_cases hj : j = N + 1
    · subst hj
      by_cases hk1 : k = 1
      · subst hk1
        rw [show 7 * 1 + (N + 1) = 7 + (N + 1) by omega, updL_s]; rfl
      · obtain ⟨k', rfl⟩ : ∃ k', k = k' + 2 := ⟨k - 2, by omega⟩
        rw [updL_n (by omega), show k' + 2 - 1 = k' + 1 by omega]
        rcases Nat.lt_or_ge (k' + 2) k0 with q | q
        · rw [h.2.2 (k' + 2) (by omega) q a2, Nat.add_sub_cancel, show k' + 2 - 1 = k' + 1 by omega]
          exact pwF_congr1 k' (N + 1) (fun m hm => (tnF_n (by omega)).symm)
        · rw [h.2.1 (k' + 2) (N + 1) (by omega) a2 (Nat.le_refl _) a5 (by omega)]
          exact (pwF_zero (tnF_0 c _) (k' + 1) (N + 1) (by omega)).symm
    · rw [updL_n (by omega), h.1 k j a1 a2 a3 (by omega) a5, Nat.add_sub_cancel]
      exact pwF_congr (k - 1) j (fun m hm => (tnF_n (by omega)).symm)
  · rw [updL_n (by omega)]; exact h.2.1 k j a1 a2 (by omega) a4 (by omega)
def pTurned (c : Nat → Int64) (a : Int32) : Int64 := if rN6 a then tnF c 6 a.toNatClampNeg else -2
theorem tnF_le {c : Nat → Int64} {j : Nat} : ∀ {n : Nat}, j ≤ n → tnF c n j = tnF c j j
  | 0, h => by rw [show j = 0 by omega]
  | n + 1, h => by
    rcases Nat.lt_or_ge j (n + 1) with q | q
    · rw [tnF_n (by omega)]; exact tnF_le (by omega)
    · rw [show j = n + 1 by omega]
theorem zup {pf : Nat → Int64} {i : Nat} (h : ∀ j, j < i → pf j = 0) : ∀ j, j < i + 1 → vp_updL pf i 0 j = 0 := by
  intro j hj
  by_cases hji : j = i
  · rw [hji, updL_s]
  · rw [updL_n hji]; exact h j (by omega)
theorem tnF_at {c : Nat → Int64} {n : Nat} (h : 1 ≤ n) : tnF c n n = tnV c (tnF c (n - 1)) n := by
  obtain ⟨N, rfl⟩ : ∃ N, n = N + 1 := ⟨n - 1, by omega⟩
  exact tnF_s
