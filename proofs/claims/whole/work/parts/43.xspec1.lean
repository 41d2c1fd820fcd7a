/-! the class's World -/
theorem vSd_c {A : Nat} {z : Int32} (hA : A < 2 ^ 31) : (¬ z < (-1) ∧ ¬ nI A ≤ z) ↔ vSd A z := by
  rw [i_lt, i_le, nI_toInt hA, show (-1 : Int32).toInt = -1 by decide]; omega
theorem rIn_c {n : Nat} {z : Int32} (hn : n < 2 ^ 31) : (¬ z < 0 ∧ ¬ nI n ≤ z) ↔ rIn z n := by
  rw [i_lt, i_le, nI_toInt hn, show (0 : Int32).toInt = 0 by decide]; omega
theorem vS_neg {A : Nat} {z : Int32} (hA : A < 2 ^ 31) (h : vS A z) (hz : z < 0) : z = -1 := by
  rcases h with h | ⟨a, ha, h⟩
  · exact h
  · rw [h] at hz; exact absurd hz (nI_pos (by omega))
theorem vS_nn {A : Nat} {z : Int32} (h : vS A z) (hz : ¬ z < 0) : ∃ a, a < A ∧ z = nI a := by
  rcases h with h | h
  · rw [h] at hz; exact absurd (by decide) hz
  · exact h
/-- where a tree ends, as the class tells it: behind the row's end if it does not -/
def eX (n : Nat) : Option Nat → Int32
  | some q => nI q
  | none => nI (n + 1)
theorem eX_eq {n : Nat} {o : Option Nat} (hn : n + 1 < 2 ^ 31) (ho : ∀ q, o = some q → q < 2 ^ 31) : eX n o = nI n ↔ o = some n := by
  cases o with
  | none => rw [eX, nI_eq (by omega) (by omega)]; exact ⟨fun h => by omega, fun h => by cases h⟩
  | some q => rw [eX, nI_eq (ho q rfl) (by omega)]; exact ⟨fun h => by rw [h], fun h => by cases h; rfl⟩
abbrev tnX (v : Nat → Int32) : Nat → Int32 := fun j => v (17 + j)
theorem tE_sum2 {w : Int32 → Nat} {g : Nat → Int32} {n : Nat} (hw : ∀ i, i < n → w (g i) = if g i = -1 then 0 else 2) : ∀ (f k i : Nat), n - i = f → i ≤ n → tE w g f k i = some n → (n - i) + 2 * cF g n = k + 2 * (n - i) + 2 * cF g i
  | f, 0, i, hf, hi, h => by rw [tE_0] at h; cases h; omega
  | 0, _ + 1, _, _, _, h => by cases h
  | f + 1, k + 1, i, hf, hi, h => by
    rw [tE] at h
    have ih := tE_sum2 hw f (k + w (g i)) (i + 1) (by omega) (by omega) h
    rw [hw i (by omega)] at ih
    by_cases hl : g i = -1
    · rw [if_pos hl, cF_t hl] at ih; omega
    · rw [if_neg hl, cF_f hl] at ih; omega
theorem isT_2 {A : Nat} {E : Nat → Int32} {l : List Int32} (hE : vE A E) (hv : vR A l) (hT : isT E l) (h2 : ∀ a, a < A → E a = nI 2) : l.length + 1 = 2 * lvs l := by
  have := tE_sum2 (w := wt E) (g := gD l) (n := l.length) (fun i hi => by
    by_cases hl : gD l i = -1
    · rw [if_pos hl, hl, wt_m1]
    · rw [if_neg hl]
      obtain ⟨a, ha, e⟩ := vS_pos (hv i hi) hl
      rw [e]; exact wt_2 hE ha (h2 a ha)) (l.length - 0) 1 0 rfl (Nat.zero_le _) hT
  rw [cF] at this
  show l.length + 1 = 2 * cF (gD l) l.length
  omega
theorem dl_sz {A : Nat} {E : Nat → Int32} {l : List Int32} (hE : vE A E) (hv : vR A l) (hT : isT E l) (h2 : ∀ a, a < A → E a = nI 2) : l.length - lvs l = 2 ↔ l.length = 5 := by
  have := isT_2 hE hv hT h2
  omega
theorem daF_t {E : Nat → Int32} : ∀ n, (∀ i, i < n → E i = nI 2) → daF E n = true
  | 0, _ => rfl
  | n + 1, h => by rw [daF, daF_t n (fun i hi => h i (by omega)), Bool.true_and]; exact decide_eq_true (h n (by omega))
theorem dbF_t {R : Nat → List Int32} {tn : Nat → Int32} : ∀ n, (∀ i, i < n → ¬ tn i = 0 ∧ (R (10 + i)).length = 5) → dbF R tn true n = true
  | 0, _ => rfl
  | n + 1, h => by
    rw [dbF, dbF_t n (fun i hi => h i (by omega)), Bool.true_and, Bool.and_eq_true, decide_eq_true_eq, decide_eq_true_eq]
    exact h n (by omega)
