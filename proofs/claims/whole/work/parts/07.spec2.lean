/-! rows of the reference: how they change -/
theorem upn {α : Type} {f : Nat → α} {k j : Nat} {v : α} (h : j ≠ k) : va_up f k v j = f j := if_neg h
theorem gD_lt {l : List Int32} {i : Nat} (h : i < l.length) : gD l i = l[i] := by
  rw [gD, List.getD_eq_getElem?_getD, List.getElem?_eq_getElem h]; rfl
theorem gD_app_l {a b : List Int32} {i : Nat} (h : i < a.length) : gD (a ++ b) i = gD a i := by
  rw [gD, gD, List.getD_eq_getElem?_getD, List.getD_eq_getElem?_getD, List.getElem?_append_left h]
theorem gD_app_r {a b : List Int32} {i : Nat} : gD (a ++ b) (a.length + i) = gD b i := by
  rw [gD, gD, List.getD_eq_getElem?_getD, List.getD_eq_getElem?_getD, List.getElem?_append_right (by omega), Nat.add_sub_cancel_left]
theorem gD_snoc {a : List Int32} {z : Int32} : gD (a ++ [z]) a.length = z := by
  have := gD_app_r (a := a) (b := [z]) (i := 0)
  exact this
theorem mOK_snoc {S Z : Nat → Int32} {R : Nat → List Int32} (h : mOK S Z R) {r : Nat} (hr : r < 30) (hl : (R r).length < 60) (z : Int32) : mOK (upd S (60 * r + (R r).length) z) (upd Z r (nI ((R r).length + 1))) (va_up R r (R r ++ [z])) := by
  intro k hk
  by_cases hkr : k = r
  · subst hkr
    rw [va_up_self, List.length_append, List.length_singleton, pk_us]
    refine ⟨by omega, rfl, fun i hi => ?_⟩
    by_cases hi2 : i = (R k).length
    · rw [hi2, pk_us, gD_snoc]
    · rw [pk_un (by omega), gD_app_l (by omega)]
      exact (h k hk).2.2 i (by omega)
  · rw [upn hkr, pk_un hkr]
    refine ⟨(h k hk).1, (h k hk).2.1, fun i hi => ?_⟩
    have := (h k hk).1
    rw [pk_un (by omega)]
    exact (h k hk).2.2 i hi
theorem mOK_clear {S Z : Nat → Int32} {R : Nat → List Int32} (h : mOK S Z R) (r : Nat) : mOK S (upd Z r (nI 0)) (va_up R r []) := by
  intro k hk
  by_cases hkr : k = r
  · subst hkr
    rw [va_up_self, pk_us]
    exact ⟨by decide, rfl, fun i hi => absurd hi (Nat.not_lt_zero i)⟩
  · rw [upn hkr, pk_un hkr]
    exact h k hk
/-- all rows but one -/
def mOKe (e : Nat) (S Z : Nat → Int32) (R : Nat → List Int32) : Prop := ∀ k, k < 30 → k ≠ e → (R k).length ≤ 60 ∧ Z k = nI (R k).length ∧ ∀ i, i < (R k).length → S (60 * k + i) = gD (R k) i
theorem mOKe_st {e : Nat} {S Z : Nat → Int32} {R : Nat → List Int32} (h : mOKe e S Z R) {i : Nat} (hi : i < 60) (z : Int32) : mOKe e (upd S (60 * e + i) z) Z R := by
  intro k hk hke
  have h1 := h k hk hke
  refine ⟨h1.1, h1.2.1, fun j hj => ?_⟩
  have := h1.1
  rw [pk_un (by omega)]
  exact h1.2.2 j hj
theorem mOK_put {e : Nat} {S Z : Nat → Int32} {R : Nat → List Int32} (h : mOKe e S Z R) {l : List Int32} (hl : l.length ≤ 60) (hS : ∀ j, j < l.length → S (60 * e + j) = gD l j) : mOK S (upd Z e (nI l.length)) (va_up R e l) := by
  intro k hk
  by_cases hke : k = e
  · subst hke
    rw [va_up_self, pk_us]
    exact ⟨hl, rfl, hS⟩
  · rw [upn hke, pk_un hke]
    exact h k hk hke
/-- a piece of a row -/
def slc (l : List Int32) (b e : Nat) : List Int32 := (l.take e).drop b
theorem slc_nil (l : List Int32) (b : Nat) : slc l b b = [] := by
  rw [slc, List.drop_eq_nil_iff, List.length_take]; omega
theorem slc_len {l : List Int32} {b e : Nat} (he : e ≤ l.length) : (slc l b e).length = e - b := by
  rw [slc, List.length_drop, List.length_take]; omega
theorem slc_snoc {l : List Int32} {b i : Nat} (hb : b ≤ i) (hi : i < l.length) : slc l b i ++ [gD l i] = slc l b (i + 1) := by
  rw [slc, slc, gD_lt hi, List.take_succ_eq_append_getElem hi, List.drop_append_of_le_length (by rw [List.length_take]; omega)]
theorem slc_all (l : List Int32) : slc l 0 l.length = l := by rw [slc, List.take_length, List.drop_zero]
theorem up_eta {α : Type} (f : Nat → α) (k : Nat) : va_up f k (f k) = f := by
  funext j
  by_cases h : j = k
  · rw [h, va_up_self]
  · rw [upn h]
theorem up_up {α : Type} (f : Nat → α) (k : Nat) (a b : α) : va_up (va_up f k a) k b = va_up f k b := bx_uu f k a b
/-- alike up to i -/
def eqF (g h : Nat → Int32) : Nat → Bool
  | 0 => true
  | i + 1 => eqF g h i && decide (g i = h i)
theorem eqF_iff (g h : Nat → Int32) : ∀ n, eqF g h n = true ↔ ∀ i, i < n → g i = h i
  | 0 => ⟨fun _ i hi => absurd hi (Nat.not_lt_zero i), fun _ => rfl⟩
  | n + 1 => by
    rw [eqF, Bool.and_eq_true, eqF_iff g h n, decide_eq_true_eq]
    refine ⟨fun q i hi => ?_, fun q => ⟨fun i hi => q i (by omega), q n (by omega)⟩⟩
    rcases Nat.lt_or_ge i n with z | z
    · exact q.1 i z
    · rw [show i = n by omega]; exact q.2
theorem list_eq_gD {a b : List Int32} : a = b ↔ a.length = b.length ∧ ∀ i, i < a.length → gD a i = gD b i := by
  refine ⟨fun h => by subst h; exact ⟨rfl, fun _ _ => rfl⟩, fun h => List.ext_getElem h.1 (fun i h1 h2 => ?_)⟩
  have := h.2 i h1
  rwa [gD_lt h1, gD_lt h2] at this
theorem st_ext {S g : Nat → Int32} {e i : Nat} (h : ∀ j, j < i → S (60 * e + j) = g j) : ∀ j, j < i + 1 → upd S (60 * e + i) (g i) (60 * e + j) = g j := by
  intro j hj
  by_cases hji : j = i
  · rw [hji, pk_us]
  · rw [pk_un (by omega)]
    exact h j (by omega)
theorem same_iff {a b : List Int32} {i : Nat} (hi : a.length ≤ i) : (a.length = b.length ∧ eqF (gD a) (gD b) i = true) ↔ a = b := by
  rw [eqF_iff, list_eq_gD]
  refine and_congr_right (fun hl => ⟨fun h j hj => h j (by omega), fun h j _ => ?_⟩)
  rcases Nat.lt_or_ge j a.length with q | q
  · exact h j q
  · rw [gD, gD, List.getD_eq_getElem?_getD, List.getD_eq_getElem?_getD, List.getElem?_eq_none (by omega), List.getElem?_eq_none (by omega)]
theorem same_of {a b : List Int32} (i : Nat) (h : a = b) : a.length = b.length ∧ eqF (gD a) (gD b) i = true := by
  subst h
  exact ⟨rfl, (eqF_iff _ _ _).mpr (fun _ _ => rfl)⟩
abbrev vSd (A : Nat) (z : Int32) : Prop := -1 ≤ z.toInt ∧ z.toInt < (A : Int)
theorem vSd_vS {A : Nat} {z : Int32} (hA : A < 2 ^ 31) (h : vSd A z) : vS A z := by
  by_cases h0 : z.toInt = -1
  · left
    apply Int32.toInt_inj.mp
    rw [h0]; decide
  · right
    exact rIn_of (n := A) ⟨by omega, h.2⟩ hA
theorem vS_vSd {A : Nat} {z : Int32} (hA : A < 2 ^ 31) (h : vS A z) : vSd A z := by
  rcases h with h | ⟨a, ha, h⟩
  · rw [h]
    refine ⟨by decide, ?_⟩
    rw [show (-1 : Int32).toInt = -1 by decide]
    omega
  · have := rIn_nI ha hA
    rw [h]
    omega
theorem nI_m1 {A : Nat} (hA : A < 2 ^ 31) : (nI A - nI 1).toInt = (A : Int) - 1 := by
  cases A with
  | zero => decide
  | succ A => rw [show nI 1 = 1 from rfl, nI_pred, nI_toInt (by omega)]; omega
theorem in_sym {A : Nat} {z : Int32} (hA : A < 2 ^ 31) : (¬ z < (-1) ∧ ¬ (nI A - nI 1) < z) ↔ vSd A z := by
  rw [i_lt, i_lt, nI_m1 hA, show (-1 : Int32).toInt = -1 by decide]
  omega
theorem in_ix {A : Nat} {z : Int32} (hA : A < 2 ^ 31) : (¬ z < nI 0 ∧ ¬ (nI A - nI 1) < z) ↔ rIn z A := by
  rw [i_lt, i_lt, nI_m1 hA, nI_toInt (by decide)]
  omega
theorem cF_mono (g : Nat → Int32) {i : Nat} : ∀ {n : Nat}, i ≤ n → cF g i ≤ cF g n
  | 0, h => by rw [show i = 0 by omega]; exact Nat.le_refl _
  | n + 1, h => by
    rcases Nat.lt_or_ge i (n + 1) with q | q
    · have := cF_mono g (i := i) (n := n) (by omega)
      rw [cF]; omega
    · rw [show i = n + 1 by omega]; exact Nat.le_refl _
