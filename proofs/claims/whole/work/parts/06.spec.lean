/-! what the walks compute, on rows of symbols -/
abbrev rIn (r : Int32) (n : Nat) : Prop := 0 ≤ r.toInt ∧ r.toInt < (n : Int)
theorem rIn_of {r : Int32} {n : Nat} (h : rIn r n) (hn : n < 2 ^ 31) : ∃ j : Nat, j < n ∧ r = nI j := vp_in_of (vp_in_iff.mpr h) hn
theorem rIn_nI {j n : Nat} (h : j < n) (hn : n < 2 ^ 31) : rIn (nI j) n := vp_in_iff.mp (vp_in_nI h hn)
theorem i_lt (a b : Int32) : a < b ↔ a.toInt < b.toInt := Int32.lt_iff_toInt_lt
theorem i_le (a b : Int32) : a ≤ b ↔ a.toInt ≤ b.toInt := Int32.le_iff_toInt_le
theorem rIn_in {r : Int32} {n : Nat} (hn : n + 1 < 2 ^ 31) : (¬ r < nI 0 ∧ ¬ nI n < r) ↔ rIn r (n + 1) := by
  rw [i_lt, i_lt, nI_toInt (by decide), nI_toInt (by omega)]
  omega
/-- how many leaves among the first i -/
def cF (g : Nat → Int32) : Nat → Nat
  | 0 => 0
  | i + 1 => cF g i + (if g i = -1 then 1 else 0)
theorem cF_t {g : Nat → Int32} {i : Nat} (h : g i = -1) : cF g (i + 1) = cF g i + 1 := by rw [cF, if_pos h]
theorem cF_f {g : Nat → Int32} {i : Nat} (h : ¬ g i = -1) : cF g (i + 1) = cF g i := by rw [cF, if_neg h]; rfl
theorem cF_le (g : Nat → Int32) : ∀ i, cF g i ≤ i
  | 0 => Nat.le_refl 0
  | i + 1 => by
    have := cF_le g i
    rw [cF]
    split <;> omega
def lvs (l : List Int32) : Nat := cF (gD l) l.length
theorem lvs_le (l : List Int32) : lvs l ≤ l.length := cF_le _ _
/-- what a symbol wants: a leaf nothing, an act its entries -/
def wt (E : Nat → Int32) (s : Int32) : Nat := if s = -1 then 0 else (E s.toNatClampNeg).toNatClampNeg
abbrev vS (A : Nat) (s : Int32) : Prop := s = -1 ∨ ∃ a, a < A ∧ s = nI a
def vE (A : Nat) (E : Nat → Int32) : Prop := A ≤ 4 ∧ ∀ a, a < A → E a = nI 2 ∨ E a = nI 3
def vR (A : Nat) (l : List Int32) : Prop := ∀ i, i < l.length → vS A (gD l i)
theorem vS_pos {A : Nat} {s : Int32} (h : vS A s) (hn : ¬ s = -1) : ∃ a, a < A ∧ s = nI a := h.resolve_left hn
theorem nI_neM1 {a : Nat} (h : a < 2 ^ 31) : ¬ nI a = -1 := by
  intro q
  have h1 := congrArg Int32.toInt q
  rw [nI_toInt h] at h1
  have h2 : (-1 : Int32).toInt = -1 := by decide
  omega
theorem wt_m1 (E : Nat → Int32) : wt E (-1) = 0 := if_pos rfl
theorem wt_nI {A a : Nat} {E : Nat → Int32} (hE : vE A E) (ha : a < A) : nI (wt E (nI a)) = E a ∧ (wt E (nI a) = 2 ∨ wt E (nI a) = 3) := by
  have h4 := hE.1
  rw [wt, if_neg (nI_neM1 (by omega)), nI_clamp (by omega)]
  rcases hE.2 a ha with h | h <;> rw [h]
  · exact ⟨by decide, Or.inl (by decide)⟩
  · exact ⟨by decide, Or.inr (by decide)⟩
theorem wt_le {A : Nat} {E : Nat → Int32} {s : Int32} (hE : vE A E) (hs : vS A s) : wt E s ≤ 3 := by
  rcases hs with h | ⟨a, ha, h⟩
  · rw [h, wt_m1]; omega
  · rw [h]
    rcases (wt_nI hE ha).2 with h | h <;> omega
/-- where the trees end: fuel, how many are wanted, from where -/
def tE (w : Int32 → Nat) (g : Nat → Int32) : Nat → Nat → Nat → Option Nat
  | _, 0, i => some i
  | 0, _ + 1, _ => none
  | f + 1, k + 1, i => tE w g f (k + w (g i)) (i + 1)
theorem tE_0 (w : Int32 → Nat) (g : Nat → Int32) (f i : Nat) : tE w g f 0 i = some i := by cases f <;> rfl
theorem tE_n (w : Int32 → Nat) (g : Nat → Int32) {k i : Nat} (hk : 0 < k) : tE w g 0 k i = none := by
  cases k with
  | zero => omega
  | succ k => rfl
theorem tE_step (w : Int32 → Nat) (g : Nat → Int32) {n k j : Nat} (hk : 0 < k) (hj : j < n) : tE w g (n - j) k j = tE w g (n - (j + 1)) (k + w (g j) - 1) (j + 1) := by
  obtain ⟨k, rfl⟩ : ∃ q, k = q + 1 := ⟨k - 1, by omega⟩
  obtain ⟨f, hf⟩ : ∃ q, n - j = q + 1 := ⟨n - j - 1, by omega⟩
  rw [hf, tE, show n - (j + 1) = f by omega, show k + 1 + w (g j) - 1 = k + w (g j) by omega]
theorem tE_le (w : Int32 → Nat) (g : Nat → Int32) : ∀ (f k i e : Nat), tE w g f k i = some e → i ≤ e ∧ e ≤ i + f
  | f, 0, i, e, h => by rw [tE_0] at h; cases h; omega
  | 0, _ + 1, _, _, h => by cases h
  | f + 1, k + 1, i, e, h => by
    have := tE_le w g f (k + w (g i)) (i + 1) e h
    omega
def endL (E : Nat → Int32) (l : List Int32) (i : Nat) : Option Nat := tE (wt E) (gD l) (l.length - i) 1 i
theorem endL_le {E : Nat → Int32} {l : List Int32} {i e : Nat} (hi : i ≤ l.length) (h : endL E l i = some e) : i ≤ e ∧ e ≤ l.length := by
  have := tE_le _ _ _ _ _ _ h
  omega
def eR : Option Nat → Int32
  | some e => nI e
  | none => -1
theorem eR_eq {o : Option Nat} {n : Nat} (hn : n < 2 ^ 31) (ho : ∀ e, o = some e → e < 2 ^ 31) : eR o = nI n ↔ o = some n := by
  cases o with
  | none => exact ⟨fun h => absurd h.symm (nI_neM1 hn), fun h => by cases h⟩
  | some e =>
    rw [eR, nI_eq (ho e rfl) hn]
    exact ⟨fun h => by rw [h], fun h => by cases h; rfl⟩
abbrev isT (E : Nat → Int32) (l : List Int32) : Prop := endL E l 0 = some l.length
theorem isT_pos {E : Nat → Int32} {l : List Int32} (h : isT E l) : 0 < l.length := by
  rcases Nat.eq_zero_or_pos l.length with q | q
  · rw [isT, endL, q, tE_n _ _ (by omega)] at h
    cases h
  · exact q
theorem nI_adj {k w : Nat} (hk : 0 < k) : nI k + (nI w - nI 1) = nI (k + w - 1) := by
  obtain ⟨k, rfl⟩ : ∃ q, k = q + 1 := ⟨k - 1, by omega⟩
  rw [show k + 1 + w - 1 = k + w by omega, nI_succ, show nI 1 = 1 from rfl, Int32.add_assoc, Int32.add_comm 1, Int32.sub_add_cancel, nI_add]
