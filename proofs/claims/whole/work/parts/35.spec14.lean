/-! the dual, in the reference -/
def daF (E : Nat → Int32) : Nat → Bool
  | 0 => true
  | i + 1 => daF E i && decide (E i = nI 2)
def dbF (R : Nat → List Int32) (tn : Nat → Int32) (b : Bool) : Nat → Bool
  | 0 => b
  | i + 1 => dbF R tn b i && (decide (¬ tn i = 0) && decide ((R (10 + i)).length = 5))
def isDu (A : Nat) (E : Nat → Int32) (R : Nat → List Int32) (n : Nat) (tn : Nat → Int32) : Bool := dbF R tn (daF E A) n
theorem daF_all {E : Nat → Int32} : ∀ {n : Nat}, daF E n = true → ∀ i, i < n → E i = nI 2
  | 0, _, i, hi => absurd hi (Nat.not_lt_zero i)
  | n + 1, h, i, hi => by
    rw [daF, Bool.and_eq_true, decide_eq_true_eq] at h
    rcases Nat.lt_or_ge i n with q | q
    · exact daF_all h.1 i q
    · rw [show i = n by omega]; exact h.2
theorem dbF_all {R : Nat → List Int32} {tn : Nat → Int32} {b : Bool} : ∀ {n : Nat}, dbF R tn b n = true → b = true ∧ ∀ i, i < n → ¬ tn i = 0 ∧ (R (10 + i)).length = 5
  | 0, h => ⟨h, fun i hi => absurd hi (Nat.not_lt_zero i)⟩
  | n + 1, h => by
    rw [dbF, Bool.and_eq_true, Bool.and_eq_true, decide_eq_true_eq, decide_eq_true_eq] at h
    have ih := dbF_all h.1
    refine ⟨ih.1, fun i hi => ?_⟩
    rcases Nat.lt_or_ge i n with q | q
    · exact ih.2 i q
    · rw [show i = n by omega]; exact h.2
theorem wt_2 {A a : Nat} {E : Nat → Int32} (hE : vE A E) (ha : a < A) (h : E a = nI 2) : wt E (nI a) = 2 := by
  have h4 := hE.1
  rw [wt, if_neg (nI_neM1 (by omega)), nI_clamp (by omega), h]; decide
/-- a left tree of two acts of two entries -/
theorem dl_shape {A : Nat} {E : Nat → Int32} {l : List Int32} (hE : vE A E) (hv : vR A l) (hT : isT E l) (h5 : l.length = 5) (h2 : ∀ a, a < A → E a = nI 2) : ∃ a b, a < A ∧ b < A ∧ gD l 0 = nI a ∧ ((gD l 1 = nI b ∧ ¬ gD l 1 = -1) ∨ (gD l 1 = -1 ∧ gD l 2 = nI b)) := by
  have hw : ∀ i, i < 5 → ¬ gD l i = -1 → ∃ a, a < A ∧ gD l i = nI a ∧ wt E (gD l i) = 2 := fun i hi hn => by
    obtain ⟨a, ha, e⟩ := vS_pos (hv i (by omega)) hn
    exact ⟨a, ha, e, by rw [e]; exact wt_2 hE ha (h2 a ha)⟩
  have h0 := hT
  rw [isT, endL, h5] at h0
  by_cases e0 : gD l 0 = -1
  · rw [tE_step _ _ (by omega) (by omega), e0, wt_m1, tE_0] at h0; cases h0
  · obtain ⟨a, ha, ea, wa⟩ := hw 0 (by omega) e0
    rw [tE_step _ _ (by omega) (by omega), wa] at h0
    by_cases e1 : gD l 1 = -1
    · rw [tE_step _ _ (by omega) (by omega), e1, wt_m1] at h0
      by_cases e2 : gD l 2 = -1
      · rw [tE_step _ _ (by omega) (by omega), e2, wt_m1, tE_0] at h0; cases h0
      · obtain ⟨b, hb, eb, -⟩ := hw 2 (by omega) e2
        exact ⟨a, b, ha, hb, ea, Or.inr ⟨e1, eb⟩⟩
    · obtain ⟨b, hb, eb, -⟩ := hw 1 (by omega) e1
      exact ⟨a, b, ha, hb, ea, Or.inl ⟨eb, e1⟩⟩
def dlC (l : List Int32) : Nat := 8 * (gD l 0).toNatClampNeg + (if gD l 1 = -1 then 4 + (gD l 2).toNatClampNeg else (gD l 1).toNatClampNeg)
def myF (R : Nat → List Int32) : Nat → Nat → Int32
  | 0 => fun _ => 0
  | k + 1 => upd (myF R k) (dlC (R (10 + k))) (nI 1)
def dBl (my : Nat → Int32) (A : Nat) (B : Nat → Nat → Int64) (act side n : Nat) : Int64 := if n = 1 then 1 else slF (fun b => if my (8 * act + 4 * side + b) = 0 then 0 else B b n) 0 A
def btT (my : Nat → Int32) (A : Nat) : Nat → Nat → Nat → Int64
  | 0 => fun _ _ => 0
  | m + 1 => fun a j => if j = m + 1 then slF (fun i => dBl my A (btT my A m) a 0 i * dBl my A (btT my A m) a 1 (m + 1 - i)) 1 m else btT my A m a j
theorem btT_n {my : Nat → Int32} {A m a j : Nat} (h : j ≤ m) : btT my A (m + 1) a j = btT my A m a j := if_neg (by omega)
theorem btT_s {my : Nat → Int32} {A m a : Nat} : btT my A (m + 1) a (m + 1) = slF (fun i => dBl my A (btT my A m) a 0 i * dBl my A (btT my A m) a 1 (m + 1 - i)) 1 m := if_pos rfl
/-- the table by top acts: numbers of leaves below m -/
def bOK (my : Nat → Int32) (A : Nat) (bf : Nat → Int64) (m : Nat) : Prop := ∀ a j, a < A → 2 ≤ j → j < m → j ≤ 6 → bf (7 * a + j) = btT my A (m - 1) a j
def bOKa (my : Nat → Int32) (A : Nat) (bf : Nat → Int64) (m a0 : Nat) : Prop := bOK my A bf m ∧ ∀ a, a < a0 → bf (7 * a + m) = btT my A m a m
theorem bOKa_s {my : Nat → Int32} {A m a0 : Nat} {bf : Nat → Int64} (h : bOKa my A bf m a0) (hm : m ≤ 6) : bOKa my A (vp_updL bf (7 * a0 + m) (btT my A m a0 m)) m (a0 + 1) := by
  refine ⟨fun a j h1 h2 h3 h4 => ?_, fun a ha => ?_⟩
  · rw [updL_n (by omega)]; exact h.1 a j h1 h2 h3 h4
  · by_cases hq : a = a0
    · rw [hq, updL_s]
    · rw [updL_n (by omega)]; exact h.2 a (by omega)
theorem bOK_s {my : Nat → Int32} {A m : Nat} {bf : Nat → Int64} (h : bOKa my A bf m A) (hm : 1 ≤ m) : bOK my A bf (m + 1) := by
  intro a j h1 h2 h3 h4
  rw [Nat.add_sub_cancel]
  by_cases hj : j = m
  · rw [hj]; exact h.2 a h1
  · rw [h.1 a j h1 h2 (by omega) h4, show btT my A m a j = btT my A (m - 1 + 1) a j by rw [show m - 1 + 1 = m by omega], btT_n (by omega)]
theorem btT_at {my : Nat → Int32} {A m a : Nat} (h : 1 ≤ m) : btT my A m a m = slF (fun i => dBl my A (btT my A (m - 1)) a 0 i * dBl my A (btT my A (m - 1)) a 1 (m - i)) 1 (m - 1) := by
  obtain ⟨M, rfl⟩ : ∃ M, m = M + 1 := ⟨m - 1, by omega⟩
  exact btT_s
def duM (A : Nat) (R : Nat → List Int32) (nr n : Nat) : Int64 := if n = 1 then 1 else slF (fun a => btT (myF R nr) A n a n) 0 A
def pDual (A : Nat) (E : Nat → Int32) (R : Nat → List Int32) (nr : Nat) (tn : Nat → Int32) (a : Int32) : Int64 := if rN6 a then (if isDu A E R nr tn = true then duM A R nr a.toNatClampNeg else -3) else -2
theorem myF_s {R : Nat → List Int32} {i c : Nat} {mf : Nat → Int32} (hc : dlC (R (10 + i)) = c) (h : ∀ j, j < 32 → mf j = myF R i j) : ∀ j, j < 32 → upd mf c (nI 1) j = myF R (i + 1) j := by
  intro j hj
  rw [myF, hc]
  by_cases hjc : j = c
  · rw [hjc, pk_us, pk_us]
  · rw [pk_un hjc, pk_un hjc]; exact h j hj
theorem dBl_eq {R : Nat → List Int32} {nr A m act sd n : Nat} {my : Nat → Int32} {bf : Nat → Int64} (hmy : ∀ j, j < 32 → my j = myF R nr j) (hb : bOK (myF R nr) A bf m) (h1 : 1 ≤ n) (hn : n < m) (h6 : n ≤ 6) (ha : act < 4) (hs : sd < 2 ∧ A ≤ 4) : (if n = 1 then 1 else slF (fun q => if my (8 * act + 4 * sd + q) = 0 then 0 else bf (7 * q + n)) 0 A) = dBl (myF R nr) A (btT (myF R nr) A (m - 1)) act sd n := by
  rw [dBl]
  by_cases h : n = 1
  · rw [if_pos h, if_pos h]
  · rw [if_neg h, if_neg h]
    refine slF_congr (fun q hq1 hq2 => ?_)
    rw [hmy _ (by omega), hb q n (by omega) (by omega) hn h6]
theorem ite_pair {α : Type} {c d : Prop} [Decidable c] [Decidable d] {x a b : α} (h : c ↔ d) (hf : ¬ c → a = b) : (if c then x else a) = (if d then x else b) := by
  by_cases hc : c
  · rw [if_pos hc, if_pos (h.mp hc)]
  · rw [if_neg hc, if_neg (fun q => hc (h.mpr q)), hf hc]
