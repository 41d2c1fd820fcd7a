/-! small rows for the class's own calls -/
theorem rIn_w {z : Int32} {n : Nat} (hn : n + 1 < 2 ^ 31) : (¬ z < 0 ∧ z ≤ nI n) ↔ rIn z (n + 1) := by
  rw [i_lt, i_le, nI_toInt (by omega), show (0 : Int32).toInt = 0 by decide]; omega
theorem rN6_w {a : Int32} : (¬ a < nI 1 ∧ ¬ nI 6 < a) ↔ rN6 a := rN6_in
abbrev fgv (v : Nat → Int32) : Nat → Int32 := va_up (va_up (va_up v 2 (nI 0)) 3 (nI 0)) 5 (nI 0)
theorem tnX_up {v : Nat → Int32} {k : Nat} {x : Int32} (h : k < 17) : tnX (va_up v k x) = tnX v := funext (fun j => upn (by omega))
theorem tnX_set {v : Nat → Int32} {n : Nat} {x : Int32} : tnX (va_up v (17 + n) x) = upd (tnX v) n x := by
  funext j
  by_cases h : j = n
  · subst h; rw [pk_us]; exact va_up_self _ _ _
  · rw [pk_un h]; exact upn (by omega)
def xAct (v : Nat → Int32) (R : Nat → List Int32) (F : Nat → Nat → Int32) (G : Nat → Nat → Int64) (A : Nat) (a : Int32) : MS :=
  if (¬ a < nI 2 ∧ ¬ nI 3 < a) ∧ A ≠ 4 then (va_up (fgv v) 0 (nI (A + 1)), R, va_up F 0 (upd (F 0) A a), G) else (v, R, F, G)
theorem act_in {a : Int32} : (a = nI 2 ∨ a = nI 3) ↔ (¬ a < nI 2 ∧ ¬ nI 3 < a) := by
  constructor
  · rintro (h | h) <;> (rw [h]; decide)
  · intro h
    rw [i_lt, i_lt, show (nI 2).toInt = 2 by decide, show (nI 3).toInt = 3 by decide] at h
    have : a.toInt = 2 ∨ a.toInt = 3 := by omega
    rcases this with z | z
    · exact Or.inl (Int32.toInt_inj.mp (z.trans (by decide)))
    · exact Or.inr (Int32.toInt_inj.mp (z.trans (by decide)))
def xRule2 (v : Nat → Int32) (R : Nat → List Int32) (F : Nat → Nat → Int32) (G : Nat → Nat → Int64) (n q r : Nat) : MS :=
  if lvs (R q) = lvs (R r) ∧ n ≠ 8 then (va_up (va_up (fgv v) (17 + n) (nI 0)) 1 (nI (n + 1)), va_up (va_up R (10 + n) (R q)) (18 + n) (R r), F, G) else (v, R, F, G)
def xRule (v : Nat → Int32) (R : Nat → List Int32) (F : Nat → Nat → Int32) (G : Nat → Nat → Int64) (n : Nat) (a b : Int32) : MS :=
  if lf (F 0) R a ∧ tr (F 0) R b then xRule2 v R F G n a.toNatClampNeg b.toNatClampNeg else (v, R, F, G)
def xNought2 (v : Nat → Int32) (R : Nat → List Int32) (F : Nat → Nat → Int32) (G : Nat → Nat → Int64) (n q : Nat) : MS :=
  if n ≠ 8 then (va_up (va_up (fgv v) (17 + n) (nI 1)) 1 (nI (n + 1)), va_up (va_up (va_up R 30 []) (10 + n) (R q)) (18 + n) [], F, G) else (v, R, F, G)
def xNought (v : Nat → Int32) (R : Nat → List Int32) (F : Nat → Nat → Int32) (G : Nat → Nat → Int64) (n : Nat) (a : Int32) : MS :=
  if lf (F 0) R a then xNought2 v R F G n a.toNatClampNeg else (v, R, F, G)
theorem leaf_ex {g : Nat → Int32} {i : Nat} : ∀ {n : Nat}, i < cF g n → ∃ p, p < n ∧ g p = -1 ∧ cF g p = i
  | 0, h => absurd h (Nat.not_lt_zero _)
  | n + 1, h => by
    by_cases hl : g n = -1
    · rw [cF_t hl] at h
      rcases Nat.lt_or_ge i (cF g n) with z | z
      · obtain ⟨p, h1, h2, h3⟩ := leaf_ex z
        exact ⟨p, by omega, h2, h3⟩
      · exact ⟨n, by omega, hl, by omega⟩
    · rw [cF_f hl] at h
      obtain ⟨p, h1, h2, h3⟩ := leaf_ex h
      exact ⟨p, by omega, h2, h3⟩
theorem ov_y {E : Nat → Int32} {R : Nat → List Int32} {n s0 sp i : Nat} {M : List Int32} (hlen : (ovS E R n s0).length = i) (h1 : s0 ≤ sp) (h2 : sp < 832) (hno : ∀ j, s0 ≤ j → j < sp → ovA E R n j = none) (hy : ovA E R n sp = some M) : (ovL E R n)[i]? = some (sp, M) ∧ (ovS E R n (sp + 1)).length = i + 1 := by
  have e : ovS E R n sp = ovS E R n s0 := by
    have := ovS_skip (E := E) (R := R) (n := n) (s := s0) (sp - s0) (fun j h3 h4 => hno j h3 (by omega))
    rw [show s0 + (sp - s0) = sp by omega] at this; exact this
  refine ⟨?_, ?_⟩
  · have := ovL_at h2 hy; rw [e, hlen] at this; exact this
  · rw [ovS_y hy, List.length_append, e, hlen]; rfl
theorem ov_n {E : Nat → Int32} {R : Nat → List Int32} {n s0 i : Nat} (hlen : (ovS E R n s0).length = i) (hs : s0 ≤ 832) (hno : ∀ j, s0 ≤ j → j < 832 → ovA E R n j = none) : (ovL E R n).length = i := by
  have := ovS_skip (E := E) (R := R) (n := n) (s := s0) (832 - s0) (fun j h3 h4 => hno j h3 (by omega))
  rw [show s0 + (832 - s0) = 832 by omega] at this
  rw [ovL, this, hlen]
theorem ov_full {E : Nat → Int32} {R : Nat → List Int32} {n s0 i : Nat} (hlen : (ovS E R n s0).length = i) (hs : s0 ≤ 832) (hi : 832 ≤ i) : (ovL E R n).length = i := by
  have := ovS_len E R n s0
  have e : s0 = 832 := by omega
  rw [ovL, ← e, hlen]
theorem ov_lt {E : Nat → Int32} {R : Nat → List Int32} {n i : Nat} {o : Nat × List Int32} (h : (ovL E R n)[i]? = some o) : i < (ovL E R n).length := by
  rcases Nat.lt_or_ge i (ovL E R n).length with z | z
  · exact z
  · rw [List.getElem?_eq_none z] at h; cases h
theorem dg1_4 {A n : Nat} {E : Nat → Int32} {R : Nat → List Int32} {tn : Nat → Int32} : dg1 A E R n tn 4 = 31 * (31 * (31 * (31 * 227 + (nI A).toInt64) + (nI n).toInt64) + (nI (tcF E R 10)).toInt64) + (nI (nzF tn n)).toInt64 := by
  have p0 : pCount A E R n tn (nI 0) = nI A := by rw [pCount, if_pos rfl]
  have p1 : pCount A E R n tn (nI 1) = nI n := by rw [pCount, if_neg (by decide), if_pos rfl]
  have p2 : pCount A E R n tn (nI 2) = nI (tcF E R 10) := by rw [pCount, if_neg (by decide), if_neg (by decide), if_pos rfl]
  have p3 : pCount A E R n tn (nI 3) = nI (nzF tn n) := by rw [pCount, if_neg (by decide), if_neg (by decide), if_neg (by decide), if_pos rfl]
  rw [dg1, itF, itF, itF, itF, itF, p0, p1, p2, p3]
theorem xRow_g {R : Nat → List Int32} {a b : List Int32} {k r : Nat} (hk : k < 26) (hr : r < 10) : va_up (va_up R 30 a) r b k = va_up R r b k := by
  by_cases h : k = r
  · subst h; rw [va_up_self, va_up_self]
  · rw [upn h, upn h, upn (by omega)]
theorem xRow_n {R : Nat → List Int32} {a b c : List Int32} {k r : Nat} (hk : k < 26) (hr : r < 10) : va_up (va_up (va_up (va_up R 30 a) 28 b) 30 c) r c k = va_up R r c k := by
  by_cases h : k = r
  · subst h; rw [va_up_self, va_up_self]
  · rw [upn h, upn h, upn (show k ≠ 30 by omega), upn (show k ≠ 28 by omega), upn (show k ≠ 30 by omega)]
