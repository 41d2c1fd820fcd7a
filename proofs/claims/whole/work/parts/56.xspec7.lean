/-! rows for the walks over the overlaps -/
abbrev vN4 (v : Nat → Int32) (a b c d : Int32) : Nat → Int32 := va_up (va_up (va_up (va_up v 6 a) 7 b) 8 c) 9 d
theorem vn_vn (v : Nat → Int32) (a b c d a' b' c' d' : Int32) : va_up (va_up (va_up (va_up (va_up (va_up (va_up (va_up v 6 a) 7 b) 8 c) 9 d) 6 a') 7 b') 8 c') 9 d' = va_up (va_up (va_up (va_up v 6 a') 7 b') 8 c') 9 d' := by
  funext k
  by_cases h9 : k = 9
  · subst h9; rw [va_up_self, va_up_self]
  rw [upn h9, upn h9]
  by_cases h8 : k = 8
  · subst h8; rw [va_up_self, va_up_self]
  rw [upn h8, upn h8]
  by_cases h7 : k = 7
  · subst h7; rw [va_up_self, va_up_self]
  rw [upn h7, upn h7]
  by_cases h6 : k = 6
  · subst h6; rw [va_up_self, va_up_self]
  rw [upn h6, upn h6, upn h9, upn h8, upn h7, upn h6]
theorem vn_eta (v : Nat → Int32) : va_up (va_up (va_up (va_up v 6 (v 6)) 7 (v 7)) 8 (v 8)) 9 (v 9) = v := by rw [up_eta, up_eta, up_eta, up_eta]
theorem vm_eta (v : Nat → Int32) : va_up (va_up (va_up (va_up (va_up (va_up v 4 (v 4)) 5 (v 5)) 6 (v 6)) 7 (v 7)) 8 (v 8)) 9 (v 9) = v := by rw [up_eta, up_eta, up_eta, up_eta, up_eta, up_eta]
theorem vn_tn (v : Nat → Int32) (a b c d e f : Int32) : tnX (va_up (va_up (va_up (va_up (va_up (va_up v 4 a) 5 b) 6 c) 7 d) 8 e) 9 f) = tnX v := by rw [tnX_up (by decide), tnX_up (by decide), tnX_up (by decide), tnX_up (by decide), tnX_up (by decide), tnX_up (by decide)]
theorem xRow_k {R : Nat → List Int32} {a b : List Int32} {q k r : Nat} (hq : 26 ≤ q) (hk : k < 26) : va_up (va_up R q a) r b k = va_up R r b k := by
  by_cases h : k = r
  · subst h; rw [va_up_self, va_up_self]
  · rw [upn h, upn h, upn (by omega)]
theorem nI_back {i : Int32} (h : ¬ i < 0) : nI i.toNatClampNeg = i := by
  rw [i_lt, show (0 : Int32).toInt = 0 by decide] at h
  have h2 := Int32.toInt_lt i
  have h3 : ((i.toNatClampNeg : Nat) : Int) = i.toInt := by
    show ((i.toInt.toNat : Nat) : Int) = i.toInt
    omega
  refine Int32.toInt_inj.mp ?_
  rw [nI_toInt (by omega)]
  exact h3
theorem clO_congr {E : Nat → Int32} {R R' : Nat → List Int32} {n : Nat} {tn : Nat → Int32} {o : Nat × List Int32} (h1 : o.1 / 104 < n) (h2 : o.1 / 13 % 8 < n) (h : ∀ k, k < n → R' (10 + k) = R (10 + k)) (h3 : ∀ k, k < n → R' (18 + k) = R (18 + k)) : clO E R' n tn o = clO E R n tn o := by
  rw [clO, clO, goL_congr h1 h h3, goL_congr h2 h h3]
theorem clO_v {E : Nat → Int32} {R : Nat → List Int32} {n : Nat} {tn : Nat → Int32} {o : Nat × List Int32} : clO E R n tn o = -5 ∨ clO E R n tn o = 1 ∨ clO E R n tn o = 0 := by
  rw [clO]
  split
  · exact Or.inl rfl
  · split
    · exact Or.inr (Or.inl rfl)
    · exact Or.inr (Or.inr rfl)
theorem ov_in {A : Nat} {E : Nat → Int32} {R : Nat → List Int32} {n s : Nat} {M : List Int32} (hT : ∀ j, j < n → isT E (R (10 + j))) (hV : ∀ j, j < n → vR A (R (10 + j))) (h : ovA E R n s = some M) : s / 104 < n ∧ s / 13 % 8 < n ∧ isT E M ∧ vR A M ∧ s % 13 < M.length := by
  by_cases hc : ovC R n s
  · rw [ovA_y hc] at h
    have hm := isT_mrg (hT _ hc.1) (hT _ hc.2.1) hc.2.2.1 h
    obtain ⟨z, hz⟩ := (mrg_mt (hT _ hc.1) (hT _ hc.2.1) hc.2.2.1 h).2
    have he := mt_end (hT _ hc.2.1) (mt_in hz (isT_pos (hT _ hc.2.1))) hz
    exact ⟨hc.1, hc.2.1, hm, vR_mrg (hV _ hc.1) (hV _ hc.2.1) (hT _ hc.1) (hT _ hc.2.1) hc.2.2.1 h, tE_lt (by decide) he⟩
  · rw [ovA_n hc] at h; cases h
theorem pOv_n {E : Nat → Int32} {R : Nat → List Int32} {n : Nat} {i to : Int32} (hok : ¬ i < 0 ∧ rIn to 10) (h : (ovL E R n)[i.toNatClampNeg]? = none) : pOverlap E R n i to = -1 ∧ uOverlap E R n i to = R := by
  rw [pOverlap, uOverlap, if_pos hok, if_pos hok, h]
  exact ⟨rfl, rfl⟩
theorem pOv_y {E : Nat → Int32} {R : Nat → List Int32} {n : Nat} {i to : Int32} {s : Nat} {M : List Int32} (hok : ¬ i < 0 ∧ rIn to 10) (h : (ovL E R n)[i.toNatClampNeg]? = some (s, M)) : pOverlap E R n i to = nI (1000 * (s / 104) + 100 * (s / 13 % 8) + s % 13) ∧ uOverlap E R n i to = va_up R to.toNatClampNeg M := by
  rw [pOverlap, uOverlap, if_pos hok, if_pos hok, h]
  exact ⟨rfl, rfl⟩
theorem ov_past {E : Nat → Int32} {R : Nat → List Int32} {n k : Nat} {i : Int32} (hi : ¬ i < 0) (hlen : (ovL E R n).length = k) (hk : ∀ j, j < k → ¬ nI j = i) : (ovL E R n)[i.toNatClampNeg]? = none := by
  refine List.getElem?_eq_none ?_
  rcases Nat.lt_or_ge i.toNatClampNeg k with z | z
  · exact absurd (nI_back hi) (hk _ z)
  · omega
theorem cnt3 {w : Int32} (h0 : ¬ w < 0) (h3 : w ≤ nI 3) (h1 : ¬ w = 0) (h2 : ¬ w = nI 1) (h4 : ¬ w = nI 2) : w = nI 3 := by
  rw [i_lt, show (0 : Int32).toInt = 0 by decide] at h0
  rw [i_le, show (nI 3).toInt = 3 by decide] at h3
  have q0 : ¬ w.toInt = 0 := fun h => h1 (Int32.toInt_inj.mp (h.trans (by decide)))
  have q1 : ¬ w.toInt = 1 := fun h => h2 (Int32.toInt_inj.mp (h.trans (by decide)))
  have q2 : ¬ w.toInt = 2 := fun h => h4 (Int32.toInt_inj.mp (h.trans (by decide)))
  exact Int32.toInt_inj.mp ((show w.toInt = 3 by omega).trans (by decide))
theorem vm_in (v : Nat → Int32) (a b d : Int32) : va_up (va_up (va_up (va_up (va_up (va_up v 4 a) 5 b) 6 (v 6)) 7 (v 7)) 8 (v 8)) 9 d = va_up (va_up (va_up v 4 a) 5 b) 9 d := by
  have h6 : va_up (va_up (va_up v 4 a) 5 b) 6 (v 6) = va_up (va_up v 4 a) 5 b := up_eta (va_up (va_up v 4 a) 5 b) 6
  have h7 : va_up (va_up (va_up v 4 a) 5 b) 7 (v 7) = va_up (va_up v 4 a) 5 b := up_eta (va_up (va_up v 4 a) 5 b) 7
  have h8 : va_up (va_up (va_up v 4 a) 5 b) 8 (v 8) = va_up (va_up v 4 a) 5 b := up_eta (va_up (va_up v 4 a) 5 b) 8
  rw [h6, h7, h8]
