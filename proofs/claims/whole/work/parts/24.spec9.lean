/-! going down from an overlap -/
theorem vR_mgF {A : Nat} {E : Nat → Int32} {a b : List Int32} (ha : vR A a) (hb : vR A b) : ∀ (f i j k : Nat) (M : List Int32) (r : Nat × List Int32), mgF E a b f i j M = some r → mgI E a b i j k → vR A M → vR A r.2
  | 0, _, _, _, _, _, h, _, _ => by cases h
  | f + 1, i, j, k, M, r, h, hI, hM => by
    by_cases hj : b.length ≤ j
    · rw [mgF_end hj] at h; cases h; exact hM
    · have hjb : j < b.length := by omega
      have hia := mgI_lt hI hjb
      by_cases h1 : gD a i = -1
      · obtain ⟨q, hq, hq1, hq2, hI1⟩ := mgI_a hI hjb h1
        rw [mgF_a hjb h1 hq] at h
        exact vR_mgF ha hb f _ _ _ _ r h hI1 (vR_app hM (vR_slc hb _ _))
      · by_cases h2 : gD b j = -1
        · obtain ⟨q, hq, hq1, hq2, hI1⟩ := mgI_b hI hjb h2
          rw [mgF_b hjb h1 h2 hq] at h
          exact vR_mgF ha hb f _ _ _ _ r h hI1 (vR_app hM (vR_slc ha _ _))
        · by_cases h3 : gD a i = gD b j
          · rw [mgF_c hjb h1 h2 h3] at h
            exact vR_mgF ha hb f _ _ _ _ r h (mgI_c hI hjb h3) (vR_app hM (vR_one (ha i hia)))
          · rw [mgF_d hjb h1 h2 h3] at h; cases h
theorem vR_mrg {A : Nat} {E : Nat → Int32} {a b T : List Int32} {u : Nat} (ha : vR A a) (hb : vR A b) (hta : isT E a) (htb : isT E b) (hu : u < a.length) (h : mrg E a b u = some T) : vR A T := by
  rw [mrg] at h
  cases hm : mgF E a b (b.length + 1) u 0 (slc a 0 u) with
  | none => rw [hm] at h; cases h
  | some r =>
    rw [hm] at h
    rw [show T = r.2 ++ slc a r.1 a.length from (Option.some.inj h).symm]
    exact vR_app (vR_mgF ha hb _ _ _ _ _ r hm (mgI_0 hta htb hu) (vR_slc ha _ _)) (vR_slc ha _ _)
theorem useL_congr {R R' : Nat → List Int32} {tn : Nat → Int32} {t : List Int32} {p k q : Nat} {ac : List (Nat × Nat)} (h : R' (18 + k) = R (18 + k)) : useL R' tn t p k q ac = useL R tn t p k q ac := by rw [useL, useL, h]
theorem vR_use {A : Nat} {R : Nat → List Int32} {tn : Nat → Int32} {t : List Int32} {p k q : Nat} {ac : List (Nat × Nat)} (h : vR A t) (hr : vR A (R (18 + k))) : vR A (useL R tn t p k q ac).2 := by
  rw [useL]
  split
  · exact vR_nil A
  · split
    · exact vR_rpl h hr _ _ _
    · exact h
theorem nfL_congr {E : Nat → Int32} {R R' : Nat → List Int32} {n : Nat} {tn : Nat → Int32} {t : List Int32} (h : ∀ k, k < n → R' (10 + k) = R (10 + k)) (h2 : ∀ k, k < n → R' (18 + k) = R (18 + k)) : nfL E R' n tn t = nfL E R n tn t := by
  rw [nfL, nfL, show stepL E R' n tn = stepL E R n tn from funext (fun tt => stepL_congr h h2)]
def goL (E : Nat → Int32) (R : Nat → List Int32) (n : Nat) (tn : Nat → Int32) (T : List Int32) (k u : Nat) : Int32 × List Int32 :=
  match mt E (R (10 + k)) T u with
  | none => (-5, T)
  | some (q, ac) =>
    if (useL R tn T u k q ac).1 = 1 then (if (nfL E R n tn (useL R tn T u k q ac).2).1 = -5 then -5 else if (nfL E R n tn (useL R tn T u k q ac).2).1 < 0 then 0 else 1, (nfL E R n tn (useL R tn T u k q ac).2).2)
    else (if (useL R tn T u k q ac).1 = 2 then 0 else -5, (useL R tn T u k q ac).2)
theorem goL_1 {E : Nat → Int32} {R : Nat → List Int32} {n : Nat} {tn : Nat → Int32} {T : List Int32} {k u q : Nat} {ac : List (Nat × Nat)} (h : mt E (R (10 + k)) T u = some (q, ac)) (h1 : (useL R tn T u k q ac).1 = 1) : goL E R n tn T k u = (if (nfL E R n tn (useL R tn T u k q ac).2).1 = -5 then -5 else if (nfL E R n tn (useL R tn T u k q ac).2).1 < 0 then 0 else 1, (nfL E R n tn (useL R tn T u k q ac).2).2) := by
  rw [goL, h]
  exact if_pos h1
theorem goL_2 {E : Nat → Int32} {R : Nat → List Int32} {n : Nat} {tn : Nat → Int32} {T : List Int32} {k u q : Nat} {ac : List (Nat × Nat)} (h : mt E (R (10 + k)) T u = some (q, ac)) (h1 : ¬ (useL R tn T u k q ac).1 = 1) : goL E R n tn T k u = (if (useL R tn T u k q ac).1 = 2 then 0 else -5, (useL R tn T u k q ac).2) := by
  rw [goL, h]
  exact if_neg h1
theorem rx_a {R : Nat → List Int32} {x M y : List Int32} : va_up (va_up (va_up R 26 x) 28 M) 26 y = va_up (va_up R 28 M) 26 y := by
  rw [up_swap (show (26 : Nat) ≠ 28 by decide), up_up]
theorem rx_b {R : Nat → List Int32} {x M M' y : List Int32} : va_up (va_up (va_up (va_up R 28 M) 26 x) 28 M') 26 y = va_up (va_up R 28 M') 26 y := by
  rw [rx_a, up_up]
def clO (E : Nat → Int32) (R : Nat → List Int32) (n : Nat) (tn : Nat → Int32) (o : Nat × List Int32) : Int32 :=
  if (goL E R n tn o.2 (o.1 / 104) 0).1 = -5 ∨ (goL E R n tn o.2 (o.1 / 13 % 8) (o.1 % 13)).1 = -5 then -5
  else if (goL E R n tn o.2 (o.1 / 104) 0).1 = (goL E R n tn o.2 (o.1 / 13 % 8) (o.1 % 13)).1 ∧ ((goL E R n tn o.2 (o.1 / 104) 0).1 = 0 ∨ (goL E R n tn o.2 (o.1 / 104) 0).2 = (goL E R n tn o.2 (o.1 / 13 % 8) (o.1 % 13)).2) then 1 else 0
def clF (E : Nat → Int32) (R : Nat → List Int32) (n : Nat) (tn : Nat → Int32) (L : List (Nat × List Int32)) : Nat → Nat → Int32
  | 0, _ => -1
  | m + 1, i => match L[i]? with
    | none => -1
    | some o => if clO E R n tn o = -5 then -5 else if clO E R n tn o = 1 then clF E R n tn L m (i + 1) else nI i
def pCloses (E : Nat → Int32) (R : Nat → List Int32) (n : Nat) (tn : Nat → Int32) : Int32 := clF E R n tn (ovL E R n) ((ovL E R n).length + 1) 0
theorem ovA_congr {E : Nat → Int32} {R R' : Nat → List Int32} {n s : Nat} (h : ∀ k, k < n → R' (10 + k) = R (10 + k)) : ovA E R' n s = ovA E R n s := by
  by_cases h1 : s / 104 < n
  · by_cases h2 : s / 13 % 8 < n
    · rw [ovA, ovA, h _ h1, h _ h2]
    · rw [ovA, ovA, if_neg (fun q => h2 q.2.1), if_neg (fun q => h2 q.2.1)]
  · rw [ovA, ovA, if_neg (fun q => h1 q.1), if_neg (fun q => h1 q.1)]
theorem ovS_congr {E : Nat → Int32} {R R' : Nat → List Int32} {n : Nat} (h : ∀ k, k < n → R' (10 + k) = R (10 + k)) : ∀ s, ovS E R' n s = ovS E R n s
  | 0 => rfl
  | s + 1 => by rw [ovS, ovS, ovA_congr h, ovS_congr h s]
theorem ovL_congr {E : Nat → Int32} {R R' : Nat → List Int32} {n : Nat} (h : ∀ k, k < n → R' (10 + k) = R (10 + k)) : ovL E R' n = ovL E R n := ovS_congr h _
theorem ovS_mem {E : Nat → Int32} {R : Nat → List Int32} {n : Nat} : ∀ {s : Nat} {o : Nat × List Int32}, o ∈ ovS E R n s → o.1 < s ∧ ovA E R n o.1 = some o.2
  | 0, _, h => by cases h
  | s + 1, o, h => by
    cases hA : ovA E R n s with
    | none =>
      rw [ovS_n hA] at h
      have := ovS_mem h
      exact ⟨by omega, this.2⟩
    | some M =>
      rw [ovS_y hA] at h
      rcases List.mem_append.mp h with z | z
      · have := ovS_mem z
        exact ⟨by omega, this.2⟩
      · rw [List.mem_singleton.mp z]
        exact ⟨by omega, hA⟩
/-- what is known of an overlap -/
theorem ov_facts {A : Nat} {E : Nat → Int32} {R : Nat → List Int32} {n : Nat} (hT : ∀ j, j < n → isT E (R (10 + j))) (hV : ∀ j, j < n → vR A (R (10 + j))) {i s : Nat} {M : List Int32} (h : (ovL E R n)[i]? = some (s, M)) : s < 832 ∧ s / 104 < n ∧ s / 13 % 8 < n ∧ s % 13 < (R (10 + s / 104)).length ∧ (∃ z, mt E (R (10 + s / 104)) M 0 = some z) ∧ (∃ z, mt E (R (10 + s / 13 % 8)) M (s % 13) = some z) ∧ vR A M := by
  obtain ⟨h1, h2⟩ := ovS_mem (List.mem_of_getElem? h)
  dsimp only at h1 h2
  rw [ovA] at h2
  split at h2
  · rename_i hc
    have := mrg_mt (hT _ hc.1) (hT _ hc.2.1) hc.2.2.1 h2
    exact ⟨h1, hc.1, hc.2.1, hc.2.2.1, this.1, this.2, vR_mrg (hV _ hc.1) (hV _ hc.2.1) (hT _ hc.1) (hT _ hc.2.1) hc.2.2.1 h2⟩
  · cases h2
def pOverlap (E : Nat → Int32) (R : Nat → List Int32) (n : Nat) (i to : Int32) : Int32 :=
  if ¬ i < 0 ∧ rIn to 10 then (match (ovL E R n)[i.toNatClampNeg]? with | none => -1 | some (s, _) => nI (1000 * (s / 104) + 100 * (s / 13 % 8) + s % 13)) else -2
def uOverlap (E : Nat → Int32) (R : Nat → List Int32) (n : Nat) (i to : Int32) : Nat → List Int32 :=
  if ¬ i < 0 ∧ rIn to 10 then (match (ovL E R n)[i.toNatClampNeg]? with | none => R | some (_, M) => va_up R to.toNatClampNeg M) else R
theorem up_eta13 (v : Nat → Int32) (x : Int32) : va_up (va_up (va_up v 13 x) 14 (v 14)) 15 (v 15) = va_up v 13 x := by
  have h1 := up_eta (va_up v 13 x) 14
  rw [upn (show (14 : Nat) ≠ 13 by decide)] at h1
  rw [h1]
  have h2 := up_eta (va_up v 13 x) 15
  rwa [upn (show (15 : Nat) ≠ 13 by decide)] at h2
