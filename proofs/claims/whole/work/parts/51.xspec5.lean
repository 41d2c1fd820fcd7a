/-! the class's Peaks -/
theorem dv104 {a : Nat} (h : a < 832) : nI a / nI 104 = nI (a / 104) := (show ∀ a, a < 832 → nI a / nI 104 = nI (a / 104) by decide +kernel) a h
theorem dv13 {a : Nat} (h : a < 832) : nI a / nI 13 = nI (a / 13) := (show ∀ a, a < 832 → nI a / nI 13 = nI (a / 13) by decide +kernel) a h
theorem rm13 {a : Nat} (h : a < 832) : nI a - nI a / nI 13 * nI 13 = nI (a % 13) := (show ∀ a, a < 832 → nI a - nI a / nI 13 * nI 13 = nI (a % 13) by decide +kernel) a h
theorem rm8 {a : Nat} (h : a < 64) : nI a - nI a / nI 8 * nI 8 = nI (a % 8) := (show ∀ a, a < 64 → nI a - nI a / nI 8 * nI 8 = nI (a % 8) by decide +kernel) a h
theorem mg_eq {E : Nat → Int32} {a b : List Int32} {i j k f : Nat} {M : List Int32} (hI : mgI E a b i j k) (hj : j < b.length) (h : gD a i = gD b j) : mgF E a b (f + 1) i j M = mgF E a b f (i + 1) (j + 1) (M ++ [gD a i]) := by
  by_cases hl : gD a i = -1
  · have hb : gD b j = -1 := h.symm.trans hl
    rw [mgF_a hj hl (endL_leaf hj hb), slc_one hj, h]
  · exact mgF_c hj hl (fun hb => hl (h.trans hb)) h
abbrev ovC (R : Nat → List Int32) (n t : Nat) : Prop := t / 104 < n ∧ t / 13 % 8 < n ∧ t % 13 < (R (10 + t / 104)).length ∧ gD (R (10 + t / 104)) (t % 13) ≠ -1 ∧ (0 < t % 13 ∨ t / 104 < t / 13 % 8)
theorem ovA_n {E : Nat → Int32} {R : Nat → List Int32} {n t : Nat} (h : ¬ ovC R n t) : ovA E R n t = none := by rw [ovA, if_neg h]
theorem ovA_y {E : Nat → Int32} {R : Nat → List Int32} {n t : Nat} (h : ovC R n t) : ovA E R n t = mrg E (R (10 + t / 104)) (R (10 + t / 13 % 8)) (t % 13) := by rw [ovA, if_pos h]
theorem ovC_congr {R R' : Nat → List Int32} {n t : Nat} (h : t / 104 < n → R' (10 + t / 104) = R (10 + t / 104)) : ovC R' n t ↔ ovC R n t := by
  constructor
  · intro hc; have e := h hc.1; rw [ovC, e] at hc; exact hc
  · intro hc; have e := h hc.1; rw [ovC, e]; exact hc
theorem sc_add {j : Nat} : sy j + nI 1 = nI j := by rw [sy_add, sy_s]
