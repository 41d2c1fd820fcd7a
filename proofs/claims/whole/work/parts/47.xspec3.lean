/-! words of k trees; steps keep trees -/
theorem tE_join (w : Int32 → Nat) (g : Nat → Int32) (n : Nat) : ∀ (f a b i y z : Nat), n - i = f → tE w g f a i = some y → tE w g (n - y) b y = some z → tE w g f (a + b) i = some z
  | f, 0, b, i, y, z, hf, h, h2 => by rw [tE_0] at h; cases h; rw [Nat.zero_add, ← hf]; exact h2
  | 0, a + 1, b, i, y, z, _, h, _ => by cases h
  | f + 1, a + 1, b, i, y, z, hf, h, h2 => by
    rw [tE] at h
    rw [show a + 1 + b = (a + b) + 1 by omega, tE, show a + b + w (g i) = (a + w (g i)) + b by omega]
    exact tE_join w g n f (a + w (g i)) b (i + 1) y z (by omega) h h2
/-- a left tree that matches: its end is the end of the tree there -/
theorem mtF_end {E : Nat → Int32} {t : List Int32} {g : Nat → Int32} : ∀ (f i j k : Nat) (ac : List (Nat × Nat)) (r : Nat × List (Nat × Nat)), mtF E t g f i j ac = some r → j ≤ t.length → tE (wt E) g f k i = some (i + f) → tE (wt E) (gD t) (t.length - j) k j = some r.1
  | 0, i, j, k, ac, r, h, hj, hk => by
    rw [mtF] at h; cases h
    cases k with
    | zero => exact tE_0 _ _ _ _
    | succ k => cases hk
  | f + 1, i, j, k, ac, r, h, hj, hk => by
    cases k with
    | zero => rw [tE_0] at hk; injection hk with hk; omega
    | succ k =>
      rw [tE] at hk
      rw [mtF] at h
      by_cases h1 : t.length ≤ j
      · rw [if_pos h1] at h; cases h
      · rw [if_neg h1] at h
        by_cases h2 : g i = -1
        · rw [if_pos h2] at h
          cases he : endL E t j with
          | none => rw [he] at h; cases h
          | some q =>
            rw [he] at h
            have hq := endL_le hj he
            rw [h2, wt_m1, Nat.add_zero, show i + (f + 1) = i + 1 + f by omega] at hk
            have ih := mtF_end f (i + 1) q k _ r h hq.2 hk
            rw [Nat.add_comm k 1]
            exact tE_join _ _ _ _ 1 k j q r.1 rfl he ih
        · rw [if_neg h2] at h
          by_cases h3 : gD t j = g i
          · rw [if_pos h3] at h
            rw [show i + (f + 1) = i + 1 + f by omega] at hk
            have ih := mtF_end f (i + 1) (j + 1) (k + wt E (g i)) _ r h (by omega) hk
            rw [tE_step _ _ (Nat.succ_pos k) (by omega), h3, show k + 1 + wt E (g i) - 1 = k + wt E (g i) by omega]
            exact ih
          · rw [if_neg h3] at h; cases h
theorem mt_end {E : Nat → Int32} {l t : List Int32} {p : Nat} {r : Nat × List (Nat × Nat)} (hl : isT E l) (hp : p ≤ t.length) (h : mt E l t p = some r) : endL E t p = some r.1 :=
  mtF_end l.length 0 p 1 [] r h hp (by rw [Nat.zero_add]; exact hl)
/-- what was caught are trees -/
def acE (E : Nat → Int32) (t : List Int32) (ac : List (Nat × Nat)) : Prop := ∀ q ∈ ac, endL E t q.1 = some q.2 ∧ q.1 < t.length
theorem mtF_acE {E : Nat → Int32} {t : List Int32} {g : Nat → Int32} : ∀ (f i j : Nat) (ac : List (Nat × Nat)) (r : Nat × List (Nat × Nat)), mtF E t g f i j ac = some r → acE E t ac → acE E t r.2
  | 0, i, j, ac, r, h, ha => by rw [mtF] at h; cases h; exact ha
  | f + 1, i, j, ac, r, h, ha => by
    rw [mtF] at h
    by_cases h1 : t.length ≤ j
    · rw [if_pos h1] at h; cases h
    · rw [if_neg h1] at h
      by_cases h2 : g i = -1
      · rw [if_pos h2] at h
        cases he : endL E t j with
        | none => rw [he] at h; cases h
        | some q =>
          rw [he] at h
          refine mtF_acE f (i + 1) q _ r h (fun x hx => ?_)
          rcases List.mem_append.mp hx with z | z
          · exact ha x z
          · rw [List.mem_singleton.mp z]; exact ⟨he, by omega⟩
      · rw [if_neg h2] at h
        by_cases h3 : gD t j = g i
        · rw [if_pos h3] at h; exact mtF_acE f (i + 1) (j + 1) _ r h ha
        · rw [if_neg h3] at h; cases h
theorem mt_acE {E : Nat → Int32} {l t : List Int32} {p : Nat} {r : Nat × List (Nat × Nat)} (h : mt E l t p = some r) : acE E t r.2 := mtF_acE _ _ _ _ r h (fun q hq => by cases hq)
theorem acE_at {E : Nat → Int32} {t : List Int32} {ac : List (Nat × Nat)} (h : acE E t ac) {i : Nat} (hi : i < ac.length) : endL E t (aD ac i).1 = some (aD ac i).2 ∧ (aD ac i).1 < t.length := by
  refine h _ ?_
  rw [aD, List.getD_eq_getElem?_getD, List.getElem?_eq_getElem hi]
  exact List.getElem_mem hi
/-- the word is k trees, one behind the other -/
def tL (E : Nat → Int32) : Nat → List Int32 → Prop
  | k, [] => k = 0
  | 0, _ :: _ => False
  | k + 1, z :: l => tL E (k + wt E z) l
theorem tL_app {E : Nat → Int32} : ∀ {l m : List Int32} {a b : Nat}, tL E a l → tL E b m → tL E (a + b) (l ++ m)
  | [], m, a, b, h, h2 => by rw [tL] at h; subst h; rw [Nat.zero_add]; exact h2
  | z :: l, m, 0, b, h, _ => False.elim h
  | z :: l, m, a + 1, b, h, h2 => by
    rw [tL] at h
    rw [show a + 1 + b = (a + b) + 1 by omega]
    show tL E (a + b + wt E z) (l ++ m)
    rw [show a + b + wt E z = (a + wt E z) + b by omega]
    exact tL_app h h2
theorem tL_can {E : Nat → Int32} : ∀ {l m : List Int32} {a b : Nat}, tL E a l → tL E (a + b) (l ++ m) → tL E b m
  | [], m, a, b, h, h2 => by rw [tL] at h; subst h; rw [Nat.zero_add] at h2; exact h2
  | z :: l, m, 0, b, h, _ => False.elim h
  | z :: l, m, a + 1, b, h, h2 => by
    rw [tL] at h
    rw [show a + 1 + b = (a + b) + 1 by omega] at h2
    have h2 : tL E (a + b + wt E z) (l ++ m) := h2
    rw [show a + b + wt E z = (a + wt E z) + b by omega] at h2
    exact tL_can h h2
theorem tL_pre {E : Nat → Int32} : ∀ {l m : List Int32} {k : Nat}, m ≠ [] → tL E k (l ++ m) → ∃ j, tL E (j + 1) m ∧ ∀ m', m' ≠ [] → tL E (j + 1) m' → tL E k (l ++ m')
  | [], m, 0, hm, h => by cases m with | nil => exact absurd rfl hm | cons z m => exact False.elim h
  | [], m, k + 1, _, h => ⟨k, h, fun m' _ h' => h'⟩
  | z :: l, m, 0, _, h => False.elim h
  | z :: l, m, k + 1, hm, h => by
    have h : tL E (k + wt E z) (l ++ m) := h
    obtain ⟨j, h1, h2⟩ := tL_pre hm h
    exact ⟨j, h1, fun m' a b => h2 m' a b⟩
theorem slc_cons {l : List Int32} {i q : Nat} (hi : i < q) (hq : q ≤ l.length) : slc l i q = gD l i :: slc l (i + 1) q := by
  have h : i < (l.take q).length := by rw [List.length_take]; omega
  rw [slc, slc, List.drop_eq_getElem_cons h]
  congr 1
  rw [List.getElem_take, gD_lt]
theorem tL_of {E : Nat → Int32} {l : List Int32} : ∀ (f k i q : Nat), l.length - i = f → i ≤ l.length → tE (wt E) (gD l) f k i = some q → tL E k (slc l i q)
  | f, 0, i, q, _, _, h => by rw [tE_0] at h; cases h; rw [slc_nil]; rfl
  | 0, k + 1, i, q, _, _, h => by cases h
  | f + 1, k + 1, i, q, hf, hi, h => by
    rw [tE] at h
    have hq := tE_le _ _ _ _ _ _ h
    have ih := tL_of f (k + wt E (gD l i)) (i + 1) q (by omega) (by omega) h
    rw [slc_cons (by omega) (by omega)]
    exact ih
theorem tL_to {E : Nat → Int32} {l : List Int32} {q : Nat} (hq : q ≤ l.length) : ∀ (f k i : Nat), q - i = f → i ≤ q → tL E k (slc l i q) → tE (wt E) (gD l) (l.length - i) k i = some q
  | 0, k, i, hf, hi, h => by
    have e : i = q := by omega
    subst e
    rw [slc_nil] at h
    have h : k = 0 := h
    rw [h, tE_0]
  | f + 1, k, i, hf, hi, h => by
    rw [slc_cons (by omega) hq] at h
    cases k with
    | zero => exact False.elim h
    | succ k =>
      rw [tE_step _ _ (Nat.succ_pos k) (by omega), show k + 1 + wt E (gD l i) - 1 = k + wt E (gD l i) by omega]
      exact tL_to hq f _ (i + 1) (by omega) (by omega) h
theorem isT_tL {E : Nat → Int32} {l : List Int32} : isT E l ↔ tL E 1 l := by
  constructor
  · intro h
    have := tL_of _ 1 0 l.length rfl (Nat.zero_le _) h
    rw [slc_all] at this; exact this
  · intro h
    exact tL_to (Nat.le_refl _) _ 1 0 rfl (Nat.zero_le _) (by rw [slc_all]; exact h)
theorem endL_tL {E : Nat → Int32} {l : List Int32} {i q : Nat} (hi : i ≤ l.length) (h : endL E l i = some q) : tL E 1 (slc l i q) := tL_of _ 1 i q rfl hi h
theorem tL_ne {E : Nat → Int32} {l : List Int32} {k : Nat} (h : tL E (k + 1) l) : l ≠ [] := fun e => by subst e; cases h
/-- a word with pieces of another at its leaves -/
def sbs (t : List Int32) (ac : List (Nat × Nat)) : List Int32 → Nat → List Int32
  | [], _ => []
  | z :: l, c => if z = -1 then slc t (aD ac c).1 (aD ac c).2 ++ sbs t ac l (c + 1) else z :: sbs t ac l c
theorem exF_sbs {t : List Int32} {ac : List (Nat × Nat)} {rt : List Int32} : ∀ i, i ≤ rt.length → exF t ac (gD rt) i ++ sbs t ac (rt.drop i) (cF (gD rt) i) = sbs t ac rt 0
  | 0, _ => rfl
  | i + 1, h => by
    have ih := exF_sbs (t := t) (ac := ac) (rt := rt) i (by omega)
    rw [← ih, List.drop_eq_getElem_cons (show i < rt.length by omega), ← gD_lt, sbs, exF, List.append_assoc]
    by_cases hl : gD rt i = -1
    · rw [if_pos hl, if_pos hl, cF_t hl]
    · rw [if_neg hl, if_neg hl, cF_f hl]; rfl
theorem exF_all {t : List Int32} {ac : List (Nat × Nat)} {rt : List Int32} : exF t ac (gD rt) rt.length = sbs t ac rt 0 := by
  have := exF_sbs (t := t) (ac := ac) (rt := rt) rt.length (Nat.le_refl _)
  rw [List.drop_length, sbs, List.append_nil] at this
  exact this
/-- how many leaves, by the list -/
def lvC : List Int32 → Nat
  | [] => 0
  | z :: l => (if z = -1 then 1 else 0) + lvC l
theorem lvs_lvC : ∀ (l : List Int32), lvs l = lvC l := by
  have key : ∀ (l : List Int32) i, i ≤ l.length → cF (gD l) i + lvC (l.drop i) = lvC l := by
    intro l i
    induction i with
    | zero => intro _; rw [cF, List.drop_zero, Nat.zero_add]
    | succ i ih =>
      intro h
      rw [← ih (by omega), List.drop_eq_getElem_cons (show i < l.length by omega), ← gD_lt, lvC]
      by_cases hl : gD l i = -1
      · rw [cF_t hl, if_pos hl]; omega
      · rw [cF_f hl, if_neg hl]; omega
  intro l
  have := key l l.length (Nat.le_refl _)
  rw [List.drop_length, lvC, Nat.add_zero] at this
  exact this
theorem tL_sbs {E : Nat → Int32} {t : List Int32} {ac : List (Nat × Nat)} (ha : acE E t ac) : ∀ {rt : List Int32} {k c : Nat}, tL E k rt → c + lvC rt ≤ ac.length → tL E k (sbs t ac rt c)
  | [], k, c, h, _ => h
  | z :: l, 0, c, h, _ => False.elim h
  | z :: l, k + 1, c, h, hc => by
    have h : tL E (k + wt E z) l := h
    rw [lvC] at hc
    rw [sbs]
    by_cases hl : z = -1
    · rw [if_pos hl] at hc ⊢
      rw [hl, wt_m1, Nat.add_zero] at h
      have h1 := acE_at ha (show c < ac.length by omega)
      rw [Nat.add_comm k 1]
      exact tL_app (endL_tL (by omega) h1.1) (tL_sbs ha h (by omega))
    · rw [if_neg hl] at hc ⊢
      exact tL_sbs ha h (by omega)
theorem slc_split {l : List Int32} {a b q : Nat} (h1 : a ≤ b) (h2 : b ≤ q) (h3 : q ≤ l.length) : slc l a b ++ slc l b q = slc l a q := by
  apply list_eq_gD.mpr
  constructor
  · rw [List.length_append, slc_len (by omega), slc_len h3, slc_len h3]; omega
  · intro i hi
    rw [List.length_append, slc_len (by omega), slc_len h3] at hi
    rw [slc_gD h3 (by omega)]
    rcases Nat.lt_or_ge i (b - a) with z | z
    · rw [gD_app_l (by rw [slc_len (by omega)]; exact z), slc_gD (by omega) z]
    · obtain ⟨d, rfl⟩ : ∃ d, i = (slc l a b).length + d := ⟨i - (b - a), by rw [slc_len (by omega)]; omega⟩
      rw [slc_len (by omega)] at hi z ⊢
      have e : gD (slc l a b ++ slc l b q) ((slc l a b).length + d) = gD (slc l b q) d := gD_app_r
      rw [slc_len (by omega)] at e
      rw [e, slc_gD h3 (by omega)]
      congr 1; omega
/-- a tree, with the tree at a place changed for another tree -/
theorem isT_put {E : Nat → Int32} {t X : List Int32} {p q : Nat} (ht : isT E t) (hp : p < t.length) (hq : endL E t p = some q) (hX : tL E 1 X) : isT E (slc t 0 p ++ X ++ slc t q t.length) := by
  have hle := endL_le (Nat.le_of_lt hp) hq
  have hm := endL_tL (Nat.le_of_lt hp) hq
  rw [isT_tL] at ht ⊢
  have hspl : t = slc t 0 p ++ (slc t p q ++ slc t q t.length) := by
    rw [slc_split hle.1 hle.2 (Nat.le_refl _), slc_split (Nat.zero_le _) (Nat.le_of_lt hp) (Nat.le_refl _), slc_all]
  rw [hspl] at ht
  have hne : slc t p q ++ slc t q t.length ≠ [] := fun e => tL_ne hm (List.append_eq_nil_iff.mp e).1
  obtain ⟨j, h1, h2⟩ := tL_pre hne ht
  rw [Nat.add_comm] at h1
  have h3 := tL_can hm h1
  rw [List.append_assoc]
  refine h2 _ (fun e => tL_ne hX (List.append_eq_nil_iff.mp e).1) ?_
  rw [Nat.add_comm]
  exact tL_app hX h3
theorem isT_rpl {E : Nat → Int32} {l t rt : List Int32} {p q : Nat} {ac : List (Nat × Nat)} (ht : isT E t) (hl : isT E l) (hr : isT E rt) (hlv : lvs l = lvs rt) (hp : p < t.length) (h : mt E l t p = some (q, ac)) : isT E (rplL t p q ac rt) := by
  have hq := mt_end hl (Nat.le_of_lt hp) h
  have hok := mt_ok (Nat.le_of_lt hp) h
  rw [rplL, preF, exF_all]
  refine isT_put ht hp hq (tL_sbs (mt_acE h) (isT_tL.mp hr) ?_)
  rw [Nat.zero_add, ← lvs_lvC, ← hlv, hok.2.2.2]
  exact Nat.le_refl _
/-- a step that is done leaves a tree -/
theorem isT_use {E : Nat → Int32} {R : Nat → List Int32} {tn : Nat → Int32} {t : List Int32} {p k q : Nat} {ac : List (Nat × Nat)} (ht : isT E t) (hl : isT E (R (10 + k))) (hr : tn k = 0 → isT E (R (18 + k)) ∧ lvs (R (10 + k)) = lvs (R (18 + k))) (hp : p < t.length) (h : mt E (R (10 + k)) t p = some (q, ac)) (h1 : (useL R tn t p k q ac).1 = 1) : isT E (useL R tn t p k q ac).2 := by
  by_cases h2 : ¬ tn k = 0
  · rw [useL, if_pos h2] at h1; exact absurd h1 (show ¬ (2 : Int32) = 1 by decide)
  · have h3 := hr (Classical.not_not.mp h2)
    rw [useL, if_neg h2] at h1 ⊢
    by_cases h4 : (rplL t p q ac (R (18 + k))).length ≤ 60
    · rw [if_pos h4]; exact isT_rpl ht hl h3.1 h3.2 hp h
    · rw [if_neg h4] at h1; exact absurd h1 (show ¬ (-5 : Int32) = 1 by decide)
/-- what rules are: their left trees, their right trees -/
def rlT (E : Nat → Int32) (R : Nat → List Int32) (n : Nat) (tn : Nat → Int32) : Prop := ∀ k, k < n → isT E (R (10 + k)) ∧ (tn k = 0 → isT E (R (18 + k)) ∧ lvs (R (10 + k)) = lvs (R (18 + k)))
theorem isT_step {E : Nat → Int32} {R : Nat → List Int32} {n : Nat} {tn : Nat → Int32} {t : List Int32} (hr : rlT E R n tn) (ht : isT E t) (h : (stepL E R n tn t).1 = 1) : isT E (stepL E R n tn t).2 := by
  cases hf : fP E R n t with
  | none => rw [stepL_no hf] at h; exact absurd h (show ¬ (0 : Int32) = 1 by decide)
  | some z =>
    obtain ⟨p, k, q, ac⟩ := z
    obtain ⟨h1, h2, h3⟩ := fP_lt hf
    rw [stepL_yes hf] at h ⊢
    exact isT_use ht (hr k h2).1 (hr k h2).2 h1 h3 h
theorem useL_2 {R : Nat → List Int32} {tn : Nat → Int32} {t : List Int32} {p k q : Nat} {ac : List (Nat × Nat)} (h : (useL R tn t p k q ac).1 = 2) : (useL R tn t p k q ac).2 = [] := by
  by_cases h2 : ¬ tn k = 0
  · rw [useL, if_pos h2]
  · rw [useL, if_neg h2] at h ⊢
    by_cases h4 : (rplL t p q ac (R (18 + k))).length ≤ 60
    · rw [if_pos h4] at h; exact absurd h (show ¬ (1 : Int32) = 2 by decide)
    · rw [if_neg h4] at h; exact absurd h (show ¬ (-5 : Int32) = 2 by decide)
theorem stepL_2 {E : Nat → Int32} {R : Nat → List Int32} {n : Nat} {tn : Nat → Int32} {t : List Int32} (h : (stepL E R n tn t).1 = 2) : (stepL E R n tn t).2 = [] := by
  cases hf : fP E R n t with
  | none => rw [stepL_no hf] at h; exact absurd h (show ¬ (0 : Int32) = 2 by decide)
  | some z => obtain ⟨p, k, q, ac⟩ := z; rw [stepL_yes hf] at h ⊢; exact useL_2 h
theorem useL_val {R : Nat → List Int32} {tn : Nat → Int32} {t : List Int32} {p k q : Nat} {ac : List (Nat × Nat)} : (useL R tn t p k q ac).1 = 2 ∨ (useL R tn t p k q ac).1 = 1 ∨ (useL R tn t p k q ac).1 = -5 := by
  rw [useL]; split
  · exact Or.inl rfl
  · split
    · exact Or.inr (Or.inl rfl)
    · exact Or.inr (Or.inr rfl)
theorem stepL_0 {E : Nat → Int32} {R : Nat → List Int32} {n : Nat} {tn : Nat → Int32} {t : List Int32} (h : (stepL E R n tn t).1 = 0) : (stepL E R n tn t).2 = t := by
  cases hf : fP E R n t with
  | none => rw [stepL_no hf]
  | some z =>
    obtain ⟨p, k, q, ac⟩ := z
    rw [stepL_yes hf] at h
    rcases useL_val (R := R) (tn := tn) (t := t) (p := p) (k := k) (q := q) (ac := ac) with z | z | z <;> (rw [z] at h; exact absurd h (by decide))
theorem stepL_val {E : Nat → Int32} {R : Nat → List Int32} {n : Nat} {tn : Nat → Int32} {t : List Int32} : (stepL E R n tn t).1 = 0 ∨ (stepL E R n tn t).1 = 2 ∨ (stepL E R n tn t).1 = 1 ∨ (stepL E R n tn t).1 = -5 := by
  cases hf : fP E R n t with
  | none => rw [stepL_no hf]; exact Or.inl rfl
  | some z => obtain ⟨p, k, q, ac⟩ := z; rw [stepL_yes hf]; exact Or.inr useL_val
/-- what is left at the end: a tree, or nothing -/
theorem nrm_row2 {E : Nat → Int32} {R : Nat → List Int32} {n : Nat} {tn : Nat → Int32} (hr : rlT E R n tn) : ∀ (f j : Nat) (t : List Int32), j + f ≤ 201 → isT E t → (nrmL (stepL E R n tn) f j t).1 = -5 ∨ (¬ (nrmL (stepL E R n tn) f j t).1 < 0 ∧ isT E (nrmL (stepL E R n tn) f j t).2) ∨ ((nrmL (stepL E R n tn) f j t).1 < 0 ∧ (nrmL (stepL E R n tn) f j t).2 = [])
  | 0, j, t, _, _ => Or.inl rfl
  | f + 1, j, t, hj, ht => by
    rw [nrmL]
    by_cases h0 : (stepL E R n tn t).1 = 0
    · rw [if_pos h0]
      exact Or.inr (Or.inl ⟨nI_pos (by omega), by rw [stepL_0 h0]; exact ht⟩)
    · rw [if_neg h0]
      by_cases h5 : (stepL E R n tn t).1 = -5 ∨ 200 < j + 1
      · rw [if_pos h5]; exact Or.inl rfl
      · rw [if_neg h5]
        by_cases h2 : (stepL E R n tn t).1 = 2
        · rw [if_pos h2]
          have hrow := stepL_2 h2
          refine Or.inr (Or.inr ?_)
          show (-10 : Int32) - nI (j + 1) < 0 ∧ (stepL E R n tn t).2 = []
          refine ⟨?_, hrow⟩
          have hb : j + 1 < 202 := by omega
          have key : ∀ m, m < 202 → (-10 : Int32) - nI m < 0 := by decide +kernel
          exact key (j + 1) hb
        · rw [if_neg h2]
          refine nrm_row2 hr f (j + 1) _ (by omega) (isT_step hr ht ?_)
          rcases stepL_val (E := E) (R := R) (n := n) (tn := tn) (t := t) with z | z | z | z
          · exact absurd z h0
          · exact absurd z h2
          · exact z
          · exact absurd (Or.inl z) h5
theorem goL_row {E : Nat → Int32} {R : Nat → List Int32} {n : Nat} {tn : Nat → Int32} {T : List Int32} {k u : Nat} (hr : rlT E R n tn) (hk : k < n) (hT : isT E T) (hu : u < T.length) : (goL E R n tn T k u).1 = -5 ∨ ((goL E R n tn T k u).1 = 1 ∧ isT E (goL E R n tn T k u).2) ∨ ((goL E R n tn T k u).1 = 0 ∧ (goL E R n tn T k u).2 = []) := by
  cases hm : mt E (R (10 + k)) T u with
  | none => rw [goL, hm]; exact Or.inl rfl
  | some z =>
    obtain ⟨q, ac⟩ := z
    by_cases h1 : (useL R tn T u k q ac).1 = 1
    · rw [goL_1 hm h1]
      have ht := isT_use hT (hr k hk).1 (hr k hk).2 hu hm h1
      rcases nrm_row2 hr 201 0 _ (by omega) ht with z | z | z
      · rw [if_pos (show (nfL E R n tn (useL R tn T u k q ac).2).1 = -5 from z)]; exact Or.inl rfl
      · by_cases h5 : (nfL E R n tn (useL R tn T u k q ac).2).1 = -5
        · rw [if_pos h5]; exact Or.inl rfl
        · rw [if_neg h5, if_neg (show ¬ (nfL E R n tn (useL R tn T u k q ac).2).1 < 0 from z.1)]; exact Or.inr (Or.inl ⟨rfl, z.2⟩)
      · by_cases h5 : (nfL E R n tn (useL R tn T u k q ac).2).1 = -5
        · rw [if_pos h5]; exact Or.inl rfl
        · rw [if_neg h5, if_pos (show (nfL E R n tn (useL R tn T u k q ac).2).1 < 0 from z.1)]; exact Or.inr (Or.inr ⟨rfl, z.2⟩)
    · rw [goL_2 hm h1]
      rcases useL_val (R := R) (tn := tn) (t := T) (p := u) (k := k) (q := q) (ac := ac) with z | z | z
      · rw [if_pos z]; exact Or.inr (Or.inr ⟨rfl, useL_2 z⟩)
      · exact absurd z h1
      · rw [if_neg (by rw [z]; decide)]; exact Or.inl rfl
/-- both ways alike: the rows are -/
theorem clO_row {E : Nat → Int32} {R : Nat → List Int32} {n : Nat} {tn : Nat → Int32} {o : Nat × List Int32} (hr : rlT E R n tn) (h1 : o.1 / 104 < n) (h2 : o.1 / 13 % 8 < n) (hT : isT E o.2) (hu : o.1 % 13 < o.2.length) : clO E R n tn o = if (goL E R n tn o.2 (o.1 / 104) 0).1 = -5 ∨ (goL E R n tn o.2 (o.1 / 13 % 8) (o.1 % 13)).1 = -5 then -5 else if (goL E R n tn o.2 (o.1 / 104) 0).2 = (goL E R n tn o.2 (o.1 / 13 % 8) (o.1 % 13)).2 then 1 else 0 := by
  rw [clO]
  by_cases h5 : (goL E R n tn o.2 (o.1 / 104) 0).1 = -5 ∨ (goL E R n tn o.2 (o.1 / 13 % 8) (o.1 % 13)).1 = -5
  · rw [if_pos h5, if_pos h5]
  · rw [if_neg h5, if_neg h5]
    have g1 := goL_row hr h1 hT (show 0 < o.2.length by omega)
    have g2 := goL_row hr h2 hT hu
    rcases g1 with z | z | z
    · exact absurd (Or.inl z) h5
    · rcases g2 with y | y | y
      · exact absurd (Or.inr y) h5
      · rw [z.1, y.1]
        by_cases e : (goL E R n tn o.2 (o.1 / 104) 0).2 = (goL E R n tn o.2 (o.1 / 13 % 8) (o.1 % 13)).2
        · rw [if_pos ⟨rfl, Or.inr e⟩, if_pos e]
        · rw [if_neg (fun h => h.2.elim (by decide) e), if_neg e]
      · rw [z.1, y.1, y.2, if_neg (fun h => absurd h.1 (by decide)), if_neg (fun h => absurd (isT_pos z.2) (by rw [h]; exact Nat.lt_irrefl 0))]
    · rcases g2 with y | y | y
      · exact absurd (Or.inr y) h5
      · rw [z.1, y.1, z.2, if_neg (fun h => absurd h.1 (by decide)), if_neg (fun h => absurd (isT_pos y.2) (by rw [← h]; exact Nat.lt_irrefl 0))]
      · rw [z.1, y.1, z.2, y.2, if_pos ⟨rfl, Or.inl rfl⟩, if_pos rfl]
/-- an overlap is a tree -/
theorem isT_mgF {E : Nat → Int32} {a b : List Int32} : ∀ (f i j k d : Nat) (M : List Int32) (r : Nat × List Int32), mgF E a b f i j M = some r → mgI E a b i j k → tE (wt E) (gD a) (a.length - i) (k + d) i = some a.length → (∀ m', tL E (k + d) m' → tL E 1 (M ++ m')) → tL E 1 (r.2 ++ slc a r.1 a.length)
  | 0, i, j, k, d, M, r, h, _, _, _ => by cases h
  | f + 1, i, j, k, d, M, r, h, hI, ha, hM => by
    have hia := hI.2.2.1
    rcases Nat.lt_or_ge j b.length with hj | hj
    · have hk := mgI_pos hI hj
      have hlt := mgI_lt hI hj
      by_cases h1 : gD a i = -1
      · obtain ⟨q, hq, hq1, hq2, hI2⟩ := mgI_a hI hj h1
        rw [mgF_a hj h1 hq] at h
        rw [tE_step _ _ (by omega) hlt, h1, wt_m1, show k + d + 0 - 1 = k - 1 + d by omega] at ha
        refine isT_mgF f (i + 1) q (k - 1) d _ r h hI2 ha (fun m' hm => ?_)
        rw [List.append_assoc]
        refine hM _ ?_
        rw [show k + d = 1 + (k - 1 + d) by omega]
        exact tL_app (endL_tL (by omega) hq) hm
      · by_cases h2 : gD b j = -1
        · obtain ⟨q, hq, hq1, hq2, hI2⟩ := mgI_b hI hj h2
          rw [mgF_b hj h1 h2 hq] at h
          obtain ⟨y, y1, y2, y3, y4⟩ := tE_one (show 0 < k + d by omega) hia ha
          have e : y = q := by rw [endL, y3] at hq; exact Option.some.inj hq
          subst e
          rw [show k + d - 1 = k - 1 + d by omega] at y4
          refine isT_mgF f y (j + 1) (k - 1) d _ r h hI2 y4 (fun m' hm => ?_)
          rw [List.append_assoc]
          refine hM _ ?_
          rw [show k + d = 1 + (k - 1 + d) by omega]
          exact tL_app (endL_tL (by omega) hq) hm
        · by_cases h3 : gD a i = gD b j
          · rw [mgF_c hj h1 h2 h3] at h
            have hI2 := mgI_c hI hj h3
            rw [tE_step _ _ (by omega) hlt, show k + d + wt E (gD a i) - 1 = k + wt E (gD a i) - 1 + d by omega] at ha
            refine isT_mgF f (i + 1) (j + 1) _ d _ r h hI2 ha (fun m' hm => ?_)
            rw [List.append_assoc]
            refine hM _ ?_
            show tL E (k + d) (gD a i :: m')
            obtain ⟨k', rfl⟩ : ∃ k', k = k' + 1 := ⟨k - 1, by omega⟩
            rw [show k' + 1 + d = k' + d + 1 by omega]
            show tL E (k' + d + wt E (gD a i)) m'
            rw [show k' + d + wt E (gD a i) = k' + 1 + wt E (gD a i) - 1 + d by omega]
            exact hm
          · rw [mgF_d hj h1 h2 h3] at h; cases h
    · rw [mgF_end hj] at h
      cases h
      have hk : k = 0 := by
        have h2 := hI.2.1
        rcases Nat.eq_zero_or_pos k with z | z
        · exact z
        · exact absurd (tE_lt z h2) (by omega)
      subst hk
      refine hM _ ?_
      exact tL_of _ _ i a.length rfl hia ha
theorem isT_mrg {E : Nat → Int32} {a b T : List Int32} {u : Nat} (ha : isT E a) (hb : isT E b) (hu : u < a.length) (h : mrg E a b u = some T) : isT E T := by
  rw [mrg] at h
  cases hm : mgF E a b (b.length + 1) u 0 (slc a 0 u) with
  | none => rw [hm] at h; cases h
  | some r =>
    rw [hm] at h
    cases h
    rw [isT_tL]
    have hI := mgI_0 ha hb hu
    have hT := isT_tL.mp ha
    have hspl : a = slc a 0 u ++ slc a u a.length := by rw [slc_split (Nat.zero_le _) (Nat.le_of_lt hu) (Nat.le_refl _), slc_all]
    rw [hspl] at hT
    have hne : slc a u a.length ≠ [] := fun e => by
      have := slc_len (l := a) (b := u) (Nat.le_refl a.length)
      rw [e] at this
      have : 0 = a.length - u := this
      omega
    obtain ⟨j, h1, h2⟩ := tL_pre hne hT
    refine isT_mgF _ u 0 1 j _ r hm hI ?_ (fun m' hm' => h2 m' ?_ ?_)
    · rw [Nat.add_comm]; exact tL_to (Nat.le_refl _) _ _ u rfl (Nat.le_of_lt hu) h1
    · rw [Nat.add_comm] at hm'; exact tL_ne hm'
    · rw [Nat.add_comm]; exact hm'
theorem add_u {R0 : Nat → List Int32} {M : List Int32} {to : Nat} {z x : Int32} {v v1 : Nat → Int32} {R1 : Nat → List Int32} {F F1 : Nat → Nat → Int32} {G G1 : Nat → Nat → Int64}
    (h : x = bI ((va_up R0 to M to).length < 60) ∧ (v, if (va_up R0 to M to).length < 60 then va_up (va_up R0 to M) to (va_up R0 to M to ++ [z]) else va_up R0 to M, F, G) = (v1, R1, F1, G1)) :
    ∃ M' : List Int32, (v, va_up R0 to M', F, G) = (v1, R1, F1, G1) ∧ x = bI (M.length < 60) ∧ (M.length < 60 → M' = M ++ [z]) := by
  obtain ⟨h1, h2⟩ := h
  rw [va_up_self] at h1 h2
  by_cases hc : M.length < 60
  · rw [if_pos hc, up_up] at h2
    exact ⟨_, h2, h1, fun _ => rfl⟩
  · rw [if_neg hc] at h2
    exact ⟨_, h2, h1, fun h => absurd h hc⟩
/-- the array holds where what was caught begins -/
def xH (c : Nat → Int32) (ac : List (Nat × Nat)) : Prop := ∀ i, i < ac.length → c i = nI (aD ac i).1
theorem xH_snoc {c : Nat → Int32} {ac : List (Nat × Nat)} (h : xH c ac) (j q : Nat) : xH (upd c ac.length (nI j)) (ac ++ [(j, q)]) := by
  intro i hi
  rw [List.length_append, List.length_singleton] at hi
  by_cases h9 : i = ac.length
  · rw [h9, pk_us, aD_s]
  · rw [pk_un h9, aD_l (by omega)]; exact h i (by omega)
/-- at a leaf no left tree matches -/
theorem mt_leaf {E : Nat → Int32} {l t : List Int32} {p : Nat} (hl : 0 < l.length) (h0 : ¬ gD l 0 = -1) (hp : gD t p = -1) : mt E l t p = none := by
  rcases Nat.lt_or_ge p t.length with z | z
  · exact mtF_ne (n := l.length) hl z h0 (fun h => h0 (h.symm.trans hp))
  · exact mtF_out (n := l.length) hl z
