/-! the dual's values are the reference's -/
theorem dl_shape2 {A : Nat} {E : Nat → Int32} {l : List Int32} (hE : vE A E) (hv : vR A l) (hT : isT E l) (h5 : l.length = 5) (h2 : ∀ a, a < A → E a = nI 2) (h1 : ¬ gD l 1 = -1) : gD l 2 = -1 := by
  have hw : ∀ i, i < 5 → ¬ gD l i = -1 → wt E (gD l i) = 2 := fun i hi hn => by
    obtain ⟨a, ha, e⟩ := vS_pos (hv i (by omega)) hn
    rw [e]; exact wt_2 hE ha (h2 a ha)
  have h0 := hT
  rw [isT, endL, h5] at h0
  by_cases e0 : gD l 0 = -1
  · rw [tE_step _ _ (by omega) (by omega), e0, wt_m1, tE_0] at h0; cases h0
  · refine Classical.byContradiction (fun e2 => ?_)
    rw [tE_step _ _ (by omega) (by omega), hw 0 (by omega) e0, tE_step _ _ (by omega) (by omega), hw 1 (by omega) h1, tE_step _ _ (by omega) (by omega), hw 2 (by omega) e2, tE_step _ _ (by omega) (by omega), tE_step _ _ (by omega) (by omega), tE_n _ _ (by omega)] at h0
    cases h0
theorem hl_one {A : Nat} {E : Nat → Int32} {l : List Int32} (hE : vE A E) (hv : vR A l) (hT : isT E l) (h5 : l.length = 5) (h2 : ∀ a, a < A → E a = nI 2) {a en b : Nat} (ha : a < A) (hb : b < A) (hen : en < 2) : (gD l 0 = nI a ∧ gD l (1 + en) = nI b) ↔ dlC l = 8 * a + 4 * en + b := by
  have hA := hE.1
  obtain ⟨a', b', h1, h3, h4, h6⟩ := dl_shape hE hv hT h5 h2
  have nb : ∀ c, c < A → ¬ nI c = -1 := fun c hc => nI_neM1 (by omega)
  rw [dlC, h4, nI_clamp (by omega), nI_eq (by omega) (by omega)]
  rcases (show en = 0 ∨ en = 1 by omega) with q | q
  · subst q
    rcases h6 with ⟨g1, g2⟩ | ⟨g1, g2⟩
    · rw [if_neg g2, g1, nI_clamp (by omega), nI_eq (by omega) (by omega)]; omega
    · rw [if_pos g1, g2, nI_clamp (by omega), show gD l (1 + 0) = -1 from g1]
      exact ⟨fun z => absurd z.2.symm (nb b hb), fun z => by omega⟩
  · subst q
    rcases h6 with ⟨g1, g2⟩ | ⟨g1, g2⟩
    · rw [if_neg g2, g1, nI_clamp (by omega), show gD l (1 + 1) = -1 from dl_shape2 hE hv hT h5 h2 g2]
      exact ⟨fun z => absurd z.2.symm (nb b hb), fun z => by omega⟩
    · rw [if_pos g1, show gD l (1 + 1) = nI b' from g2, nI_clamp (by omega), nI_eq (by omega) (by omega)]; omega
theorem hl_my {A : Nat} {E : Nat → Int32} {R : Nat → List Int32} (hE : vE A E) (h2 : ∀ a, a < A → E a = nI 2) {a en b : Nat} (ha : a < A) (hb : b < A) (hen : en < 2) : ∀ {n : Nat}, (∀ j, j < n → vR A (R (10 + j)) ∧ isT E (R (10 + j)) ∧ (R (10 + j)).length = 5) → (hlF R a en b n = true ↔ ¬ myF R n (8 * a + 4 * en + b) = 0)
  | 0, _ => ⟨fun h => (by cases h), fun h => absurd rfl h⟩
  | n + 1, h => by
    have ih := hl_my hE h2 ha hb hen (n := n) (fun j hj => h j (by omega))
    have hn := h n (Nat.lt_succ_self n)
    have h1 := hl_one hE hn.1 hn.2.1 hn.2.2 h2 ha hb hen
    rw [hlF, Bool.or_eq_true, decide_eq_true_iff, h1, myF]
    by_cases hc : dlC (R (10 + n)) = 8 * a + 4 * en + b
    · rw [hc, pk_us]
      exact ⟨fun _ => by decide, fun _ => Or.inr rfl⟩
    · rw [pk_un (Ne.symm hc), ← ih]
      exact ⟨fun q => q.elim id (fun z => absurd z hc), fun q => Or.inl q⟩
/-- the nodes of the dual's count -/
def dNd (T : NT) (a en b m : Nat) : Prop := T.2.1 m = nI a ∧ T.2.2.1 en m = bitN b ∧ ∀ e, e < 3 → e ≠ en → T.2.2.1 e m = 0
def dP (R : Nat → List Int32) (n A a en b : Nat) : Prop := a < A ∧ en < 2 ∧ b < A ∧ hlF R a en b n = false
def DI (R : Nat → List Int32) (n A : Nat) (T : NT) (dn : Nat → Nat → Nat → Prop) : Prop := A ≤ T.1 ∧ (∀ c, c < A → T.2.1 c = nI c ∧ ∀ e, e < 3 → T.2.2.1 e c = 0) ∧ (∀ m, tb T.2.2.2.1 m = true ↔ A ≤ m ∧ m < T.1) ∧ (∀ m, A ≤ m → m < T.1 → ∃ a en b, dP R n A a en b ∧ dNd T a en b m) ∧ ∀ a en b, dP R n A a en b → dn a en b → ∃ m, A ≤ m ∧ m < T.1 ∧ dNd T a en b m
theorem da_ok {T0 : NT} : ∀ {a : Nat}, a ≤ 4 → (∀ c, c < a → (daN T0 a).2.1 c = nI c ∧ ∀ e, e < 3 → (daN T0 a).2.2.1 e c = 0) ∧ (daN T0 a).2.2.2.1 = 0
  | 0, _ => ⟨fun c hc => absurd hc (Nat.not_lt_zero _), rfl⟩
  | a + 1, h => by
    have ih := da_ok (T0 := T0) (a := a) (by omega)
    have hnd := daN_nd (T := T0) (a := a)
    rw [daN, adN]
    dsimp only
    rw [hnd]
    refine ⟨fun c hc => ?_, ih.2⟩
    by_cases hca : c = a
    · subst hca; exact ⟨pk_us, fun e _ => updL_s⟩
    · exact ⟨by rw [pk_un hca]; exact (ih.1 c (by omega)).1, fun e he => by rw [updL_n hca]; exact (ih.1 c (by omega)).2 e he⟩
theorem DI_0 {R : Nat → List Int32} {n A : Nat} {T0 : NT} (hA : A ≤ 4) : DI R n A (daN T0 A) (fun _ _ _ => False) := by
  have h := da_ok (T0 := T0) hA
  have hnd := daN_nd (T := T0) (a := A)
  refine ⟨by omega, h.1, fun m => ?_, fun m h1 h2 => absurd h2 (by omega), fun a en b _ h => h.elim⟩
  rw [h.2, tb_0, hnd]
  exact ⟨fun q => (by cases q), fun q => absurd q.2 (by omega)⟩
theorem DI_s {R : Nat → List Int32} {n A : Nat} {T : NT} {dn : Nat → Nat → Nat → Prop} (h : DI R n A T dn) {a en b : Nat} (ha : a < A) (hen : en < 2) (hb : b < A) (h36 : T.1 < 36) : DI R n A (duN R n T a en b) (fun x y z => dn x y z ∨ (x = a ∧ y = en ∧ z = b)) := by
  obtain ⟨h1, h2, h3, h4, h5⟩ := h
  by_cases hl : hlF R a en b n = true
  · rw [duN, if_pos hl]
    refine ⟨h1, h2, h3, h4, fun x y z hp hd => h5 x y z hp (hd.resolve_right ?_)⟩
    rintro ⟨rfl, rfl, rfl⟩
    have hp4 := hp.2.2.2
    rw [hl] at hp4; cases hp4
  · rw [duN, if_neg hl]
    have hl : hlF R a en b n = false := by rw [Bool.not_eq_true] at hl; exact hl
    have e1 : (ndN (adN T (nI a) true) en (bitN b)).1 = T.1 + 1 := rfl
    have ac : ∀ m, (ndN (adN T (nI a) true) en (bitN b)).2.1 m = upd T.2.1 T.1 (nI a) m := fun m => rfl
    have ne : ∀ e m, (ndN (adN T (nI a) true) en (bitN b)).2.2.1 e m = (if e = en then vp_updL (vp_updL (T.2.2.1 e) T.1 0) T.1 (bitN b) else vp_updL (T.2.2.1 e) T.1 0) m := fun e m => rfl
    have old : ∀ e m, m < T.1 → (ndN (adN T (nI a) true) en (bitN b)).2.2.1 e m = T.2.2.1 e m := fun e m hm => by
      rw [ne]
      split
      · rw [updL_n (by omega), updL_n (by omega)]
      · rw [updL_n (by omega)]
    have new : dNd (ndN (adN T (nI a) true) en (bitN b)) a en b T.1 := ⟨by rw [ac]; exact pk_us, by rw [ne, if_pos rfl]; exact updL_s, fun e he hne => by rw [ne, if_neg hne]; exact updL_s⟩
    have kp : ∀ {x y z m}, m < T.1 → dNd T x y z m → dNd (ndN (adN T (nI a) true) en (bitN b)) x y z m := fun hm q => ⟨by rw [ac, pk_un (by omega)]; exact q.1, by rw [old _ _ hm]; exact q.2.1, fun e he hne => by rw [old _ _ hm]; exact q.2.2 e he hne⟩
    refine ⟨by rw [e1]; omega, fun c hc => ⟨by rw [ac, pk_un (by omega)]; exact (h2 c hc).1, fun e he => by rw [old _ _ (by omega)]; exact (h2 c hc).2 e he⟩, fun m => ?_, fun m m1 m2 => ?_, fun x y z hp hd => ?_⟩
    · show tb (T.2.2.2.1 ||| bitN T.1) m = true ↔ A ≤ m ∧ m < T.1 + 1
      rw [tb_or, Bool.or_eq_true, h3 m, tb_bit h36, decide_eq_true_iff]; omega
    · rw [e1] at m2
      by_cases hm : m = T.1
      · subst hm; exact ⟨a, en, b, ⟨ha, hen, hb, hl⟩, new⟩
      · obtain ⟨x, y, z, q1, q2⟩ := h4 m m1 (by omega)
        exact ⟨x, y, z, q1, kp (by omega) q2⟩
    · rcases hd with hd | ⟨rfl, rfl, rfl⟩
      · obtain ⟨m, q1, q2, q3⟩ := h5 x y z hp hd
        exact ⟨m, q1, by rw [e1]; omega, kp q2 q3⟩
      · exact ⟨T.1, h1, by rw [e1]; omega, new⟩
theorem DI_mono {R : Nat → List Int32} {n A : Nat} {T : NT} {dn dn' : Nat → Nat → Nat → Prop} (h : DI R n A T dn) (hm : ∀ a en b, dP R n A a en b → dn' a en b → dn a en b) : DI R n A T dn' := ⟨h.1, h.2.1, h.2.2.1, h.2.2.2.1, fun a en b hp hd => h.2.2.2.2 a en b hp (hm a en b hp hd)⟩
theorem DI_b {R : Nat → List Int32} {n A : Nat} {T : NT} {a : Nat} (ha : a < A) (h : DI R n A T (fun x _ _ => x < a)) (h36 : T.1 + 2 * A ≤ 36) : ∀ {b : Nat}, b ≤ A → DI R n A (dbN R n T a b) (fun x _ z => x < a ∨ (x = a ∧ z < b))
  | 0, _ => DI_mono h (fun x y z _ hd => hd.elim id (fun q => absurd q.2 (Nat.not_lt_zero _)))
  | b + 1, hb => by
    have ih := DI_b ha h h36 (b := b) (by omega)
    have n1 := dbN_nd (R := R) (n := n) (T := T) (a := a) (b := b)
    have n2 := (duN_nd (R := R) (n := n) (T := dbN R n T a b) (a := a) (en := 0) (b := b)).2
    have s1 := DI_s ih (a := a) (en := 0) (b := b) ha (by decide) (by omega) (by omega)
    have s2 := DI_s s1 (a := a) (en := 1) (b := b) ha (by decide) (by omega) (by omega)
    refine DI_mono s2 (fun x y z hp hd => ?_)
    have := hp.2.1
    rcases hd with q | ⟨q1, q2⟩
    · exact Or.inl (Or.inl (Or.inl q))
    · by_cases hz : z = b
      · rcases (show y = 0 ∨ y = 1 by omega) with q | q
        · exact Or.inl (Or.inr ⟨q1, q, hz⟩)
        · exact Or.inr ⟨q1, q, hz⟩
      · exact Or.inl (Or.inl (Or.inr ⟨q1, by omega⟩))
theorem DI_c {R : Nat → List Int32} {n A : Nat} {T0 : NT} (hA : A ≤ 4) : ∀ {a : Nat}, a ≤ A → DI R n A (dcN R n A (daN T0 A) a) (fun x _ _ => x < a)
  | 0, _ => DI_mono (DI_0 hA) (fun x y z _ hd => absurd hd (Nat.not_lt_zero _))
  | a + 1, ha => by
    have n1 := dcN_nd (R := R) (n := n) (A := A) (T := daN T0 A) (a := a)
    rw [daN_nd] at n1
    have hb : 2 * A * a + 3 * A ≤ 36 := by
      rcases (show A = 0 ∨ A = 1 ∨ A = 2 ∨ A = 3 ∨ A = 4 by omega) with q | q | q | q | q <;> subst q <;> omega
    have := DI_b (T := dcN R n A (daN T0 A) a) (by omega) (DI_c hA (a := a) (by omega)) (by omega) (b := A) (Nat.le_refl _)
    exact DI_mono this (fun x y z hp hd => by
      have := hp.2.2.1
      rcases Nat.lt_or_ge x a with q | q
      · exact Or.inl q
      · exact Or.inr ⟨by omega, this⟩)
