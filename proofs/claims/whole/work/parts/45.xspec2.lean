/-! the class's Shape: where trees end, how high they are -/
theorem sy_dec (i : Nat) : nI i + Int32.ofInt (-1) = sy i := by rw [sy, Int32.sub_eq_add_neg]; rfl
theorem sy_neg {j : Nat} (hj : j < 2 ^ 31) : sy j < 0 ↔ j = 0 := by rw [i_lt, sy_toInt hj, show (0 : Int32).toInt = 0 by decide]; omega
/-- the ends are known from place j on -/
def eFr (E : Nat → Int32) (l : List Int32) (f : Nat → Int32) (j : Nat) : Prop := ∀ i, j ≤ i → i < l.length → ∀ q, endL E l i = some q → f i = nI q
theorem eFr_s {E : Nat → Int32} {l : List Int32} {f : Nat → Int32} {i q : Nat} (h : eFr E l f (i + 1)) (hq : endL E l i = some q) : eFr E l (upd f i (nI q)) i := by
  intro i2 h1 h2 q2 h3
  by_cases h9 : i2 = i
  · subst h9; rw [pk_us]; rw [hq] at h3; cases h3; rfl
  · rw [pk_un h9]; exact h i2 (by omega) h2 q2 h3
def eN (E : Nat → Int32) (l : List Int32) (i : Nat) : Nat := (endL E l i).getD 0
/-- the acts among the first i whose trees reach over p -/
def opF (E : Nat → Int32) (l : List Int32) (p : Nat) : Nat → Nat
  | 0 => 0
  | i + 1 => opF E l p i + (if ¬ gD l i = -1 ∧ p < eN E l i then 1 else 0)
theorem opF_t {E : Nat → Int32} {l : List Int32} {p i : Nat} (h : ¬ gD l i = -1) (h2 : p < eN E l i) : opF E l p (i + 1) = opF E l p i + 1 := by rw [opF, if_pos ⟨h, h2⟩]
theorem opF_f {E : Nat → Int32} {l : List Int32} {p i : Nat} (h : ¬ (¬ gD l i = -1 ∧ p < eN E l i)) : opF E l p (i + 1) = opF E l p i := by rw [opF, if_neg h]; rfl
/-- the open acts by their ends -/
def CH (w : Int32 → Nat) (g : Nat → Int32) (n i0 : Nat) : Nat → List Nat → Nat → (Nat → Nat) → Prop
  | _, [], _, f => ∀ p, i0 ≤ p → f p = 0
  | d, r :: rs, i, f => ∃ z f', tE w g (n - i) (r - d) i = some z ∧ (∀ p, i0 ≤ p → f p = f' p + (if p < z then 1 else 0)) ∧ CH w g n i0 1 rs z f'
theorem CH_mono {w : Int32 → Nat} {g : Nat → Int32} {n i0 i1 : Nat} (hi : i0 ≤ i1) : ∀ {st : List Nat} {d i : Nat} {f : Nat → Nat}, CH w g n i0 d st i f → CH w g n i1 d st i f
  | [], _, _, _, h => fun p hp => h p (by omega)
  | r :: rs, d, i, f, h => by
    obtain ⟨z, f', h1, h2, h3⟩ := h
    exact ⟨z, f', h1, fun p hp => h2 p (by omega), CH_mono hi h3⟩
theorem CH_len {w : Int32 → Nat} {g : Nat → Int32} {n i0 : Nat} : ∀ {st : List Nat} {d i : Nat} {f : Nat → Nat}, CH w g n i0 d st i f → i0 < i → f i0 = st.length
  | [], _, _, _, h, _ => h i0 (Nat.le_refl _)
  | r :: rs, d, i, f, h, hi => by
    obtain ⟨z, f', h1, h2, h3⟩ := h
    have := (tE_le _ _ _ _ _ _ h1).1
    rw [h2 i0 (Nat.le_refl _), if_pos (by omega), CH_len h3 (by omega)]; rfl
theorem CH_len0 {w : Int32 → Nat} {g : Nat → Int32} {n i0 : Nat} {st : List Nat} {f : Nat → Nat} (h : CH w g n i0 0 st i0 f) (hp : stP st) : f i0 = st.length := by
  cases st with
  | nil => exact h i0 (Nat.le_refl _)
  | cons r rs =>
    obtain ⟨z, f', h1, h2, h3⟩ := h
    have hr := (hp r (List.mem_cons_self ..)).1
    have hz : i0 < z := by
      have hlt := tE_lt (show 0 < r - 0 by omega) h1
      obtain ⟨y, h4, -, -, h5⟩ := tE_one (show 0 < r - 0 by omega) (Nat.le_of_lt hlt) h1
      have := (tE_le _ _ _ _ _ _ h5).1
      omega
    rw [h2 i0 (Nat.le_refl _), if_pos hz, CH_len h3 hz]; rfl
theorem CH_D {w : Int32 → Nat} {g : Nat → Int32} {n i0 : Nat} : ∀ {st : List Nat} {f : Nat → Nat}, CH w g n i0 1 st i0 f → CH w g n i0 0 (stD st) i0 f
  | [], _, h => h
  | r :: rs, f, h => by
    obtain ⟨z, f', h1, h2, h3⟩ := h
    rw [stD]
    by_cases hr : r - 1 = 0
    · rw [if_pos hr]
      rw [hr, tE_0] at h1
      cases h1
      have e : ∀ p, i0 ≤ p → f p = f' p := fun p hp => by rw [h2 p hp, if_neg (by omega)]; rfl
      have h4 := CH_D h3
      have hx : ∀ {st : List Nat} {d i : Nat} {f f' : Nat → Nat}, (∀ p, i0 ≤ p → f p = f' p) → CH w g n i0 d st i f' → CH w g n i0 d st i f := by
        intro st d i f f' e h
        cases st with
        | nil => exact fun p hp => by rw [e p hp]; exact h p hp
        | cons r rs => obtain ⟨z, f2, h1, h2, h3⟩ := h; exact ⟨z, f2, h1, fun p hp => by rw [e p hp]; exact h2 p hp, h3⟩
      exact hx e h4
    · rw [if_neg hr]
      exact ⟨z, f', h1, h2, h3⟩
theorem CH_leaf {w : Int32 → Nat} {g : Nat → Int32} {n i : Nat} {st : List Nat} {f : Nat → Nat} (hi : i < n) (hw : w (g i) = 0) (hp : stP st) (h : CH w g n i 0 st i f) : CH w g n (i + 1) 0 (stD st) (i + 1) f := by
  refine CH_D ?_
  cases st with
  | nil => exact fun p hp => h p (by omega)
  | cons r rs =>
    obtain ⟨z, f', h1, h2, h3⟩ := h
    have hr := (hp r (List.mem_cons_self ..)).1
    rw [tE_step _ _ (by omega) hi, hw] at h1
    exact ⟨z, f', h1, fun p hp => h2 p (by omega), CH_mono (by omega) h3⟩
theorem CH_act {w : Int32 → Nat} {g : Nat → Int32} {n i q : Nat} {st : List Nat} {f f2 : Nat → Nat} (hi : i < n) (hq : tE w g (n - i) 1 i = some q) (hp : stP st) (h : CH w g n i 0 st i f) (hf : ∀ p, f2 p = f p + (if p < q then 1 else 0)) : CH w g n (i + 1) 0 (w (g i) :: st) (i + 1) f2 := by
  refine ⟨q, f, ?_, fun p _ => hf p, ?_⟩
  · rw [tE_step _ _ Nat.one_pos hi, Nat.add_sub_cancel_left] at hq; exact hq
  · cases st with
    | nil => exact fun p hp => h p (by omega)
    | cons r rs =>
      obtain ⟨z, f', h1, h2, h3⟩ := h
      have hr := (hp r (List.mem_cons_self ..)).1
      obtain ⟨y, -, -, h4, h5⟩ := tE_one (show 0 < r - 0 by omega) (Nat.le_of_lt hi) h1
      rw [hq] at h4; cases h4
      exact ⟨z, f', h5, fun p hp => h2 p (by omega), CH_mono (by omega) h3⟩
theorem CH_at {A : Nat} {E : Nat → Int32} {l : List Int32} (hE : vE A E) (hV : vR A l) (hT : isT E l) : ∀ i, i ≤ l.length → CH (wt E) (gD l) l.length i 0 (hgS (wt E) (gD l) i).1 i (fun p => opF E l p i)
  | 0, _ => fun _ _ => rfl
  | i + 1, hi => by
    have ih := CH_at hE hV hT i (by omega)
    have hp := hgS_pos (g := gD l) hE i (fun j hj => hV j (by omega))
    by_cases hl : gD l i = -1
    · rw [hgS_l hl]
      have := CH_leaf (show i < l.length by omega) (by rw [hl, wt_m1]) hp ih
      rw [show (fun p => opF E l p (i + 1)) = (fun p => opF E l p i) from funext (fun p => opF_f (fun h => h.1 hl))]
      exact this
    · rw [hgS_a hl]
      obtain ⟨q, h1, -, -⟩ := isT_end hT (show i < l.length by omega)
      refine CH_act (by omega) h1 hp ih (fun p => ?_)
      have e : eN E l i = q := by rw [eN, h1]; rfl
      show opF E l p i + _ = _
      rw [e]
      by_cases h2 : p < q
      · rw [if_pos ⟨hl, h2⟩, if_pos h2]
      · rw [if_neg (fun h => h2 h.2), if_neg h2]
theorem hgS_lm (w : Int32 → Nat) (g : Nat → Int32) : ∀ i, (hgS w g i).1.length ≤ (hgS w g i).2
  | 0 => Nat.le_refl _
  | i + 1 => by
    have ih := hgS_lm w g i
    by_cases hl : g i = -1
    · rw [hgS_l hl]; have := stD_len (hgS w g i).1; show (stD _).length ≤ (hgS w g i).2; omega
    · rw [hgS_a hl]; exact Nat.le_max_right _ _
theorem hgS_max {A : Nat} {E : Nat → Int32} {l : List Int32} (hE : vE A E) (hV : vR A l) (hT : isT E l) {i : Nat} (hi : i < l.length) : (hgS (wt E) (gD l) (i + 1)).2 = max (hgS (wt E) (gD l) i).2 (opF E l i (i + 1)) := by
  have h0 := CH_len0 (CH_at hE hV hT i (by omega)) (hgS_pos (g := gD l) hE i (fun j hj => hV j (by omega)))
  have h0 : opF E l i i = (hgS (wt E) (gD l) i).1.length := h0
  by_cases hl : gD l i = -1
  · rw [hgS_l hl, opF_f (fun h => h.1 hl), h0]
    have := hgS_lm (wt E) (gD l) i
    show (hgS (wt E) (gD l) i).2 = _
    omega
  · obtain ⟨q, h1, h2, -⟩ := isT_end hT hi
    rw [hgS_a hl, opF_t hl (by rw [eN, h1]; exact h2), h0]
theorem opF_le (E : Nat → Int32) (l : List Int32) (p : Nat) : ∀ i, opF E l p i ≤ i
  | 0 => Nat.le_refl _
  | i + 1 => by have := opF_le E l p i; rw [opF]; split <;> omega
theorem nI_max {a b : Nat} (ha : a < 2 ^ 31) (hb : b < 2 ^ 31) : (if nI a < nI b then nI b else nI a) = nI (max a b) := by
  by_cases h : a < b
  · rw [if_pos ((by rw [i_lt, nI_toInt ha, nI_toInt hb]; omega)), Nat.max_eq_right (by omega)]
  · rw [if_neg ((by rw [i_lt, nI_toInt ha, nI_toInt hb]; omega)), Nat.max_eq_left (by omega)]
/-- a left tree of size two with an act above and another at an entry -/
def hlF (R : Nat → List Int32) (a en b : Nat) : Nat → Bool
  | 0 => false
  | i + 1 => hlF R a en b i || decide (gD (R (10 + i)) 0 = nI a ∧ gD (R (10 + i)) (1 + en) = nI b)
theorem hlF_n {R : Nat → List Int32} {a en b i : Nat} (h : hlF R a en b i = false) (h2 : ¬ (gD (R (10 + i)) 0 = nI a ∧ gD (R (10 + i)) (1 + en) = nI b)) : hlF R a en b (i + 1) = false := by rw [hlF, h, decide_eq_false h2]; rfl
theorem hlF_y {R : Nat → List Int32} {a en b i : Nat} (h2 : gD (R (10 + i)) 0 = nI a ∧ gD (R (10 + i)) (1 + en) = nI b) : ∀ {n : Nat}, i < n → hlF R a en b n = true
  | 0, h => absurd h (Nat.not_lt_zero _)
  | n + 1, h => by
    rw [hlF]
    by_cases e : i = n
    · subst e; rw [decide_eq_true h2, Bool.or_true]
    · rw [hlF_y h2 (show i < n by omega), Bool.true_or]
