/-! the nodes that the class lays stand for the left trees -/
def ndP (T : NT) (E : Nat → Int32) (l : List Int32) (mu : Nat → Nat) (j : Nat) : Prop := mu j < T.1 ∧ T.2.1 (mu j) = gD l j ∧ ∀ e, e < 3 → T.2.2.1 e (mu j) = if e < wt E (gD l j) then (if gD l (chP E l j e) = -1 then 0 else bitN (mu (chP E l j e))) else 0
def PB (T : NT) (E : Nat → Int32) (l : List Int32) (i : Nat) (mu : Nat → Nat) : Prop := ∀ j, i ≤ j → j < l.length → (gD l j = -1 → T.2.2.2.2 j = 0) ∧ (¬ gD l j = -1 → T.2.2.2.2 j = bitN (mu j) ∧ ndP T E l mu j)
def keepN (T T1 : NT) : Prop := T.1 ≤ T1.1 ∧ (∀ m, m < T.1 → T1.2.1 m = T.2.1 m) ∧ ∀ e, e < 3 → ∀ m, m < T.1 → T1.2.2.1 e m = T.2.2.1 e m
theorem keepN_tr {T T1 T2 : NT} (h : keepN T T1) (h2 : keepN T1 T2) : keepN T T2 := ⟨Nat.le_trans h.1 h2.1, fun m hm => (h2.2.1 m (Nat.lt_of_lt_of_le hm h.1)).trans (h.2.1 m hm), fun e he m hm => (h2.2.2 e he m (Nat.lt_of_lt_of_le hm h.1)).trans (h.2.2 e he m hm)⟩
theorem ndP_keep {T T1 : NT} {E : Nat → Int32} {l : List Int32} {mu : Nat → Nat} {j : Nat} (h : ndP T E l mu j) (hk : keepN T T1) : ndP T1 E l mu j := ⟨Nat.lt_of_lt_of_le h.1 hk.1, (hk.2.1 _ h.1).trans h.2.1, fun e he => (hk.2.2 e he _ h.1).trans (h.2.2 e he)⟩
theorem fbS_keep {T : NT} {E : Nat → Int32} {l : List Int32} {i : Nat} : keepN T (fbS E l T i) := by
  by_cases h : gD l i = -1
  · rw [fbS_n h]; exact ⟨Nat.le_refl _, fun _ _ => rfl, fun _ _ _ _ => rfl⟩
  · rw [fbS_y h rfl]
    refine ⟨Nat.le_succ _, fun m hm => ?_, fun e he m hm => ?_⟩
    · show upd T.2.1 T.1 (gD l i) m = _
      rw [pk_un (by omega)]
    · show (if e < wt E (gD l i) then vp_updL (vp_updL (T.2.2.1 e) T.1 0) T.1 _ else vp_updL (T.2.2.1 e) T.1 0) m = _
      split
      · rw [updL_n (by omega), updL_n (by omega)]
      · rw [updL_n (by omega)]
theorem fbS_fb {T : NT} {E : Nat → Int32} {l : List Int32} {i : Nat} (hn : T.1 < 36) (m : Nat) : tb (fbS E l T i).2.2.2.1 m = true ↔ tb T.2.2.2.1 m = true ∨ (i = 0 ∧ ¬ gD l i = -1 ∧ m = T.1) := by
  by_cases h : gD l i = -1
  · rw [fbS_n h]
    exact ⟨fun q => Or.inl q, fun q => q.elim id (fun z => absurd h z.2.1)⟩
  · rw [fbS_y h rfl]
    show tb (if decide (i = 0) = true then T.2.2.2.1 ||| bitN T.1 else T.2.2.2.1) m = true ↔ _
    by_cases hi : i = 0
    · rw [if_pos (decide_eq_true hi), tb_or, Bool.or_eq_true, tb_bit hn, decide_eq_true_iff]
      exact ⟨fun q => q.elim Or.inl (fun z => Or.inr ⟨hi, h, z⟩), fun q => q.elim Or.inl (fun z => Or.inr z.2.2)⟩
    · rw [if_neg (by rw [decide_eq_false hi]; decide)]
      exact ⟨fun q => Or.inl q, fun q => q.elim id (fun z => absurd z.1 hi)⟩
theorem PB_s {T : NT} {E : Nat → Int32} {l : List Int32} {i : Nat} {mu : Nat → Nat} (hT : isT E l) (hi : i < l.length) (h : PB T E l (i + 1) mu) : PB (fbS E l T i) E l i (va_up mu i T.1) := by
  have hbits : ∀ j, i < j → (fbS E l T i).2.2.2.2 j = T.2.2.2.2 j := by
    intro j hj
    by_cases hl : gD l i = -1
    · rw [fbS_n hl]; exact updL_n (by omega)
    · rw [fbS_y hl rfl]
      show vp_updL (vp_updL T.2.2.2.2 i 0) i (bitN T.1) j = _
      rw [updL_n (by omega), updL_n (by omega)]
  intro j h1 h2
  by_cases hj : j = i
  · subst hj
    constructor
    · intro hl; rw [fbS_n hl]; exact updL_s
    · intro hl
      have hnd : (fbS E l T j).1 = T.1 + 1 := by rw [fbS_nd, if_neg hl]
      refine ⟨?_, ?_⟩
      · rw [fbS_y hl rfl]
        show vp_updL (vp_updL T.2.2.2.2 j 0) j (bitN T.1) j = bitN (va_up mu j T.1 j)
        rw [updL_s, va_up_self]
      · refine ⟨by rw [hnd, va_up_self]; exact Nat.lt_succ_self _, ?_, fun e he => ?_⟩
        · rw [va_up_self, fbS_y hl rfl]
          exact pk_us
        · rw [va_up_self, fbS_y hl rfl]
          show (if e < wt E (gD l j) then vp_updL (vp_updL (T.2.2.1 e) T.1 0) T.1 (vp_updL (vp_updL T.2.2.2.2 j 0) j (bitN T.1) (chP E l j e)) else vp_updL (T.2.2.1 e) T.1 0) T.1 = _
          by_cases hw : e < wt E (gD l j)
          · rw [if_pos hw, if_pos hw, updL_s]
            have hgt := chP_gt hT hi (k := e) (by omega)
            have hlt := (chP_s hT hi hw).1
            rw [updL_n (by omega), updL_n (by omega)]
            by_cases hc : gD l (chP E l j e) = -1
            · rw [if_pos hc]; exact (h _ (by omega) hlt).1 hc
            · rw [if_neg hc, upn (show chP E l j e ≠ j by omega)]; exact ((h _ (by omega) hlt).2 hc).1
          · rw [if_neg hw, if_neg hw, updL_s]
  · have hq := h j (by omega) h2
    rw [hbits j (by omega)]
    refine ⟨hq.1, fun hl => ?_⟩
    rw [upn hj]
    refine ⟨(hq.2 hl).1, ?_⟩
    have hk := ndP_keep (hq.2 hl).2 (fbS_keep (E := E) (l := l) (i := i))
    refine ⟨by rw [upn hj]; exact hk.1, by rw [upn hj]; exact hk.2.1, fun e he => ?_⟩
    rw [upn hj, hk.2.2 e he]
    by_cases hw : e < wt E (gD l j)
    · rw [if_pos hw, if_pos hw]
      have hgt := chP_gt hT h2 (k := e) (by omega)
      rw [upn (show chP E l j e ≠ i by omega)]
    · rw [if_neg hw, if_neg hw]
theorem fbF_ok {E : Nat → Int32} {l : List Int32} (hT : isT E l) : ∀ (i : Nat) (T : NT) (mu : Nat → Nat), i ≤ l.length → PB T E l i mu → T.1 + acN l i ≤ 36 → ∃ mu', PB (fbF E l T i) E l 0 mu' ∧ keepN T (fbF E l T i) ∧ (∀ m, tb (fbF E l T i).2.2.2.1 m = true ↔ tb T.2.2.2.1 m = true ∨ (0 < i ∧ ¬ gD l 0 = -1 ∧ m = mu' 0)) ∧ ∀ j, i ≤ j → mu' j = mu j
  | 0, T, mu, _, h, _ => ⟨mu, h, ⟨Nat.le_refl _, fun _ _ => rfl, fun _ _ _ _ => rfl⟩, fun m => ⟨fun q => Or.inl q, fun q => q.elim id (fun z => absurd z.1 (Nat.lt_irrefl _))⟩, fun _ _ => rfl⟩
  | i + 1, T, mu, hi, h, hn => by
    have hPB := PB_s hT (show i < l.length by omega) h
    have hnd : (fbS E l T i).1 + acN l i ≤ 36 := by
      rw [fbS_nd]; rw [acN] at hn; omega
    obtain ⟨mu', g1, g2, g3, g4⟩ := fbF_ok hT i (fbS E l T i) _ (by omega) hPB hnd
    refine ⟨mu', g1, keepN_tr fbS_keep g2, fun m => ?_, fun j hj => ?_⟩
    · rw [fbF, g3 m]
      by_cases hl : gD l i = -1
      · have e : tb (fbS E l T i).2.2.2.1 m = tb T.2.2.2.1 m := by rw [fbS_n hl]; rfl
        rw [e]
        constructor
        · rintro (q | q)
          · exact Or.inl q
          · exact Or.inr ⟨Nat.succ_pos _, q.2⟩
        · rintro (q | q)
          · exact Or.inl q
          · refine Or.inr ⟨?_, q.2⟩
            rcases Nat.eq_zero_or_pos i with z | z
            · subst z; exact absurd hl q.2.1
            · exact z
      · have hT36 : T.1 < 36 := by rw [acN_y hl] at hn; omega
        rw [fbS_fb hT36]
        constructor
        · rintro ((q | q) | q)
          · exact Or.inl q
          · obtain ⟨q1, q2, q3⟩ := q
            subst q1
            refine Or.inr ⟨Nat.succ_pos _, q2, ?_⟩
            rw [q3, g4 0 (Nat.le_refl _), va_up_self]
          · exact Or.inr ⟨Nat.succ_pos _, q.2⟩
        · rintro (q | q)
          · exact Or.inl (Or.inl q)
          · rcases Nat.eq_zero_or_pos i with z | z
            · subst z
              refine Or.inl (Or.inr ⟨rfl, q.2.1, ?_⟩)
              rw [q.2.2, g4 0 (Nat.le_refl _), va_up_self]
            · exact Or.inr ⟨z, q.2⟩
    · rw [g4 j (by omega), upn (by omega)]
theorem flF_ok {E : Nat → Int32} {R : Nat → List Int32} {T0 : NT} : ∀ {n : Nat}, n ≤ 8 → (∀ j, j < n → isT E (R (10 + j))) → (∀ j, j < n → ¬ gD (R (10 + j)) 0 = -1) → (∀ j, j < n → (R (10 + j)).length - lvs (R (10 + j)) ≤ 4) → ∃ nu, tabOK (flF E R T0 n) E R n nu ∧ fbOK (flF E R T0 n) n nu
  | 0, _, _, _, _ => ⟨fun _ _ => 0, fun k hk => absurd hk (Nat.not_lt_zero _), fun m => by
      show tb 0 m = true ↔ _
      rw [tb_0]
      exact ⟨fun h => (by cases h), fun ⟨k, hk, _⟩ => absurd hk (Nat.not_lt_zero _)⟩⟩
  | n + 1, hn, hT, h0, h4 => by
    obtain ⟨nu, g1, g2⟩ := flF_ok (T0 := T0) (n := n) (by omega) (fun j hj => hT j (by omega)) (fun j hj => h0 j (by omega)) (fun j hj => h4 j (by omega))
    have hnd := flF_nd (E := E) (T := T0) (n := n) (fun j hj => h4 j (by omega))
    have hTn := hT n (Nat.lt_succ_self n)
    have ha : acN (R (10 + n)) (R (10 + n)).length ≤ 4 := by
      have h1 := h4 n (Nat.lt_succ_self n)
      have h3 := acN_cF (l := R (10 + n)) (R (10 + n)).length
      have e : lvs (R (10 + n)) = cF (gD (R (10 + n))) (R (10 + n)).length := rfl
      omega
    obtain ⟨mu, p1, p2, p3, -⟩ := fbF_ok hTn (R (10 + n)).length (flF E R T0 n) (fun _ => 0) (Nat.le_refl _) (fun j h1 h2 => absurd h2 (by omega)) (by omega)
    refine ⟨va_up nu n mu, fun k hk i hi hl => ?_, fun m => ?_⟩
    · by_cases hkn : k = n
      · subst hkn
        have := ((p1 i (Nat.zero_le _) hi).2 hl).2
        refine ⟨by rw [va_up_self]; exact this.1, by rw [va_up_self]; exact this.2.1, fun e he => ?_⟩
        rw [va_up_self]; exact this.2.2 e he
      · have q := g1 k (by omega) i hi hl
        refine ⟨by rw [upn hkn]; exact Nat.lt_of_lt_of_le q.1 p2.1, by rw [upn hkn]; exact (p2.2.1 _ q.1).trans q.2.1, fun e he => ?_⟩
        rw [upn hkn]; exact (p2.2.2 e he _ q.1).trans (q.2.2 e he)
    · rw [flF, p3 m, g2 m]
      constructor
      · rintro (⟨k, hk, e⟩ | ⟨-, -, e⟩)
        · exact ⟨k, by omega, by rw [upn (by omega)]; exact e⟩
        · exact ⟨n, Nat.lt_succ_self _, by rw [va_up_self]; exact e⟩
      · rintro ⟨k, hk, e⟩
        by_cases hkn : k = n
        · rw [hkn, va_up_self] at e
          exact Or.inr ⟨isT_pos hTn, h0 n (Nat.lt_succ_self n), e⟩
        · rw [upn hkn] at e
          exact Or.inl ⟨k, by omega, e⟩
/-- howMany's values -/
theorem cen_many {A : Nat} {E : Nat → Int32} {R : Nat → List Int32} {n : Nat} (hE : vE A E) (hn8 : n ≤ 8) (hT : ∀ j, j < n → isT E (R (10 + j))) (h0 : ∀ j, j < n → ¬ gD (R (10 + j)) 0 = -1) (h4 : ∀ j, j < n → (R (10 + j)).length - lvs (R (10 + j)) ≤ 4) (T0 : NT) (j : Nat) (h1 : 1 ≤ j) (h6 : j ≤ 6) : SgT (flF E R T0 n) E A j = cmM E R n A j := by
  rw [cmM]
  by_cases hj : j = 1
  · rw [if_pos hj, hj]
    exact Sg_1 (Nat.le_refl 1)
  · rw [if_neg hj]
    obtain ⟨nu, g1, g2⟩ := flF_ok (T0 := T0) hn8 hT h0 h4
    have hnd := flF_nd (E := E) (T := T0) (n := n) h4
    exact cen_of hE hT h0 (by omega) g1 g2 h1 h6
