/-! the law's invariant: the class's own shape, its caches, the reference beside it -/
def LA (A n : Nat) (v : Nat → Int32) (R : Nat → List Int32) (F : Nat → Nat → Int32) : Prop :=
  vE A (F 0) ∧ v 0 = nI A ∧ v 1 = nI n ∧ n ≤ 8 ∧ (∀ r, r < 26 → vR A (R r)) ∧ rlT (F 0) R n (tnX v) ∧ ∀ j, j < n → 1 ≤ szL (R (10 + j)) ∧ szL (R (10 + j)) ≤ 4
def LC (A n : Nat) (v : Nat → Int32) (R : Nat → List Int32) (F : Nat → Nat → Int32) (G : Nat → Nat → Int64) : Prop :=
  (¬ v 2 = 0 → ∀ j, 1 ≤ j → j ≤ 6 → G 0 j = cmM (F 0) R n A j) ∧ (¬ v 3 = 0 → ∀ j, 1 ≤ j → j ≤ 6 → G 1 j = duM A R n j) ∧ (¬ v 5 = 0 → v 4 = pCloses (F 0) R n (tnX v)) ∧ srZ G
def LM (A n : Nat) (v : Nat → Int32) (R : Nat → List Int32) (F : Nat → Nat → Int32) (w : Nat → Int32) (Q : Nat → List Int32) (K : Nat → Nat → Int32) (J : Nat → Nat → Int64) : Prop :=
  w 0 = nI A ∧ w 4 = nI n ∧ K 1 = F 0 ∧ K 4 = tnX v ∧ eqR R Q ∧ (¬ w 6 = 0 → ∀ j, 1 ≤ j → j ≤ 6 → J 5 j = cmM (F 0) R n A j)
def LL (A n : Nat) (u z : MS) : Prop := LA A n u.1 u.2.1 u.2.2.1 ∧ LC A n u.1 u.2.1 u.2.2.1 u.2.2.2 ∧ LM A n u.1 u.2.1 u.2.2.1 z.1 z.2.1 z.2.2.1 z.2.2.2
section LV
variable {A n : Nat} {v v1 w w1 : Nat → Int32} {R R1 Q Q1 : Nat → List Int32} {F F1 K K1 : Nat → Nat → Int32} {G G1 J J1 : Nat → Nat → Int64}
theorem LA.hT (h : LA A n v R F) : ∀ j, j < n → isT (F 0) (R (10 + j)) := fun j hj => (h.2.2.2.2.2.1 j hj).1
theorem LA.hVl (h : LA A n v R F) : ∀ j, j < n → vR A (R (10 + j)) := fun j hj => h.2.2.2.2.1 _ (by have := h.2.2.2.1; omega)
theorem LA.hVr (h : LA A n v R F) : ∀ j, j < n → vR A (R (18 + j)) := fun j hj => h.2.2.2.2.1 _ (by have := h.2.2.2.1; omega)
theorem LA.hV (h : LA A n v R F) : ∀ r, r < 10 → vR A (R r) := fun r hr => h.2.2.2.2.1 r (by omega)
theorem tE_sum3 {w : Int32 → Nat} {g : Nat → Int32} {n : Nat} (hw : ∀ i, i < n → w (g i) ≤ if g i = -1 then 0 else 3) : ∀ (f k i : Nat), n - i = f → i ≤ n → tE w g f k i = some n → (n - i) + 3 * cF g n ≤ k + 3 * (n - i) + 3 * cF g i
  | f, 0, i, hf, hi, h => by rw [tE_0] at h; cases h; omega
  | 0, _ + 1, _, _, _, h => by cases h
  | f + 1, k + 1, i, hf, hi, h => by
    rw [tE] at h
    have ih := tE_sum3 hw f (k + w (g i)) (i + 1) (by omega) (by omega) h
    have hq := hw i (by omega)
    by_cases hl : g i = -1
    · rw [if_pos hl] at hq; rw [cF_t hl] at ih; omega
    · rw [if_neg hl] at hq; rw [cF_f hl] at ih; omega
theorem len_sz {E : Nat → Int32} {l : List Int32} (hE : vE A E) (hv : vR A l) (hT : isT E l) : l.length ≤ 1 + 3 * szL l := by
  have := tE_sum3 (w := wt E) (g := gD l) (n := l.length) (fun i hi => by
    by_cases hl : gD l i = -1
    · rw [if_pos hl, hl, wt_m1]; exact Nat.le_refl 0
    · rw [if_neg hl]; exact wt_le hE (hv i hi)) (l.length - 0) 1 0 rfl (Nat.zero_le _) hT
  rw [show cF (gD l) 0 = 0 from rfl] at this
  have h2 := lvs_le l
  show l.length ≤ 1 + 3 * (l.length - lvs l)
  have h3 : cF (gD l) l.length = lvs l := rfl
  omega
theorem LA.h13 (h : LA A n v R F) : ∀ j, j < n → (R (10 + j)).length ≤ 13 := fun j hj => by
  have h1 := len_sz h.1 (h.hVl j hj) (h.hT j hj)
  have h2 := (h.2.2.2.2.2.2 j hj).2
  omega
theorem LA.hL (h : LA A n v R F) : ∀ j, j < n → lvs (R (10 + j)) ≤ 13 := fun j hj => Nat.le_trans (lvs_le _) (h.h13 j hj)
theorem first_act {E : Nat → Int32} {l : List Int32} (hT : isT E l) (h1 : 1 ≤ szL l) : ¬ gD l 0 = -1 := fun e => by
  have hp := isT_pos hT
  have h2 := endL_leaf (E := E) hp e
  rw [hT] at h2
  have h3 : l.length = 1 := by injection h2
  have h4 : lvs l = 1 := by
    show cF (gD l) l.length = 1
    rw [h3, show (1 : Nat) = 0 + 1 from rfl, cF_t e]; rfl
  have : szL l = l.length - lvs l := rfl
  omega
theorem LA.hl0 (h : LA A n v R F) : ∀ j, j < n → ¬ gD (R (10 + j)) 0 = -1 := fun j hj => first_act (h.hT j hj) (h.2.2.2.2.2.2 j hj).1
theorem LA.hQ0 (h : LA A n v R F) : ∀ j, j < n → tnX v j = 0 → lvs (R (10 + j)) = lvs (R (18 + j)) := fun j hj e => ((h.2.2.2.2.2.1 j hj).2 e).2
theorem LA.keep (h : LA A n v R F) (hv : ∀ k, k < 2 ∨ 17 ≤ k → v1 k = v k) (hF : F1 0 = F 0) (hR : ∀ k, 10 ≤ k → k < 26 → R1 k = R k) (hV : ∀ r, r < 10 → vR A (R1 r)) : LA A n v1 R1 F1 := by
  obtain ⟨a1, a2, a3, a4, a5, a6, a7⟩ := h
  have ht : tnX v1 = tnX v := funext (fun j => hv _ (Or.inr (by omega)))
  refine ⟨by rw [hF]; exact a1, by rw [hv 0 (by omega)]; exact a2, by rw [hv 1 (by omega)]; exact a3, a4, fun r hr => ?_, ?_, fun j hj => ?_⟩
  · rcases Nat.lt_or_ge r 10 with z | z
    · exact hV r z
    · rw [hR r z hr]; exact a5 r hr
  · rw [hF, ht]; exact rlT_congr a6 (ru_hi hR a4).1 (ru_hi hR a4).2
  · rw [hR (10 + j) (by omega) (by omega)]; exact a7 j hj
theorem LC.keep (ha : LA A n v R F) (h : LC A n v R F G) (hv : ∀ k, k < 6 ∨ 17 ≤ k → v1 k = v k) (hF : F1 0 = F 0) (hR : ∀ k, 10 ≤ k → k < 26 → R1 k = R k) : LC A n v1 R1 F1 G := by
  have hr := ru_hi hR ha.2.2.2.1
  have ht : tnX v1 = tnX v := funext (fun j => hv _ (Or.inr (by omega)))
  refine ⟨fun q j h1 h2 => ?_, fun q j h1 h2 => ?_, fun q => ?_, h.2.2.2⟩
  · rw [hF, w_many hr]; exact h.1 (by rw [← hv 2 (by omega)]; exact q) j h1 h2
  · rw [w_du hr]; exact h.2.1 (by rw [← hv 3 (by omega)]; exact q) j h1 h2
  · rw [hF, ht, w_closes hr ha.hVl ha.hT, hv 4 (by omega)]; exact h.2.2.1 (by rw [← hv 5 (by omega)]; exact q)
theorem LM.keep (ha : LA A n v R F) (h : LM A n v R F w Q K J) (h4 : rw4 A R R1 Q1) (hv : ∀ k, k < 2 ∨ 17 ≤ k → v1 k = v k) (hF : F1 0 = F 0) (h0 : w1 0 = w 0) (h5 : w1 4 = w 4) (h6 : w1 6 = w 6) (hK1 : K1 1 = K 1) (hK4 : K1 4 = K 4) (hJ : J1 5 = J 5) : LM A n v1 R1 F1 w1 Q1 K1 J1 := by
  have hr := ru_hi h4.2.1 ha.2.2.2.1
  have ht : tnX v1 = tnX v := funext (fun j => hv _ (Or.inr (by omega)))
  refine ⟨h0.trans h.1, h5.trans h.2.1, by rw [hK1, hF]; exact h.2.2.1, by rw [hK4, ht]; exact h.2.2.2.1, h4.1, fun q j h1 h2 => ?_⟩
  rw [hJ, hF, w_many hr]; exact h.2.2.2.2.2 (by rw [← h6]; exact q) j h1 h2
/-- a call that leaves acts, rules and caches as they are -/
theorem LL.rows (h : LL A n (v, R, F, G) (w, Q, K, J)) (h4 : rw4 A R R1 Q1) (hv : ∀ k, k < 6 ∨ 17 ≤ k → v1 k = v k) (hF : F1 0 = F 0) (h0 : w1 0 = w 0) (h5 : w1 4 = w 4) (h6 : w1 6 = w 6) (hK1 : K1 1 = K 1) (hK4 : K1 4 = K 4) (hJ : J1 5 = J 5) : LL A n (v1, R1, F1, G) (w1, Q1, K1, J1) := by
  obtain ⟨ha, hc, hm⟩ := h
  dsimp only at ha hc hm
  have hv2 : ∀ k, k < 2 ∨ 17 ≤ k → v1 k = v k := fun k hk => hv k (by omega)
  exact ⟨ha.keep hv2 hF h4.2.1 h4.2.2, hc.keep ha hv hF h4.2.1, hm.keep ha h4 hv2 hF h0 h5 h6 hK1 hK4 hJ⟩
theorem vR_mono {l : List Int32} (h : vR A l) : vR (A + 1) l := fun i hi => (h i hi).imp id (fun ⟨a, h1, h2⟩ => ⟨a, by omega, h2⟩)
theorem tE_wc {w w' : Int32 → Nat} {g : Nat → Int32} : ∀ (f k i : Nat), (∀ j, i ≤ j → j < i + f → w' (g j) = w (g j)) → tE w' g f k i = tE w g f k i
  | f, 0, i, _ => by rw [tE_0, tE_0]
  | 0, _ + 1, _, _ => rfl
  | f + 1, k + 1, i, h => by rw [tE, tE, h i (Nat.le_refl i) (by omega), tE_wc f _ _ (fun j h1 h2 => h j (by omega) (by omega))]
theorem isT_act {E : Nat → Int32} {l : List Int32} {a : Int32} (hv : vR A l) (hA : A ≤ 4) : isT (upd E A a) l ↔ isT E l := by
  show endL (upd E A a) l 0 = some l.length ↔ endL E l 0 = some l.length
  rw [endL, endL, tE_wc (w := wt E) (w' := wt (upd E A a)) (l.length - 0) 1 0 (fun j _ h2 => ?_)]
  rcases hv j (by omega) with e | ⟨b, hb, e⟩
  · rw [e, wt_m1, wt_m1]
  · rw [e, wt, wt, if_neg (nI_neM1 (by omega)), if_neg (nI_neM1 (by omega)), nI_clamp (by omega), pk_un (by omega)]
theorem LL.act {a : Int32} (h : LL A n (v, R, F, G) (w, Q, K, J)) (ha : a = nI 2 ∨ a = nI 3) (h4 : A ≠ 4) : LL (A + 1) n (va_up (fgv v) 0 (nI (A + 1)), R, va_up F 0 (upd (F 0) A a), G) (va_up (va_up w 0 (nI (A + 1))) 6 (nI 0), Q, va_up K 1 (upd (K 1) A a), J) := by
  obtain ⟨⟨a1, a2, a3, a4, a5, a6, a7⟩, hc, hm⟩ := h
  dsimp only at a1 a2 a3 a4 a5 a6 a7 hc hm
  have hA := a1.1
  have ht : tnX (va_up (fgv v) 0 (nI (A + 1))) = tnX v := by rw [tnX_up (by decide), tnX_up (by decide), tnX_up (by decide), tnX_up (by decide)]
  refine ⟨⟨⟨by omega, fun b hb => ?_⟩, rfl, a3, a4, fun r hr => vR_mono (a5 r hr), fun k hk => ?_, a7⟩, ⟨fun q => absurd rfl q, fun q => absurd rfl q, fun q => absurd rfl q, hc.2.2.2⟩, rfl, hm.2.1, ?_, ?_, hm.2.2.2.2.1, fun q => absurd rfl q⟩
  · show upd (F 0) A a b = nI 2 ∨ upd (F 0) A a b = nI 3
    by_cases e : b = A
    · rw [e, pk_us]; exact ha
    · rw [pk_un e]; exact a1.2 b (by omega)
  · have hk8 : 18 + k < 26 := by omega
    refine ⟨(isT_act (a5 (10 + k) (by omega)) hA).mpr (a6 k hk).1, fun e => ?_⟩
    have e2 : tnX v k = 0 := by rw [← ht]; exact e
    exact ⟨(isT_act (a5 (18 + k) hk8) hA).mpr ((a6 k hk).2 e2).1, ((a6 k hk).2 e2).2⟩
  · show upd (K 1) A a = upd (F 0) A a
    rw [hm.2.2.1]
  · show K 4 = tnX (va_up (fgv v) 0 (nI (A + 1)))
    rw [ht]; exact hm.2.2.2.1
theorem LL.unrule (h : LL A n (v, R, F, G) (w, Q, K, J)) : LL A 0 (fgv (va_up v 1 (nI 0)), R, F, G) (va_up (va_up w 4 (nI 0)) 6 (nI 0), Q, K, J) := by
  obtain ⟨⟨a1, a2, a3, a4, a5, a6, a7⟩, hc, hm⟩ := h
  dsimp only at a1 a2 a3 a4 a5 a6 a7 hc hm
  exact ⟨⟨a1, a2, rfl, by omega, a5, fun k hk => absurd hk (Nat.not_lt_zero k), fun k hk => absurd hk (Nat.not_lt_zero k)⟩, ⟨fun q => absurd rfl q, fun q => absurd rfl q, fun q => absurd rfl q, hc.2.2.2⟩, hm.1, rfl, hm.2.2.1, (show K 4 = tnX (fgv (va_up v 1 (nI 0))) by rw [tnX_up (by decide), tnX_up (by decide), tnX_up (by decide), tnX_up (by decide)]; exact hm.2.2.2.1), hm.2.2.2.2.1, fun q => absurd rfl q⟩
/-- a rule more -/
theorem LL.more {x : Int32} {L T : List Int32} (h : LL A n (v, R, F, G) (w, Q, K, J)) (h8 : n ≠ 8) (hL : isT (F 0) L) (hLv : vR A L) (hTv : vR A T) (hs : 1 ≤ szL L ∧ szL L ≤ 4) (hT : x = 0 → isT (F 0) T ∧ lvs L = lvs T) (hR1 : ∀ k, k < 26 → R1 k = va_up (va_up R (10 + n) L) (18 + n) T k) (hQ1 : ∀ k, k < 26 → Q1 k = va_up (va_up Q (10 + n) L) (18 + n) T k) : LL A (n + 1) (va_up (va_up (fgv v) (17 + n) x) 1 (nI (n + 1)), R1, F, G) (va_up (va_up w 4 (nI (n + 1))) 6 (nI 0), Q1, va_up K 4 (upd (K 4) n x), J) := by
  obtain ⟨⟨a1, a2, a3, a4, a5, a6, a7⟩, hc, hm⟩ := h
  dsimp only at a1 a2 a3 a4 a5 a6 a7 hc hm
  have ht : tnX (va_up (va_up (fgv v) (17 + n) x) 1 (nI (n + 1))) = upd (tnX v) n x := by
    rw [tnX_up (by decide), tnX_set, tnX_up (by decide), tnX_up (by decide), tnX_up (by decide)]
  have hz : ∀ k, k < 17 → k ≠ 1 → va_up (va_up (fgv v) (17 + n) x) 1 (nI (n + 1)) k = fgv v k := fun k h1 h2 => by rw [upn h2, upn (by omega)]
  have hl : R1 (10 + n) = L := by rw [hR1 _ (by omega), upn (by omega), va_up_self]
  have hr : R1 (18 + n) = T := by rw [hR1 _ (by omega), va_up_self]
  have ho : ∀ k, k < 26 → k ≠ 10 + n → k ≠ 18 + n → R1 k = R k := fun k h1 h2 h3 => by rw [hR1 k h1, upn h3, upn h2]
  refine ⟨⟨a1, ?_, (show va_up (va_up (fgv v) (17 + n) x) 1 (nI (n + 1)) 1 = nI (n + 1) from va_up_self _ _ _), by omega, fun r hr2 => ?_, fun k hk => ?_, fun j hj => ?_⟩, ⟨fun q => absurd ?_ q, fun q => absurd ?_ q, fun q => absurd ?_ q, hc.2.2.2⟩, ?_, ?_, ?_, ?_, ?_, fun q => absurd ?_ q⟩
  · show va_up (va_up (fgv v) (17 + n) x) 1 (nI (n + 1)) 0 = nI A
    rw [hz 0 (by decide) (by decide)]; exact a2
  · show vR A (R1 r)
    by_cases e1 : r = 10 + n
    · rw [e1, hl]; exact hLv
    · by_cases e2 : r = 18 + n
      · rw [e2, hr]; exact hTv
      · rw [ho r hr2 e1 e2]; exact a5 r hr2
  · show isT (F 0) (R1 (10 + k)) ∧ (tnX (va_up (va_up (fgv v) (17 + n) x) 1 (nI (n + 1))) k = 0 → isT (F 0) (R1 (18 + k)) ∧ lvs (R1 (10 + k)) = lvs (R1 (18 + k)))
    rw [ht]
    by_cases e : k = n
    · rw [e, hl, hr, pk_us]; exact ⟨hL, hT⟩
    · rw [ho (10 + k) (by omega) (by omega) (by omega), ho (18 + k) (by omega) (by omega) (by omega), pk_un e]; exact a6 k (by omega)
  · show 1 ≤ szL (R1 (10 + j)) ∧ szL (R1 (10 + j)) ≤ 4
    by_cases e : j = n
    · rw [e, hl]; exact hs
    · rw [ho (10 + j) (by omega) (by omega) (by omega)]; exact a7 j (by omega)
  · exact hz 2 (by decide) (by decide)
  · exact hz 3 (by decide) (by decide)
  · exact hz 5 (by decide) (by decide)
  · exact hm.1
  · exact rfl
  · exact hm.2.2.1
  · show va_up K 4 (upd (K 4) n x) 4 = tnX (va_up (va_up (fgv v) (17 + n) x) 1 (nI (n + 1)))
    rw [va_up_self, ht, hm.2.2.2.1]
  · exact fun k hk => by
      show Q1 k = R1 k
      rw [hQ1 k hk, hR1 k hk]; exact eqR_up (eqR_up hm.2.2.2.2.1) k hk
  · exact rfl
theorem LL.rule {a b : Int32} (h : LL A n (v, R, F, G) (w, Q, K, J)) : pRule (K 1) Q n a b = pRule (F 0) R n a b ∧ ∃ n1, LL A n1 (xRule v R F G n a b) (uRule w Q K J n a b) := by
  have hm := h.2.2
  have ha := h.1
  dsimp only at hm ha
  have hq := hm.2.2.2.2.1
  rw [pRule, pRule, xRule, uRule, hm.2.2.1]
  by_cases q : lf (F 0) R a ∧ tr (F 0) R b
  · have q' : lf (F 0) Q a ∧ tr (F 0) Q b := ⟨(c_lf hq).mpr q.1, (c_tr hq).mpr q.2⟩
    have h1 := rq q.1.1.1 (by decide)
    have h2 := rq q.2.1 (by decide)
    rw [if_pos q, if_pos q', if_pos q, if_pos q', pRule2, pRule2, xRule2, uRule2, eqR_at hq q.1.1.1, eqR_at hq q.2.1]
    refine ⟨rfl, ?_⟩
    by_cases g : lvs (R a.toNatClampNeg) = lvs (R b.toNatClampNeg) ∧ n ≠ 8
    · rw [if_pos g, if_pos g]
      exact ⟨n + 1, LL.more h g.2 q.1.1.2 (ha.2.2.2.2.1 _ (by omega)) (ha.2.2.2.2.1 _ (by omega)) q.1.2 (fun _ => ⟨q.2.2, g.1⟩) (fun _ _ => rfl) (fun _ _ => rfl)⟩
    · rw [if_neg g, if_neg g]; exact ⟨n, h⟩
  · have q' : ¬ (lf (F 0) Q a ∧ tr (F 0) Q b) := fun z => q ⟨(c_lf hq).mp z.1, (c_tr hq).mp z.2⟩
    rw [if_neg q, if_neg q', if_neg q, if_neg q']; exact ⟨rfl, n, h⟩
theorem LL.nought {a : Int32} (h : LL A n (v, R, F, G) (w, Q, K, J)) : pNought (K 1) Q n a = pNought (F 0) R n a ∧ ∃ n1, LL A n1 (xNought v R F G n a) (uNought w Q K J n a) := by
  have hm := h.2.2
  have ha := h.1
  dsimp only at hm ha
  have hq := hm.2.2.2.2.1
  have h8 := ha.2.2.2.1
  rw [pNought, pNought, xNought, uNought, hm.2.2.1]
  by_cases q : lf (F 0) R a
  · have q' : lf (F 0) Q a := (c_lf hq).mpr q
    have h1 := rq q.1.1 (by decide)
    rw [if_pos q, if_pos q', if_pos q, if_pos q', xNought2, uNought2, eqR_at hq q.1.1]
    refine ⟨rfl, ?_⟩
    by_cases g : n ≠ 8
    · rw [if_pos g, if_pos g]
      refine ⟨n + 1, LL.more h g q.1.2 (ha.2.2.2.2.1 _ (by omega)) (vR_nil A) q.2 (fun e => absurd e (by decide)) (fun k hk => ?_) (fun _ _ => rfl)⟩
      by_cases e1 : k = 18 + n
      · rw [e1, va_up_self, va_up_self]
      · rw [upn e1, upn e1]
        by_cases e2 : k = 10 + n
        · rw [e2, va_up_self, va_up_self]
        · rw [upn e2, upn e2, upn (by omega)]
    · rw [if_neg g, if_neg g]; exact ⟨n, h⟩
  · have q' : ¬ lf (F 0) Q a := fun z => q ((c_lf hq).mp z)
    rw [if_neg q, if_neg q', if_neg q, if_neg q']; exact ⟨rfl, n, h⟩
/-- a call that fills a cache of the counts -/
theorem LL.many {v6 : Int32} {g : Nat → Int64} (h : LL A n (v, R, F, G) (w, Q, K, J)) (hv : ∀ k, k ≠ 2 → k ≠ 3 → k < 10 ∨ 17 ≤ k → v1 k = v k) (hF : F1 0 = F 0) (hs : srZ G1) (h2 : ¬ v1 2 = 0 → ∀ j, 1 ≤ j → j ≤ 6 → G1 0 j = cmM (F 0) R n A j) (h3 : v1 3 = v 3) (hg : G1 1 = G 1) (hq : eqR R Q1) (h0 : w1 0 = w 0) (h5 : w1 4 = w 4) (h6 : w1 6 = v6) (hK1 : K1 1 = K 1) (hK4 : K1 4 = K 4) (hJ : J1 5 = g) (hc : ¬ v6 = 0 → ∀ j, 1 ≤ j → j ≤ 6 → g j = cmM (F 0) R n A j) : LL A n (v1, R, F1, G1) (w1, Q1, K1, J1) := by
  obtain ⟨ha, hcc, hm⟩ := h
  dsimp only at ha hcc hm
  have hv2 : ∀ k, k < 2 ∨ 17 ≤ k → v1 k = v k := fun k hk => hv k (by omega) (by omega) (by omega)
  have ht : tnX v1 = tnX v := funext (fun j => hv2 _ (Or.inr (by omega)))
  refine ⟨ha.keep hv2 hF (fun _ _ _ => rfl) ha.hV, ⟨fun q j a b => ?_, fun q j a b => ?_, fun q => ?_, hs⟩, h0.trans hm.1, h5.trans hm.2.1, ?_, ?_, hq, fun q j a b => ?_⟩
  · show G1 0 j = cmM (F1 0) R n A j
    rw [hF]; exact h2 q j a b
  · show G1 1 j = duM A R n j
    rw [hg]; exact hcc.2.1 (by rw [← h3]; exact q) j a b
  · show v1 4 = pCloses (F1 0) R n (tnX v1)
    rw [hF, ht, hv 4 (by decide) (by decide) (by omega)]; exact hcc.2.2.1 (by rw [← hv 5 (by decide) (by decide) (by omega)]; exact q)
  · show K1 1 = F1 0
    rw [hK1, hF]; exact hm.2.2.1
  · show K1 4 = tnX v1
    rw [hK4, ht]; exact hm.2.2.2.1
  · show J1 5 j = cmM (F1 0) R n A j
    rw [hJ, hF]; exact hc (by rw [← h6]; exact q) j a b
theorem LL.dual (h : LL A n (v, R, F, G) (w, Q, K, J)) (hv : ∀ k, k ≠ 2 → k ≠ 3 → k < 10 ∨ 17 ≤ k → v1 k = v k) (hF : F1 0 = F 0) (hs : srZ G1) (h2 : v1 2 = v 2) (hg : G1 0 = G 0) (h3 : ¬ v1 3 = 0 → ∀ j, 1 ≤ j → j ≤ 6 → G1 1 j = duM A R n j) (h0 : w1 0 = w 0) (h5 : w1 4 = w 4) (h6 : w1 6 = w 6) (hK1 : K1 1 = K 1) (hK4 : K1 4 = K 4) (hJ : J1 5 = J 5) : LL A n (v1, R, F1, G1) (w1, Q, K1, J1) := by
  obtain ⟨ha, hcc, hm⟩ := h
  dsimp only at ha hcc hm
  have hv2 : ∀ k, k < 2 ∨ 17 ≤ k → v1 k = v k := fun k hk => hv k (by omega) (by omega) (by omega)
  have ht : tnX v1 = tnX v := funext (fun j => hv2 _ (Or.inr (by omega)))
  refine ⟨ha.keep hv2 hF (fun _ _ _ => rfl) ha.hV, ⟨fun q j a b => ?_, h3, fun q => ?_, hs⟩, hm.keep ha (rw4_id hm.2.2.2.2.1 ha.2.2.2.2.1) hv2 hF h0 h5 h6 hK1 hK4 hJ⟩
  · show G1 0 j = cmM (F1 0) R n A j
    rw [hF, hg]; exact hcc.1 (by rw [← h2]; exact q) j a b
  · show v1 4 = pCloses (F1 0) R n (tnX v1)
    rw [hF, ht, hv 4 (by decide) (by decide) (by omega)]; exact hcc.2.2.1 (by rw [← hv 5 (by decide) (by decide) (by omega)]; exact q)
theorem LL.closes (h : LL A n (v, R, F, G) (w, Q, K, J)) (hv : ∀ k, k < 4 ∨ 17 ≤ k → v1 k = v k) (hF : F1 0 = F 0) (hR : ∀ k, k < 26 → R1 k = R k) (hQ : ∀ k, k < 26 → Q1 k = Q k) (h4 : v1 4 = pCloses (F 0) R n (tnX v)) (h0 : w1 0 = w 0) (h5 : w1 4 = w 4) (h6 : w1 6 = w 6) (hK1 : K1 1 = K 1) (hK4 : K1 4 = K 4) (hJ : J1 5 = J 5) : LL A n (v1, R1, F1, G) (w1, Q1, K1, J1) := by
  obtain ⟨ha, hcc, hm⟩ := h
  dsimp only at ha hcc hm
  have hv2 : ∀ k, k < 2 ∨ 17 ≤ k → v1 k = v k := fun k hk => hv k (by omega)
  have ht : tnX v1 = tnX v := funext (fun j => hv2 _ (Or.inr (by omega)))
  have h4r : rw4 A R R1 Q1 := rw4_tr (rw4_id hm.2.2.2.2.1 ha.2.2.2.2.1) hR hQ
  have hr := ru_hi h4r.2.1 ha.2.2.2.1
  refine ⟨ha.keep hv2 hF h4r.2.1 h4r.2.2, ⟨fun q j a b => ?_, fun q j a b => ?_, fun q => ?_, hcc.2.2.2⟩, hm.keep ha h4r hv2 hF h0 h5 h6 hK1 hK4 hJ⟩
  · show G 0 j = cmM (F1 0) R1 n A j
    rw [hF, w_many hr]; exact hcc.1 (by rw [← hv 2 (by omega)]; exact q) j a b
  · show G 1 j = duM A R1 n j
    rw [w_du hr]; exact hcc.2.1 (by rw [← hv 3 (by omega)]; exact q) j a b
  · show v1 4 = pCloses (F1 0) R1 n (tnX v1)
    rw [hF, ht, w_closes hr ha.hVl ha.hT]; exact h4
end LV
