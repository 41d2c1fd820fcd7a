/-! the law: what holds of both worlds between the calls; both sides' words are equal where their rows are -/
abbrev eqR (R R' : Nat → List Int32) : Prop := ∀ k, k < 26 → R' k = R k
theorem rq {a : Int32} {n : Nat} (h : rIn a n) (hn : n < 2 ^ 31) : a.toNatClampNeg < n := by
  obtain ⟨j, hj, rfl⟩ := rIn_of h hn
  rw [nI_clamp (by omega)]; exact hj
theorem eqR_at {R R' : Nat → List Int32} {a : Int32} (h : eqR R R') (q : rIn a 10) : R' a.toNatClampNeg = R a.toNatClampNeg := h _ (by have := rq q (by decide); omega)
theorem eqR_up {R R' : Nat → List Int32} (h : eqR R R') {q : Nat} {X : List Int32} : eqR (va_up R q X) (va_up R' q X) := fun k hk => by
  by_cases e : k = q
  · subst e; rw [va_up_self, va_up_self]
  · rw [upn e, upn e]; exact h k hk
theorem eqR_l {R R' : Nat → List Int32} {n : Nat} (h : eqR R R') (hn : n ≤ 8) : ∀ k, k < n → R' (10 + k) = R (10 + k) := fun k hk => h _ (by omega)
theorem eqR_r {R R' : Nat → List Int32} {n : Nat} (h : eqR R R') (hn : n ≤ 8) : ∀ k, k < n → R' (18 + k) = R (18 + k) := fun k hk => h _ (by omega)
theorem c_tr {E : Nat → Int32} {R R' : Nat → List Int32} {a : Int32} (h : eqR R R') : tr E R' a ↔ tr E R a := and_congr_right (fun q => by rw [eqR_at h q])
theorem c_lf {E : Nat → Int32} {R R' : Nat → List Int32} {a : Int32} (h : eqR R R') : lf E R' a ↔ lf E R a := by
  by_cases q : rIn a 10
  · show ((rIn a 10 ∧ isT E (R' a.toNatClampNeg)) ∧ 1 ≤ szL (R' a.toNatClampNeg) ∧ szL (R' a.toNatClampNeg) ≤ 4) ↔ _
    rw [eqR_at h q]
  · exact ⟨fun z => absurd z.1.1 q, fun z => absurd z.1.1 q⟩
/-- rows of trees may change, rules stay -/
def rw4 (A : Nat) (R R1 R1' : Nat → List Int32) : Prop := eqR R1 R1' ∧ (∀ k, 10 ≤ k → k < 26 → R1 k = R k) ∧ ∀ r, r < 10 → vR A (R1 r)
theorem rw4_id {A : Nat} {R R' : Nat → List Int32} (h : eqR R R') (hV : ∀ r, r < 26 → vR A (R r)) : rw4 A R R R' := ⟨h, fun _ _ _ => rfl, fun r hr => hV r (by omega)⟩
theorem rw4_up {A : Nat} {R R' : Nat → List Int32} {q : Nat} {X : List Int32} (h : eqR R R') (hV : ∀ r, r < 26 → vR A (R r)) (hq : q < 10) (hX : vR A X) : rw4 A R (va_up R q X) (va_up R' q X) :=
  ⟨eqR_up h, fun k h1 _ => upn (by omega), fun r hr => by
    by_cases e : r = q
    · subst e; rw [va_up_self]; exact hX
    · rw [upn e]; exact hV r (by omega)⟩
theorem rw4_tr {A : Nat} {R U U' R1 R1' : Nat → List Int32} (h : rw4 A R U U') (h1 : ∀ k, k < 26 → R1 k = U k) (h2 : ∀ k, k < 26 → R1' k = U' k) : rw4 A R R1 R1' :=
  ⟨fun k hk => by rw [h1 k hk, h2 k hk, h.1 k hk], fun k a b => by rw [h1 k b, h.2.1 k a b], fun r hr => by rw [h1 r (by omega)]; exact h.2.2 r hr⟩
theorem w_put {A : Nat} {R R' : Nat → List Int32} {a z : Int32} (h : eqR R R') (hV : ∀ r, r < 26 → vR A (R r)) (hA : A ≤ 4) : (pPut A R' a z).1 = (pPut A R a z).1 ∧ rw4 A R (pPut A R a z).2 (pPut A R' a z).2 := by
  unfold pPut
  by_cases q : rIn a 10 ∧ vSd A z
  · rw [if_pos q, if_pos q, eqR_at h q.1]
    by_cases g : (R a.toNatClampNeg).length = 60
    · rw [if_pos g, if_pos g]; exact ⟨rfl, rw4_id h hV⟩
    · rw [if_neg g, if_neg g]
      have hq := rq q.1 (by decide)
      refine ⟨rfl, rw4_up h hV hq (vR_app (hV _ (by omega)) (vR_one ?_))⟩
      by_cases e : z = -1
      · exact Or.inl e
      · have h1 : ¬ z.toInt = -1 := fun k => e (Int32.toInt_inj.mp (k.trans (by decide)))
        have h2 : 0 ≤ z.toInt ∧ z.toInt < (A : Int) := ⟨by have := q.2.1; omega, q.2.2⟩
        obtain ⟨j, hj, e⟩ := rIn_of h2 (by omega)
        exact Or.inr ⟨j, hj, e⟩
  · rw [if_neg q, if_neg q]; exact ⟨rfl, rw4_id h hV⟩
theorem w_empty {A : Nat} {R R' : Nat → List Int32} {a : Int32} (h : eqR R R') (hV : ∀ r, r < 26 → vR A (R r)) : (pEmpty R' a).1 = (pEmpty R a).1 ∧ rw4 A R (pEmpty R a).2 (pEmpty R' a).2 := by
  unfold pEmpty
  by_cases q : rIn a 10
  · rw [if_pos q, if_pos q, eqR_at h q]; exact ⟨rfl, rw4_up h hV (rq q (by decide)) (vR_nil A)⟩
  · rw [if_neg q, if_neg q]; exact ⟨rfl, rw4_id h hV⟩
theorem w_at {R R' : Nat → List Int32} {a i : Int32} (h : eqR R R') : pAt R' a i = pAt R a i := by
  unfold pAt
  by_cases q : rIn a 10
  · rw [if_pos q, if_pos q, eqR_at h q]
  · rw [if_neg q, if_neg q]
theorem w_same {E : Nat → Int32} {R R' : Nat → List Int32} {a b : Int32} (h : eqR R R') : pSame E R' a b = pSame E R a b := by
  unfold pSame
  by_cases q : tr E R a ∧ tr E R b
  · rw [if_pos q, if_pos ⟨(c_tr h).mpr q.1, (c_tr h).mpr q.2⟩]
    exact bI_iff (by rw [eqR_at h q.1.1, eqR_at h q.2.1])
  · rw [if_neg q, if_neg (fun z => q ⟨(c_tr h).mp z.1, (c_tr h).mp z.2⟩)]
theorem w_about {E : Nat → Int32} {R R' : Nat → List Int32} {a w : Int32} (h : eqR R R') : pAbout E R' a w = pAbout E R a w := by
  unfold pAbout
  by_cases q : rIn a 10 ∧ rIn w 5
  · rw [if_pos q, if_pos q, eqR_at h q.1]
  · rw [if_neg q, if_neg q]
theorem w_side {A n : Nat} {R R' : Nat → List Int32} {k w to : Int32} (h : eqR R R') (hV : ∀ r, r < 26 → vR A (R r)) (hn : n ≤ 8) : (pSide n R' k w to).1 = (pSide n R k w to).1 ∧ rw4 A R (pSide n R k w to).2 (pSide n R' k w to).2 := by
  unfold pSide
  by_cases q : rIn k n ∧ rIn w 2 ∧ rIn to 10
  · have hk := rq q.1 (by omega)
    have hb : (if w = 0 then 10 else 18) + k.toNatClampNeg < 26 := by split <;> omega
    rw [if_pos q, if_pos q, h _ hb]
    exact ⟨rfl, rw4_up h hV (rq q.2.2 (by decide)) (hV _ hb)⟩
  · rw [if_neg q, if_neg q]; exact ⟨rfl, rw4_id h hV⟩
theorem w_matches {E : Nat → Int32} {R R' : Nat → List Int32} {n : Nat} {k a : Int32} (h : eqR R R') (hn : n ≤ 8) : pMatches E R' n k a = pMatches E R n k a := by
  unfold pMatches
  by_cases q : rIn k n ∧ tr E R a
  · have hk := rq q.1 (by omega)
    rw [if_pos q, if_pos ⟨q.1, (c_tr h).mpr q.2⟩, eqR_at h q.2.1, h (10 + k.toNatClampNeg) (by omega)]
  · rw [if_neg q, if_neg (fun z => q ⟨z.1, (c_tr h).mp z.2⟩)]
theorem w_step {A : Nat} {E : Nat → Int32} {R R' : Nat → List Int32} {n : Nat} {tn : Nat → Int32} {a : Int32} (h : eqR R R') (hV : ∀ r, r < 26 → vR A (R r)) (hn : n ≤ 8) : pStep E R' n tn a = pStep E R n tn a ∧ rw4 A R (uStep E R n tn a) (uStep E R' n tn a) := by
  unfold pStep uStep
  by_cases q : tr E R a
  · have hq := rq q.1 (by decide)
    rw [if_pos q, if_pos ((c_tr h).mpr q), if_pos q, if_pos ((c_tr h).mpr q), eqR_at h q.1, stepL_congr (eqR_l h hn) (eqR_r h hn)]
    exact ⟨rfl, rw4_up h hV hq (vR_step (hV _ (by omega)) (fun k hk => hV _ (by omega)))⟩
  · have q' := fun z => q ((c_tr h).mp z)
    rw [if_neg q, if_neg q', if_neg q, if_neg q']; exact ⟨rfl, rw4_id h hV⟩
theorem vR_nrm {A : Nat} {st : List Int32 → Int32 × List Int32} (hs : ∀ t, vR A t → vR A (st t).2) : ∀ (f j : Nat) (t : List Int32), vR A t → vR A (nrmL st f j t).2
  | 0, _, t, ht => ht
  | f + 1, j, t, ht => by
    rw [nrmL]
    have h1 := hs t ht
    split
    · exact h1
    · split
      · exact h1
      · split
        · exact h1
        · exact vR_nrm hs f (j + 1) _ h1
theorem w_normal {A : Nat} {E : Nat → Int32} {R R' : Nat → List Int32} {n : Nat} {tn : Nat → Int32} {a : Int32} (h : eqR R R') (hV : ∀ r, r < 26 → vR A (R r)) (hn : n ≤ 8) : pNormal E R' n tn a = pNormal E R n tn a ∧ rw4 A R (uNormal E R n tn a) (uNormal E R' n tn a) := by
  unfold pNormal uNormal uNormal2
  by_cases q : tr E R a
  · have hq := rq q.1 (by decide)
    rw [if_pos q, if_pos ((c_tr h).mpr q), if_pos q, if_pos ((c_tr h).mpr q), eqR_at h q.1, nfL_congr (eqR_l h hn) (eqR_r h hn)]
    refine ⟨rfl, ?_⟩
    by_cases g : (nfL E R n tn (R a.toNatClampNeg)).1 = -5
    · rw [if_pos g, if_pos g]; exact rw4_id h hV
    · rw [if_neg g, if_neg g]
      exact rw4_up h hV hq (vR_nrm (fun t ht => vR_step ht (fun k hk => hV _ (by omega))) _ _ _ (hV _ (by omega)))
  · have q' := fun z => q ((c_tr h).mp z)
    rw [if_neg q, if_neg q', if_neg q, if_neg q']; exact ⟨rfl, rw4_id h hV⟩
theorem w_graft {A : Nat} {E : Nat → Int32} {R R' : Nat → List Int32} {a i b to : Int32} (h : eqR R R') (hV : ∀ r, r < 26 → vR A (R r)) : pGraft E R' a i b to = pGraft E R a i b to ∧ rw4 A R (uGraft E R a i b to) (uGraft E R' a i b to) := by
  have hiff : grOK E R' a i b to ↔ grOK E R a i b to := by
    by_cases q : rIn a 10
    · show ((tr E R' a ∧ tr E R' b) ∧ rIn to 10) ∧ rIn i (lvs (R' a.toNatClampNeg)) ↔ _
      rw [eqR_at h q, c_tr h, c_tr h]
    · exact ⟨fun z => absurd z.1.1.1.1 q, fun z => absurd z.1.1.1.1 q⟩
  unfold pGraft uGraft
  by_cases q : grOK E R a i b to
  · have ha := rq q.1.1.1.1 (by decide)
    have hb := rq q.1.1.2.1 (by decide)
    have ht := rq q.1.2 (by decide)
    rw [if_pos q, if_pos (hiff.mpr q), if_pos q, if_pos (hiff.mpr q)]
    unfold pGraft2 uGraft2
    rw [eqR_at h q.1.1.1.1, eqR_at h q.1.1.2.1]
    refine ⟨rfl, ?_⟩
    by_cases g : (R a.toNatClampNeg).length - 1 + (R b.toNatClampNeg).length ≤ 60
    · rw [if_pos g, if_pos g]
      exact rw4_up h hV ht (vR_app (vR_app (vR_slc (hV _ (by omega)) _ _) (hV _ (by omega))) (vR_slc (hV _ (by omega)) _ _))
    · rw [if_neg g, if_neg g]; exact rw4_id h hV
  · have q' := fun z => q (hiff.mp z)
    rw [if_neg q, if_neg q', if_neg q, if_neg q']; exact ⟨rfl, rw4_id h hV⟩
theorem w_overlap {A : Nat} {E : Nat → Int32} {R R' : Nat → List Int32} {n : Nat} {i to : Int32} (h : eqR R R') (hV : ∀ r, r < 26 → vR A (R r)) (hn : n ≤ 8) (hT : ∀ j, j < n → isT E (R (10 + j))) : pOverlap E R' n i to = pOverlap E R n i to ∧ rw4 A R (uOverlap E R n i to) (uOverlap E R' n i to) := by
  have e := ovL_congr (E := E) (eqR_l h hn)
  by_cases q : ¬ i < 0 ∧ rIn to 10
  · cases hc : (ovL E R n)[i.toNatClampNeg]? with
    | none =>
      obtain ⟨h1, h2⟩ := pOv_n q hc
      obtain ⟨h3, h4⟩ := pOv_n (R := R') (E := E) (n := n) q (by rw [e]; exact hc)
      rw [h1, h2, h3, h4]; exact ⟨rfl, rw4_id h hV⟩
    | some z =>
      obtain ⟨s, M⟩ := z
      obtain ⟨h1, h2⟩ := pOv_y q hc
      obtain ⟨h3, h4⟩ := pOv_y (R := R') (E := E) (n := n) q (by rw [e]; exact hc)
      rw [h1, h2, h3, h4]
      exact ⟨rfl, rw4_up h hV (rq q.2 (by decide)) (ov_facts hT (fun j hj => hV _ (by omega)) hc).2.2.2.2.2.2⟩
  · rw [pOverlap, pOverlap, uOverlap, uOverlap, if_neg q, if_neg q, if_neg q, if_neg q]; exact ⟨rfl, rw4_id h hV⟩
theorem clF_congr {E : Nat → Int32} {R R' : Nat → List Int32} {n : Nat} {tn : Nat → Int32} {L : List (Nat × List Int32)} (hL : ∀ (i : Nat) (o : Nat × List Int32), L[i]? = some o → clO E R' n tn o = clO E R n tn o) : ∀ m i, clF E R' n tn L m i = clF E R n tn L m i
  | 0, _ => rfl
  | m + 1, i => by
    cases he : L[i]? with
    | none => simp only [clF, he]
    | some o => simp only [clF, he, hL i o he, clF_congr hL m (i + 1)]
/-- the rules are the same from row 10 on -/
abbrev ruR (n : Nat) (R R' : Nat → List Int32) : Prop := (∀ k, k < n → R' (10 + k) = R (10 + k)) ∧ ∀ k, k < n → R' (18 + k) = R (18 + k)
theorem ru_eq {n : Nat} {R R' : Nat → List Int32} (h : eqR R R') (hn : n ≤ 8) : ruR n R R' := ⟨eqR_l h hn, eqR_r h hn⟩
theorem ru_hi {n : Nat} {R R' : Nat → List Int32} (h : ∀ k, 10 ≤ k → k < 26 → R' k = R k) (hn : n ≤ 8) : ruR n R R' := ⟨fun k hk => h _ (by omega) (by omega), fun k hk => h _ (by omega) (by omega)⟩
theorem w_closes {A : Nat} {E : Nat → Int32} {R R' : Nat → List Int32} {n : Nat} {tn : Nat → Int32} (h : ruR n R R') (hV : ∀ j, j < n → vR A (R (10 + j))) (hT : ∀ j, j < n → isT E (R (10 + j))) : pCloses E R' n tn = pCloses E R n tn := by
  rw [pCloses, pCloses, ovL_congr h.1]
  refine clF_congr (fun i o ho => ?_) _ _
  obtain ⟨s, M⟩ := o
  have hf := ov_facts hT hV ho
  exact clO_congr hf.2.1 hf.2.2.1 h.1 h.2
theorem w_many {E : Nat → Int32} {R R' : Nat → List Int32} {n A j : Nat} (h : ruR n R R') : cmM E R' n A j = cmM E R n A j := by rw [cmM, cmM, cntM_congr h.1]
theorem myF_congr {R R' : Nat → List Int32} : ∀ {n : Nat}, (∀ k, k < n → R' (10 + k) = R (10 + k)) → myF R' n = myF R n
  | 0, _ => rfl
  | n + 1, h => by rw [myF, myF, myF_congr (fun k hk => h k (by omega)), h n (by omega)]
theorem w_du {R R' : Nat → List Int32} {n A j : Nat} (h : ruR n R R') : duM A R' n j = duM A R n j := by rw [duM, duM, myF_congr h.1]
theorem dbF_congr {R R' : Nat → List Int32} {tn : Nat → Int32} {b : Bool} : ∀ {n : Nat}, (∀ k, k < n → R' (10 + k) = R (10 + k)) → dbF R' tn b n = dbF R tn b n
  | 0, _ => rfl
  | n + 1, h => by rw [dbF, dbF, dbF_congr (fun k hk => h k (by omega)), h n (by omega)]
theorem w_dual {A : Nat} {E : Nat → Int32} {R R' : Nat → List Int32} {n : Nat} {tn : Nat → Int32} {a : Int32} (h : ruR n R R') : pDual A E R' n tn a = pDual A E R n tn a := by
  rw [pDual, pDual, isDu, isDu, dbF_congr h.1, w_du h]
theorem tcF_congr {E : Nat → Int32} {R R' : Nat → List Int32} : ∀ {n : Nat}, (∀ k, k < n → R' k = R k) → tcF E R' n = tcF E R n
  | 0, _ => rfl
  | n + 1, h => by rw [tcF, tcF, tcF_congr (fun k hk => h k (by omega)), h n (by omega)]
theorem w_count {A : Nat} {E : Nat → Int32} {R R' : Nat → List Int32} {n : Nat} {tn : Nat → Int32} {w : Int32} (h : eqR R R') : pCount A E R' n tn w = pCount A E R n tn w := by
  rw [pCount, pCount, tcF_congr (fun k hk => h k (by omega))]
theorem itF_congr {f g : Nat → Int64 → Int64} {h : Int64} : ∀ {n : Nat}, (∀ k, k < n → ∀ z, f k z = g k z) → itF f h n = itF g h n
  | 0, _ => rfl
  | n + 1, q => by rw [itF, itF, itF_congr (fun k hk => q k (by omega)), q n (by omega)]
theorem w_digest {A : Nat} {E : Nat → Int32} {R R' : Nat → List Int32} {n : Nat} {tn : Nat → Int32} (h : eqR R R') (hn : n ≤ 8) : pDigest A E R' n tn = pDigest A E R n tn := by
  have e1 : dg1 A E R' n tn 4 = dg1 A E R n tn 4 := itF_congr (fun k _ z => by rw [w_count h])
  have e3 : ∀ z, dg3 R' z 10 = dg3 R z 10 := fun z => itF_congr (fun k hk y => by rw [h k (by omega)])
  have e4 : ∀ z, dg4 R' z n = dg4 R z n := fun z => itF_congr (fun k hk y => by rw [eqR_l h hn k hk, eqR_r h hn k hk])
  rw [pDigest, pDigest, e1, e3, e4]
