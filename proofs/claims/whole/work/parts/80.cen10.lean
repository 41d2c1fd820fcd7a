/-! the dual's sums -/
theorem hK_mul {kd : Int64 → Int64 → Int64 → Int64} {fb k : Int64} {g : Int64 → Int64} {x y w : Int64} : hK kd fb (fun q => k * g q) x y w = k * hK kd fb g x y w := by
  rw [hK, hK]
  split
  · rfl
  · exact Int64.mul_zero.symm
theorem SgF_mul {kd : Int32 → Int64 → Int64 → Int64 → Int64} {fb : Int64} {E : Nat → Int32} {A : Nat} {k : Int64} : ∀ (f n : Nat) (g : Int64 → Int64), SgF kd fb E A f n (fun x => k * g x) = k * SgF kd fb E A f n g
  | 0, n, g => by
    rw [SgF, SgF]
    split
    · rfl
    · exact Int64.mul_zero.symm
  | f + 1, n, g => by
    rw [SgF, SgF]
    split
    · rfl
    · rw [← sI_mul]
      refine sI_congr (fun a _ => ?_)
      rw [tU, tU, ← sI_mul]
      refine sI_congr (fun i _ => ?_)
      rw [u2, u2, ← sI_mul]
      refine sI_congr (fun j _ => ?_)
      rw [u3, u3]
      split
      · rw [← SgF_mul f]
        refine congrArg _ (funext fun x => ?_)
        rw [← SgF_mul f]
        refine congrArg _ (funext fun y => ?_)
        rw [← SgF_mul f]
        exact congrArg _ (funext fun w => hK_mul)
      · exact Int64.mul_zero.symm
theorem Sg_mulL {kd : Int32 → Int64 → Int64 → Int64 → Int64} {fb : Int64} {E : Nat → Int32} {A n : Nat} {k : Int64} {g : Int64 → Int64} : Sg kd fb E A n (fun x => k * g x) = k * Sg kd fb E A n g := SgF_mul 6 n g
theorem Sg_mulR {kd : Int32 → Int64 → Int64 → Int64 → Int64} {fb : Int64} {E : Nat → Int32} {A n : Nat} {k : Int64} {g : Int64 → Int64} : Sg kd fb E A n (fun x => g x * k) = Sg kd fb E A n g * k := by
  rw [show (fun x => g x * k) = fun x => k * g x from funext fun x => Int64.mul_comm _ _, Sg_mulL, Int64.mul_comm]
/-- no act at the top of an entry that the lefts don't allow there -/
abbrev pfP (R : Nat → List Int32) (n A a en : Nat) (x : Int64) : Prop := ∀ b, b < A → hlF R a en b n = false → tb x b = false
def pf (R : Nat → List Int32) (n A a en : Nat) (x : Int64) : Int64 := if pfP R n A a en x then 1 else 0
section DUAL
variable {E : Nat → Int32} {R : Nat → List Int32} {n A : Nat} {T : NT}
theorem du_bit (h36 : T.1 ≤ 36) (hD : DI R n A T (fun x _ _ => x < A)) (hA4 : A ≤ 4) {b c : Nat} (hb : b < A) (hc : c < A) (x y w : Int64) : tb (kdT T (nI b) x y w) c = true ↔ c = b := by
  rw [kdT, tb_kd h36]
  have h := hD.2.1 c hc
  have h1 := hD.1
  constructor
  · rintro ⟨-, q, -⟩
    rw [h.1] at q
    exact (nI_eq (by omega) (by omega)).mp q
  · intro q
    subst q
    exact ⟨by omega, h.1, by rw [h.2 0 (by decide)]; exact sub_0 _, by rw [h.2 1 (by decide)]; exact sub_0 _, by rw [h.2 2 (by decide)]; exact sub_0 _⟩
theorem du_fb (h36 : T.1 ≤ 36) (hD : DI R n A T (fun x _ _ => x < A)) (hA4 : A ≤ 4) {a : Nat} (ha : a < A) (x y w : Int64) : kdT T (nI a) x y w &&& T.2.2.2.1 = 0 ↔ pfP R n A a 0 x ∧ pfP R n A a 1 y := by
  obtain ⟨h1, h2, h3, h4, h5⟩ := hD
  rw [tb_and0]
  have key : ∀ m, A ≤ m → m < T.1 → ∀ a' en b, dP R n A a' en b → dNd T a' en b m → (tb (kdT T (nI a) x y w) m = true ↔ a' = a ∧ tb (if en = 0 then x else y) b = true) := by
    intro m m1 m2 a' en b hp hd
    obtain ⟨p1, p2, p3, p4⟩ := hp
    obtain ⟨d1, d2, d3⟩ := hd
    rw [kdT, tb_kd h36]
    rcases (show en = 0 ∨ en = 1 by omega) with q | q
    · subst q
      constructor
      · rintro ⟨-, q1, q2, -, -⟩
        rw [d1] at q1
        rw [d2, sub_bit (by omega)] at q2
        exact ⟨(nI_eq (by omega) (by omega)).mp q1, q2⟩
      · rintro ⟨q1, q2⟩
        subst q1
        exact ⟨m2, d1, by rw [d2, sub_bit (by omega)]; exact q2, by rw [d3 1 (by decide) (by decide)]; exact sub_0 _, by rw [d3 2 (by decide) (by decide)]; exact sub_0 _⟩
    · subst q
      constructor
      · rintro ⟨-, q1, -, q2, -⟩
        rw [d1] at q1
        rw [d2, sub_bit (by omega)] at q2
        exact ⟨(nI_eq (by omega) (by omega)).mp q1, q2⟩
      · rintro ⟨q1, q2⟩
        subst q1
        exact ⟨m2, d1, by rw [d3 0 (by decide) (by decide)]; exact sub_0 _, by rw [d2, sub_bit (by omega)]; exact q2, by rw [d3 2 (by decide) (by decide)]; exact sub_0 _⟩
  constructor
  · intro h
    refine ⟨fun b hb hl => ?_, fun b hb hl => ?_⟩
    · obtain ⟨m, m1, m2, m3⟩ := h5 a 0 b ⟨ha, by decide, hb, hl⟩ ha
      cases ht : tb x b with
      | false => rfl
      | true => exact absurd ⟨(key m m1 m2 a 0 b ⟨ha, by decide, hb, hl⟩ m3).mpr ⟨rfl, ht⟩, (h3 m).mpr ⟨m1, m2⟩⟩ (h m)
    · obtain ⟨m, m1, m2, m3⟩ := h5 a 1 b ⟨ha, by decide, hb, hl⟩ ha
      cases ht : tb y b with
      | false => rfl
      | true => exact absurd ⟨(key m m1 m2 a 1 b ⟨ha, by decide, hb, hl⟩ m3).mpr ⟨rfl, ht⟩, (h3 m).mpr ⟨m1, m2⟩⟩ (h m)
  · rintro ⟨g0, g1⟩ m ⟨q1, q2⟩
    obtain ⟨m1, m2⟩ := (h3 m).mp q2
    obtain ⟨a', en, b, hp, hd⟩ := h4 m m1 m2
    obtain ⟨r1, r2⟩ := (key m m1 m2 a' en b hp hd).mp q1
    subst r1
    have := hp.2.1
    rcases (show en = 0 ∨ en = 1 by omega) with q | q
    · subst q
      have r2 : tb x b = true := r2
      rw [g0 b hp.2.2.1 hp.2.2.2] at r2; cases r2
    · subst q
      have r2 : tb y b = true := r2
      rw [g1 b hp.2.2.1 hp.2.2.2] at r2; cases r2
abbrev SgD (T : NT) (E : Nat → Int32) (A m : Nat) (g : Int64 → Int64) : Int64 := Sg (kdT T) T.2.2.2.1 E A m g
def BD (T : NT) (E : Nat → Int32) (A b m : Nat) : Int64 := tU (kdT T (nI b)) T.2.2.2.1 (SgD T E A) 2 m (fun _ => 1)
theorem du_pf (h36 : T.1 ≤ 36) (hD : DI R n A T (fun x _ _ => x < A)) (hA4 : A ≤ 4) {a en b : Nat} (hb : b < A) (x y w : Int64) : pf R n A a en (kdT T (nI b) x y w) = if hlF R a en b n = true then 1 else 0 := by
  rw [pf]
  by_cases hl : hlF R a en b n = true
  · rw [if_pos hl, if_pos]
    intro c hc hf
    cases ht : tb (kdT T (nI b) x y w) c with
    | false => rfl
    | true =>
      rw [(du_bit h36 hD hA4 hb hc x y w).mp ht, hl] at hf
      cases hf
  · rw [if_neg hl, if_neg]
    intro h
    rw [Bool.not_eq_true] at hl
    have := h b hb hl
    rw [(du_bit h36 hD hA4 hb hb x y w).mpr rfl] at this
    cases this
theorem BD_rec (h36 : T.1 ≤ 36) (hD : DI R n A T (fun x _ _ => x < A)) (hA4 : A ≤ 4) {a m : Nat} (ha : a < A) (hm : 2 ≤ m) : BD T E A a m = sI (fun i => SgD T E A (i + 1) (pf R n A a 0) * SgD T E A (m - (i + 1)) (pf R n A a 1)) (m - 1) := by
  rw [BD, tU]
  refine sI_congr (fun i hi => ?_)
  rw [u2]
  obtain ⟨r, hr⟩ : ∃ r, m - (i + 1) = r + 1 := ⟨m - (i + 1) - 1, by omega⟩
  rw [hr, sI, sI_zero (fun j hj => ?_), Int64.zero_add, u3, if_pos (by unfold uC; omega)]
  · rw [show m - (i + 1) - (r + 1) = 0 by omega, ← Sg_mulR]
    refine congrArg _ (funext fun x => ?_)
    rw [← Sg_mulL]
    refine congrArg _ (funext fun y => ?_)
    rw [SgD, Sg_1 (Nat.zero_le 1), hK]
    have hf := du_fb h36 hD hA4 ha x y 0
    rw [pf, pf]
    by_cases h0 : pfP R n A a 0 x
    · by_cases h1 : pfP R n A a 1 y
      · rw [if_pos (hf.mpr ⟨h0, h1⟩), if_pos h0, if_pos h1]; rfl
      · rw [if_neg (fun q => h1 (hf.mp q).2), if_pos h0, if_neg h1]; rfl
    · rw [if_neg (fun q => h0 (hf.mp q).1), if_neg h0, Int64.zero_mul]
  · rw [u3, if_neg (by unfold uC; omega)]
theorem Sg_pf (hE : vE A E) (h2 : ∀ a, a < A → E a = nI 2) (h36 : T.1 ≤ 36) (hD : DI R n A T (fun x _ _ => x < A)) {a en m : Nat} (hm : 2 ≤ m) (h6 : m ≤ 6) : SgD T E A m (pf R n A a en) = sI (fun b => if hlF R a en b n = true then BD T E A b m else 0) A := by
  rw [SgD, Sg_s hm h6]
  refine sI_congr (fun b hb => ?_)
  rw [wt_2 hE hb (h2 b hb)]
  have e : ∀ x y w, hK (kdT T (nI b)) T.2.2.2.1 (pf R n A a en) x y w = (if hlF R a en b n = true then 1 else 0) * hK (kdT T (nI b)) T.2.2.2.1 (fun _ => 1) x y w := by
    intro x y w
    rw [hK, hK]
    split
    · rw [du_pf h36 hD hE.1 hb, Int64.mul_one]
    · exact Int64.mul_zero.symm
  have e2 : tU (kdT T (nI b)) T.2.2.2.1 (SgD T E A) 2 m (pf R n A a en) = (if hlF R a en b n = true then 1 else 0) * BD T E A b m := by
    rw [BD, tU, tU, ← sI_mul]
    refine sI_congr (fun i _ => ?_)
    rw [u2, u2, ← sI_mul]
    refine sI_congr (fun j _ => ?_)
    rw [u3, u3]
    split
    · rw [← Sg_mulL]
      refine congrArg _ (funext fun x => ?_)
      rw [← Sg_mulL]
      refine congrArg _ (funext fun y => ?_)
      rw [← Sg_mulL]
      exact congrArg _ (funext fun w => e x y w)
    · exact Int64.mul_zero.symm
  refine e2.trans ?_
  split
  · exact Int64.one_mul _
  · exact Int64.zero_mul
theorem sI_slF {f : Nat → Int64} {a : Nat} : ∀ {m : Nat}, slF f a m = sI (fun i => f (a + i)) m
  | 0 => rfl
  | m + 1 => by rw [slF, sI, sI_slF]
theorem btT_le {my : Nat → Int32} {A a j : Nat} : ∀ {m : Nat}, j ≤ m → btT my A m a j = btT my A j a j
  | 0, h => by rw [show j = 0 by omega]
  | m + 1, h => by
    rcases Nat.lt_or_ge j (m + 1) with q | q
    · rw [btT_n (by omega)]; exact btT_le (by omega)
    · rw [show j = m + 1 by omega]
theorem BD_bt (hE : vE A E) (h2 : ∀ a, a < A → E a = nI 2) (h36 : T.1 ≤ 36) (hD : DI R n A T (fun x _ _ => x < A)) (hmy : ∀ a en b, a < A → b < A → en < 2 → (hlF R a en b n = true ↔ ¬ myF R n (8 * a + 4 * en + b) = 0)) : ∀ (k m : Nat), m ≤ k → 2 ≤ m → m ≤ 6 → ∀ a, a < A → BD T E A a m = btT (myF R n) A m a m
  | 0, m, hk, h, _, _, _ => absurd h (by omega)
  | k + 1, m, hk, h, h6, a, ha => by
    rw [BD_rec h36 hD hE.1 ha h, btT_at (by omega), sI_slF]
    have e : ∀ en q, en < 2 → 1 ≤ q → q < m → SgD T E A q (pf R n A a en) = dBl (myF R n) A (btT (myF R n) A (m - 1)) a en q := by
      intro en q hen q1 q2
      rw [dBl]
      by_cases hq : q = 1
      · rw [if_pos hq, hq, SgD, Sg_1 (Nat.le_refl 1), pf, if_pos (fun b _ _ => tb_0 b)]
      · rw [if_neg hq, Sg_pf hE h2 h36 hD (by omega) (by omega), sI_slF]
        refine sI_congr (fun b hb => ?_)
        rw [Nat.zero_add]
        have hm := hmy a en b ha hb hen
        by_cases hl : hlF R a en b n = true
        · rw [if_pos hl, if_neg (hm.mp hl), BD_bt hE h2 h36 hD hmy k q (by omega) (by omega) (by omega) b hb, btT_le (show q ≤ m - 1 by omega)]
        · rw [if_neg hl, if_pos (Classical.byContradiction (fun z => hl (hm.mpr z)))]
    refine sI_congr (fun i hi => ?_)
    rw [e 0 (i + 1) (by decide) (by omega) (by omega), e 1 (m - (i + 1)) (by decide) (by omega) (by omega), Nat.add_comm 1 i]
end DUAL
/-- dual's values -/
theorem cen_dual {A : Nat} {E : Nat → Int32} {R : Nat → List Int32} {n : Nat} {tn : Nat → Int32} (hE : vE A E) (hT : ∀ j, j < n → isT E (R (10 + j))) (hV : ∀ j, j < n → vR A (R (10 + j))) (hdu : isDu A E R n tn = true) (T0 : NT) (j : Nat) (h1 : 1 ≤ j) (h6 : j ≤ 6) : SgT (dlN R n A T0) E A j = duM A R n j := by
  obtain ⟨hb, h5⟩ := dbF_all hdu
  have h2 := daF_all hb
  have hA := hE.1
  rw [duM]
  by_cases hj : j = 1
  · rw [if_pos hj, hj]
    exact Sg_1 (Nat.le_refl 1)
  · rw [if_neg hj]
    have hD : DI R n A (dlN R n A T0) (fun x _ _ => x < A) := DI_c hA (Nat.le_refl _)
    have h36 : (dlN R n A T0).1 ≤ 36 := by
      have n1 := dcN_nd (R := R) (n := n) (A := A) (T := daN T0 A) (a := A)
      rw [daN_nd] at n1
      show (dcN R n A (daN T0 A) A).1 ≤ 36
      rcases (show A = 0 ∨ A = 1 ∨ A = 2 ∨ A = 3 ∨ A = 4 by omega) with q | q | q | q | q <;> subst q <;> omega
    have hmy : ∀ a en b, a < A → b < A → en < 2 → (hlF R a en b n = true ↔ ¬ myF R n (8 * a + 4 * en + b) = 0) := fun a en b ha hb2 hen => hl_my hE h2 ha hb2 hen (fun i hi => ⟨hV i hi, hT i hi, (h5 i hi).2⟩)
    show SgD (dlN R n A T0) E A j (fun _ => 1) = _
    rw [SgD, Sg_s (by omega) h6, sI_slF]
    refine sI_congr (fun b hb3 => ?_)
    rw [wt_2 hE hb3 (h2 b hb3), Nat.zero_add]
    exact BD_bt hE h2 h36 hD hmy 6 j h6 (by omega) h6 b hb3
