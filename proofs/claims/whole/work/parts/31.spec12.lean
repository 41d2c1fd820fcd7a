/-! the walk through all trees, in the reference -/
def wyF (w : Int32 → Nat) (g : Nat → Int32) : Nat → Nat
  | 0 => 1
  | i + 1 => wyF w g i + w (g i) - 1
def wyL (E : Nat → Int32) (l : List Int32) : Nat := wyF (wt E) (gD l) l.length
/-- the word is open at every place before its end -/
def opW (E : Nat → Int32) (l : List Int32) : Prop := ∀ i, i < l.length → 0 < wyF (wt E) (gD l) i
theorem wyF_congr {w : Int32 → Nat} {g h : Nat → Int32} : ∀ {n : Nat}, (∀ i, i < n → g i = h i) → wyF w g n = wyF w h n
  | 0, _ => rfl
  | n + 1, hh => by rw [wyF, wyF, hh n (by omega), wyF_congr (fun i hi => hh i (by omega))]
theorem cF_congr {g h : Nat → Int32} : ∀ {n : Nat}, (∀ i, i < n → g i = h i) → cF g n = cF h n
  | 0, _ => rfl
  | n + 1, hh => by rw [cF, cF, hh n (by omega), cF_congr (fun i hi => hh i (by omega))]
theorem wyL_snoc {E : Nat → Int32} {l : List Int32} {z : Int32} : wyL E (l ++ [z]) = wyL E l + wt E z - 1 := by
  rw [wyL, List.length_append, List.length_singleton, wyF, gD_snoc, wyF_congr (h := gD l) (fun i hi => gD_app_l hi)]
  rfl
theorem lvs_snoc {l : List Int32} {z : Int32} : lvs (l ++ [z]) = lvs l + (if z = -1 then 1 else 0) := by
  rw [lvs, List.length_append, List.length_singleton, cF, gD_snoc, cF_congr (h := gD l) (fun i hi => gD_app_l hi)]
  rfl
theorem opW_snoc {E : Nat → Int32} {l : List Int32} {z : Int32} (h : opW E l) (hw : 0 < wyL E l) : opW E (l ++ [z]) := by
  intro i hi
  rw [List.length_append, List.length_singleton] at hi
  rw [wyF_congr (h := gD l) (fun j hj => gD_app_l (by omega))]
  rcases Nat.lt_or_ge i l.length with q | q
  · exact h i q
  · rw [show i = l.length by omega]; exact hw
theorem opW_init {E : Nat → Int32} {l : List Int32} {z : Int32} (h : opW E (l ++ [z])) : opW E l ∧ 0 < wyL E l := by
  refine ⟨fun i hi => ?_, ?_⟩
  · have := h i (by rw [List.length_append]; omega)
    rwa [wyF_congr (h := gD l) (fun j hj => gD_app_l (by omega))] at this
  · have := h l.length (by rw [List.length_append, List.length_singleton]; omega)
    rwa [wyF_congr (h := gD l) (fun j hj => gD_app_l (by omega))] at this
def sy (k : Nat) : Int32 := nI k - nI 1
theorem sy_0 : sy 0 = -1 := by decide
theorem sy_s (k : Nat) : sy (k + 1) = nI k := nI_p1 k
theorem sy_add (k : Nat) : sy k + nI 1 = sy (k + 1) := by
  rw [sy, Int32.sub_add_cancel, sy_s]
theorem sy_toInt {k : Nat} (hk : k < 2 ^ 31) : (sy k).toInt = (k : Int) - 1 := nI_m1 hk
theorem sy_lt {k A : Nat} (hk : k < 2 ^ 31) (hA : A < 2 ^ 31) : nI A - nI 1 ≤ sy k ↔ A ≤ k := by
  rw [i_le, sy_toInt hk, nI_m1 hA]; omega
theorem vS_sy {A : Nat} {z : Int32} : vS A z ↔ ∃ k, k ≤ A ∧ z = sy k := by
  refine ⟨fun h => ?_, fun h => ?_⟩
  · rcases h with h | ⟨a, ha, h⟩
    · exact ⟨0, Nat.zero_le _, by rw [h, sy_0]⟩
    · exact ⟨a + 1, ha, by rw [h, sy_s]⟩
  · obtain ⟨k, hk, h⟩ := h
    cases k with
    | zero => left; rw [h, sy_0]
    | succ k => right; exact ⟨k, hk, by rw [h, sy_s]⟩
theorem mOK_last {S Z : Nat → Int32} {R : Nat → List Int32} (h : mOK S Z R) {r : Nat} (hr : r < 30) {W : List Int32} {z : Int32} (hW : R r = W ++ [z]) (z' : Int32) : mOK (upd S (60 * r + W.length) z') Z (va_up R r (W ++ [z'])) := by
  intro k hk
  have h1 := h k hk
  by_cases hkr : k = r
  · subst hkr
    rw [hW, List.length_append, List.length_singleton] at h1
    rw [va_up_self, List.length_append, List.length_singleton]
    refine ⟨h1.1, h1.2.1, fun i hi => ?_⟩
    by_cases hi2 : i = W.length
    · rw [hi2, pk_us, gD_snoc]
    · rw [pk_un (by omega), gD_app_l (by omega)]
      have := h1.2.2 i hi
      rwa [gD_app_l (by omega)] at this
  · rw [upn hkr]
    have h2 := (h r hr).1
    rw [hW, List.length_append, List.length_singleton] at h2
    refine ⟨h1.1, h1.2.1, fun i hi => ?_⟩
    rw [pk_un (by omega)]
    exact h1.2.2 i hi
theorem mOK_pop {S Z : Nat → Int32} {R : Nat → List Int32} (h : mOK S Z R) {r : Nat} {W : List Int32} {z : Int32} (hW : R r = W ++ [z]) : mOK S (upd Z r (nI W.length)) (va_up R r W) := by
  intro k hk
  have h1 := h k hk
  by_cases hkr : k = r
  · subst hkr
    rw [hW, List.length_append, List.length_singleton] at h1
    rw [va_up_self, pk_us]
    refine ⟨by omega, rfl, fun i hi => ?_⟩
    have := h1.2.2 i (by omega)
    rwa [gD_app_l hi] at this
  · rw [upn hkr, pk_un hkr]
    exact h1
/-- the next word in the walk; by the reversed word -/
def gonR (A : Nat) : List Int32 → Option (List Int32)
  | [] => none
  | z :: r => if z.toInt < (A : Int) - 1 then some ((z + nI 1) :: r) else gonR A r
def gon (A : Nat) (l : List Int32) : Option (List Int32) := (gonR A l.reverse).map List.reverse
theorem gon_nil (A : Nat) : gon A [] = none := rfl
theorem gon_y {A k : Nat} {W : List Int32} (hk : k < A) (hA : A < 2 ^ 31) : gon A (W ++ [sy k]) = some (W ++ [sy (k + 1)]) := by
  rw [gon, List.reverse_append, List.reverse_singleton, List.singleton_append, gonR, if_pos (by rw [sy_toInt (by omega)]; omega), sy_add]
  simp
theorem gon_n {A k : Nat} {W : List Int32} (hk : A ≤ k) (hA : k < 2 ^ 31) : gon A (W ++ [sy k]) = gon A W := by
  rw [gon, gon, List.reverse_append, List.reverse_singleton, List.singleton_append, gonR, if_neg (by rw [sy_toInt (by omega)]; omega)]
theorem snoc_of {l : List Int32} (h : 0 < l.length) : ∃ W z, l = W ++ [z] := by
  rcases List.eq_nil_or_concat l with q | ⟨W, z, q⟩
  · rw [q] at h; cases h
  · exact ⟨W, z, by rw [q, List.concat_eq_append]⟩
/-- sums -/
def smF (f : Nat → Nat) (a : Nat) : Nat → Nat
  | 0 => 0
  | m + 1 => f a + smF f (a + 1) m
abbrev mayW (E : Nat → Int32) (R : Nat → List Int32) (nr n : Nat) (W : List Int32) : Prop := lvs W + wyL E W ≤ n ∧ ¬ (fP E R nr W).isSome = true
def scF (E : Nat → Int32) (R : Nat → List Int32) (nr n A : Nat) : Nat → List Int32 → Nat
  | 0, _ => 0
  | f + 1, W => if mayW E R nr n W then (if wyL E W = 0 then (if lvs W = n then 1 else 0) else smF (fun k => scF E R nr n A f (W ++ [sy k])) 0 (A + 1)) else 0
def snF (E : Nat → Int32) (R : Nat → List Int32) (nr n A : Nat) : Nat → List Int32 → Nat
  | 0, _ => 1
  | f + 1, W => 1 + (if mayW E R nr n W ∧ wyL E W ≠ 0 then smF (fun k => snF E R nr n A f (W ++ [sy k])) 0 (A + 1) else 0)
/-- what is left behind a word, by the reversed word -/
def rcF (f : Nat → List Int32 → Nat) (A : Nat) : List Int32 → Nat
  | [] => 0
  | z :: r => smF (fun k => f (12 - r.length) (r.reverse ++ [sy k])) ((z + nI 1).toNatClampNeg + 1) (A - (z + nI 1).toNatClampNeg) + rcF f A r
def rcL (f : Nat → List Int32 → Nat) (A : Nat) (l : List Int32) : Nat := rcF f A l.reverse
theorem rcL_snoc {f : Nat → List Int32 → Nat} {A k : Nat} {W : List Int32} (hk : k < 2 ^ 31) : rcL f A (W ++ [sy k]) = smF (fun j => f (12 - W.length) (W ++ [sy j])) (k + 1) (A - k) + rcL f A W := by
  rw [rcL, List.reverse_append, List.reverse_singleton, List.singleton_append, rcF, sy_add, sy_s, nI_clamp hk, List.length_reverse, List.reverse_reverse]
  rfl
/-- the word goes on, or is passed: what is left is what it holds and what is behind it -/
theorem rc_next {f : Nat → List Int32 → Nat} {A : Nat} (hA : A < 2 ^ 30) : ∀ (m : Nat) (l : List Int32), l.length ≤ m → vR A l → rcL f A l = match gon A l with | none => 0 | some l' => f (13 - l'.length) l' + rcL f A l'
  | m, l, hm, hv => by
    rcases Nat.eq_zero_or_pos l.length with q | q
    · rw [List.length_eq_zero_iff.mp q, gon_nil]; rfl
    · obtain ⟨W, z, rfl⟩ := snoc_of q
      obtain ⟨k, hk, rfl⟩ := vS_sy.mp (by have := hv W.length (by rw [List.length_append]; exact Nat.lt_succ_self _); rwa [gD_snoc] at this)
      rw [rcL_snoc (by omega)]
      rw [List.length_append, List.length_singleton] at hm
      rcases Nat.lt_or_ge k A with h | h
      · rw [gon_y h (by omega)]
        dsimp only
        rw [rcL_snoc (by omega), show A - k = (A - (k + 1)) + 1 by omega, smF, List.length_append, List.length_singleton, show 13 - (W.length + 1) = 12 - W.length by omega]
        exact Nat.add_assoc _ _ _
      · rw [gon_n h (by omega), show A - k = 0 by omega, smF, Nat.zero_add]
        cases m with
        | zero => omega
        | succ m => exact rc_next hA m W (by omega) (fun i hi => by have := hv i (by rw [List.length_append]; omega); rwa [gD_app_l hi] at this)
def cntM (E : Nat → Int32) (R : Nat → List Int32) (nr A n : Nat) : Nat := smF (fun k => scF E R nr n A 12 [sy k]) 0 (A + 1)
theorem vR_init {A : Nat} {W : List Int32} {z : Int32} (h : vR A (W ++ [z])) : vR A W ∧ vS A z := by
  refine ⟨fun i hi => ?_, ?_⟩
  · have := h i (by rw [List.length_append]; omega)
    rwa [gD_app_l hi] at this
  · have := h W.length (by rw [List.length_append]; exact Nat.lt_succ_self _)
    rwa [gD_snoc] at this
theorem gon_ok {A : Nat} {E : Nat → Int32} (hA : A < 2 ^ 30) : ∀ (m : Nat) (l l' : List Int32), l.length ≤ m → vR A l → opW E l → gon A l = some l' → vR A l' ∧ opW E l' ∧ 0 < l'.length ∧ l'.length ≤ l.length
  | m, l, l', hm, hv, ho, h => by
    rcases Nat.eq_zero_or_pos l.length with q | q
    · rw [List.length_eq_zero_iff.mp q, gon_nil] at h; cases h
    · obtain ⟨W, z, rfl⟩ := snoc_of q
      obtain ⟨hv1, hz⟩ := vR_init hv
      obtain ⟨k, hk, rfl⟩ := vS_sy.mp hz
      obtain ⟨ho1, ho2⟩ := opW_init ho
      rw [List.length_append, List.length_singleton] at hm
      rcases Nat.lt_or_ge k A with g | g
      · rw [gon_y g (by omega)] at h
        cases h
        refine ⟨vR_app hv1 (vR_one (vS_sy.mpr ⟨k + 1, by omega, rfl⟩)), opW_snoc ho1 ho2, ?_, ?_⟩ <;> rw [List.length_append, List.length_singleton]
        · omega
        · rw [List.length_append, List.length_singleton]; omega
      · rw [gon_n g (by omega)] at h
        cases m with
        | zero => omega
        | succ m =>
          have := gon_ok hA m W l' (by omega) hv1 ho1 h
          refine ⟨this.1, this.2.1, this.2.2.1, ?_⟩
          rw [List.length_append]; omega
theorem len_bd {A : Nat} {E : Nat → Int32} (hE : vE A E) : ∀ (m : Nat) (l : List Int32), l.length = m → vR A l → opW E l → l.length + 1 ≤ 2 * lvs l + wyL E l
  | 0, l, hm, _, _ => by rw [List.length_eq_zero_iff.mp hm]; exact Nat.le_refl 1
  | m + 1, l, hm, hv, ho => by
    obtain ⟨W, z, rfl⟩ := snoc_of (show 0 < l.length by omega)
    obtain ⟨hv1, hz⟩ := vR_init hv
    obtain ⟨ho1, ho2⟩ := opW_init ho
    rw [List.length_append, List.length_singleton] at hm ⊢
    have ih := len_bd hE m W (by omega) hv1 ho1
    rw [wyL_snoc, lvs_snoc]
    rcases hz with h | ⟨a, ha, h⟩
    · rw [if_pos h, h, wt_m1]; omega
    · rw [if_neg (by rw [h]; exact nI_neM1 (by have := hE.1; omega)), h]
      have := (wt_nI hE ha).2
      omega
theorem sc_push {E : Nat → Int32} {R : Nat → List Int32} {nr n A : Nat} {W : List Int32} (hl : W.length ≤ 11) (hm : mayW E R nr n W) (hw : ¬ wyL E W = 0) : scF E R nr n A (13 - W.length) W + rcL (scF E R nr n A) A W = scF E R nr n A (13 - (W ++ [sy 0]).length) (W ++ [sy 0]) + rcL (scF E R nr n A) A (W ++ [sy 0]) := by
  rw [rcL_snoc (by decide), List.length_append, List.length_singleton, show 13 - W.length = (12 - W.length) + 1 by omega, scF, if_pos hm, if_neg hw, smF, show 13 - (W.length + 1) = 12 - W.length by omega, Nat.sub_zero]
  omega
theorem sn_push {E : Nat → Int32} {R : Nat → List Int32} {nr n A : Nat} {W : List Int32} (hl : W.length ≤ 11) (hm : mayW E R nr n W) (hw : ¬ wyL E W = 0) : snF E R nr n A (13 - (W ++ [sy 0]).length) (W ++ [sy 0]) + rcL (snF E R nr n A) A (W ++ [sy 0]) < snF E R nr n A (13 - W.length) W + rcL (snF E R nr n A) A W := by
  rw [rcL_snoc (by decide), List.length_append, List.length_singleton, show 13 - W.length = (12 - W.length) + 1 by omega, snF, if_pos ⟨hm, hw⟩, smF, show 13 - (W.length + 1) = 12 - W.length by omega, Nat.sub_zero]
  omega
theorem sc_own {E : Nat → Int32} {R : Nat → List Int32} {nr n A : Nat} {W : List Int32} (hl : W.length ≤ 12) (h : ¬ (mayW E R nr n W ∧ ¬ wyL E W = 0)) : scF E R nr n A (13 - W.length) W = if mayW E R nr n W ∧ lvs W = n then 1 else 0 := by
  rw [show 13 - W.length = (12 - W.length) + 1 by omega, scF]
  by_cases hm : mayW E R nr n W
  · have hw : wyL E W = 0 := Classical.byContradiction (fun q => h ⟨hm, q⟩)
    rw [if_pos hm, if_pos hw]
    by_cases hn : lvs W = n
    · rw [if_pos hn, if_pos ⟨hm, hn⟩]
    · rw [if_neg hn, if_neg (fun q => hn q.2)]
  · rw [if_neg hm, if_neg (fun q => hm q.1)]
theorem sn_pos {E : Nat → Int32} {R : Nat → List Int32} {nr n A f : Nat} {W : List Int32} : 0 < snF E R nr n A f W := by
  cases f with
  | zero => exact Nat.one_pos
  | succ f => rw [snF]; omega
theorem wy_le {A : Nat} {E : Nat → Int32} (hE : vE A E) : ∀ (m : Nat) (l : List Int32), l.length = m → vR A l → wyL E l ≤ 1 + 3 * l.length
  | 0, l, hm, _ => by rw [List.length_eq_zero_iff.mp hm]; exact Nat.le_refl 1
  | m + 1, l, hm, hv => by
    obtain ⟨W, z, rfl⟩ := snoc_of (show 0 < l.length by omega)
    obtain ⟨hv1, hz⟩ := vR_init hv
    rw [List.length_append, List.length_singleton] at hm ⊢
    have ih := wy_le hE m W (by omega) hv1
    have := wt_le hE hz
    rw [wyL_snoc]
    omega
theorem rc_some {f : Nat → List Int32 → Nat} {A : Nat} (hA : A < 2 ^ 30) {l l' : List Int32} (hv : vR A l) (h : gon A l = some l') : rcL f A l = f (13 - l'.length) l' + rcL f A l' := by
  have := rc_next (f := f) hA l.length l (Nat.le_refl _) hv
  rw [h] at this
  exact this
theorem rc_none {f : Nat → List Int32 → Nat} {A : Nat} (hA : A < 2 ^ 30) {l : List Int32} (hv : vR A l) (h : gon A l = none) : rcL f A l = 0 := by
  have := rc_next (f := f) hA l.length l (Nat.le_refl _) hv
  rw [h] at this
  exact this
def cmM (E : Nat → Int32) (R : Nat → List Int32) (nr A n : Nat) : Int64 := if n = 1 then 1 else lN (cntM E R nr A n)
abbrev rN6 (a : Int32) : Prop := 1 ≤ a.toInt ∧ a.toInt ≤ 6
theorem rN6_in {a : Int32} : (¬ a < nI 1 ∧ ¬ nI 6 < a) ↔ rN6 a := by
  rw [i_lt, i_lt, nI_toInt (by decide), nI_toInt (by decide)]; omega
theorem rN6_of {a : Int32} (h : rN6 a) : ∃ j : Nat, 1 ≤ j ∧ j ≤ 6 ∧ a = nI j := by
  obtain ⟨j, hj, rfl⟩ := rIn_of (r := a) (n := 7) ⟨by omega, by omega⟩ (by decide)
  have h1 := h.1
  rw [nI_toInt (by omega)] at h1
  exact ⟨j, by omega, by omega, rfl⟩
theorem updL_s {f : Nat → Int64} {k : Nat} {x : Int64} : vp_updL f k x k = x := pk_uLs
theorem updL_n {f : Nat → Int64} {k j : Nat} {x : Int64} (h : j ≠ k) : vp_updL f k x j = f j := pk_uLn h
theorem updL_ext {f g : Nat → Int64} {k : Nat} {x : Int64} (h : ∀ j, 1 ≤ j → j < k → f j = g j) (hx : x = g k) : ∀ j, 1 ≤ j → j < k + 1 → vp_updL f k x j = g j := by
  intro j h1 h2
  by_cases hjk : j = k
  · rw [hjk, updL_s]; exact hx
  · rw [updL_n hjk]; exact h j h1 (by omega)
def pMany (E : Nat → Int32) (R : Nat → List Int32) (nr A : Nat) (a : Int32) : Int64 := if rN6 a then cmM E R nr A a.toNatClampNeg else -2
theorem smF_congr {f g : Nat → Nat} : ∀ {m a : Nat}, (∀ k, a ≤ k → k < a + m → f k = g k) → smF f a m = smF g a m
  | 0, _, _ => rfl
  | m + 1, a, h => by rw [smF, smF, h a (Nat.le_refl _) (by omega), smF_congr (fun k h1 h2 => h k (by omega) (by omega))]
theorem scF_congr {E : Nat → Int32} {R R' : Nat → List Int32} {nr n A : Nat} (h : ∀ k, k < nr → R' (10 + k) = R (10 + k)) : ∀ (f : Nat) (W : List Int32), scF E R' nr n A f W = scF E R nr n A f W
  | 0, _ => rfl
  | f + 1, W => by
    have e : mayW E R' nr n W ↔ mayW E R nr n W := by rw [mayW, mayW, fP_congr h]
    have e2 : smF (fun k => scF E R' nr n A f (W ++ [sy k])) 0 (A + 1) = smF (fun k => scF E R nr n A f (W ++ [sy k])) 0 (A + 1) := smF_congr (fun k _ _ => scF_congr h f _)
    rw [scF, scF, e2]
    by_cases hm : mayW E R nr n W
    · rw [if_pos hm, if_pos (e.mpr hm)]
    · rw [if_neg hm, if_neg (fun q => hm (e.mp q))]
theorem cntM_congr {E : Nat → Int32} {R R' : Nat → List Int32} {nr n A : Nat} (h : ∀ k, k < nr → R' (10 + k) = R (10 + k)) : cntM E R' nr A n = cntM E R nr A n := smF_congr (fun k _ _ => scF_congr h _ _)
