/-! the reference's count is a sum over trees -/
theorem gD_pre {l w : List Int32} {i : Nat} (h : i < l.length) : gD (l ++ w) i = gD l i := gD_app_l h
theorem endL_app {E : Nat → Int32} {t w : List Int32} {j q : Nat} (hj : j ≤ t.length) (h : endL E t j = some q) : endL E (t ++ w) j = some q := by
  have hb := endL_le hj h
  have := endL_at (T := t ++ w) (i' := j) h hb.1 (by rw [List.length_append]; omega) (fun s hs => gD_pre (by omega))
  rw [show j + (q - j) = q by omega] at this
  exact this
theorem mtF_app {E : Nat → Int32} {t w : List Int32} {g : Nat → Int32} : ∀ (f i j : Nat) (ac : List (Nat × Nat)) (r : Nat × List (Nat × Nat)), mtF E t g f i j ac = some r → mtF E (t ++ w) g f i j ac = some r
  | 0, i, j, ac, r, h => h
  | f + 1, i, j, ac, r, h => by
    rw [mtF] at h ⊢
    by_cases hj : t.length ≤ j
    · rw [if_pos hj] at h; cases h
    · rw [if_neg hj] at h
      rw [if_neg (by rw [List.length_append]; omega)]
      by_cases hg : g i = -1
      · rw [if_pos hg] at h ⊢
        cases he : endL E t j with
        | none => rw [he] at h; cases h
        | some q =>
          rw [he] at h
          rw [endL_app (by omega) he]
          exact mtF_app f _ _ _ _ h
      · rw [if_neg hg] at h ⊢
        by_cases h2 : gD t j = g i
        · rw [if_pos h2] at h
          rw [if_pos (by rw [gD_pre (by omega)]; exact h2)]
          exact mtF_app f _ _ _ _ h
        · rw [if_neg h2] at h; cases h
theorem fnd_none {β : Type} {f : Nat → Option β} : ∀ {m k : Nat}, fnd f m k = none → ∀ i, k ≤ i → i < k + m → f i = none
  | 0, k, _, i, h1, h2 => absurd h2 (by omega)
  | m + 1, k, h, i, h1, h2 => by
    rw [fnd] at h
    cases hf : f k with
    | some b => rw [hf] at h; cases h
    | none =>
      rw [hf] at h
      by_cases hk : i = k
      · rw [hk]; exact hf
      · exact fnd_none h i (by omega) (by omega)
theorem fP_iff {E : Nat → Int32} {R : Nat → List Int32} {n : Nat} {t : List Int32} : (fP E R n t).isSome = true ↔ ∃ p k, p < t.length ∧ k < n ∧ (mt E (R (10 + k)) t p).isSome = true := by
  constructor
  · intro h
    obtain ⟨⟨p, k, q, ac⟩, hr⟩ := Option.isSome_iff_exists.mp h
    have := fP_lt hr
    exact ⟨p, k, this.1, this.2.1, by rw [this.2.2]; rfl⟩
  · rintro ⟨p, k, h1, h2, h3⟩
    cases hf : fP E R n t with
    | some r => rfl
    | none =>
      have a1 := fnd_none hf p (Nat.zero_le _) (by omega)
      have a2 := fnd_none a1 k (Nat.zero_le _) (by omega)
      rw [a2] at h3; cases h3
theorem fP_app {E : Nat → Int32} {R : Nat → List Int32} {n : Nat} {t w : List Int32} (h : (fP E R n t).isSome = true) : (fP E R n (t ++ w)).isSome = true := by
  obtain ⟨p, k, h1, h2, h3⟩ := fP_iff.mp h
  obtain ⟨r, hr⟩ := Option.isSome_iff_exists.mp h3
  exact fP_iff.mpr ⟨p, k, by rw [List.length_append]; omega, h2, by rw [mt, mtF_app _ _ _ _ _ hr]; rfl⟩
def gI (E : Nat → Int32) (R : Nat → List Int32) (nr : Nat) (t : List Int32) : Int64 := if (fP E R nr t).isSome = true then 0 else 1
theorem lN_smF {f : Nat → Nat} : ∀ {m a : Nat}, lN (smF f a m) = sI (fun k => lN (f (a + k))) m
  | 0, a => rfl
  | m + 1, a => by
    have key : ∀ (q : Nat) (f : Nat → Int64), sI f (q + 1) = f 0 + sI (fun k => f (k + 1)) q := by
      intro q f
      induction q with
      | zero => rw [sI, sI, sI, Int64.zero_add, Int64.add_zero]
      | succ q ih => rw [sI, ih, sI, Int64.add_assoc]
    rw [smF, key, show lN (f a + smF f (a + 1) m) = lN (f a) + lN (smF f (a + 1) m) from Int64.ofNat_add _ _, lN_smF]
    rw [Nat.add_zero]
    refine congrArg _ (sI_congr (fun k _ => ?_))
    rw [show a + 1 + k = a + (k + 1) by omega]
theorem sI_hd {f : Nat → Int64} : ∀ {q : Nat}, sI f (q + 1) = f 0 + sI (fun k => f (k + 1)) q
  | 0 => by rw [sI, sI, sI, Int64.zero_add, Int64.add_zero]
  | q + 1 => by rw [sI, sI_hd, sI, Int64.add_assoc]
def scT (kd : Int32 → Int64 → Int64 → Int64 → Int64) (fb : Int64) (E : Nat → Int32) (R : Nat → List Int32) (nr n A : Nat) (W : List Int32) : Int64 := if lvs W + wyL E W ≤ n then Fo kd fb E A (wyL E W) (n - lvs W) (fun w => gI E R nr (W ++ w)) else 0
theorem scF_T {kd : Int32 → Int64 → Int64 → Int64 → Int64} {fb : Int64} {E : Nat → Int32} {R : Nat → List Int32} {nr n A : Nat} (hE : vE A E) (hn : n ≤ 6) : ∀ (f : Nat) (W : List Int32), 2 * (n - lvs W) - wyL E W < f → lN (scF E R nr n A f W) = scT kd fb E R nr n A W
  | 0, W, h => absurd h (Nat.not_lt_zero _)
  | f + 1, W, h => by
    rw [scF, scT]
    by_cases hm : mayW E R nr n W
    · rw [if_pos hm, if_pos hm.1]
      by_cases hw : wyL E W = 0
      · rw [if_pos hw, hw, Fo, List.append_nil, gI, if_neg hm.2]
        by_cases hl : lvs W = n
        · rw [if_pos hl, if_pos (by omega)]; rfl
        · have := hm.1
          rw [if_neg hl, if_neg (by omega)]; rfl
      · rw [if_neg hw, lN_smF, sI_hd]
        obtain ⟨k, hk⟩ : ∃ k, wyL E W = k + 1 := ⟨wyL E W - 1, by omega⟩
        have hle := hm.1
        rw [hk] at hle h ⊢
        rw [Fo_hd hE (by omega) (by omega)]
        refine congr (congrArg _ ?_) (sI_congr (fun a ha => ?_))
        · rw [Nat.add_zero, sy_0]
          have e1 : lvs (W ++ [-1]) = lvs W + 1 := by rw [lvs_snoc, if_pos rfl]
          have e2 : wyL E (W ++ [-1]) = k := by rw [wyL_snoc, wt_m1, hk]; omega
          rw [scF_T hE hn f _ (by rw [e1, e2]; omega), scT, e1, e2, if_pos (by omega), show n - (lvs W + 1) = n - lvs W - 1 by omega]
          refine congrArg _ (funext fun w => ?_)
          rw [List.append_assoc]; rfl
        · rw [Nat.zero_add, sy_s]
          have hwt := (wt_nI hE ha).2
          have hna : ¬ nI a = -1 := fun hq => nI_pos (n := a) (by have := hE.1; omega) (by rw [hq]; decide)
          have e1 : lvs (W ++ [nI a]) = lvs W := by rw [lvs_snoc, if_neg hna]; rfl
          have e2 : wyL E (W ++ [nI a]) = k + wt E (nI a) := by rw [wyL_snoc, hk]; omega
          rw [scF_T hE hn f _ (by rw [e1, e2]; omega), scT, e1, e2]
          by_cases hq : lvs W + (k + wt E (nI a)) ≤ n
          · rw [if_pos hq]
            refine congrArg _ (funext fun w => ?_)
            rw [List.append_assoc]; rfl
          · rw [if_neg hq, Fo_small _ _ _ (by omega)]
    · rw [if_neg hm]
      by_cases hl : lvs W + wyL E W ≤ n
      · rw [if_pos hl]
        have hp : (fP E R nr W).isSome = true := by
          rcases Bool.eq_false_or_eq_true (fP E R nr W).isSome with q | q
          · exact q
          · exact absurd ⟨hl, by rw [q]; decide⟩ hm
        rw [show (fun w => gI E R nr (W ++ w)) = fun _ => 0 from funext fun w => by rw [gI, if_pos (fP_app hp)], Fo_zero]; rfl
      · rw [if_neg hl]; rfl
theorem cnt_Ng {kd : Int32 → Int64 → Int64 → Int64 → Int64} {fb : Int64} {E : Nat → Int32} {R : Nat → List Int32} {nr n A : Nat} (hE : vE A E) (hn : n ≤ 6) (hn1 : 1 ≤ n) : lN (cntM E R nr A n) = Ng kd fb E A n (fun t => gI E R nr t.1) := by
  have h := scF_T (kd := kd) (fb := fb) (R := R) (nr := nr) hE hn 13 [] (by show 2 * (n - 0) - 1 < 13; omega)
  have hm : mayW E R nr n [] := ⟨by show 0 + 1 ≤ n; omega, by rw [fP_iff]; rintro ⟨p, k, h1, -⟩; exact absurd h1 (Nat.not_lt_zero _)⟩
  rw [scF, if_pos hm, if_neg (by show ¬ 1 = 0; decide), scT, if_pos hm.1] at h
  rw [cntM]
  refine h.trans ?_
  show Fo kd fb E A 1 (n - 0) (fun w => gI E R nr ([] ++ w)) = _
  rw [Nat.sub_zero, Fo_1 hn1]
  rfl
