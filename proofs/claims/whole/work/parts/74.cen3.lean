/-! rows of trees -/
theorem NgF_st {kd : Int32 → Int64 → Int64 → Int64 → Int64} {fb : Int64} {E : Nat → Int32} {A : Nat} : ∀ (f n : Nat) (h : TT → Int64), n ≤ f + 1 → NgF kd fb E A (f + 1) n h = NgF kd fb E A f n h
  | 0, n, h, hn => by
    rw [NgF, NgF]
    by_cases h0 : n = 0
    · rw [if_pos h0, if_pos h0]
    · rw [if_neg h0, if_neg h0, if_pos (by omega), if_pos (by omega)]
  | f + 1, n, h, hn => by
    rw [NgF, NgF]
    by_cases h0 : n = 0
    · rw [if_pos h0, if_pos h0]
    · rw [if_neg h0, if_neg h0]
      by_cases h1 : n = 1
      · rw [if_pos h1, if_pos h1]
      · rw [if_neg h1, if_neg h1]
        refine sI_congr (fun a ha => sI_congr (fun i hi => sI_congr (fun j hj => ?_)))
        rw [N3, N3]
        split
        · rw [NgF_st f (i + 1) _ (by omega)]
          refine congrArg _ (funext fun x => ?_)
          rw [NgF_st f (j + 1) _ (by omega)]
          refine congrArg _ (funext fun y => ?_)
          exact NgF_st f _ _ (by omega)
        · rfl
def Ng (kd : Int32 → Int64 → Int64 → Int64 → Int64) (fb : Int64) (E : Nat → Int32) (A n : Nat) (h : TT → Int64) : Int64 := NgF kd fb E A 6 n h
theorem Ng_0 {kd : Int32 → Int64 → Int64 → Int64 → Int64} {fb : Int64} {E : Nat → Int32} {A : Nat} {h : TT → Int64} : Ng kd fb E A 0 h = h tNo := by rw [Ng, NgF, if_pos rfl]
theorem Ng_rec {kd : Int32 → Int64 → Int64 → Int64 → Int64} {fb : Int64} {E : Nat → Int32} {A i : Nat} {h : TT → Int64} (hi : i + 1 ≤ 6) : Ng kd fb E A (i + 1) h = (if i = 0 then h tLf else 0) + sI (fun a => N2 (Ng kd fb E A) (tNd kd fb a) (wt E (nI a)) (i + 1) h) A := by
  by_cases h0 : i = 0
  · subst h0
    rw [if_pos rfl, Ng, NgF, if_neg (by decide), if_pos rfl, sI_zero (fun a _ => by rw [N2]; rfl), Int64.add_zero]
  · rw [if_neg h0, Int64.zero_add, Ng, NgF, if_neg (by omega), if_neg (by omega)]
    refine sI_congr (fun a ha => sI_congr (fun i1 hi1 => sI_congr (fun j hj => ?_)))
    rw [N3, N3]
    split
    · rw [Ng, NgF_st 5 (i1 + 1) _ (by omega)]
      refine congrArg _ (funext fun x => ?_)
      rw [Ng, NgF_st 5 (j + 1) _ (by omega)]
      refine congrArg _ (funext fun y => ?_)
      rw [Ng, NgF_st 5 _ _ (by omega)]
    · rfl
theorem NgF_add {kd : Int32 → Int64 → Int64 → Int64 → Int64} {fb : Int64} {E : Nat → Int32} {A : Nat} : ∀ (f n : Nat) (h h' : TT → Int64), NgF kd fb E A f n (fun t => h t + h' t) = NgF kd fb E A f n h + NgF kd fb E A f n h'
  | 0, n, h, h' => by
    rw [NgF, NgF, NgF]
    split
    · rfl
    · split <;> rfl
  | f + 1, n, h, h' => by
    rw [NgF, NgF, NgF]
    split
    · rfl
    · split
      · rfl
      · rw [← sI_add]
        refine sI_congr (fun a ha => ?_)
        rw [N2, N2, N2, ← sI_add]
        refine sI_congr (fun i hi => ?_)
        rw [← sI_add]
        refine sI_congr (fun j hj => ?_)
        rw [N3, N3, N3]
        split
        · rw [← NgF_add f]
          refine congrArg _ (funext fun x => ?_)
          rw [← NgF_add f]
          refine congrArg _ (funext fun y => ?_)
          exact NgF_add f _ _ _
        · rfl
theorem Ng_sI {kd : Int32 → Int64 → Int64 → Int64 → Int64} {fb : Int64} {E : Nat → Int32} {A n : Nat} {F : TT → Nat → Int64} : ∀ {q : Nat}, Ng kd fb E A n (fun x => sI (fun j => F x j) q) = sI (fun j => Ng kd fb E A n (fun x => F x j)) q
  | 0 => Ng_zero 6 n
  | q + 1 => by
    rw [sI, ← Ng_sI, Ng, Ng, Ng, ← NgF_add]
    rfl
/-- the sum over all rows of k trees of together m leaves -/
def Fo (kd : Int32 → Int64 → Int64 → Int64 → Int64) (fb : Int64) (E : Nat → Int32) (A : Nat) : Nat → Nat → (List Int32 → Int64) → Int64
  | 0, m, H => if m = 0 then H [] else 0
  | k + 1, m, H => sI (fun i => Ng kd fb E A (i + 1) (fun t => Fo kd fb E A k (m - (i + 1)) (fun w => H (t.1 ++ w)))) m
theorem Fo_zero {kd : Int32 → Int64 → Int64 → Int64 → Int64} {fb : Int64} {E : Nat → Int32} {A : Nat} : ∀ (k m : Nat), Fo kd fb E A k m (fun _ => 0) = 0
  | 0, m => by rw [Fo]; split <;> rfl
  | k + 1, m => by
    rw [Fo]
    refine sI_zero (fun i _ => ?_)
    rw [show (fun t : TT => Fo kd fb E A k (m - (i + 1)) (fun w => 0)) = fun _ => 0 from funext fun t => Fo_zero k _]
    exact Ng_zero 6 _
theorem Fo_small {kd : Int32 → Int64 → Int64 → Int64 → Int64} {fb : Int64} {E : Nat → Int32} {A : Nat} : ∀ (k m : Nat) (H : List Int32 → Int64), m < k → Fo kd fb E A k m H = 0
  | 0, m, H, h => absurd h (Nat.not_lt_zero _)
  | k + 1, m, H, h => by
    rw [Fo]
    refine sI_zero (fun i hi => ?_)
    rw [show (fun t : TT => Fo kd fb E A k (m - (i + 1)) (fun w => H (t.1 ++ w))) = fun _ => 0 from funext fun t => Fo_small k _ _ (by omega)]
    exact Ng_zero 6 _
theorem reX2 (P : Nat → Nat → Nat → Nat → Int64) : ∀ m, m ≤ 6 → sI (fun i => sI (fun i1 => sI (fun j => if uC 2 (i + 1) i1 j then P i1 j (i + 1 - (i1 + 1) - (j + 1)) (m - (i + 1)) else 0) (i + 1 - (i1 + 1))) (i + 1 - 1)) m = sI (fun i1 => sI (fun j => P i1 j 0 (m - (i1 + 1) - (j + 1))) (m - (i1 + 1))) m
  | 0, _ => rfl
  | 1, _ => by simp [sI, uC]
  | 2, _ => by simp [sI, uC]
  | 3, _ => by simp [sI, uC]; try ac_rfl
  | 4, _ => by simp [sI, uC]; try ac_rfl
  | 5, _ => by simp [sI, uC]; try ac_rfl
  | 6, _ => by simp [sI, uC]; try ac_rfl
  | m + 7, h => absurd h (by omega)
theorem reX3 (P : Nat → Nat → Nat → Nat → Int64) : ∀ m, m ≤ 6 → sI (fun i => sI (fun i1 => sI (fun j => if uC 3 (i + 1) i1 j then P i1 j (i + 1 - (i1 + 1) - (j + 1)) (m - (i + 1)) else 0) (i + 1 - (i1 + 1))) (i + 1 - 1)) m = sI (fun i1 => sI (fun j => sI (fun l => P i1 j (l + 1) (m - (i1 + 1) - (j + 1) - (l + 1))) (m - (i1 + 1) - (j + 1))) (m - (i1 + 1))) m
  | 0, _ => rfl
  | 1, _ => by simp [sI, uC]
  | 2, _ => by simp [sI, uC]
  | 3, _ => by simp [sI, uC]; try ac_rfl
  | 4, _ => by simp [sI, uC]; try ac_rfl
  | 5, _ => by simp [sI, uC]; try ac_rfl
  | 6, _ => by simp [sI, uC]; try ac_rfl
  | m + 7, h => absurd h (by omega)
theorem Fo_a2 {kd : Int32 → Int64 → Int64 → Int64 → Int64} {fb : Int64} {E : Nat → Int32} {A a k m : Nat} {H : List Int32 → Int64} (hm : m ≤ 6) : sI (fun i => N2 (Ng kd fb E A) (tNd kd fb a) 2 (i + 1) (fun t => Fo kd fb E A k (m - (i + 1)) (fun w => H (t.1 ++ w)))) m = Fo kd fb E A (k + 2) m (fun w => H (nI a :: w)) := by
  refine (reX2 (fun i1 j i3 r => Ng kd fb E A (i1 + 1) (fun x => Ng kd fb E A (j + 1) (fun y => Ng kd fb E A i3 (fun z => Fo kd fb E A k r (fun w => H ((tNd kd fb a x y z).1 ++ w)))))) m hm).trans ?_
  rw [Fo]
  refine sI_congr (fun i1 h1 => ?_)
  rw [← Ng_sI]
  refine congrArg _ (funext fun x => ?_)
  rw [Fo]
  refine sI_congr (fun j hj => congrArg _ (funext fun y => ?_))
  rw [Ng_0]
  refine congrArg _ (funext fun w => ?_)
  rw [tNd]
  simp only [List.cons_append, List.append_assoc, List.append_nil, List.nil_append]
theorem Fo_a3 {kd : Int32 → Int64 → Int64 → Int64 → Int64} {fb : Int64} {E : Nat → Int32} {A a k m : Nat} {H : List Int32 → Int64} (hm : m ≤ 6) : sI (fun i => N2 (Ng kd fb E A) (tNd kd fb a) 3 (i + 1) (fun t => Fo kd fb E A k (m - (i + 1)) (fun w => H (t.1 ++ w)))) m = Fo kd fb E A (k + 3) m (fun w => H (nI a :: w)) := by
  refine (reX3 (fun i1 j i3 r => Ng kd fb E A (i1 + 1) (fun x => Ng kd fb E A (j + 1) (fun y => Ng kd fb E A i3 (fun z => Fo kd fb E A k r (fun w => H ((tNd kd fb a x y z).1 ++ w)))))) m hm).trans ?_
  rw [Fo]
  refine sI_congr (fun i1 h1 => ?_)
  rw [show (fun t : TT => Fo kd fb E A (k + 2) (m - (i1 + 1)) (fun w => H (nI a :: (t.1 ++ w)))) = fun t => sI (fun j => Ng kd fb E A (j + 1) (fun y => sI (fun l => Ng kd fb E A (l + 1) (fun z => Fo kd fb E A k (m - (i1 + 1) - (j + 1) - (l + 1)) (fun w => H (nI a :: (t.1 ++ (y.1 ++ (z.1 ++ w))))))) (m - (i1 + 1) - (j + 1)))) (m - (i1 + 1)) from rfl, Ng_sI]
  refine sI_congr (fun j hj => ?_)
  rw [← Ng_sI]
  refine congrArg _ (funext fun x => ?_)
  rw [← Ng_sI]
  refine congrArg _ (funext fun y => sI_congr (fun l hl => congrArg _ (funext fun z => congrArg _ (funext fun w => ?_))))
  rw [tNd]
  simp only [List.cons_append, List.append_assoc]
/-- by the first symbol -/
theorem Fo_hd {kd : Int32 → Int64 → Int64 → Int64 → Int64} {fb : Int64} {E : Nat → Int32} {A k m : Nat} {H : List Int32 → Int64} (hE : vE A E) (hm : m ≤ 6) (hm1 : 1 ≤ m) : Fo kd fb E A (k + 1) m H = Fo kd fb E A k (m - 1) (fun w => H (-1 :: w)) + sI (fun a => Fo kd fb E A (k + wt E (nI a)) m (fun w => H (nI a :: w))) A := by
  rw [Fo, sI_congr (fun i hi => Ng_rec (by omega)), sI_add, sI_swap]
  have e1 : sI (fun i => if i = 0 then Fo kd fb E A k (m - (i + 1)) (fun w => H (tLf.1 ++ w)) else 0) m = Fo kd fb E A k (m - 1) (fun w => H (-1 :: w)) := by
    obtain ⟨q, rfl⟩ : ∃ q, m = q + 1 := ⟨m - 1, by omega⟩
    have key : ∀ {f : Nat → Int64} (p : Nat), sI (fun i => if i = 0 then f i else 0) (p + 1) = f 0 := by
      intro f p
      induction p with
      | zero => rw [sI, sI, if_pos rfl, Int64.zero_add]
      | succ p ih => rw [sI, ih, if_neg (by omega), Int64.add_zero]
    exact key (f := fun i => Fo kd fb E A k (q + 1 - (i + 1)) (fun w => H (tLf.1 ++ w))) q
  rw [e1]
  refine congrArg _ (sI_congr (fun a ha => ?_))
  rcases (wt_nI hE ha).2 with h | h
  · rw [h]; exact Fo_a2 hm
  · rw [h]; exact Fo_a3 hm
theorem Fo_1 {kd : Int32 → Int64 → Int64 → Int64 → Int64} {fb : Int64} {E : Nat → Int32} {A m : Nat} {H : List Int32 → Int64} (hm1 : 1 ≤ m) : Fo kd fb E A 1 m H = Ng kd fb E A m (fun t => H t.1) := by
  obtain ⟨q, rfl⟩ : ∃ q, m = q + 1 := ⟨m - 1, by omega⟩
  rw [Fo, sI, sI_zero (fun i hi => ?_), Int64.zero_add]
  · refine congrArg _ (funext fun t => ?_)
    rw [Fo, if_pos (by omega), List.append_nil]
  · rw [show (fun t : TT => Fo kd fb E A 0 (q + 1 - (i + 1)) (fun w => H (t.1 ++ w))) = fun _ => 0 from funext fun t => by rw [Fo, if_neg (by omega)]]
    exact Ng_zero 6 _
