/-! sums over all trees -/
abbrev TT : Type := List Int32 × Int64 × Bool
abbrev tNo : TT := ([], 0, true)
abbrev tLf : TT := ([-1], 0, true)
def tNd (kd : Int32 → Int64 → Int64 → Int64 → Int64) (fb : Int64) (a : Nat) (x y z : TT) : TT := (nI a :: (x.1 ++ (y.1 ++ z.1)), kd (nI a) x.2.1 y.2.1 z.2.1, x.2.2 && y.2.2 && z.2.2 && decide (kd (nI a) x.2.1 y.2.1 z.2.1 &&& fb = 0))
def N3 (S : Nat → (TT → Int64) → Int64) (nd : TT → TT → TT → TT) (e n : Nat) (h : TT → Int64) (i j : Nat) : Int64 := if uC e n i j then S (i + 1) (fun x => S (j + 1) (fun y => S (n - (i + 1) - (j + 1)) (fun z => h (nd x y z)))) else 0
def N2 (S : Nat → (TT → Int64) → Int64) (nd : TT → TT → TT → TT) (e n : Nat) (h : TT → Int64) : Int64 := sI (fun i => sI (N3 S nd e n h i) (n - (i + 1))) (n - 1)
def NgF (kd : Int32 → Int64 → Int64 → Int64 → Int64) (fb : Int64) (E : Nat → Int32) (A : Nat) : Nat → Nat → (TT → Int64) → Int64
  | 0, n, h => if n = 0 then h tNo else if n = 1 then h tLf else 0
  | f + 1, n, h => if n = 0 then h tNo else if n = 1 then h tLf else sI (fun a => N2 (NgF kd fb E A f) (tNd kd fb a) (wt E (nI a)) n h) A
theorem sI_zero {f : Nat → Int64} : ∀ {n : Nat}, (∀ i, i < n → f i = 0) → sI f n = 0
  | 0, _ => rfl
  | n + 1, h => by rw [sI, h n (by omega), sI_zero (fun i hi => h i (by omega))]; rfl
theorem sI_add {f g : Nat → Int64} : ∀ {n : Nat}, sI (fun i => f i + g i) n = sI f n + sI g n
  | 0 => rfl
  | n + 1 => by
    rw [sI, sI, sI, sI_add]
    ac_rfl
theorem sI_swap {f : Nat → Nat → Int64} {m : Nat} : ∀ {n : Nat}, sI (fun i => sI (fun j => f i j) m) n = sI (fun j => sI (fun i => f i j) n) m
  | 0 => (sI_zero (fun _ _ => rfl)).symm
  | n + 1 => by
    rw [sI, sI_swap, ← sI_add]
    rfl
/-- trees of n leaves -/
def gen (kd : Int32 → Int64 → Int64 → Int64 → Int64) (fb : Int64) (E : Nat → Int32) (A : Nat) : Nat → Nat → TT → Prop
  | 0, n, t => (n = 0 ∧ t = tNo) ∨ (n = 1 ∧ t = tLf)
  | f + 1, n, t => (n = 0 ∧ t = tNo) ∨ (n = 1 ∧ t = tLf) ∨ (2 ≤ n ∧ ∃ a i j x y z, a < A ∧ i < n - 1 ∧ j < n - (i + 1) ∧ uC (wt E (nI a)) n i j ∧ gen kd fb E A f (i + 1) x ∧ gen kd fb E A f (j + 1) y ∧ gen kd fb E A f (n - (i + 1) - (j + 1)) z ∧ t = tNd kd fb a x y z)
theorem Ng_congr {kd : Int32 → Int64 → Int64 → Int64 → Int64} {fb : Int64} {E : Nat → Int32} {A : Nat} : ∀ (f n : Nat) (h h' : TT → Int64), (∀ t, gen kd fb E A f n t → h t = h' t) → NgF kd fb E A f n h = NgF kd fb E A f n h'
  | 0, n, h, h', q => by
    rw [NgF, NgF]
    split
    · rename_i h0; exact q _ (Or.inl ⟨h0, rfl⟩)
    · split
      · rename_i h1; exact q _ (Or.inr ⟨h1, rfl⟩)
      · rfl
  | f + 1, n, h, h', q => by
    rw [NgF, NgF]
    split
    · rename_i h0; exact q _ (Or.inl ⟨h0, rfl⟩)
    · split
      · rename_i h1; exact q _ (Or.inr (Or.inl ⟨h1, rfl⟩))
      · rename_i h0 h1
        refine sI_congr (fun a ha => sI_congr (fun i hi => sI_congr (fun j hj => ?_)))
        rw [N3, N3]
        split
        · rename_i hu
          refine Ng_congr f _ _ _ (fun x hx => Ng_congr f _ _ _ (fun y hy => Ng_congr f _ _ _ (fun z hz => ?_)))
          exact q _ (Or.inr (Or.inr ⟨by omega, a, i, j, x, y, z, ha, hi, hj, hu, hx, hy, hz, rfl⟩))
        · rfl
theorem Ng_zero {kd : Int32 → Int64 → Int64 → Int64 → Int64} {fb : Int64} {E : Nat → Int32} {A : Nat} : ∀ (f n : Nat), NgF kd fb E A f n (fun _ => 0) = 0
  | 0, n => by
    rw [NgF]
    split
    · rfl
    · split <;> rfl
  | f + 1, n => by
    rw [NgF]
    split
    · rfl
    · split
      · rfl
      · refine sI_zero (fun a _ => sI_zero (fun i _ => sI_zero (fun j _ => ?_)))
        rw [N3]
        split
        · rw [show (fun x : TT => NgF kd fb E A f (j + 1) (fun y => NgF kd fb E A f (n - (i + 1) - (j + 1)) (fun z => 0))) = fun _ => 0 from funext fun x => by rw [show (fun y : TT => NgF kd fb E A f (n - (i + 1) - (j + 1)) (fun z => (0 : Int64))) = fun _ => 0 from funext fun y => Ng_zero f _]; exact Ng_zero f _]
          exact Ng_zero f _
        · rfl
/-- the class's sums are sums over trees -/
theorem Sg_Ng {kd : Int32 → Int64 → Int64 → Int64 → Int64} {fb : Int64} {E : Nat → Int32} {A : Nat} : ∀ (f n : Nat) (g : Int64 → Int64), SgF kd fb E A f n g = NgF kd fb E A f n (fun t => if t.2.2 = true then g t.2.1 else 0)
  | 0, n, g => by
    rw [SgF, NgF]
    by_cases h0 : n = 0
    · rw [if_pos (by omega), if_pos h0, if_pos rfl]
    · rw [if_neg h0]
      by_cases h1 : n = 1
      · rw [if_pos (by omega), if_pos h1, if_pos rfl]
      · rw [if_neg (by omega), if_neg h1]
  | f + 1, n, g => by
    rw [SgF, NgF]
    by_cases h0 : n = 0
    · rw [if_pos (by omega), if_pos h0, if_pos rfl]
    · rw [if_neg h0]
      by_cases h1 : n = 1
      · rw [if_pos (by omega), if_pos h1, if_pos rfl]
      · rw [if_neg (by omega), if_neg h1]
        refine sI_congr (fun a ha => sI_congr (fun i hi => sI_congr (fun j hj => ?_)))
        rw [u3, N3]
        split
        · rw [Sg_Ng f]
          refine congrArg _ (funext fun x => ?_)
          by_cases hx : x.2.2 = true
          · rw [if_pos hx, Sg_Ng f]
            refine congrArg _ (funext fun y => ?_)
            by_cases hy : y.2.2 = true
            · rw [if_pos hy, Sg_Ng f]
              refine congrArg _ (funext fun z => ?_)
              by_cases hz : z.2.2 = true
              · rw [if_pos hz, hK, tNd]
                dsimp only
                rw [hx, hy, hz]
                by_cases hk : kd (nI a) x.2.1 y.2.1 z.2.1 &&& fb = 0
                · rw [if_pos hk, decide_eq_true hk]; rfl
                · rw [if_neg hk, decide_eq_false hk]; rfl
              · rw [if_neg hz, tNd]
                dsimp only
                rw [Bool.not_eq_true] at hz
                rw [hz, Bool.and_false, Bool.false_and]; rfl
            · rw [if_neg hy]
              rw [Bool.not_eq_true] at hy
              rw [show (fun z : TT => if (tNd kd fb a x y z).2.2 = true then g (tNd kd fb a x y z).2.1 else 0) = fun _ => 0 from funext fun z => by rw [tNd]; dsimp only; rw [hy, Bool.and_false, Bool.false_and, Bool.false_and]; rfl]
              exact (Ng_zero f _).symm
          · rw [if_neg hx]
            rw [Bool.not_eq_true] at hx
            rw [show (fun y : TT => NgF kd fb E A f (n - (i + 1) - (j + 1)) (fun z => if (tNd kd fb a x y z).2.2 = true then g (tNd kd fb a x y z).2.1 else 0)) = fun _ => 0 from funext fun y => by
              rw [show (fun z : TT => if (tNd kd fb a x y z).2.2 = true then g (tNd kd fb a x y z).2.1 else 0) = fun _ => 0 from funext fun z => by rw [tNd]; dsimp only; rw [hx, Bool.false_and, Bool.false_and, Bool.false_and]; rfl]
              exact Ng_zero f _]
            exact (Ng_zero f _).symm
        · rfl
