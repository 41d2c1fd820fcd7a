/-! matching, using, steps, normal forms -/
def mtF (E : Nat → Int32) (t : List Int32) (g : Nat → Int32) : Nat → Nat → Nat → List (Nat × Nat) → Option (Nat × List (Nat × Nat))
  | 0, _, j, ac => some (j, ac)
  | f + 1, i, j, ac =>
    if t.length ≤ j then none
    else if g i = -1 then
      match endL E t j with
      | none => none
      | some q => mtF E t g f (i + 1) q (ac ++ [(j, q)])
    else if gD t j = g i then mtF E t g f (i + 1) (j + 1) ac
    else none
def mt (E : Nat → Int32) (lft t : List Int32) (p : Nat) : Option (Nat × List (Nat × Nat)) := mtF E t (gD lft) lft.length 0 p []
theorem mtF_0 {E : Nat → Int32} {t : List Int32} {g : Nat → Int32} {n i j : Nat} {ac : List (Nat × Nat)} (h : n ≤ i) : mtF E t g (n - i) i j ac = some (j, ac) := by
  rw [show n - i = 0 by omega]; rfl
theorem mtF_out {E : Nat → Int32} {t : List Int32} {g : Nat → Int32} {n i j : Nat} {ac : List (Nat × Nat)} (h : i < n) (hj : t.length ≤ j) : mtF E t g (n - i) i j ac = none := by
  obtain ⟨f, hf⟩ : ∃ q, n - i = q + 1 := ⟨n - i - 1, by omega⟩
  rw [hf, mtF, if_pos hj]
theorem mtF_no {E : Nat → Int32} {t : List Int32} {g : Nat → Int32} {n i j : Nat} {ac : List (Nat × Nat)} (h : i < n) (hj : j < t.length) (hg : g i = -1) (he : endL E t j = none) : mtF E t g (n - i) i j ac = none := by
  obtain ⟨f, hf⟩ : ∃ q, n - i = q + 1 := ⟨n - i - 1, by omega⟩
  rw [hf, mtF, if_neg (by omega), if_pos hg, he]
theorem mtF_lf {E : Nat → Int32} {t : List Int32} {g : Nat → Int32} {n i j q : Nat} {ac : List (Nat × Nat)} (h : i < n) (hj : j < t.length) (hg : g i = -1) (he : endL E t j = some q) : mtF E t g (n - i) i j ac = mtF E t g (n - (i + 1)) (i + 1) q (ac ++ [(j, q)]) := by
  obtain ⟨f, hf⟩ : ∃ q, n - i = q + 1 := ⟨n - i - 1, by omega⟩
  rw [hf, mtF, if_neg (by omega), if_pos hg, he, show n - (i + 1) = f by omega]
theorem mtF_eq {E : Nat → Int32} {t : List Int32} {g : Nat → Int32} {n i j : Nat} {ac : List (Nat × Nat)} (h : i < n) (hj : j < t.length) (hg : ¬ g i = -1) (he : gD t j = g i) : mtF E t g (n - i) i j ac = mtF E t g (n - (i + 1)) (i + 1) (j + 1) ac := by
  obtain ⟨f, hf⟩ : ∃ q, n - i = q + 1 := ⟨n - i - 1, by omega⟩
  rw [hf, mtF, if_neg (by omega), if_neg hg, if_pos he, show n - (i + 1) = f by omega]
theorem mtF_ne {E : Nat → Int32} {t : List Int32} {g : Nat → Int32} {n i j : Nat} {ac : List (Nat × Nat)} (h : i < n) (hj : j < t.length) (hg : ¬ g i = -1) (he : ¬ gD t j = g i) : mtF E t g (n - i) i j ac = none := by
  obtain ⟨f, hf⟩ : ∃ q, n - i = q + 1 := ⟨n - i - 1, by omega⟩
  rw [hf, mtF, if_neg (by omega), if_neg hg, if_neg he]
/-- what was caught lies in the row, one for each leaf -/
def acOK (n : Nat) (ac : List (Nat × Nat)) : Prop := ∀ q ∈ ac, q.1 ≤ q.2 ∧ q.2 ≤ n
theorem mtF_ok {E : Nat → Int32} {t : List Int32} {g : Nat → Int32} : ∀ (f i j : Nat) (ac : List (Nat × Nat)) (r : Nat × List (Nat × Nat)), mtF E t g f i j ac = some r → j ≤ t.length → acOK t.length ac → ac.length = cF g i → r.1 ≤ t.length ∧ j ≤ r.1 ∧ acOK t.length r.2 ∧ r.2.length = cF g (i + f)
  | 0, i, j, ac, r, h, hj, ha, hc => by
    rw [mtF] at h
    cases h
    exact ⟨hj, Nat.le_refl _, ha, hc⟩
  | f + 1, i, j, ac, r, h, hj, ha, hc => by
    rw [mtF] at h
    by_cases h1 : t.length ≤ j
    · rw [if_pos h1] at h; cases h
    · rw [if_neg h1] at h
      by_cases h2 : g i = -1
      · rw [if_pos h2] at h
        cases he : endL E t j with
        | none => rw [he] at h; cases h
        | some q =>
          rw [he] at h
          have hq := endL_le hj he
          have hn : acOK t.length (ac ++ [(j, q)]) := by
            intro x hx
            rcases List.mem_append.mp hx with z | z
            · exact ha x z
            · rw [List.mem_singleton.mp z]; exact ⟨hq.1, hq.2⟩
          have := mtF_ok f (i + 1) q (ac ++ [(j, q)]) r h hq.2 hn (by rw [List.length_append, List.length_singleton, hc, cF_t h2])
          refine ⟨this.1, by omega, this.2.2.1, ?_⟩
          rw [this.2.2.2]; congr 1; omega
      · rw [if_neg h2] at h
        by_cases h3 : gD t j = g i
        · rw [if_pos h3] at h
          have := mtF_ok f (i + 1) (j + 1) ac r h (by omega) ha (by rw [hc, cF_f h2])
          refine ⟨this.1, by omega, this.2.2.1, ?_⟩
          rw [this.2.2.2]; congr 1; omega
        · rw [if_neg h3] at h; cases h
theorem mt_ok {E : Nat → Int32} {l t : List Int32} {p : Nat} {r : Nat × List (Nat × Nat)} (hp : p ≤ t.length) (h : mt E l t p = some r) : r.1 ≤ t.length ∧ p ≤ r.1 ∧ acOK t.length r.2 ∧ r.2.length = lvs l := by
  have := mtF_ok _ _ _ _ _ h hp (fun q hq => by cases hq) rfl
  rw [Nat.zero_add] at this
  exact this
def aD (ac : List (Nat × Nat)) (i : Nat) : Nat × Nat := ac.getD i (0, 0)
theorem aD_l {a b : List (Nat × Nat)} {i : Nat} (h : i < a.length) : aD (a ++ b) i = aD a i := by
  rw [aD, aD, List.getD_eq_getElem?_getD, List.getD_eq_getElem?_getD, List.getElem?_append_left h]
theorem aD_s {a : List (Nat × Nat)} {x : Nat × Nat} : aD (a ++ [x]) a.length = x := by
  rw [aD, List.getD_eq_getElem?_getD, List.getElem?_append_right (Nat.le_refl _), Nat.sub_self]; rfl
theorem acOK_at {n : Nat} {ac : List (Nat × Nat)} (h : acOK n ac) {i : Nat} (hi : i < ac.length) : (aD ac i).1 ≤ (aD ac i).2 ∧ (aD ac i).2 ≤ n := by
  have : aD ac i = ac[i] := by rw [aD, List.getD_eq_getElem?_getD, List.getElem?_eq_getElem hi]; rfl
  rw [this]
  exact h _ (List.getElem_mem hi)
/-- the two arrays hold what was caught -/
def mH (c d : Nat → Int32) (ac : List (Nat × Nat)) : Prop := ∀ i, i < ac.length → c i = nI (aD ac i).1 ∧ d i = nI (aD ac i).2
theorem mH_snoc {c d : Nat → Int32} {ac : List (Nat × Nat)} (h : mH c d ac) (j q : Nat) : mH (upd c ac.length (nI j)) (upd d ac.length (nI q)) (ac ++ [(j, q)]) := by
  intro i hi
  rw [List.length_append, List.length_singleton] at hi
  by_cases hi2 : i = ac.length
  · subst hi2
    rw [pk_us, pk_us, aD_s]
    exact ⟨rfl, rfl⟩
  · rw [pk_un hi2, pk_un hi2, aD_l (by omega)]
    exact h i (by omega)
theorem eR_m1 {o : Option Nat} (ho : ∀ q, o = some q → q < 2 ^ 31) : eR o = -1 ↔ o = none := by
  cases o with
  | none => exact ⟨fun _ => rfl, fun _ => rfl⟩
  | some q => exact ⟨fun h => absurd h (nI_neM1 (ho q rfl)), fun h => by cases h⟩
/-- the right tree, with what was caught at its leaves -/
def exF (t : List Int32) (ac : List (Nat × Nat)) (g : Nat → Int32) : Nat → List Int32
  | 0 => []
  | i + 1 => exF t ac g i ++ (if g i = -1 then slc t (aD ac (cF g i)).1 (aD ac (cF g i)).2 else [g i])
def preF (t : List Int32) (p : Nat) (ac : List (Nat × Nat)) (g : Nat → Int32) (i : Nat) : List Int32 := slc t 0 p ++ exF t ac g i
def rplL (t : List Int32) (p q : Nat) (ac : List (Nat × Nat)) (rt : List Int32) : List Int32 := preF t p ac (gD rt) rt.length ++ slc t q t.length
theorem preF_t {t : List Int32} {p : Nat} {ac : List (Nat × Nat)} {g : Nat → Int32} {i : Nat} (h : g i = -1) : preF t p ac g (i + 1) = preF t p ac g i ++ slc t (aD ac (cF g i)).1 (aD ac (cF g i)).2 := by
  rw [preF, preF, exF, if_pos h, List.append_assoc]
theorem preF_f {t : List Int32} {p : Nat} {ac : List (Nat × Nat)} {g : Nat → Int32} {i : Nat} (h : ¬ g i = -1) : preF t p ac g (i + 1) = preF t p ac g i ++ [g i] := by
  rw [preF, preF, exF, if_neg h, List.append_assoc]
theorem preF_mono {t : List Int32} {p : Nat} {ac : List (Nat × Nat)} {g : Nat → Int32} (i : Nat) : ∀ k, (preF t p ac g i).length ≤ (preF t p ac g (i + k)).length
  | 0 => Nat.le_refl _
  | k + 1 => by
    have := preF_mono (t := t) (p := p) (ac := ac) (g := g) i k
    by_cases h : g (i + k) = -1
    · rw [show i + (k + 1) = i + k + 1 by omega, preF_t h, List.length_append]; omega
    · rw [show i + (k + 1) = i + k + 1 by omega, preF_f h, List.length_append]; omega
/-- the first number from k on, among m, at which there is something -/
def fnd {β : Type} (f : Nat → Option β) : Nat → Nat → Option (Nat × β)
  | 0, _ => none
  | m + 1, k => match f k with
    | some b => some (k, b)
    | none => fnd f m (k + 1)
theorem fnd_0 {β : Type} {f : Nat → Option β} {n k : Nat} (h : n ≤ k) : fnd f (n - k) k = none := by
  rw [show n - k = 0 by omega]; rfl
theorem fnd_y {β : Type} {f : Nat → Option β} {n k : Nat} {b : β} (h : k < n) (hf : f k = some b) : fnd f (n - k) k = some (k, b) := by
  obtain ⟨m, hm⟩ : ∃ q, n - k = q + 1 := ⟨n - k - 1, by omega⟩
  rw [hm, fnd, hf]
theorem fnd_n {β : Type} {f : Nat → Option β} {n k : Nat} (h : k < n) (hf : f k = none) : fnd f (n - k) k = fnd f (n - (k + 1)) (k + 1) := by
  obtain ⟨m, hm⟩ : ∃ q, n - k = q + 1 := ⟨n - k - 1, by omega⟩
  rw [hm, fnd, hf, show n - (k + 1) = m by omega]
def fK (E : Nat → Int32) (R : Nat → List Int32) (n : Nat) (t : List Int32) (p : Nat) : Option (Nat × Nat × List (Nat × Nat)) := fnd (fun k => mt E (R (10 + k)) t p) n 0
def fP (E : Nat → Int32) (R : Nat → List Int32) (n : Nat) (t : List Int32) : Option (Nat × Nat × Nat × List (Nat × Nat)) := fnd (fun p => fK E R n t p) t.length 0
def useL (R : Nat → List Int32) (tn : Nat → Int32) (t : List Int32) (p k q : Nat) (ac : List (Nat × Nat)) : Int32 × List Int32 :=
  if ¬ tn k = 0 then (2, []) else if (rplL t p q ac (R (18 + k))).length ≤ 60 then (1, rplL t p q ac (R (18 + k))) else (-5, t)
def stepL (E : Nat → Int32) (R : Nat → List Int32) (n : Nat) (tn : Nat → Int32) (t : List Int32) : Int32 × List Int32 :=
  match fP E R n t with
  | none => (0, t)
  | some (p, k, q, ac) => useL R tn t p k q ac
def nrmL (st : List Int32 → Int32 × List Int32) : Nat → Nat → List Int32 → Int32 × List Int32
  | 0, _, t => (-5, t)
  | f + 1, n, t => if (st t).1 = 0 then (nI n, (st t).2) else if (st t).1 = -5 ∨ 200 < n + 1 then (-5, (st t).2) else if (st t).1 = 2 then (-10 - nI (n + 1), (st t).2) else nrmL st f (n + 1) (st t).2
def fpR (E : Nat → Int32) (lft t : List Int32) : Int32 := match fnd (fun q => mt E lft t q) t.length 0 with
  | none => -1
  | some (i, _) => nI i
theorem adds_u {R0 : Nat → List Int32} {M : List Int32} {to fr bg en : Nat} (hne : fr ≠ to) {x : Int32} {v v1 : Nat → Int32} {R1 : Nat → List Int32} {F F1 : Nat → Nat → Int32} {G G1 : Nat → Nat → Int64}
    (h : x = bI ((va_up R0 to M to).length + (en - bg) ≤ 60) ∧ (v, if (va_up R0 to M to).length + (en - bg) ≤ 60 then va_up (va_up R0 to M) to (va_up R0 to M to ++ slc (va_up R0 to M fr) bg en) else va_up R0 to M, F, G) = (v1, R1, F1, G1)) :
    ∃ M' : List Int32, (v, va_up R0 to M', F, G) = (v1, R1, F1, G1) ∧ x = bI (M.length + (en - bg) ≤ 60) ∧ (M.length + (en - bg) ≤ 60 → M' = M ++ slc (R0 fr) bg en) := by
  obtain ⟨h1, h2⟩ := h
  rw [va_up_self] at h1 h2
  rw [upn hne] at h2
  by_cases hc : M.length + (en - bg) ≤ 60
  · rw [if_pos hc, up_up] at h2
    exact ⟨_, h2, h1, fun _ => rfl⟩
  · rw [if_neg hc] at h2
    exact ⟨_, h2, h1, fun h => absurd h hc⟩
theorem up_back {R : Nat → List Int32} {M : List Int32} {r to : Nat} (h : r ≠ to) : va_up (va_up R to M) r (R r) = va_up R to M := by
  have := up_eta (va_up R to M) r
  rwa [upn h] at this
theorem slc_one {l : List Int32} {i : Nat} (h : i < l.length) : slc l i (i + 1) = [gD l i] := by
  rw [← slc_snoc (Nat.le_refl i) h, slc_nil]; rfl
def pMatches (E : Nat → Int32) (R : Nat → List Int32) (n : Nat) (k a : Int32) : Int32 := if rIn k n ∧ tr E R a then fpR E (R (10 + k.toNatClampNeg)) (R a.toNatClampNeg) else -2
theorem up_eta2 {α : Type} (f : Nat → α) (a b : Nat) : va_up (va_up f a (f a)) b (f b) = f := by rw [up_eta, up_eta]
theorem stepL_no {E : Nat → Int32} {R : Nat → List Int32} {n : Nat} {tn : Nat → Int32} {t : List Int32} (h : fP E R n t = none) : stepL E R n tn t = (0, t) := by rw [stepL, h]
theorem stepL_yes {E : Nat → Int32} {R : Nat → List Int32} {n : Nat} {tn : Nat → Int32} {t : List Int32} {p k q : Nat} {ac : List (Nat × Nat)} (h : fP E R n t = some (p, k, q, ac)) : stepL E R n tn t = useL R tn t p k q ac := by rw [stepL, h]
theorem up_same2 (R : Nat → List Int32) (a b : Nat) : va_up (va_up R a (R a)) b (R b) = R := up_eta2 R a b
