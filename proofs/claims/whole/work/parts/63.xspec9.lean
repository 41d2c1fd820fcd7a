/-! the nodes of the forbidden trees, step by step -/
abbrev ntS (F : Nat → Nat → Int32) (G : Nat → Nat → Int64) : NT := (0, F 4, fun k => G (3 + k), 0, G 2)
theorem ntOK_bt {T : NT} {v : Nat → Int32} {F : Nat → Nat → Int32} {G : Nat → Nat → Int64} (h : ntOK T v F G) (i : Nat) (x : Int64) : ntOK (btN T i x) v F (va_up G 2 (vp_updL (G 2) i x)) :=
  ⟨h.1, h.2.1, fun k hk => (upn (by omega)).trans (h.2.2.1 k hk), h.2.2.2.1, by rw [va_up_self, h.2.2.2.2]; rfl⟩
theorem ntR_bt {v : Nat → Int32} {F : Nat → Nat → Int32} {G : Nat → Nat → Int64} {f : Nat → Int64} : ntR v v F F G (va_up G 2 f) := ⟨fun _ _ => rfl, fun _ _ => rfl, fun k h => upn (by omega)⟩
theorem fbS_n {E : Nat → Int32} {l : List Int32} {T : NT} {i : Nat} (h : gD l i = -1) : fbS E l T i = btN T i 0 := if_pos h
theorem fbS_y {E : Nat → Int32} {l : List Int32} {T : NT} {i : Nat} {w : Bool} (h : ¬ gD l i = -1) (hw : decide (i = 0) = w) : fbS E l T i = lkN E l i T.1 (btN (adN (btN T i 0) (gD l i) w) i (bitN T.1)) (wt E (gD l i)) := by rw [fbS, if_neg h, hw]
theorem acN_n {l : List Int32} {i : Nat} (h : gD l i = -1) : acN l (i + 1) = acN l i := by rw [acN, if_pos h]; rfl
theorem acN_y {l : List Int32} {i : Nat} (h : ¬ gD l i = -1) : acN l (i + 1) = acN l i + 1 := by rw [acN, if_neg h]
theorem fbF_nd {E : Nat → Int32} {l : List Int32} : ∀ {n : Nat} {T : NT}, (fbF E l T n).1 = T.1 + acN l n
  | 0, T => rfl
  | n + 1, T => by rw [fbF, fbF_nd, fbS_nd, acN]; omega
theorem acN_cF {l : List Int32} : ∀ n, acN l n + cF (gD l) n = n
  | 0 => rfl
  | n + 1 => by
    have := acN_cF (l := l) n
    by_cases h : gD l n = -1
    · rw [acN_n h, cF_t h]; omega
    · rw [acN_y h, cF_f h]; omega
theorem flF_nd {E : Nat → Int32} {R : Nat → List Int32} {T : NT} : ∀ {n : Nat}, (∀ j, j < n → (R (10 + j)).length - lvs (R (10 + j)) ≤ 4) → (flF E R T n).1 ≤ 4 * n
  | 0, _ => Nat.le_refl _
  | n + 1, h => by
    have h1 := flF_nd (E := E) (T := T) (n := n) (fun j hj => h j (by omega))
    have h2 := h n (by omega)
    have h3 := acN_cF (l := R (10 + n)) (R (10 + n)).length
    have h4 : lvs (R (10 + n)) = cF (gD (R (10 + n))) (R (10 + n)).length := rfl
    rw [flF, fbF_nd]; omega
/-- the nodes of the dual's count -/
def daN (T : NT) : Nat → NT
  | 0 => clN T
  | a + 1 => adN (daN T a) (nI a) false
def ndN (T : NT) (en : Nat) (x : Int64) : NT := (T.1, T.2.1, fun k => if k = en then vp_updL (T.2.2.1 k) (T.1 - 1) x else T.2.2.1 k, T.2.2.2.1, T.2.2.2.2)
def duN (R : Nat → List Int32) (n : Nat) (T : NT) (a en b : Nat) : NT := if hlF R a en b n = true then T else ndN (adN T (nI a) true) en (bitN b)
def dbN (R : Nat → List Int32) (n : Nat) (T : NT) (a : Nat) : Nat → NT
  | 0 => T
  | b + 1 => duN R n (duN R n (dbN R n T a b) a 0 b) a 1 b
def dcN (R : Nat → List Int32) (n A : Nat) (T : NT) : Nat → NT
  | 0 => T
  | a + 1 => dbN R n (dcN R n A T a) a A
def dlN (R : Nat → List Int32) (n A : Nat) (T : NT) : NT := dcN R n A (daN T A) A
theorem daN_nd {T : NT} : ∀ {a : Nat}, (daN T a).1 = a
  | 0 => rfl
  | a + 1 => by rw [daN, adN, daN_nd]
theorem duN_nd {R : Nat → List Int32} {n : Nat} {T : NT} {a en b : Nat} : T.1 ≤ (duN R n T a en b).1 ∧ (duN R n T a en b).1 ≤ T.1 + 1 := by
  rw [duN]
  split
  · exact ⟨Nat.le_refl _, Nat.le_succ _⟩
  · exact ⟨Nat.le_succ _, Nat.le_refl _⟩
theorem dbN_nd {R : Nat → List Int32} {n : Nat} {T : NT} {a : Nat} : ∀ {b : Nat}, (dbN R n T a b).1 ≤ T.1 + 2 * b
  | 0 => Nat.le_refl _
  | b + 1 => by
    have h1 := dbN_nd (R := R) (n := n) (T := T) (a := a) (b := b)
    have h2 := (duN_nd (R := R) (n := n) (T := dbN R n T a b) (a := a) (en := 0) (b := b)).2
    have h3 := (duN_nd (R := R) (n := n) (T := duN R n (dbN R n T a b) a 0 b) (a := a) (en := 1) (b := b)).2
    rw [dbN]; omega
theorem dcN_nd {R : Nat → List Int32} {n A : Nat} {T : NT} : ∀ {a : Nat}, (dcN R n A T a).1 ≤ T.1 + 2 * A * a
  | 0 => Nat.le_refl _
  | a + 1 => by
    have h1 := dcN_nd (R := R) (n := n) (A := A) (T := T) (a := a)
    have h2 := dbN_nd (R := R) (n := n) (T := dcN R n A T a) (a := a) (b := A)
    rw [dcN, Nat.mul_add]; omega
