/-! grafts, heights -/
def lpF (g : Nat → Int32) (i : Nat) : Nat → Nat → Option Nat
  | 0, _ => none
  | f + 1, p => if g p = -1 ∧ cF g p = i then some p else lpF g i f (p + 1)
def lpL (l : List Int32) (i : Nat) : Option Nat := lpF (gD l) i l.length 0
theorem lpF_found {g : Nat → Int32} {i p : Nat} (hg : g p = -1) (hc : cF g p = i) : ∀ (f k : Nat), k ≤ p → p < k + f → lpF g i f k = some p
  | 0, k, h1, h2 => by omega
  | f + 1, k, h1, h2 => by
    rw [lpF]
    by_cases h : k = p
    · subst h; rw [if_pos ⟨hg, hc⟩]
    · rw [if_neg, lpF_found hg hc f (k + 1) (by omega) (by omega)]
      intro q
      have h3 := cF_mono g (i := k + 1) (n := p) (by omega)
      rw [cF_t q.1] at h3
      omega
theorem lpL_found {l : List Int32} {i p : Nat} (hp : p < l.length) (hg : gD l p = -1) (hc : cF (gD l) p = i) : lpL l i = some p := lpF_found hg hc _ _ (Nat.zero_le _) (by omega)
def grL (a b : List Int32) (p : Nat) : List Int32 := slc a 0 p ++ b ++ slc a (p + 1) a.length
theorem grL_len {a b : List Int32} {p : Nat} (hp : p < a.length) : (grL a b p).length = a.length - 1 + b.length := by
  rw [grL, List.length_append, List.length_append, slc_len (by omega), slc_len (Nat.le_refl _)]
  omega
def pGraft2 (R : Nat → List Int32) (q i r : Nat) : Int32 := if (R q).length - 1 + (R r).length ≤ 60 then nI ((R q).length - 1 + (R r).length) else -4
def uGraft2 (R : Nat → List Int32) (q i r t : Nat) : Nat → List Int32 := if (R q).length - 1 + (R r).length ≤ 60 then va_up R t (grL (R q) (R r) ((lpL (R q) i).getD 0)) else R
abbrev grOK (E : Nat → Int32) (R : Nat → List Int32) (a i b to : Int32) : Prop := ((tr E R a ∧ tr E R b) ∧ rIn to 10) ∧ rIn i (lvs (R a.toNatClampNeg))
def pGraft (E : Nat → Int32) (R : Nat → List Int32) (a i b to : Int32) : Int32 := if grOK E R a i b to then pGraft2 R a.toNatClampNeg i.toNatClampNeg b.toNatClampNeg else -2
def uGraft (E : Nat → Int32) (R : Nat → List Int32) (a i b to : Int32) : Nat → List Int32 := if grOK E R a i b to then uGraft2 R a.toNatClampNeg i.toNatClampNeg b.toNatClampNeg to.toNatClampNeg else R
theorem nI_p1 (p : Nat) : nI (p + 1) - nI 1 = nI p := by rw [show nI 1 = 1 from rfl, nI_pred]
def stD : List Nat → List Nat
  | [] => []
  | r :: rs => if r - 1 = 0 then stD rs else (r - 1) :: rs
def hgS (w : Int32 → Nat) (g : Nat → Int32) : Nat → List Nat × Nat
  | 0 => ([], 0)
  | i + 1 => if g i = -1 then (stD (hgS w g i).1, (hgS w g i).2) else (w (g i) :: (hgS w g i).1, max (hgS w g i).2 ((hgS w g i).1.length + 1))
theorem hgS_l {w : Int32 → Nat} {g : Nat → Int32} {i : Nat} (h : g i = -1) : hgS w g (i + 1) = (stD (hgS w g i).1, (hgS w g i).2) := by rw [hgS, if_pos h]
theorem hgS_a {w : Int32 → Nat} {g : Nat → Int32} {i : Nat} (h : ¬ g i = -1) : hgS w g (i + 1) = (w (g i) :: (hgS w g i).1, max (hgS w g i).2 ((hgS w g i).1.length + 1)) := by rw [hgS, if_neg h]
theorem stD_len : ∀ st, (stD st).length ≤ st.length
  | [] => Nat.le_refl _
  | r :: rs => by
    rw [stD]
    split
    · have := stD_len rs; rw [List.length_cons]; omega
    · rw [List.length_cons, List.length_cons]; omega
theorem hgS_len (w : Int32 → Nat) (g : Nat → Int32) : ∀ i, (hgS w g i).1.length ≤ i
  | 0 => Nat.le_refl _
  | i + 1 => by
    have := hgS_len w g i
    by_cases h : g i = -1
    · rw [hgS_l h]; have := stD_len (hgS w g i).1; show (stD (hgS w g i).1).length ≤ i + 1; omega
    · rw [hgS_a h]; show (hgS w g i).1.length + 1 ≤ i + 1; omega
theorem hgS_mx (w : Int32 → Nat) (g : Nat → Int32) : ∀ i, (hgS w g i).2 ≤ i
  | 0 => Nat.le_refl _
  | i + 1 => by
    have := hgS_mx w g i
    have := hgS_len w g i
    by_cases h : g i = -1
    · rw [hgS_l h]; show (hgS w g i).2 ≤ i + 1; omega
    · rw [hgS_a h]; show max _ _ ≤ i + 1; omega
def stP (st : List Nat) : Prop := ∀ x ∈ st, 1 ≤ x ∧ x ≤ 3
theorem stP_D : ∀ {st : List Nat}, stP st → stP (stD st)
  | [], _ => fun x hx => by cases hx
  | r :: rs, h => by
    rw [stD]
    split
    · exact stP_D (fun x hx => h x (List.mem_cons_of_mem _ hx))
    · intro x hx
      rcases List.mem_cons.mp hx with z | z
      · have := h r (List.mem_cons_self)
        omega
      · exact h x (List.mem_cons_of_mem _ z)
theorem hgS_pos {A : Nat} {E : Nat → Int32} (hE : vE A E) {g : Nat → Int32} : ∀ i, (∀ j, j < i → vS A (g j)) → stP (hgS (wt E) g i).1
  | 0, _ => fun x hx => by cases hx
  | i + 1, h => by
    have ih := hgS_pos hE i (fun j hj => h j (by omega))
    by_cases hl : g i = -1
    · rw [hgS_l hl]; exact stP_D ih
    · rw [hgS_a hl]
      intro x hx
      rcases List.mem_cons.mp hx with z | z
      · obtain ⟨a, ha, hga⟩ := vS_pos (h i (by omega)) hl
        have := (wt_nI hE ha).2
        rw [z, hga]
        omega
      · exact ih x z
/-- the array holds the open acts, the lowest last -/
def stH (op : Nat → Int32) : List Nat → Prop
  | [] => True
  | r :: rs => op rs.length = nI r ∧ stH op rs
theorem stH_upd {op : Nat → Int32} {k : Nat} {x : Int32} : ∀ {st : List Nat}, st.length ≤ k → stH op st → stH (upd op k x) st
  | [], _, _ => trivial
  | r :: rs, hk, h => by
    rw [List.length_cons] at hk
    exact ⟨by rw [pk_un (by omega)]; exact h.1, stH_upd (by omega) h.2⟩
def hgt (E : Nat → Int32) (l : List Int32) : Nat := (hgS (wt E) (gD l) l.length).2
def pAbout2 (E : Nat → Int32) (l : List Int32) (w : Nat) : Int32 :=
  if w = 0 then nI l.length else if w = 1 then bI (isT E l) else if isT E l then (if w = 2 then nI (lvs l) else if w = 3 then nI (l.length - lvs l) else nI (hgt E l)) else -3
def pAbout (E : Nat → Int32) (R : Nat → List Int32) (r w : Int32) : Int32 := if rIn r 10 ∧ rIn w 5 then pAbout2 E (R r.toNatClampNeg) w.toNatClampNeg else -2
