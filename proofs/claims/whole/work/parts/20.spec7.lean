/-! overlaps -/
theorem tE_split (w : Int32 → Nat) (g : Nat → Int32) (n : Nat) : ∀ (f a b i z : Nat), n - i = f → i ≤ n → tE w g f (a + b) i = some z → ∃ y, i ≤ y ∧ y ≤ n ∧ tE w g (n - i) a i = some y ∧ tE w g (n - y) b y = some z
  | f, 0, b, i, z, hf, hi, h => ⟨i, Nat.le_refl _, hi, tE_0 _ _ _ _, by rw [hf]; rwa [Nat.zero_add] at h⟩
  | 0, a + 1, b, i, z, _, _, h => by rw [show a + 1 + b = (a + b) + 1 by omega] at h; cases h
  | f + 1, a + 1, b, i, z, hf, hi, h => by
    rw [show a + 1 + b = (a + b) + 1 by omega, tE, show a + b + w (g i) = (a + w (g i)) + b by omega] at h
    obtain ⟨y, h1, h2, h3, h4⟩ := tE_split w g n f (a + w (g i)) b (i + 1) z (by omega) (by omega) h
    refine ⟨y, by omega, h2, ?_, h4⟩
    rw [show n - i = (n - (i + 1)) + 1 by omega, tE]
    exact h3
theorem tE_one {w : Int32 → Nat} {g : Nat → Int32} {n k i z : Nat} (hk : 0 < k) (hi : i ≤ n) (h : tE w g (n - i) k i = some z) : ∃ y, i < y ∧ y ≤ n ∧ tE w g (n - i) 1 i = some y ∧ tE w g (n - y) (k - 1) y = some z := by
  rw [show k = 1 + (k - 1) by omega] at h
  obtain ⟨y, h1, h2, h3, h4⟩ := tE_split w g n _ 1 (k - 1) i z rfl hi h
  refine ⟨y, ?_, h2, h3, h4⟩
  rcases Nat.lt_or_ge i y with q | q
  · exact q
  · have e : y = i := by omega
    subst e
    rcases Nat.lt_or_ge y n with r | r
    · rw [tE_step _ _ (by omega) r] at h3
      have := tE_le _ _ _ _ _ _ h3
      omega
    · rw [show n - y = 0 by omega, tE_n _ _ (by omega)] at h3
      cases h3
theorem tE_lt {w : Int32 → Nat} {g : Nat → Int32} {n k i z : Nat} (hk : 0 < k) (h : tE w g (n - i) k i = some z) : i < n := by
  rcases Nat.lt_or_ge i n with q | q
  · exact q
  · rw [show n - i = 0 by omega, tE_n _ _ hk] at h
    cases h
def mgF (E : Nat → Int32) (a b : List Int32) : Nat → Nat → Nat → List Int32 → Option (Nat × List Int32)
  | 0, _, _, _ => none
  | f + 1, i, j, M =>
    if b.length ≤ j then some (i, M)
    else if gD a i = -1 then (match endL E b j with | none => none | some q => mgF E a b f (i + 1) q (M ++ slc b j q))
    else if gD b j = -1 then (match endL E a i with | none => none | some q => mgF E a b f q (j + 1) (M ++ slc a i q))
    else if gD a i = gD b j then mgF E a b f (i + 1) (j + 1) (M ++ [gD a i])
    else none
def mrg (E : Nat → Int32) (a b : List Int32) (u : Nat) : Option (List Int32) := (mgF E a b (b.length + 1) u 0 (slc a 0 u)).map (fun z => z.2 ++ slc a z.1 a.length)
/-- the two go side by side: as many trees are wanted of both -/
def mgI (E : Nat → Int32) (a b : List Int32) (i j k : Nat) : Prop := (∃ z, tE (wt E) (gD a) (a.length - i) k i = some z) ∧ tE (wt E) (gD b) (b.length - j) k j = some b.length ∧ i ≤ a.length ∧ j ≤ b.length
theorem mgI_pos {E : Nat → Int32} {a b : List Int32} {i j k : Nat} (h : mgI E a b i j k) (hj : j < b.length) : 0 < k := by
  rcases Nat.eq_zero_or_pos k with q | q
  · subst q
    have := h.2.1
    rw [tE_0] at this
    cases this
    omega
  · exact q
theorem mgI_lt {E : Nat → Int32} {a b : List Int32} {i j k : Nat} (h : mgI E a b i j k) (hj : j < b.length) : i < a.length := by
  obtain ⟨z, hz⟩ := h.1
  exact tE_lt (mgI_pos h hj) hz
theorem mgI_a {E : Nat → Int32} {a b : List Int32} {i j k : Nat} (h : mgI E a b i j k) (hj : j < b.length) (ha : gD a i = -1) : ∃ q, endL E b j = some q ∧ j < q ∧ q ≤ b.length ∧ mgI E a b (i + 1) q (k - 1) := by
  have hk := mgI_pos h hj
  have hi := mgI_lt h hj
  obtain ⟨⟨z, hz⟩, h2, h3, h4⟩ := h
  obtain ⟨y, y1, y2, y3, y4⟩ := tE_one hk h4 h2
  refine ⟨y, y3, y1, y2, ⟨z, ?_⟩, y4, by omega, y2⟩
  rw [tE_step _ _ hk hi, ha, wt_m1] at hz
  rwa [Nat.add_zero] at hz
theorem mgI_b {E : Nat → Int32} {a b : List Int32} {i j k : Nat} (h : mgI E a b i j k) (hj : j < b.length) (hb : gD b j = -1) : ∃ q, endL E a i = some q ∧ i < q ∧ q ≤ a.length ∧ mgI E a b q (j + 1) (k - 1) := by
  have hk := mgI_pos h hj
  have hi := mgI_lt h hj
  obtain ⟨⟨z, hz⟩, h2, h3, h4⟩ := h
  obtain ⟨y, y1, y2, y3, y4⟩ := tE_one hk h3 hz
  refine ⟨y, y3, y1, y2, ⟨z, y4⟩, ?_, y2, by omega⟩
  rw [tE_step _ _ hk hj, hb, wt_m1] at h2
  rwa [Nat.add_zero] at h2
theorem mgI_c {E : Nat → Int32} {a b : List Int32} {i j k : Nat} (h : mgI E a b i j k) (hj : j < b.length) (hc : gD a i = gD b j) : mgI E a b (i + 1) (j + 1) (k + wt E (gD a i) - 1) := by
  have hk := mgI_pos h hj
  have hi := mgI_lt h hj
  obtain ⟨⟨z, hz⟩, h2, h3, h4⟩ := h
  rw [tE_step _ _ hk hi] at hz
  rw [tE_step _ _ hk hj, ← hc] at h2
  exact ⟨⟨z, hz⟩, h2, by omega, by omega⟩
theorem mgF_end {E : Nat → Int32} {a b : List Int32} {f i j : Nat} {M : List Int32} (h : b.length ≤ j) : mgF E a b (f + 1) i j M = some (i, M) := by rw [mgF, if_pos h]
theorem mgF_a {E : Nat → Int32} {a b : List Int32} {f i j q : Nat} {M : List Int32} (h : j < b.length) (ha : gD a i = -1) (hq : endL E b j = some q) : mgF E a b (f + 1) i j M = mgF E a b f (i + 1) q (M ++ slc b j q) := by rw [mgF, if_neg (by omega), if_pos ha, hq]
theorem mgF_b {E : Nat → Int32} {a b : List Int32} {f i j q : Nat} {M : List Int32} (h : j < b.length) (ha : ¬ gD a i = -1) (hb : gD b j = -1) (hq : endL E a i = some q) : mgF E a b (f + 1) i j M = mgF E a b f q (j + 1) (M ++ slc a i q) := by rw [mgF, if_neg (by omega), if_neg ha, if_pos hb, hq]
theorem mgF_c {E : Nat → Int32} {a b : List Int32} {f i j : Nat} {M : List Int32} (h : j < b.length) (ha : ¬ gD a i = -1) (hb : ¬ gD b j = -1) (hc : gD a i = gD b j) : mgF E a b (f + 1) i j M = mgF E a b f (i + 1) (j + 1) (M ++ [gD a i]) := by rw [mgF, if_neg (by omega), if_neg ha, if_neg hb, if_pos hc]
theorem mgF_d {E : Nat → Int32} {a b : List Int32} {f i j : Nat} {M : List Int32} (h : j < b.length) (ha : ¬ gD a i = -1) (hb : ¬ gD b j = -1) (hc : ¬ gD a i = gD b j) : mgF E a b (f + 1) i j M = none := by rw [mgF, if_neg (by omega), if_neg ha, if_neg hb, if_neg hc]
theorem isT_at {E : Nat → Int32} {l : List Int32} (h : isT E l) : ∀ i, i ≤ l.length → ∃ k, tE (wt E) (gD l) (l.length - i) k i = some l.length
  | 0, _ => ⟨1, h⟩
  | i + 1, hi => by
    obtain ⟨k, hz⟩ := isT_at h i (by omega)
    have hk : 0 < k := by
      rcases Nat.eq_zero_or_pos k with q | q
      · rw [q, tE_0] at hz
        cases hz
        omega
      · exact q
    rw [tE_step _ _ hk (by omega)] at hz
    exact ⟨_, hz⟩
theorem isT_end {E : Nat → Int32} {l : List Int32} (h : isT E l) {i : Nat} (hi : i < l.length) : ∃ q, endL E l i = some q ∧ i < q ∧ q ≤ l.length := by
  obtain ⟨k, hz⟩ := isT_at h i (by omega)
  have hk : 0 < k := by
    rcases Nat.eq_zero_or_pos k with q | q
    · rw [q, tE_0] at hz
      cases hz
      omega
    · exact q
  obtain ⟨y, y1, y2, y3, -⟩ := tE_one hk (by omega) hz
  exact ⟨y, y3, y1, y2⟩
theorem mgI_0 {E : Nat → Int32} {a b : List Int32} (ha : isT E a) (hb : isT E b) {u : Nat} (hu : u < a.length) : mgI E a b u 0 1 := by
  obtain ⟨q, hq, -, -⟩ := isT_end ha hu
  exact ⟨⟨q, hq⟩, hb, by omega, by omega⟩
/-- the overlap at a spot: outer rule, inner rule, place as one number -/
def ovA (E : Nat → Int32) (R : Nat → List Int32) (n s : Nat) : Option (List Int32) :=
  if s / 104 < n ∧ s / 13 % 8 < n ∧ s % 13 < (R (10 + s / 104)).length ∧ gD (R (10 + s / 104)) (s % 13) ≠ -1 ∧ (0 < s % 13 ∨ s / 104 < s / 13 % 8) then mrg E (R (10 + s / 104)) (R (10 + s / 13 % 8)) (s % 13) else none
def ovS (E : Nat → Int32) (R : Nat → List Int32) (n : Nat) : Nat → List (Nat × List Int32)
  | 0 => []
  | s + 1 => ovS E R n s ++ (match ovA E R n s with | none => [] | some M => [(s, M)])
theorem ovS_n {E : Nat → Int32} {R : Nat → List Int32} {n s : Nat} (h : ovA E R n s = none) : ovS E R n (s + 1) = ovS E R n s := by rw [ovS, h]; exact List.append_nil _
theorem ovS_y {E : Nat → Int32} {R : Nat → List Int32} {n s : Nat} {M : List Int32} (h : ovA E R n s = some M) : ovS E R n (s + 1) = ovS E R n s ++ [(s, M)] := by rw [ovS, h]
theorem ovS_skip {E : Nat → Int32} {R : Nat → List Int32} {n s : Nat} : ∀ k, (∀ j, s ≤ j → j < s + k → ovA E R n j = none) → ovS E R n (s + k) = ovS E R n s
  | 0, _ => rfl
  | k + 1, h => by
    rw [← Nat.add_assoc, ovS_n (h (s + k) (by omega) (by omega))]
    exact ovS_skip k (fun j h1 h2 => h j h1 (by omega))
theorem ovS_le {E : Nat → Int32} {R : Nat → List Int32} {n s : Nat} : ∀ k, ∃ r, ovS E R n (s + k) = ovS E R n s ++ r
  | 0 => ⟨[], (List.append_nil _).symm⟩
  | k + 1 => by
    obtain ⟨r, hr⟩ := ovS_le (E := E) (R := R) (n := n) (s := s) k
    rw [← Nat.add_assoc, ovS, hr]
    exact ⟨_, List.append_assoc _ _ _⟩
theorem ovS_len (E : Nat → Int32) (R : Nat → List Int32) (n : Nat) : ∀ s, (ovS E R n s).length ≤ s
  | 0 => Nat.le_refl _
  | s + 1 => by
    have := ovS_len E R n s
    cases h : ovA E R n s with
    | none => rw [ovS_n h]; omega
    | some M => rw [ovS_y h, List.length_append, List.length_singleton]; omega
def ovL (E : Nat → Int32) (R : Nat → List Int32) (n : Nat) : List (Nat × List Int32) := ovS E R n 832
theorem ovL_at {E : Nat → Int32} {R : Nat → List Int32} {n s : Nat} {M : List Int32} (hs : s < 832) (h : ovA E R n s = some M) : (ovL E R n)[(ovS E R n s).length]? = some (s, M) := by
  obtain ⟨r, hr⟩ := ovS_le (E := E) (R := R) (n := n) (s := s + 1) (832 - (s + 1))
  rw [show s + 1 + (832 - (s + 1)) = 832 by omega, ovS_y h] at hr
  rw [ovL, hr, List.append_assoc, List.getElem?_append_right (Nat.le_refl _), Nat.sub_self]
  rfl
theorem spot_d {p q u : Nat} (hu : u < 13) (hq : q < 8) : ((p * 8 + q) * 13 + u) / 104 = p ∧ ((p * 8 + q) * 13 + u) / 13 % 8 = q ∧ ((p * 8 + q) * 13 + u) % 13 = u := by omega
theorem ovA_no {E : Nat → Int32} {R : Nat → List Int32} {n p q u : Nat} (hu : u < 13) (hq : q < 8) (h : ¬ (p < n ∧ q < n ∧ u < (R (10 + p)).length ∧ gD (R (10 + p)) u ≠ -1 ∧ (0 < u ∨ p < q))) : ovA E R n ((p * 8 + q) * 13 + u) = none := by
  obtain ⟨h1, h2, h3⟩ := spot_d (p := p) hu hq
  rw [ovA, h1, h2, h3, if_neg h]
theorem ovA_yes {E : Nat → Int32} {R : Nat → List Int32} {n p q u : Nat} (hu : u < 13) (hq : q < 8) (h : p < n ∧ q < n ∧ u < (R (10 + p)).length ∧ gD (R (10 + p)) u ≠ -1 ∧ (0 < u ∨ p < q)) : ovA E R n ((p * 8 + q) * 13 + u) = mrg E (R (10 + p)) (R (10 + q)) u := by
  obtain ⟨h1, h2, h3⟩ := spot_d (p := p) hu hq
  rw [ovA, h1, h2, h3, if_pos h]
theorem ovS_q {E : Nat → Int32} {R : Nat → List Int32} {n p q u : Nat} (hq : q < 8) (hu : u ≤ 13) (hl : (R (10 + p)).length ≤ u) : ovS E R n ((p * 8 + (q + 1)) * 13) = ovS E R n ((p * 8 + q) * 13 + u) := by
  rw [show (p * 8 + (q + 1)) * 13 = ((p * 8 + q) * 13 + u) + (13 - u) by omega]
  refine ovS_skip _ (fun j h1 h2 => ?_)
  obtain ⟨w, rfl⟩ : ∃ w, j = (p * 8 + q) * 13 + w := ⟨j - (p * 8 + q) * 13, by omega⟩
  exact ovA_no (by omega) hq (fun h => by omega)
theorem ovS_p {E : Nat → Int32} {R : Nat → List Int32} {n p q : Nat} (hq : q ≤ 8) (hn : n ≤ q) : ovS E R n (((p + 1) * 8) * 13) = ovS E R n ((p * 8 + q) * 13) := by
  rw [show ((p + 1) * 8) * 13 = ((p * 8 + q) * 13) + (8 - q) * 13 by omega]
  refine ovS_skip _ (fun j h1 h2 => ?_)
  obtain ⟨w, rfl⟩ : ∃ w, j = (p * 8 + q) * 13 + w := ⟨j - (p * 8 + q) * 13, by omega⟩
  have e : (p * 8 + q) * 13 + w = (p * 8 + (q + w / 13)) * 13 + w % 13 := by omega
  rw [e]
  exact ovA_no (by omega) (by omega) (fun h => by omega)
theorem ovS_end {E : Nat → Int32} {R : Nat → List Int32} {n p : Nat} (hp : p ≤ 8) (hn : n ≤ p) : ovL E R n = ovS E R n ((p * 8) * 13) := by
  rw [ovL, show 832 = (p * 8) * 13 + (8 - p) * 104 by omega]
  refine ovS_skip _ (fun j h1 h2 => ?_)
  have e : j = (j / 104 * 8 + j / 13 % 8) * 13 + j % 13 := by omega
  rw [e]
  exact ovA_no (by omega) (by omega) (fun h => by omega)
theorem ovS_lt {E : Nat → Int32} {R : Nat → List Int32} {n s : Nat} (hs : s ≤ 832) : (ovS E R n s).length ≤ 832 := by
  have := ovS_len E R n s
  omega
