/-! a left tree at the top of a tree, wherever that stands -/
def qq (E : Nat → Int32) (l : List Int32) (i : Nat) : Nat := (endL E l i).getD 0
def Pm (E : Nat → Int32) (l : List Int32) (i : Nat) (w : List Int32) : Prop := ∀ (u v : List Int32) (ac : List (Nat × Nat)), ∃ ac', mtF E (u ++ (w ++ v)) (gD l) (qq E l i - i) i u.length ac = some (u.length + w.length, ac')
def Nm (E : Nat → Int32) (l : List Int32) (i : Nat) (w : List Int32) : Prop := ∀ (u v : List Int32) (ac : List (Nat × Nat)), mtF E (u ++ (w ++ v)) (gD l) (qq E l i - i) i u.length ac = none
theorem slc_mid (u w v : List Int32) : slc (u ++ (w ++ v)) u.length (u.length + w.length) = w := by
  rw [slc]
  simp [List.take_append, List.drop_append]
theorem gD_at0 {u v : List Int32} {z : Int32} : gD (u ++ (z :: v)) u.length = z := by
  rw [gD, List.getD_eq_getElem?_getD, List.getElem?_append_right (Nat.le_refl _), Nat.sub_self]; rfl
theorem endL_ctx {E : Nat → Int32} {u w v : List Int32} (h : tL E 1 w) : endL E (u ++ (w ++ v)) u.length = some (u.length + w.length) := by
  refine tL_to (by rw [List.length_append, List.length_append]; omega) _ 1 u.length rfl (Nat.le_add_right _ _) ?_
  rw [slc_mid]; exact h
theorem mtF_split {E : Nat → Int32} {t : List Int32} {g : Nat → Int32} {f2 : Nat} : ∀ (f1 i j : Nat) (ac : List (Nat × Nat)), mtF E t g (f1 + f2) i j ac = match mtF E t g f1 i j ac with | none => none | some (j', ac') => mtF E t g f2 (i + f1) j' ac'
  | 0, i, j, ac => by rw [Nat.zero_add]; rfl
  | f1 + 1, i, j, ac => by
    rw [show f1 + 1 + f2 = (f1 + f2) + 1 by omega, mtF, mtF]
    split
    · rfl
    · split
      · split
        · rfl
        · rw [mtF_split f1, show i + 1 + f1 = i + (f1 + 1) by omega]
      · split
        · rw [mtF_split f1, show i + 1 + f1 = i + (f1 + 1) by omega]
        · rfl
theorem seg_y {E : Nat → Int32} {l : List Int32} {c c' f2 : Nat} {u w v : List Int32} {ac : List (Nat × Nat)} (h : Pm E l c w) (hq : qq E l c = c') (hc : c ≤ c') : ∃ ac', mtF E (u ++ (w ++ v)) (gD l) (c' - c + f2) c u.length ac = mtF E (u ++ (w ++ v)) (gD l) f2 c' (u.length + w.length) ac' := by
  obtain ⟨ac', h1⟩ := h u v ac
  rw [hq] at h1
  refine ⟨ac', ?_⟩
  rw [mtF_split, h1]
  show mtF E _ _ f2 (c + (c' - c)) _ _ = _
  rw [show c + (c' - c) = c' by omega]
theorem seg_n {E : Nat → Int32} {l : List Int32} {c c' f2 : Nat} {u w v : List Int32} {ac : List (Nat × Nat)} (h : Nm E l c w) (hq : qq E l c = c') : mtF E (u ++ (w ++ v)) (gD l) (c' - c + f2) c u.length ac = none := by
  have h1 := h u v ac
  rw [hq] at h1
  rw [mtF_split, h1]
theorem Pm_leaf {E : Nat → Int32} {l : List Int32} {i : Nat} {w : List Int32} (hi : i < l.length) (hl : gD l i = -1) (hw : tL E 1 w) : Pm E l i w := by
  intro u v ac
  have hne : w ≠ [] := tL_ne hw
  have hpos : 0 < w.length := List.length_pos_iff.mpr hne
  rw [qq, endL_leaf hi hl, show (some (i + 1)).getD 0 - i = 0 + 1 by show i + 1 - i = 1; omega, mtF, if_neg (by rw [List.length_append, List.length_append]; omega), if_pos hl, endL_ctx hw]
  exact ⟨_, rfl⟩
theorem Nm_leaf {E : Nat → Int32} {l : List Int32} {i : Nat} (hT : isT E l) (hi : i < l.length) (hl : ¬ gD l i = -1) : Nm E l i [-1] := by
  intro u v ac
  obtain ⟨q, h1, h2, h3⟩ := isT_end hT hi
  rw [qq, h1, show (some q).getD 0 - i = (q - i - 1) + 1 by show q - i = _; omega, mtF, if_neg (by rw [List.length_append, List.length_append]; show ¬ u.length + (1 + v.length) ≤ u.length; omega), if_neg hl, if_neg (by rw [List.singleton_append, gD_at0]; exact fun h => hl h.symm)]
theorem chP_q {E : Nat → Int32} {l : List Int32} (hT : isT E l) {i : Nat} (hi : i < l.length) : qq E l i = chP E l i (wt E (gD l i)) := by
  obtain ⟨q, h1, h2, h3⟩ := chP_ok hT hi (k := wt E (gD l i)) (Nat.le_refl _)
  rw [Nat.sub_self, tE_0] at h3
  rw [qq, h1]
  exact (Option.some.inj h3).symm
theorem chP_qq {E : Nat → Int32} {l : List Int32} (hT : isT E l) {i : Nat} (hi : i < l.length) {k : Nat} (hk : k < wt E (gD l i)) : qq E l (chP E l i k) = chP E l i (k + 1) ∧ chP E l i k ≤ chP E l i (k + 1) := by
  have h := chP_s hT hi hk
  exact ⟨by rw [qq, h.2]; rfl, (endL_le (by omega) h.2).1⟩
theorem Nm_ne {E : Nat → Int32} {l : List Int32} {i a : Nat} {r : List Int32} (hT : isT E l) (hi : i < l.length) (hl : ¬ gD l i = -1) (hne : ¬ gD l i = nI a) : Nm E l i (nI a :: r) := by
  intro u v ac
  obtain ⟨q, h1, h2, h3⟩ := isT_end hT hi
  rw [qq, h1, show (some q).getD 0 - i = (q - i - 1) + 1 by show q - i = _; omega, mtF, if_neg (by rw [List.length_append, List.length_append, List.length_cons]; omega), if_neg hl, if_neg (by rw [List.cons_append, gD_at0]; exact fun h => hne h.symm)]
theorem mt_go {E : Nat → Int32} {l : List Int32} {i a : Nat} {r u v : List Int32} {ac : List (Nat × Nat)} (hT : isT E l) (hi : i < l.length) (hl : ¬ gD l i = -1) (he : gD l i = nI a) : mtF E (u ++ ((nI a :: r) ++ v)) (gD l) (qq E l i - i) i u.length ac = mtF E ((u ++ [nI a]) ++ (r ++ v)) (gD l) (qq E l i - chP E l i 0) (chP E l i 0) (u ++ [nI a]).length ac := by
  obtain ⟨q, h1, h2, h3⟩ := isT_end hT hi
  have hq : qq E l i = q := by rw [qq, h1]; rfl
  rw [hq, show q - i = (q - (i + 1)) + 1 by omega, mtF, if_neg (by rw [List.length_append, List.length_append, List.length_cons]; omega), if_neg hl, if_pos (by rw [List.cons_append, gD_at0]; exact he.symm), chP, List.length_append, List.length_singleton, List.append_assoc]
  rfl
theorem Pm_2 {E : Nat → Int32} {l : List Int32} {i a : Nat} {x y : List Int32} (hT : isT E l) (hi : i < l.length) (hl : ¬ gD l i = -1) (he : gD l i = nI a) (hw : wt E (gD l i) = 2) (h0 : Pm E l (chP E l i 0) x) (h1 : Pm E l (chP E l i 1) y) : Pm E l i (nI a :: (x ++ (y ++ []))) := by
  intro u v ac
  have q0 : qq E l (chP E l i 0) = chP E l i 1 ∧ chP E l i 0 ≤ chP E l i 1 := chP_qq hT hi (k := 0) (by omega)
  have q1 : qq E l (chP E l i 1) = chP E l i 2 ∧ chP E l i 1 ≤ chP E l i 2 := chP_qq hT hi (k := 1) (by omega)
  have qe := chP_q hT hi
  rw [hw] at qe
  rw [mt_go hT hi hl he, qe, List.append_nil, List.append_assoc x y v, show chP E l i 2 - chP E l i 0 = chP E l i 1 - chP E l i 0 + (chP E l i 2 - chP E l i 1 + 0) by omega]
  obtain ⟨a1, e1⟩ := seg_y (u := u ++ [nI a]) (v := y ++ v) (f2 := chP E l i 2 - chP E l i 1 + 0) (ac := ac) h0 q0.1 q0.2
  rw [e1, show (u ++ [nI a]) ++ (x ++ (y ++ v)) = ((u ++ [nI a]) ++ x) ++ (y ++ v) by rw [List.append_assoc (u ++ [nI a])], ← List.length_append]
  obtain ⟨a2, e2⟩ := seg_y (u := (u ++ [nI a]) ++ x) (v := v) (f2 := 0) (ac := a1) h1 q1.1 q1.2
  rw [e2]
  refine ⟨a2, ?_⟩
  rw [mtF]
  simp only [List.length_append, List.length_cons, List.length_nil]
  rw [show u.length + (0 + 1) + x.length + y.length = u.length + (x.length + y.length + 1) by omega]
theorem Nm_2 {E : Nat → Int32} {l : List Int32} {i a : Nat} {x y : List Int32} (hT : isT E l) (hi : i < l.length) (hl : ¬ gD l i = -1) (he : gD l i = nI a) (hw : wt E (gD l i) = 2) (h : Nm E l (chP E l i 0) x ∨ (Pm E l (chP E l i 0) x ∧ Nm E l (chP E l i 1) y)) : Nm E l i (nI a :: (x ++ (y ++ []))) := by
  intro u v ac
  have q0 : qq E l (chP E l i 0) = chP E l i 1 ∧ chP E l i 0 ≤ chP E l i 1 := chP_qq hT hi (k := 0) (by omega)
  have q1 : qq E l (chP E l i 1) = chP E l i 2 ∧ chP E l i 1 ≤ chP E l i 2 := chP_qq hT hi (k := 1) (by omega)
  have qe := chP_q hT hi
  rw [hw] at qe
  rw [mt_go hT hi hl he, qe, List.append_nil, List.append_assoc x y v, show chP E l i 2 - chP E l i 0 = chP E l i 1 - chP E l i 0 + (chP E l i 2 - chP E l i 1 + 0) by omega]
  rcases h with h0 | ⟨h0, h1⟩
  · exact seg_n (u := u ++ [nI a]) (v := y ++ v) h0 q0.1
  · obtain ⟨a1, e1⟩ := seg_y (u := u ++ [nI a]) (v := y ++ v) (f2 := chP E l i 2 - chP E l i 1 + 0) (ac := ac) h0 q0.1 q0.2
    rw [e1, show (u ++ [nI a]) ++ (x ++ (y ++ v)) = ((u ++ [nI a]) ++ x) ++ (y ++ v) by rw [List.append_assoc (u ++ [nI a])], ← List.length_append]
    exact seg_n (u := (u ++ [nI a]) ++ x) (v := v) h1 q1.1
theorem Pm_3 {E : Nat → Int32} {l : List Int32} {i a : Nat} {x y z : List Int32} (hT : isT E l) (hi : i < l.length) (hl : ¬ gD l i = -1) (he : gD l i = nI a) (hw : wt E (gD l i) = 3) (h0 : Pm E l (chP E l i 0) x) (h1 : Pm E l (chP E l i 1) y) (h2 : Pm E l (chP E l i 2) z) : Pm E l i (nI a :: (x ++ (y ++ z))) := by
  intro u v ac
  have q0 : qq E l (chP E l i 0) = chP E l i 1 ∧ chP E l i 0 ≤ chP E l i 1 := chP_qq hT hi (k := 0) (by omega)
  have q1 : qq E l (chP E l i 1) = chP E l i 2 ∧ chP E l i 1 ≤ chP E l i 2 := chP_qq hT hi (k := 1) (by omega)
  have q2 : qq E l (chP E l i 2) = chP E l i 3 ∧ chP E l i 2 ≤ chP E l i 3 := chP_qq hT hi (k := 2) (by omega)
  have qe := chP_q hT hi
  rw [hw] at qe
  rw [mt_go hT hi hl he, qe, List.append_assoc x (y ++ z) v, List.append_assoc y z v, show chP E l i 3 - chP E l i 0 = chP E l i 1 - chP E l i 0 + (chP E l i 2 - chP E l i 1 + (chP E l i 3 - chP E l i 2 + 0)) by omega]
  obtain ⟨a1, e1⟩ := seg_y (u := u ++ [nI a]) (v := y ++ (z ++ v)) (f2 := chP E l i 2 - chP E l i 1 + (chP E l i 3 - chP E l i 2 + 0)) (ac := ac) h0 q0.1 q0.2
  rw [e1, show (u ++ [nI a]) ++ (x ++ (y ++ (z ++ v))) = ((u ++ [nI a]) ++ x) ++ (y ++ (z ++ v)) by rw [List.append_assoc (u ++ [nI a])], ← List.length_append]
  obtain ⟨a2, e2⟩ := seg_y (u := (u ++ [nI a]) ++ x) (v := z ++ v) (f2 := chP E l i 3 - chP E l i 2 + 0) (ac := a1) h1 q1.1 q1.2
  rw [e2, show ((u ++ [nI a]) ++ x) ++ (y ++ (z ++ v)) = (((u ++ [nI a]) ++ x) ++ y) ++ (z ++ v) by rw [List.append_assoc ((u ++ [nI a]) ++ x)], ← List.length_append]
  obtain ⟨a3, e3⟩ := seg_y (u := ((u ++ [nI a]) ++ x) ++ y) (v := v) (f2 := 0) (ac := a2) h2 q2.1 q2.2
  rw [e3]
  refine ⟨a3, ?_⟩
  rw [mtF]
  simp only [List.length_append, List.length_cons, List.length_nil]
  rw [show u.length + (0 + 1) + x.length + y.length + z.length = u.length + (x.length + (y.length + z.length) + 1) by omega]
theorem Nm_3 {E : Nat → Int32} {l : List Int32} {i a : Nat} {x y z : List Int32} (hT : isT E l) (hi : i < l.length) (hl : ¬ gD l i = -1) (he : gD l i = nI a) (hw : wt E (gD l i) = 3) (h : Nm E l (chP E l i 0) x ∨ (Pm E l (chP E l i 0) x ∧ (Nm E l (chP E l i 1) y ∨ (Pm E l (chP E l i 1) y ∧ Nm E l (chP E l i 2) z)))) : Nm E l i (nI a :: (x ++ (y ++ z))) := by
  intro u v ac
  have q0 : qq E l (chP E l i 0) = chP E l i 1 ∧ chP E l i 0 ≤ chP E l i 1 := chP_qq hT hi (k := 0) (by omega)
  have q1 : qq E l (chP E l i 1) = chP E l i 2 ∧ chP E l i 1 ≤ chP E l i 2 := chP_qq hT hi (k := 1) (by omega)
  have q2 : qq E l (chP E l i 2) = chP E l i 3 ∧ chP E l i 2 ≤ chP E l i 3 := chP_qq hT hi (k := 2) (by omega)
  have qe := chP_q hT hi
  rw [hw] at qe
  rw [mt_go hT hi hl he, qe, List.append_assoc x (y ++ z) v, List.append_assoc y z v, show chP E l i 3 - chP E l i 0 = chP E l i 1 - chP E l i 0 + (chP E l i 2 - chP E l i 1 + (chP E l i 3 - chP E l i 2 + 0)) by omega]
  rcases h with h0 | ⟨h0, h⟩
  · exact seg_n (u := u ++ [nI a]) (v := y ++ (z ++ v)) h0 q0.1
  · obtain ⟨a1, e1⟩ := seg_y (u := u ++ [nI a]) (v := y ++ (z ++ v)) (f2 := chP E l i 2 - chP E l i 1 + (chP E l i 3 - chP E l i 2 + 0)) (ac := ac) h0 q0.1 q0.2
    rw [e1, show (u ++ [nI a]) ++ (x ++ (y ++ (z ++ v))) = ((u ++ [nI a]) ++ x) ++ (y ++ (z ++ v)) by rw [List.append_assoc (u ++ [nI a])], ← List.length_append]
    rcases h with h1 | ⟨h1, h2⟩
    · exact seg_n (u := (u ++ [nI a]) ++ x) (v := z ++ v) h1 q1.1
    · obtain ⟨a2, e2⟩ := seg_y (u := (u ++ [nI a]) ++ x) (v := z ++ v) (f2 := chP E l i 3 - chP E l i 2 + 0) (ac := a1) h1 q1.1 q1.2
      rw [e2, show ((u ++ [nI a]) ++ x) ++ (y ++ (z ++ v)) = (((u ++ [nI a]) ++ x) ++ y) ++ (z ++ v) by rw [List.append_assoc ((u ++ [nI a]) ++ x)], ← List.length_append]
      exact seg_n (u := ((u ++ [nI a]) ++ x) ++ y) (v := v) h2 q2.1
