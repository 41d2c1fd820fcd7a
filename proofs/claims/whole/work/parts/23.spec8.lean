/-! an overlap is matched by both its rules -/
theorem tE_shift (w : Int32 → Nat) (g g' : Nat → Int32) : ∀ (f k i z i' f' : Nat), tE w g f k i = some z → z - i ≤ f' → (∀ t, t < z - i → g' (i' + t) = g (i + t)) → tE w g' f' k i' = some (i' + (z - i))
  | f, 0, i, z, i', f', h, _, _ => by
    rw [tE_0] at h ⊢
    cases h
    rw [Nat.sub_self]; rfl
  | 0, _ + 1, _, _, _, _, h, _, _ => by cases h
  | f + 1, k + 1, i, z, i', f', h, hf, hg => by
    rw [tE] at h
    have hz := tE_le _ _ _ _ _ _ h
    obtain ⟨f2, rfl⟩ : ∃ q, f' = q + 1 := ⟨f' - 1, by omega⟩
    have h0 := hg 0 (by omega)
    rw [Nat.add_zero, Nat.add_zero] at h0
    rw [tE, h0, tE_shift w g g' f (k + w (g i)) (i + 1) z (i' + 1) f2 h (by omega) (fun t ht => by
      have := hg (t + 1) (by omega)
      rw [show i' + 1 + t = i' + (t + 1) by omega, show i + 1 + t = i + (t + 1) by omega]
      exact this)]
    congr 1
    omega
theorem endL_at {E : Nat → Int32} {l T : List Int32} {j q i' : Nat} (h : endL E l j = some q) (hj : j ≤ q) (hl : i' + (q - j) ≤ T.length) (hg : ∀ t, t < q - j → gD T (i' + t) = gD l (j + t)) : endL E T i' = some (i' + (q - j)) :=
  tE_shift _ _ _ _ _ _ _ _ _ h (by omega) hg
theorem endL_leaf {E : Nat → Int32} {T : List Int32} {i : Nat} (h : i < T.length) (hg : gD T i = -1) : endL E T i = some (i + 1) := by
  rw [endL, tE_step _ _ (by omega) h, hg, wt_m1]
  exact tE_0 _ _ _ _
theorem slc_gD {l : List Int32} {b q t : Nat} (hq : q ≤ l.length) (ht : t < q - b) : gD (slc l b q) t = gD l (b + t) := by
  rw [gD, gD, List.getD_eq_getElem?_getD, List.getD_eq_getElem?_getD, slc, List.getElem?_drop, List.getElem?_take_of_lt (by omega)]
/-- the same symbols are matched one by one -/
theorem mtF_run {E : Nat → Int32} {T : List Int32} {g : Nat → Int32} {n : Nat} : ∀ (k i j : Nat) (ac : List (Nat × Nat)), i + k ≤ n → j + k ≤ T.length → (∀ t, t < k → gD T (j + t) = g (i + t)) → ∃ ac', mtF E T g (n - i) i j ac = mtF E T g (n - (i + k)) (i + k) (j + k) ac'
  | 0, i, j, ac, _, _, _ => ⟨ac, rfl⟩
  | k + 1, i, j, ac, h1, h2, hg => by
    have h0 := hg 0 (by omega)
    rw [Nat.add_zero, Nat.add_zero] at h0
    have hs : ∀ t, t < k → gD T (j + 1 + t) = g (i + 1 + t) := fun t ht => by
      have := hg (t + 1) (by omega)
      rw [show j + 1 + t = j + (t + 1) by omega, show i + 1 + t = i + (t + 1) by omega]
      exact this
    by_cases hl : g i = -1
    · obtain ⟨ac', h⟩ := mtF_run (E := E) (T := T) (g := g) (n := n) k (i + 1) (j + 1) (ac ++ [(j, j + 1)]) (by omega) (by omega) hs
      refine ⟨ac', ?_⟩
      rw [mtF_lf (by omega) (by omega) hl (endL_leaf (by omega) (h0.trans hl)), h, show i + 1 + k = i + (k + 1) by omega, show j + 1 + k = j + (k + 1) by omega]
    · obtain ⟨ac', h⟩ := mtF_run (E := E) (T := T) (g := g) (n := n) k (i + 1) (j + 1) ac (by omega) (by omega) hs
      refine ⟨ac', ?_⟩
      rw [mtF_eq (by omega) (by omega) hl h0, h, show i + 1 + k = i + (k + 1) by omega, show j + 1 + k = j + (k + 1) by omega]
theorem mgF_pre {E : Nat → Int32} {a b : List Int32} : ∀ {f i j : Nat} {M : List Int32} {r : Nat × List Int32}, mgF E a b f i j M = some r → ∃ X, r.2 = M ++ X
  | 0, _, _, _, _, h => by cases h
  | f + 1, i, j, M, r, h => by
    rw [mgF] at h
    split at h
    · cases h; exact ⟨[], (List.append_nil _).symm⟩
    · split at h
      · cases he : endL E b j with
        | none => rw [he] at h; cases h
        | some q =>
          rw [he] at h
          obtain ⟨X, hX⟩ := mgF_pre h
          exact ⟨_, hX.trans (List.append_assoc _ _ _)⟩
      · split at h
        · cases he : endL E a i with
          | none => rw [he] at h; cases h
          | some q =>
            rw [he] at h
            obtain ⟨X, hX⟩ := mgF_pre h
            exact ⟨_, hX.trans (List.append_assoc _ _ _)⟩
        · split at h
          · obtain ⟨X, hX⟩ := mgF_pre h
            exact ⟨_, hX.trans (List.append_assoc _ _ _)⟩
          · cases h
theorem gD_mid {M X Y : List Int32} {t : Nat} (ht : t < X.length) : gD (M ++ X ++ Y) (M.length + t) = gD X t := by
  rw [gD_app_l (by rw [List.length_append]; omega), gD_app_r]
/-- matching the outer tree, from where the two stand -/
theorem mg_outer {E : Nat → Int32} {a b T : List Int32} : ∀ (f i j k : Nat) (M : List Int32) (r : Nat × List Int32) (ac : List (Nat × Nat)), mgF E a b f i j M = some r → mgI E a b i j k → (∃ Y, T = r.2 ++ slc a r.1 a.length ∧ Y = T) → ∃ z, mtF E T (gD a) (a.length - i) i M.length ac = some z
  | 0, _, _, _, _, _, _, h, _, _ => by cases h
  | f + 1, i, j, k, M, r, ac, h, hI, hT => by
    obtain ⟨Y, hT, -⟩ := hT
    have hib := hI.2.2.1
    by_cases hj : b.length ≤ j
    · rw [mgF_end hj] at h
      cases h
      have hlen : T.length = M.length + (a.length - i) := by rw [hT, List.length_append, slc_len (Nat.le_refl _)]
      obtain ⟨ac', he⟩ := mtF_run (E := E) (T := T) (g := gD a) (n := a.length) (a.length - i) i M.length ac (by omega) (by omega) (fun t ht => by
        rw [hT, gD_app_r, slc_gD (Nat.le_refl _) (by omega)])
      rw [he, mtF_0 (by omega)]
      exact ⟨_, rfl⟩
    · have hjb : j < b.length := by omega
      have hia := mgI_lt hI hjb
      by_cases ha : gD a i = -1
      · obtain ⟨q, hq, hq1, hq2, hI1⟩ := mgI_a hI hjb ha
        rw [mgF_a hjb ha hq] at h
        obtain ⟨X, hX⟩ := mgF_pre h
        have hT2 : T = M ++ slc b j q ++ (X ++ slc a r.1 a.length) := by rw [hT, hX, List.append_assoc]
        have hlen : M.length + (q - j) ≤ T.length := by rw [hT2, List.length_append, List.length_append, slc_len hq2]; omega
        have he : endL E T M.length = some (M.length + (q - j)) := endL_at hq (by omega) hlen (fun t ht => by
          rw [hT2, gD_mid (by rw [slc_len hq2]; exact ht), slc_gD hq2 ht])
        rw [mtF_lf hia (by omega) ha he]
        have := mg_outer f (i + 1) q (k - 1) (M ++ slc b j q) r (ac ++ [(M.length, M.length + (q - j))]) h hI1 ⟨T, hT, rfl⟩
        rwa [List.length_append, slc_len hq2] at this
      · by_cases hb : gD b j = -1
        · obtain ⟨q, hq, hq1, hq2, hI1⟩ := mgI_b hI hjb hb
          rw [mgF_b hjb ha hb hq] at h
          obtain ⟨X, hX⟩ := mgF_pre h
          have hT2 : T = M ++ slc a i q ++ (X ++ slc a r.1 a.length) := by rw [hT, hX, List.append_assoc]
          have hlen : M.length + (q - i) ≤ T.length := by rw [hT2, List.length_append, List.length_append, slc_len hq2]; omega
          obtain ⟨ac', he⟩ := mtF_run (E := E) (T := T) (g := gD a) (n := a.length) (q - i) i M.length ac (by omega) hlen (fun t ht => by
            rw [hT2, gD_mid (by rw [slc_len hq2]; exact ht), slc_gD hq2 ht])
          rw [he, show i + (q - i) = q by omega]
          have := mg_outer f q (j + 1) (k - 1) (M ++ slc a i q) r ac' h hI1 ⟨T, hT, rfl⟩
          rwa [List.length_append, slc_len hq2] at this
        · by_cases hc : gD a i = gD b j
          · rw [mgF_c hjb ha hb hc] at h
            obtain ⟨X, hX⟩ := mgF_pre h
            have hT2 : T = M ++ [gD a i] ++ (X ++ slc a r.1 a.length) := by rw [hT, hX, List.append_assoc]
            have hlen : M.length < T.length := by rw [hT2, List.length_append, List.length_append, List.length_singleton]; omega
            have hg : gD T M.length = gD a i := by rw [hT2]; exact gD_mid (t := 0) (by rw [List.length_singleton]; omega)
            rw [mtF_eq hia hlen ha hg]
            have := mg_outer f (i + 1) (j + 1) _ (M ++ [gD a i]) r ac h (mgI_c hI hjb hc) ⟨T, hT, rfl⟩
            rwa [List.length_append, List.length_singleton] at this
          · rw [mgF_d hjb ha hb hc] at h; cases h
/-- matching the inner tree, from where the two stand -/
theorem mg_inner {E : Nat → Int32} {a b T : List Int32} : ∀ (f i j k : Nat) (M : List Int32) (r : Nat × List Int32) (ac : List (Nat × Nat)), mgF E a b f i j M = some r → mgI E a b i j k → (∃ Y, T = r.2 ++ slc a r.1 a.length ∧ Y = T) → ∃ z, mtF E T (gD b) (b.length - j) j M.length ac = some z
  | 0, _, _, _, _, _, _, h, _, _ => by cases h
  | f + 1, i, j, k, M, r, ac, h, hI, hT => by
    obtain ⟨Y, hT, -⟩ := hT
    have hib := hI.2.2.1
    by_cases hj : b.length ≤ j
    · rw [mtF_0 hj]
      exact ⟨_, rfl⟩
    · have hjb : j < b.length := by omega
      have hia := mgI_lt hI hjb
      by_cases ha : gD a i = -1
      · obtain ⟨q, hq, hq1, hq2, hI1⟩ := mgI_a hI hjb ha
        rw [mgF_a hjb ha hq] at h
        obtain ⟨X, hX⟩ := mgF_pre h
        have hT2 : T = M ++ slc b j q ++ (X ++ slc a r.1 a.length) := by rw [hT, hX, List.append_assoc]
        have hlen : M.length + (q - j) ≤ T.length := by rw [hT2, List.length_append, List.length_append, slc_len hq2]; omega
        obtain ⟨ac', he⟩ := mtF_run (E := E) (T := T) (g := gD b) (n := b.length) (q - j) j M.length ac (by omega) hlen (fun t ht => by
          rw [hT2, gD_mid (by rw [slc_len hq2]; exact ht), slc_gD hq2 ht])
        rw [he, show j + (q - j) = q by omega]
        have := mg_inner f (i + 1) q (k - 1) (M ++ slc b j q) r ac' h hI1 ⟨T, hT, rfl⟩
        rwa [List.length_append, slc_len hq2] at this
      · by_cases hb : gD b j = -1
        · obtain ⟨q, hq, hq1, hq2, hI1⟩ := mgI_b hI hjb hb
          rw [mgF_b hjb ha hb hq] at h
          obtain ⟨X, hX⟩ := mgF_pre h
          have hT2 : T = M ++ slc a i q ++ (X ++ slc a r.1 a.length) := by rw [hT, hX, List.append_assoc]
          have hlen : M.length + (q - i) ≤ T.length := by rw [hT2, List.length_append, List.length_append, slc_len hq2]; omega
          have he : endL E T M.length = some (M.length + (q - i)) := endL_at hq (by omega) hlen (fun t ht => by
            rw [hT2, gD_mid (by rw [slc_len hq2]; exact ht), slc_gD hq2 ht])
          rw [mtF_lf hjb (by omega) hb he]
          have := mg_inner f q (j + 1) (k - 1) (M ++ slc a i q) r (ac ++ [(M.length, M.length + (q - i))]) h hI1 ⟨T, hT, rfl⟩
          rwa [List.length_append, slc_len hq2] at this
        · by_cases hc : gD a i = gD b j
          · rw [mgF_c hjb ha hb hc] at h
            obtain ⟨X, hX⟩ := mgF_pre h
            have hT2 : T = M ++ [gD a i] ++ (X ++ slc a r.1 a.length) := by rw [hT, hX, List.append_assoc]
            have hlen : M.length < T.length := by rw [hT2, List.length_append, List.length_append, List.length_singleton]; omega
            have hg : gD T M.length = gD b j := by rw [hT2, ← hc]; exact gD_mid (t := 0) (by rw [List.length_singleton]; omega)
            rw [mtF_eq hjb hlen hb hg]
            have := mg_inner f (i + 1) (j + 1) _ (M ++ [gD a i]) r ac h (mgI_c hI hjb hc) ⟨T, hT, rfl⟩
            rwa [List.length_append, List.length_singleton] at this
          · rw [mgF_d hjb ha hb hc] at h; cases h
theorem mrg_mt {E : Nat → Int32} {a b T : List Int32} {u : Nat} (ha : isT E a) (hb : isT E b) (hu : u < a.length) (h : mrg E a b u = some T) : (∃ z, mt E a T 0 = some z) ∧ ∃ z, mt E b T u = some z := by
  rw [mrg] at h
  cases hm : mgF E a b (b.length + 1) u 0 (slc a 0 u) with
  | none => rw [hm] at h; cases h
  | some r =>
    rw [hm] at h
    have hT : T = r.2 ++ slc a r.1 a.length := (Option.some.inj h).symm
    have hl : (slc a 0 u).length = u := by rw [slc_len (by omega)]; rfl
    have hI := mgI_0 ha hb hu
    constructor
    · obtain ⟨X, hX⟩ := mgF_pre hm
      have hT2 : T = [] ++ slc a 0 u ++ (X ++ slc a r.1 a.length) := by rw [hT, hX, List.append_assoc]; rfl
      obtain ⟨ac', he⟩ := mtF_run (E := E) (T := T) (g := gD a) (n := a.length) u 0 0 [] (by omega) (by rw [hT2, List.nil_append, List.length_append, hl]; omega) (fun t ht => by
        have := gD_mid (M := []) (X := slc a 0 u) (Y := X ++ slc a r.1 a.length) (t := t) (by rw [hl]; exact ht)
        rw [hT2, show (0 : Nat) + t = ([] : List Int32).length + t from rfl, this, slc_gD (by omega) (by omega)]
        rfl)
      rw [mt]
      rw [Nat.sub_zero] at he
      rw [he, Nat.zero_add]
      have := mg_outer _ u 0 1 _ r ac' hm hI ⟨T, hT, rfl⟩
      rwa [hl] at this
    · have := mg_inner _ u 0 1 _ r [] hm hI ⟨T, hT, rfl⟩
      rw [hl] at this
      exact this
