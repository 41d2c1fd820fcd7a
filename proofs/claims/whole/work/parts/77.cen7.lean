/-! what the kinds say of the trees -/
abbrev Lf (R : Nat → List Int32) (k : Nat) : List Int32 := R (10 + k)
def tabOK (T : NT) (E : Nat → Int32) (R : Nat → List Int32) (nr : Nat) (nu : Nat → Nat → Nat) : Prop :=
  ∀ k, k < nr → ∀ i, i < (Lf R k).length → ¬ gD (Lf R k) i = -1 → nu k i < T.1 ∧ T.2.1 (nu k i) = gD (Lf R k) i ∧ ∀ e, e < 3 → T.2.2.1 e (nu k i) = if e < wt E (gD (Lf R k) i) then (if gD (Lf R k) (chP E (Lf R k) i e) = -1 then 0 else bitN (nu k (chP E (Lf R k) i e))) else 0
def fbOK (T : NT) (nr : Nat) (nu : Nat → Nat → Nat) : Prop := ∀ m, tb T.2.2.2.1 m = true ↔ ∃ k, k < nr ∧ m = nu k 0
def kdT (T : NT) (b : Int32) (x y w : Int64) : Int64 := kdF T.2.1 (T.2.2.1 0) (T.2.2.1 1) (T.2.2.1 2) b x y w T.1
def fct (E : Nat → Int32) (R : Nat → List Int32) (nr : Nat) (nu : Nat → Nat → Nat) (t : TT) : Prop := tL E 1 t.1 ∧ ∀ k, k < nr → ∀ i, i < (Lf R k).length → ¬ gD (Lf R k) i = -1 → (tb t.2.1 (nu k i) = true → Pm E (Lf R k) i t.1) ∧ (tb t.2.1 (nu k i) = false → Nm E (Lf R k) i t.1)
def okf (E : Nat → Int32) (R : Nat → List Int32) (nr : Nat) (t : TT) : Prop := (t.2.2 = true → ∀ (u v : List Int32) (p : Nat), p < t.1.length → ∀ k, k < nr → mt E (Lf R k) (u ++ (t.1 ++ v)) (u.length + p) = none) ∧ (t.2.2 = false → ∃ p k, p < t.1.length ∧ k < nr ∧ ∀ (u v : List Int32), (mt E (Lf R k) (u ++ (t.1 ++ v)) (u.length + p)).isSome = true)
section CEN
variable {E : Nat → Int32} {R : Nat → List Int32} {nr A : Nat} {nu : Nat → Nat → Nat} {T : NT}
theorem chi {t : TT} (hT : ∀ k, k < nr → isT E (Lf R k)) (h : fct E R nr nu t) {k c : Nat} (hk : k < nr) (hc : c < (Lf R k).length) : (gD (Lf R k) c = -1 ∨ tb t.2.1 (nu k c) = true → Pm E (Lf R k) c t.1) ∧ (¬ (gD (Lf R k) c = -1 ∨ tb t.2.1 (nu k c) = true) → Nm E (Lf R k) c t.1) := by
  by_cases hl : gD (Lf R k) c = -1
  · exact ⟨fun _ => Pm_leaf hc hl h.1, fun q => absurd (Or.inl hl) q⟩
  · have h1 := h.2 k hk c hc hl
    refine ⟨fun q => h1.1 (q.resolve_left hl), fun q => h1.2 ?_⟩
    cases hb : tb t.2.1 (nu k c) with
    | false => rfl
    | true => exact absurd (Or.inr hb) q
theorem sub_ch (h36 : T.1 ≤ 36) (htab : tabOK T E R nr nu) {k i e : Nat} (hk : k < nr) (hT : isT E (Lf R k)) (hi : i < (Lf R k).length) (hl : ¬ gD (Lf R k) i = -1) (he : e < 3) (hw : e < wt E (gD (Lf R k) i)) (x : Int64) : (T.2.2.1 e (nu k i) &&& (x ^^^ (-1)) = 0) ↔ (gD (Lf R k) (chP E (Lf R k) i e) = -1 ∨ tb x (nu k (chP E (Lf R k) i e)) = true) := by
  rw [((htab k hk i hi hl).2.2 e he), if_pos hw]
  by_cases hq : gD (Lf R k) (chP E (Lf R k) i e) = -1
  · rw [if_pos hq]; exact ⟨fun _ => Or.inl hq, fun _ => sub_0 x⟩
  · have hc := (chP_s hT hi hw).1
    have hn := (htab k hk _ hc hq).1
    rw [if_neg hq, sub_bit (by omega)]
    exact ⟨fun h => Or.inr h, fun h => h.resolve_left hq⟩
theorem fct_lf (hT : ∀ k, k < nr → isT E (Lf R k)) : fct E R nr nu tLf := by
  refine ⟨?_, fun k hk i hi hl => ⟨fun h => ?_, fun _ => Nm_leaf (hT k hk) hi hl⟩⟩
  · show tL E (0 + wt E (-1)) []
    rw [wt_m1]; rfl
  · rw [show tLf.2.1 = 0 from rfl, tb_0] at h; cases h
theorem okf_lf (hT : ∀ k, k < nr → isT E (Lf R k)) (h0 : ∀ k, k < nr → ¬ gD (Lf R k) 0 = -1) : okf E R nr tLf := by
  refine ⟨fun _ u v p hp k hk => ?_, fun h => by cases h⟩
  have hp0 : p = 0 := by
    have : p < 1 := hp
    omega
  subst hp0
  exact mt_leaf (isT_pos (hT k hk)) (h0 k hk) (by rw [Nat.add_zero]; exact gD_at0)
theorem okf_no : okf E R nr tNo := ⟨fun _ u v p hp => absurd hp (Nat.not_lt_zero _), fun h => by cases h⟩
theorem tL_nd {a : Nat} {x y z : List Int32} (hx : tL E 1 x) (hy : tL E 1 y) (hz : (wt E (nI a) = 2 ∧ z = []) ∨ (wt E (nI a) = 3 ∧ tL E 1 z)) : tL E 1 (nI a :: (x ++ (y ++ z))) := by
  show tL E (0 + wt E (nI a)) _
  rcases hz with ⟨h, rfl⟩ | ⟨h, h2⟩
  · rw [h, List.append_nil]; exact tL_app (a := 1) (b := 1) hx hy
  · rw [h]; exact tL_app (a := 1) (b := 2) hx (tL_app (a := 1) (b := 1) hy h2)
theorem fct_nd {fb : Int64} (hT : ∀ k, k < nr → isT E (Lf R k)) (h36 : T.1 ≤ 36) (htab : tabOK T E R nr nu) {a : Nat} {x y z : TT} (hx : fct E R nr nu x) (hy : fct E R nr nu y) (hz : (wt E (nI a) = 2 ∧ z = tNo) ∨ (wt E (nI a) = 3 ∧ fct E R nr nu z)) : fct E R nr nu (tNd (kdT T) fb a x y z) := by
  refine ⟨tL_nd hx.1 hy.1 (hz.elim (fun h => Or.inl ⟨h.1, by rw [h.2]⟩) (fun h => Or.inr ⟨h.1, h.2.1⟩)), fun k hk i hi hl => ?_⟩
  have hTk := hT k hk
  have hnd := htab k hk i hi hl
  have hb : tb (tNd (kdT T) fb a x y z).2.1 (nu k i) = true ↔ kdB T.2.1 (T.2.2.1 0) (T.2.2.1 1) (T.2.2.1 2) (nI a) x.2.1 y.2.1 z.2.1 (nu k i) := (tb_kd h36 (nu k i)).trans ⟨fun h => h.2, fun h => ⟨hnd.1, h⟩⟩
  by_cases hea : gD (Lf R k) i = nI a
  · rcases hz with ⟨hw, rfl⟩ | ⟨hw, hz⟩
    · rw [← hea] at hw
      have c0 := chi hT hx hk (chP_s hTk hi (k := 0) (by omega)).1
      have c1 := chi hT hy hk (chP_s hTk hi (k := 1) (by omega)).1
      have s0 := sub_ch h36 htab hk hTk hi hl (e := 0) (by decide) (by omega) x.2.1
      have s1 := sub_ch h36 htab hk hTk hi hl (e := 1) (by decide) (by omega) y.2.1
      have s2 : T.2.2.1 2 (nu k i) &&& (tNo.2.1 ^^^ (-1)) = 0 := by rw [hnd.2.2 2 (by decide), if_neg (by omega)]; exact sub_0 _
      constructor
      · intro h
        obtain ⟨g1, g2, g3, -⟩ := hb.mp h
        exact Pm_2 hTk hi hl hea hw (c0.1 (s0.mp g2)) (c1.1 (s1.mp g3))
      · intro h
        refine Nm_2 hTk hi hl hea hw ?_
        by_cases q0 : gD (Lf R k) (chP E (Lf R k) i 0) = -1 ∨ tb x.2.1 (nu k (chP E (Lf R k) i 0)) = true
        · refine Or.inr ⟨c0.1 q0, c1.2 (fun q1 => ?_)⟩
          rw [hb.mpr ⟨hnd.2.1.trans hea, s0.mpr q0, s1.mpr q1, s2⟩] at h
          cases h
        · exact Or.inl (c0.2 q0)
    · rw [← hea] at hw
      have c0 := chi hT hx hk (chP_s hTk hi (k := 0) (by omega)).1
      have c1 := chi hT hy hk (chP_s hTk hi (k := 1) (by omega)).1
      have c2 := chi hT hz hk (chP_s hTk hi (k := 2) (by omega)).1
      have s0 := sub_ch h36 htab hk hTk hi hl (e := 0) (by decide) (by omega) x.2.1
      have s1 := sub_ch h36 htab hk hTk hi hl (e := 1) (by decide) (by omega) y.2.1
      have s2 := sub_ch h36 htab hk hTk hi hl (e := 2) (by decide) (by omega) z.2.1
      constructor
      · intro h
        obtain ⟨g1, g2, g3, g4⟩ := hb.mp h
        exact Pm_3 hTk hi hl hea hw (c0.1 (s0.mp g2)) (c1.1 (s1.mp g3)) (c2.1 (s2.mp g4))
      · intro h
        refine Nm_3 hTk hi hl hea hw ?_
        by_cases q0 : gD (Lf R k) (chP E (Lf R k) i 0) = -1 ∨ tb x.2.1 (nu k (chP E (Lf R k) i 0)) = true
        · refine Or.inr ⟨c0.1 q0, ?_⟩
          by_cases q1 : gD (Lf R k) (chP E (Lf R k) i 1) = -1 ∨ tb y.2.1 (nu k (chP E (Lf R k) i 1)) = true
          · refine Or.inr ⟨c1.1 q1, c2.2 (fun q2 => ?_)⟩
            rw [hb.mpr ⟨hnd.2.1.trans hea, s0.mpr q0, s1.mpr q1, s2.mpr q2⟩] at h
            cases h
          · exact Or.inl (c1.2 q1)
        · exact Or.inl (c0.2 q0)
  · refine ⟨fun h => ?_, fun _ => Nm_ne hTk hi hl hea⟩
    exact absurd (hnd.2.1.symm.trans (hb.mp h).1) hea
theorem mt_root {l w : List Int32} {u v : List Int32} (hT : isT E l) : (Nm E l 0 w → mt E l (u ++ (w ++ v)) u.length = none) ∧ (Pm E l 0 w → (mt E l (u ++ (w ++ v)) u.length).isSome = true) := by
  have hq : qq E l 0 - 0 = l.length := by
    rw [qq, show endL E l 0 = some l.length from hT]; rfl
  constructor
  · intro h
    have := h u v []
    rw [hq] at this; exact this
  · intro h
    obtain ⟨ac', h1⟩ := h u v []
    rw [hq] at h1
    rw [mt, h1]; rfl
theorem okf_nd (hT : ∀ k, k < nr → isT E (Lf R k)) (h0 : ∀ k, k < nr → ¬ gD (Lf R k) 0 = -1) (hfb : fbOK T nr nu) {a : Nat} {x y z : TT} (hf : fct E R nr nu (tNd (kdT T) T.2.2.2.1 a x y z)) (hx : okf E R nr x) (hy : okf E R nr y) (hz : okf E R nr z) : okf E R nr (tNd (kdT T) T.2.2.2.1 a x y z) := by
  have ex : ∀ (u v : List Int32), u ++ ((nI a :: (x.1 ++ (y.1 ++ z.1))) ++ v) = (u ++ [nI a]) ++ (x.1 ++ ((y.1 ++ z.1) ++ v)) := fun u v => by simp only [List.cons_append, List.append_assoc, List.nil_append]
  have ey : ∀ (u v : List Int32), u ++ ((nI a :: (x.1 ++ (y.1 ++ z.1))) ++ v) = (u ++ [nI a] ++ x.1) ++ (y.1 ++ (z.1 ++ v)) := fun u v => by simp only [List.cons_append, List.append_assoc, List.nil_append]
  have ez : ∀ (u v : List Int32), u ++ ((nI a :: (x.1 ++ (y.1 ++ z.1))) ++ v) = (u ++ [nI a] ++ x.1 ++ y.1) ++ (z.1 ++ v) := fun u v => by simp only [List.cons_append, List.append_assoc, List.nil_append]
  have hlen : (tNd (kdT T) T.2.2.2.1 a x y z).1.length = x.1.length + (y.1.length + z.1.length) + 1 := by show (nI a :: (x.1 ++ (y.1 ++ z.1))).length = _; rw [List.length_cons, List.length_append, List.length_append]
  have hpos : ∀ k, k < nr → 0 < (Lf R k).length := fun k hk => isT_pos (hT k hk)
  constructor
  · intro hok u v p hp k hk
    have hok : (x.2.2 && y.2.2 && z.2.2 && decide (kdT T (nI a) x.2.1 y.2.1 z.2.1 &&& T.2.2.2.1 = 0)) = true := hok
    rw [Bool.and_eq_true, Bool.and_eq_true, Bool.and_eq_true] at hok
    obtain ⟨⟨⟨o1, o2⟩, o3⟩, o4⟩ := hok
    have o4 := (tb_and0 _ _).mp (of_decide_eq_true o4)
    rw [hlen] at hp
    show mt E (Lf R k) (u ++ ((nI a :: (x.1 ++ (y.1 ++ z.1))) ++ v)) (u.length + p) = none
    by_cases hp0 : p = 0
    · subst hp0
      refine (mt_root (hT k hk)).1 ((hf.2 k hk 0 (hpos k hk) (h0 k hk)).2 ?_)
      cases hb : tb (tNd (kdT T) T.2.2.2.1 a x y z).2.1 (nu k 0) with
      | false => rfl
      | true => exact absurd ⟨hb, (hfb _).mpr ⟨k, hk, rfl⟩⟩ (o4 (nu k 0))
    · by_cases h1 : p - 1 < x.1.length
      · have := hx.1 o1 (u ++ [nI a]) ((y.1 ++ z.1) ++ v) (p - 1) h1 k hk
        rw [ex, show u.length + p = (u ++ [nI a]).length + (p - 1) by rw [List.length_append, List.length_singleton]; omega]
        exact this
      · by_cases h2 : p - 1 - x.1.length < y.1.length
        · have := hy.1 o2 (u ++ [nI a] ++ x.1) (z.1 ++ v) (p - 1 - x.1.length) h2 k hk
          rw [ey, show u.length + p = (u ++ [nI a] ++ x.1).length + (p - 1 - x.1.length) by rw [List.length_append, List.length_append, List.length_singleton]; omega]
          exact this
        · have := hz.1 o3 (u ++ [nI a] ++ x.1 ++ y.1) v (p - 1 - x.1.length - y.1.length) (by omega) k hk
          rw [ez, show u.length + p = (u ++ [nI a] ++ x.1 ++ y.1).length + (p - 1 - x.1.length - y.1.length) by rw [List.length_append, List.length_append, List.length_append, List.length_singleton]; omega]
          exact this
  · intro hok
    have hok : (x.2.2 && y.2.2 && z.2.2 && decide (kdT T (nI a) x.2.1 y.2.1 z.2.1 &&& T.2.2.2.1 = 0)) = false := hok
    rw [hlen]
    cases o1 : x.2.2 with
    | false =>
      obtain ⟨p, k, h1, h2, h3⟩ := hx.2 o1
      refine ⟨p + 1, k, by omega, h2, fun u v => ?_⟩
      have := h3 (u ++ [nI a]) ((y.1 ++ z.1) ++ v)
      show (mt E (Lf R k) (u ++ ((nI a :: (x.1 ++ (y.1 ++ z.1))) ++ v)) (u.length + (p + 1))).isSome = true
      rw [ex, show u.length + (p + 1) = (u ++ [nI a]).length + p by rw [List.length_append, List.length_singleton]; omega]
      exact this
    | true =>
      cases o2 : y.2.2 with
      | false =>
        obtain ⟨p, k, h1, h2, h3⟩ := hy.2 o2
        refine ⟨p + 1 + x.1.length, k, by omega, h2, fun u v => ?_⟩
        have := h3 (u ++ [nI a] ++ x.1) (z.1 ++ v)
        show (mt E (Lf R k) (u ++ ((nI a :: (x.1 ++ (y.1 ++ z.1))) ++ v)) (u.length + (p + 1 + x.1.length))).isSome = true
        rw [ey, show u.length + (p + 1 + x.1.length) = (u ++ [nI a] ++ x.1).length + p by rw [List.length_append, List.length_append, List.length_singleton]; omega]
        exact this
      | true =>
        cases o3 : z.2.2 with
        | false =>
          obtain ⟨p, k, h1, h2, h3⟩ := hz.2 o3
          refine ⟨p + 1 + x.1.length + y.1.length, k, by omega, h2, fun u v => ?_⟩
          have := h3 (u ++ [nI a] ++ x.1 ++ y.1) v
          show (mt E (Lf R k) (u ++ ((nI a :: (x.1 ++ (y.1 ++ z.1))) ++ v)) (u.length + (p + 1 + x.1.length + y.1.length))).isSome = true
          rw [ez, show u.length + (p + 1 + x.1.length + y.1.length) = (u ++ [nI a] ++ x.1 ++ y.1).length + p by rw [List.length_append, List.length_append, List.length_append, List.length_singleton]; omega]
          exact this
        | true =>
          rw [o1, o2, o3] at hok
          have hk0 : ¬ kdT T (nI a) x.2.1 y.2.1 z.2.1 &&& T.2.2.2.1 = 0 := by
            intro hq
            rw [decide_eq_true hq] at hok
            cases hok
          have : ∃ m, tb (kdT T (nI a) x.2.1 y.2.1 z.2.1) m = true ∧ tb T.2.2.2.1 m = true := by
            refine Classical.byContradiction (fun hn => hk0 ((tb_and0 _ _).mpr (fun i hi => hn ⟨i, hi⟩)))
          obtain ⟨m, m1, m2⟩ := this
          obtain ⟨k, hk, rfl⟩ := (hfb m).mp m2
          refine ⟨0, k, by omega, hk, fun u v => ?_⟩
          exact (mt_root (hT k hk)).2 ((hf.2 k hk 0 (hpos k hk) (h0 k hk)).1 m1)
theorem gen_ok (hE : vE A E) (hT : ∀ k, k < nr → isT E (Lf R k)) (h0 : ∀ k, k < nr → ¬ gD (Lf R k) 0 = -1) (h36 : T.1 ≤ 36) (htab : tabOK T E R nr nu) (hfb : fbOK T nr nu) : ∀ (f n : Nat) (t : TT), gen (kdT T) T.2.2.2.1 E A f n t → okf E R nr t ∧ (1 ≤ n → fct E R nr nu t) ∧ (n = 0 → t = tNo)
  | 0, n, t, h => by
    rcases h with ⟨h1, h2⟩ | ⟨h1, h2⟩
    · subst h2; exact ⟨okf_no, fun h => absurd h (by omega), fun _ => rfl⟩
    · subst h2; exact ⟨okf_lf hT h0, fun _ => fct_lf hT, fun h => absurd h (by omega)⟩
  | f + 1, n, t, h => by
    rcases h with ⟨h1, h2⟩ | ⟨h1, h2⟩ | ⟨hn, a, i, j, x, y, z, ha, hi, hj, hu, hx, hy, hz, rfl⟩
    · subst h2; exact ⟨okf_no, fun h => absurd h (by omega), fun _ => rfl⟩
    · subst h2; exact ⟨okf_lf hT h0, fun _ => fct_lf hT, fun h => absurd h (by omega)⟩
    · have ix := gen_ok hE hT h0 h36 htab hfb f _ x hx
      have iy := gen_ok hE hT h0 h36 htab hfb f _ y hy
      have iz := gen_ok hE hT h0 h36 htab hfb f _ z hz
      have hf : fct E R nr nu (tNd (kdT T) T.2.2.2.1 a x y z) := fct_nd hT h36 htab (ix.2.1 (by omega)) (iy.2.1 (by omega)) (by
        rcases (wt_nI hE ha).2 with hw | hw
        · refine Or.inl ⟨hw, iz.2.2 ?_⟩
          rw [hw] at hu
          unfold uC at hu
          omega
        · refine Or.inr ⟨hw, iz.2.1 ?_⟩
          rw [hw] at hu
          unfold uC at hu
          omega)
      exact ⟨okf_nd hT h0 hfb hf ix.1 iy.1 iz.1, fun _ => hf, fun h => absurd h (by omega)⟩
/-- the class's count is the reference's, for nodes that stand for the left trees -/
theorem cen_of (hE : vE A E) (hT : ∀ k, k < nr → isT E (Lf R k)) (h0 : ∀ k, k < nr → ¬ gD (Lf R k) 0 = -1) (h36 : T.1 ≤ 36) (htab : tabOK T E R nr nu) (hfb : fbOK T nr nu) {n : Nat} (hn1 : 1 ≤ n) (hn6 : n ≤ 6) : SgT T E A n = lN (cntM E R nr A n) := by
  rw [cnt_Ng (kd := kdT T) (fb := T.2.2.2.1) hE hn6 hn1]
  show SgF (kdT T) T.2.2.2.1 E A 6 n (fun _ => 1) = NgF (kdT T) T.2.2.2.1 E A 6 n (fun t => gI E R nr t.1)
  rw [Sg_Ng]
  refine Ng_congr 6 n _ _ (fun t ht => ?_)
  have h := (gen_ok hE hT h0 h36 htab hfb 6 n t ht).1
  rw [gI]
  cases ho : t.2.2 with
  | true =>
    rw [if_pos rfl, if_neg]
    rw [fP_iff]
    rintro ⟨p, k, h1, h2, h3⟩
    have := h.1 ho [] [] p h1 k h2
    rw [List.append_nil, List.nil_append, List.length_nil, Nat.zero_add] at this
    rw [show mt E (R (10 + k)) t.1 p = none from this] at h3
    cases h3
  | false =>
    obtain ⟨p, k, h1, h2, h3⟩ := h.2 ho
    have := h3 [] []
    rw [List.append_nil, List.nil_append, List.length_nil, Nat.zero_add] at this
    rw [if_neg (by decide), if_pos (fP_iff.mpr ⟨p, k, h1, h2, this⟩)]
end CEN
