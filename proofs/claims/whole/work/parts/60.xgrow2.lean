/-! a tally's two arrays made anew, of twice the length -/
theorem gA_l {α : Type} {l r : List α} {i : Nat} {x : α} (h : l[i]? = some x) : (l ++ r)[i]? = some x := by
  rw [List.getElem?_append_left (List.getElem?_eq_some_iff.mp h).1]; exact h
theorem gA_s {α : Type} {l : List α} {i : Nat} {x y : α} (h : l[i]? = some x) : (l.set i y)[i]? = some y := by
  rw [List.getElem?_set_self (List.getElem?_eq_some_iff.mp h).1]
theorem gA_n {α : Type} {l : List α} {i j : Nat} {x y : α} (hij : i ≠ j) (h : l[j]? = some x) : (l.set i y)[j]? = some x := by
  rw [List.getElem?_set_ne hij]; exact h
theorem up_in {ad : Nat → Nat} {k q i : Nat} (h : i ≠ k) : va_up ad k q i = ad i := if_neg h
theorem xF_rows {ad : Nat → Nat} {k q : Nat} (h : 38 ≤ k ∧ k < 50) : xRows (va_up ad k q) = xRows ad := by
  funext i; rw [xRows, xRows, up_in (by omega)]
theorem xF_rules {ad : Nat → Nat} {k q : Nat} (h : 38 ≤ k ∧ k < 50) : xRules (va_up ad k q) = xRules ad := by
  funext i; rw [xRules, xRules, up_in (by omega)]
theorem xF_needs {ad : Nat → Nat} {k q : Nat} (h : 38 ≤ k ∧ k < 50) : xNeeds (va_up ad k q) = xNeeds ad := by
  funext i
  rw [xNeeds, xNeeds]
  split
  · rw [up_in (by omega)]
  · rfl
theorem xF_tals {ad : Nat → Nat} {k q : Nat} (h : 38 ≤ k ∧ k < 50) : xTals (va_up ad k q) = xTals ad := by
  funext i
  rw [xTals, xTals]
  split
  · rw [up_in (by omega)]
  · rfl
theorem xF_pows {ad : Nat → Nat} {k q : Nat} (h : 38 ≤ k ∧ k < 50) : xPows (va_up ad k q) = xPows ad := by
  funext i
  rw [xPows, xPows]
  split
  · rw [up_in (by omega)]
  · rfl
set_option maxRecDepth 100000 in
theorem xs_grow {aC : Nat → ClassId} {ad cap : Nat → Nat} {v Z : Nat → Int32} {S F : Nat → Nat → Int32} {G : Nat → Nat → Int64} {q1 q2 n : Nat} {K T : Nat → Int64} : ∀ j, j < 6 → wsX aC (va_up (va_up ad (38 + 2 * j) q1) (39 + 2 * j) q2) (va_up cap j n) v Z S F (va_up (va_up G (14 + 2 * j) K) (15 + 2 * j) T) = (((wsX aC ad cap v Z S F G).set (32 + j) (ad (32 + j), .inr (7, [.ref q1, .ref q2, .int (v (11 + j))]))).set (38 + 2 * j) (q1, .inl (aC 1, n, .inr (.inl K)))).set (39 + 2 * j) (q2, .inl (aC 1, n, .inr (.inl T)))
  | 0, _ => by unfold wsX; rw [xF_rows (by decide), xF_rows (by decide), xF_rules (by decide), xF_rules (by decide), xF_needs (by decide), xF_needs (by decide), xF_tals (by decide), xF_tals (by decide), xF_pows (by decide), xF_pows (by decide)]; rfl
  | 1, _ => by unfold wsX; rw [xF_rows (by decide), xF_rows (by decide), xF_rules (by decide), xF_rules (by decide), xF_needs (by decide), xF_needs (by decide), xF_tals (by decide), xF_tals (by decide), xF_pows (by decide), xF_pows (by decide)]; rfl
  | 2, _ => by unfold wsX; rw [xF_rows (by decide), xF_rows (by decide), xF_rules (by decide), xF_rules (by decide), xF_needs (by decide), xF_needs (by decide), xF_tals (by decide), xF_tals (by decide), xF_pows (by decide), xF_pows (by decide)]; rfl
  | 3, _ => by unfold wsX; rw [xF_rows (by decide), xF_rows (by decide), xF_rules (by decide), xF_rules (by decide), xF_needs (by decide), xF_needs (by decide), xF_tals (by decide), xF_tals (by decide), xF_pows (by decide), xF_pows (by decide)]; rfl
  | 4, _ => by unfold wsX; rw [xF_rows (by decide), xF_rows (by decide), xF_rules (by decide), xF_rules (by decide), xF_needs (by decide), xF_needs (by decide), xF_tals (by decide), xF_tals (by decide), xF_pows (by decide), xF_pows (by decide)]; rfl
  | 5, _ => by unfold wsX; rw [xF_rows (by decide), xF_rows (by decide), xF_rules (by decide), xF_rules (by decide), xF_needs (by decide), xF_needs (by decide), xF_tals (by decide), xF_tals (by decide), xF_pows (by decide), xF_pows (by decide)]; rfl
  | j + 6, h => absurd h (by omega)
theorem vaP_put {D : va_G} {cl : List vw_C} {ws : va_W} {H : Heap} {k : Nat} {q : Nat × va_E} (h : va_P D cl ws H) (he : va_at D cl q H) : va_P D cl (ws.set k q) H := by
  intro i w hi
  by_cases hik : k = i
  · subst hik
    rcases Nat.lt_or_ge k ws.length with z | z
    · rw [List.getElem?_set_self z] at hi; cases hi; exact he
    · rw [List.set_eq_of_length_le z] at hi; exact h k w hi
  · rw [List.getElem?_set_ne hik] at hi; exact h i w hi
theorem xA_lt {dC : Nat → ClassId} {dI : Nat → Nat → Nat} {aC : Nat → ClassId} {ad cap : Nat → Nat} {v Z : Nat → Int32} {S F : Nat → Nat → Int32} {G : Nat → Nat → Int64} {H : Heap} (hP : va_P (dC, dI) vwCl (wsX aC ad cap v Z S F G) H) {k : Nat} (hk : k < 120) : ad k < H.size := by
  have hlen : (wsX aC ad cap v Z S F G).length = 120 := rfl
  have he := List.getElem?_eq_getElem (l := wsX aC ad cap v Z S F G) (i := k) (by rw [hlen]; exact hk)
  have h2 := (hP k _ he).lt
  rw [(ws_fst (N := 120) (ad := ad) rfl he).2] at h2
  exact h2
theorem xI_up {ad : Nat → Nat} (hI : xI ad) {k q z : Nat} (hlt : ∀ i, i < 120 → ad i < z) (hq : z ≤ q) : xI (va_up ad k q) := by
  intro i j hi hj h
  by_cases h1 : i = k <;> by_cases h2 : j = k
  · exact h1.trans h2.symm
  · rw [h1, va_up_self, up_in h2] at h; have := hlt j hj; omega
  · rw [h2, va_up_self, up_in h1] at h; have := hlt i hi; omega
  · rw [up_in h1, up_in h2] at h; exact hI i j hi hj h
abbrev tkE (aC : Nat → ClassId) (q n : Nat) (f : Nat → Int64) : Nat × va_E := (q, .inl (aC 1, n, .inr (.inl f)))
abbrev toE (o a b : Nat) (z : Int32) : Nat × va_E := (o, .inr (7, [.ref a, .ref b, .int z]))
section XCP
variable {p : Program} {l : Launch} {e : Env} {R : Room} {s : State} {m : MethodId} {args : Array Value} {below : List Frame} {meth : Method} {c : Code} {H : Heap} {locs : List Loc} {cells slots : Nat} {Q : State → Prop}
variable {cc : ByteArray} {pc : Nat} {ls : Array Slot} {rest st As : List Value} {H0 : Heap} {Ts ws : List Cond} {own : String} {index n nL maxL a z : Nat} {y : MethodName} {bytes : ByteArray} {ret : Option FieldType} {rm : Room} {A0 : Nat → Prop}
variable {dC : Nat → ClassId} {dI : Nat → Nat → Nat} {aC : Nat → ClassId} {ad cap a0 : Nat → Nat} {v Z : Nat → Int32} {S : Nat → Nat → Int32} {F : Nat → Nat → Int32} {G : Nat → Nat → Int64} {f : Nat → Int64}
theorem xcp (Sx : CallFix p m c cc nL s args Ts own) (hM : Met l y ws rm (va_Pc As (CPB dC dI aC a z f)) (CPQ dC dI aC z f) 1 (2 * z) (fun q => q = a)) (cw : CallB R s args own index y bytes maxL ret ws rm 1 (2 * z) n ∧ (Cond.static y).before args s = true) (hK : va_K (dC, dI) vwCl (gT aC) s) (hP : va_P (dC, dI) vwCl [(a, .inl (aC 1, z, .inr (.inl f)))] H) (hS : va_S A0 H0 H locs) (ha : A0 a)
    (hn : As.length = n) (hsize : ls.size = nL) (hst : st = As.reverse ++ rest) (hroom : (rest.map fun v => v.category).sum ≤ 8) (hdg : decode cc pc = .ok (.invokestatic index, 3)) (hf : cells + 1 ≤ R.cells ∧ slots + 2 * z ≤ R.slots)
    (kk : ∀ (q : Nat) (H1 : Heap) (locs1 : List Loc), H.size ≤ q → va_at (dC, dI) vwCl (q, .inl (aC 1, 2 * z, .inr (.inl (va_cpy f (fun _ => 0) 0 0 z)))) H1 → (∀ i : Nat, i < H.size → H1[i]? = H[i]?) → va_S A0 H0 H1 locs1 → W p l e R s m args below meth c H1 locs1 (cells + 1) (slots + 2 * z) Q (F0 m (pc + 3) ls (.ref q :: rest))) : W p l e R s m args below meth c H locs cells slots Q (F0 m pc ls st) := by
  intro T hT X
  obtain ⟨w, u0, t, T', L, h0, X', hL, e1, e2, ⟨q, ho, hq, hPq, hz, hk⟩, go⟩ := va_runS Sx hM cw ⟨CPB_blind, fun U hU hW => ⟨rfl, va_K.moved hW.alike hK, by rw [hU]; exact hP⟩⟩ rfl hn hsize hst (lv_room hroom) hdg hf T hT X
  cases ho
  rw [h0] at hq hz hk
  obtain ⟨t2, r1, r2⟩ := kk q T'.heap (locs ++ L) hq (by rw [e1]; exact hPq 0 _ rfl) (fun i hi => by rw [e1]; exact hk i hi) ⟨Nat.le_trans hS.1 (by rw [e1]; exact hz), fun i h1 h2 => by rw [e1, hk i (Nat.lt_of_lt_of_le h1 hS.1)]; exact hS.2.1 i h1 h2, fun q hq => by
    rcases List.mem_append.mp hq with h | h
    · exact hS.2.2 q h
    · rw [hL q h]; exact ha⟩ T' rfl X'
  exact ⟨t2, go t2 r1, r2⟩
set_option maxHeartbeats 1000000 in
set_option maxRecDepth 100000 in
theorem x_grow {j i : Nat} {x y : Int64} (hj : j < 6) (hz : 0 < z) (hz2 : z ≤ 4096) (hcap : cap j = z) (hv : v (11 + j) = nI z) (hx : p.tables.exec = Jvm.exec) (hb : c.code = cX7_add) (hml : c.maxLocals = 6) (hts : ∀ w ∈ wsX7_add, w.before args s = true) (hown : s.vm.findClass RX7 = some m.cls) (hK : va_K (dC, dI) vwCl (gT aC) s) (hI : xI ad) (hP : va_P (dC, dI) vwCl (wsX aC ad cap v Z S F G) H) (hA0 : ∀ q, xA ad q → xG a0 s.heap.size q) (hS : va_S (xG a0 s.heap.size) s.heap H locs)
    (hl : lv_has ls 6 [(5, .int (nI i)), (0, .ref (ad (32 + j))), (1, .long x), (3, .long y)]) (hr1 : 2 ≤ R.frames) (hr2 : 82 ≤ R.locals) (hr3 : 2 ≤ R.cells) (hr4 : 4 * z ≤ R.slots)
    (kk : ∀ (q1 q2 : Nat) (H1 : Heap) (locs1 : List Loc), xI (va_up (va_up ad (38 + 2 * j) q1) (39 + 2 * j) q2) → va_P (dC, dI) vwCl (wsX aC (va_up (va_up ad (38 + 2 * j) q1) (39 + 2 * j) q2) (va_up cap j (2 * z)) v Z S F (va_up (va_up G (14 + 2 * j) (va_cpy (G (14 + 2 * j)) (fun _ => 0) 0 0 z)) (15 + 2 * j) (va_cpy (G (15 + 2 * j)) (fun _ => 0) 0 0 z))) H1 → (∀ q, xA (va_up (va_up ad (38 + 2 * j) q1) (39 + 2 * j) q2) q → xG a0 s.heap.size q) → va_S (xG a0 s.heap.size) s.heap H1 locs1 → W p l e R s m args below meth c H1 locs1 2 (4 * z) Q (F0 m 88 ls [])) : W p l e R s m args below meth c H locs 0 0 Q (F0 m 54 ls []) := by
  have hin7 : ∀ w ∈ u_ws RX7 TX7 3, w ∈ wsX7_add := by decide +kernel
  have lk0 := hts (.fieldLink RX7 7 "LeafTrees$Tally" "kinds" "[J") (by decide +kernel)
  have lk1 := hts (.fieldLink RX7 13 "LeafTrees$Tally" "trees" "[J") (by decide +kernel)
  have lk2 := hts (.fieldLink RX7 16 "LeafTrees$Tally" "size" "I") (by decide +kernel)
  have hD : va_D (xG a0 s.heap.size) (wsX aC ad cap v Z S F G) := (wsX_D hI).weaken (fun _ _ _ h => hA0 _ h)
  have hto := xw_to (aC := aC) (ad := ad) (cap := cap) (v := v) (Z := Z) (S := S) (F := F) (G := G) j hj
  have htk := xw_tk (aC := aC) (ad := ad) (cap := cap) (v := v) (Z := Z) (S := S) (F := F) (G := G) j hj
  have htt := xw_tt (aC := aC) (ad := ad) (cap := cap) (v := v) (Z := Z) (S := S) (F := F) (G := G) j hj
  rw [hcap] at htk htt
  rw [hv] at hto
  have hone : ∀ {a n : Nat} {g : Nat → Int64} {k : Nat} {ws : va_W} {H : Heap}, va_P (dC, dI) vwCl ws H → ws[k]? = some (a, .inl (aC 1, n, .inr (.inl g))) → va_P (dC, dI) vwCl [(a, .inl (aC 1, n, .inr (.inl g)))] H := by
    intro a n g k ws H h1 h2 i q hq
    cases i with
    | zero => cases hq; exact h1 k _ h2
    | succ i => cases hq
  have hlt : ∀ k, k < 120 → ad k < H.size := fun k hk => xA_lt hP hk
  refine lv_aload_n hx hb dX7_add_54 rfl (lv_at hl 1 rfl) ?_
  refine lv_aload_n hx hb dX7_add_55 rfl (lv_at hl 1 rfl) ?_
  refine va_get (D := (dC, dI)) (ci := 7) (C := RX7) (T := TX7) (N := 3) hx hb hts hin7 hown hK hP (32 + j) hto rfl 0 (by decide) lk0 (fun _ h9 => h9) rfl dX7_add_56 ?_
  refine lv_iconst (v := nI 2) hx hb dX7_add_59 (by decide) ?_
  refine lv_aload_n hx hb dX7_add_60 rfl (lv_at hl 1 rfl) ?_
  refine va_get (D := (dC, dI)) (ci := 7) (C := RX7) (T := TX7) (N := 3) hx hb hts hin7 hown hK hP (32 + j) hto rfl 2 (by decide) lk2 (fun _ h9 => h9) rfl dX7_add_61 ?_
  refine lv_imul hx hb dX7_add_64 ?_
  refine nx_ti (y := nI (2 * z)) (pk_mul _ _) ?_
  refine xcp (As := [.ref (ad (38 + 2 * j)), .int (nI (2 * z))]) (rest := [.ref (ad (32 + j))]) ⟨hx, hb, hml, hown, hts⟩ (x_copyOf l dC dI aC (ad (38 + 2 * j)) z (G (14 + 2 * j)) hz hz2) (va_cwS 2 hts gX7_add_J7_copyOf_c38d5 rfl rfl rfl (by decide +kernel) ⟨hr1, hr2⟩) hK (hone hP htk) hS (hA0 _ ⟨_, by omega, rfl⟩) rfl hl.1 rfl (Nat.le_of_ble_eq_true rfl) dX7_add_65 ⟨by omega, by omega⟩ (fun q1 H1 locs1 hq1 hn1 hk1 hS1 => ?_)
  have hP1 : va_P (dC, dI) vwCl (wsX aC ad cap v Z S F G ++ [tkE aC q1 (2 * z) (va_cpy (G (14 + 2 * j)) (fun _ => 0) 0 0 z)]) H1 := va_P.app (hP.kept (fun k q hk => hk1 _ (hP k q hk).lt)) (fun k q hk => by
    cases k with
    | zero => cases hk; exact hn1
    | succ k => cases hk)
  have hD1 : va_D (xG a0 s.heap.size) (wsX aC ad cap v Z S F G ++ [tkE aC q1 (2 * z) (va_cpy (G (14 + 2 * j)) (fun _ => 0) 0 0 z)]) := va_D.app hD (va_D_one (Or.inr (Nat.le_trans hS.1 hq1))) (fun i k x y hi hk => by
    have := (hP i x hi).lt
    cases k with
    | zero => cases hk; show x.1 ≠ q1; omega
    | succ k => cases hk)
  refine va_put (D := (dC, dI)) (ci := 7) (v := .ref q1) (ty := .array .long) (C := RX7) (T := TX7) (N := 3) hx hb hts hin7 tyX7 tyX7_ok nmX7 hown hK hP1 hD1 hS1 (32 + j) (gA_l hto) rfl 0 (by decide) lk0 (fun _ h9 => h9) rfl (by decide +kernel) rfl rfl (Nat.le_of_ble_eq_true rfl) dX7_add_68 (fun H2 locs2 hP2 hD2 hS2 => ?_)
  have hto2 := gA_s (y := (ad (32 + j), (.inr (7, [.ref q1, .ref (ad (39 + 2 * j)), .int (nI z)]) : va_E))) (gA_l (r := [tkE aC q1 (2 * z) (va_cpy (G (14 + 2 * j)) (fun _ => 0) 0 0 z)]) hto)
  have htt2 := gA_n (i := 32 + j) (y := (ad (32 + j), (.inr (7, [.ref q1, .ref (ad (39 + 2 * j)), .int (nI z)]) : va_E))) (show 32 + j ≠ 39 + 2 * j by omega) (gA_l (r := [tkE aC q1 (2 * z) (va_cpy (G (14 + 2 * j)) (fun _ => 0) 0 0 z)]) htt)
  refine lv_aload_n hx hb dX7_add_71 rfl (lv_at hl 1 rfl) ?_
  refine lv_aload_n hx hb dX7_add_72 rfl (lv_at hl 1 rfl) ?_
  refine va_get (D := (dC, dI)) (ci := 7) (C := RX7) (T := TX7) (N := 3) hx hb hts hin7 hown hK hP2 (32 + j) hto2 rfl 1 (by decide) lk1 (fun _ h9 => h9) rfl dX7_add_73 ?_
  refine lv_iconst (v := nI 2) hx hb dX7_add_76 (by decide) ?_
  refine lv_aload_n hx hb dX7_add_77 rfl (lv_at hl 1 rfl) ?_
  refine va_get (D := (dC, dI)) (ci := 7) (C := RX7) (T := TX7) (N := 3) hx hb hts hin7 hown hK hP2 (32 + j) hto2 rfl 2 (by decide) lk2 (fun _ h9 => h9) rfl dX7_add_78 ?_
  refine lv_imul hx hb dX7_add_81 ?_
  refine nx_ti (y := nI (2 * z)) (pk_mul _ _) ?_
  refine xcp (As := [.ref (ad (39 + 2 * j)), .int (nI (2 * z))]) (rest := [.ref (ad (32 + j))]) ⟨hx, hb, hml, hown, hts⟩ (x_copyOf l dC dI aC (ad (39 + 2 * j)) z (G (15 + 2 * j)) hz hz2) (va_cwS 2 hts gX7_add_J7_copyOf_c38d5 rfl rfl rfl (by decide +kernel) ⟨hr1, hr2⟩) hK (hone hP2 htt2) hS2 (hA0 _ ⟨_, by omega, rfl⟩) rfl hl.1 rfl (Nat.le_of_ble_eq_true rfl) dX7_add_82 ⟨by omega, by omega⟩ (fun q2 H3 locs3 hq2 hn2 hk3 hS3 => ?_)
  have hP3 : va_P (dC, dI) vwCl ((wsX aC ad cap v Z S F G ++ [tkE aC q1 (2 * z) (va_cpy (G (14 + 2 * j)) (fun _ => 0) 0 0 z)]).set (32 + j) (toE (ad (32 + j)) q1 (ad (39 + 2 * j)) (nI z)) ++ [tkE aC q2 (2 * z) (va_cpy (G (15 + 2 * j)) (fun _ => 0) 0 0 z)]) H3 := va_P.app (va_P.kept hP2 (fun k q hk => hk3 _ (hP2 k q hk).lt)) (fun k q hk => by
    cases k with
    | zero => cases hk; exact hn2
    | succ k => cases hk)
  have hD3 : va_D (xG a0 s.heap.size) ((wsX aC ad cap v Z S F G ++ [tkE aC q1 (2 * z) (va_cpy (G (14 + 2 * j)) (fun _ => 0) 0 0 z)]).set (32 + j) (toE (ad (32 + j)) q1 (ad (39 + 2 * j)) (nI z)) ++ [tkE aC q2 (2 * z) (va_cpy (G (15 + 2 * j)) (fun _ => 0) 0 0 z)]) := va_D.app hD2 (va_D_one (Or.inr (Nat.le_trans hS2.1 hq2))) (fun i k x y hi hk => by
    have := (hP2 i x hi).lt
    cases k with
    | zero => cases hk; show x.1 ≠ q2; omega
    | succ k => cases hk)
  refine va_put (D := (dC, dI)) (ci := 7) (v := .ref q2) (ty := .array .long) (C := RX7) (T := TX7) (N := 3) hx hb hts hin7 tyX7 tyX7_ok nmX7 hown hK hP3 hD3 hS3 (32 + j) (gA_l hto2) rfl 1 (by decide) lk1 (fun _ h9 => h9) rfl (by decide +kernel) rfl rfl (Nat.le_of_ble_eq_true rfl) dX7_add_85 (fun H4 locs4 hP4 hD4 hS4 => ?_)
  have hL0 : (wsX aC ad cap v Z S F G).length = 120 := rfl
  have a120 : va_at (dC, dI) vwCl (q1, .inl (aC 1, 2 * z, .inr (.inl (va_cpy (G (14 + 2 * j)) (fun _ => 0) 0 0 z)))) H4 := hP4 120 _ (gA_n (by omega) (gA_l (gA_n (by omega) (by rw [List.getElem?_append_right (by rw [hL0]; exact Nat.le_refl _), hL0]; rfl))))
  have a121 : va_at (dC, dI) vwCl (q2, .inl (aC 1, 2 * z, .inr (.inl (va_cpy (G (15 + 2 * j)) (fun _ => 0) 0 0 z)))) H4 := hP4 121 _ (gA_n (by omega) (by rw [List.getElem?_append_right (by rw [List.length_set, List.length_append, hL0]; exact Nat.le_refl _), List.length_set, List.length_append, hL0]; rfl))
  have a32 : va_at (dC, dI) vwCl (ad (32 + j), .inr (7, [.ref q1, .ref q2, .int (v (11 + j))])) H4 := by rw [hv]; exact hP4 (32 + j) _ (gA_s (gA_l hto2))
  have hold : va_P (dC, dI) vwCl ((wsX aC ad cap v Z S F G).set (32 + j) (ad (32 + j), .inr (7, [.ref q1, .ref q2, .int (v (11 + j))]))) H4 := by
    intro k q hk
    by_cases hk2 : 32 + j = k
    · rw [← hk2, gA_s hto] at hk; cases hk; exact a32
    · rw [List.getElem?_set_ne hk2] at hk
      exact hP4 k _ (gA_n hk2 (gA_l (gA_n hk2 (gA_l hk))))
  have hnew := vaP_put (k := 39 + 2 * j) (vaP_put (k := 38 + 2 * j) hold a120) a121
  rw [← xs_grow j hj] at hnew
  have h2 : q1 < H2.size := (hP2 120 (tkE aC q1 (2 * z) (va_cpy (G (14 + 2 * j)) (fun _ => 0) 0 0 z)) (gA_n (by omega) (by rw [List.getElem?_append_right (by rw [hL0]; exact Nat.le_refl _), hL0]; rfl))).lt
  have hlt2 : ∀ i, i < 120 → ad i < H2.size := by
    intro i hi
    have he := List.getElem?_eq_getElem (l := wsX aC ad cap v Z S F G) (i := i) (by rw [hL0]; exact hi)
    have hf := (ws_fst (N := 120) (ad := ad) rfl he).2
    by_cases h : 32 + j = i
    · subst h; exact (hP2 (32 + j) _ hto2).lt
    · have h3 := (hP2 i _ (gA_n h (gA_l he))).lt
      rw [hf] at h3; exact h3
  refine xg_more (cells' := 2) (slots' := 4 * z) (Nat.le_refl _) (by omega) (kk q1 q2 H4 locs4 (xI_up (z := H2.size) (xI_up hI hlt hq1) (fun i hi => ?_) hq2) hnew (fun q hq => ?_) hS4)
  · by_cases h : i = 38 + 2 * j
    · rw [h, va_up_self]; exact h2
    · rw [up_in h]; exact hlt2 i hi
  · obtain ⟨n, hn, rfl⟩ := hq
    by_cases h : n = 39 + 2 * j
    · rw [h, va_up_self]; exact Or.inr (Nat.le_trans hS2.1 hq2)
    · rw [up_in h]
      by_cases h' : n = 38 + 2 * j
      · rw [h', va_up_self]; exact Or.inr (Nat.le_trans hS.1 hq1)
      · rw [up_in h']; exact hA0 _ ⟨n, hn, rfl⟩
end XCP
