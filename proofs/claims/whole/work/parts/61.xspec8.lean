/-! tallies and kinds -/
def SS (K T : Nat → Int64) (g : Int64 → Int64) : Nat → Int64
  | 0 => 0
  | i + 1 => SS K T g i + T i * g (K i)
theorem SS_congr {K T K' T' : Nat → Int64} {g : Int64 → Int64} : ∀ {n : Nat}, (∀ i, i < n → K' i = K i ∧ T' i = T i) → SS K' T' g n = SS K T g n
  | 0, _ => rfl
  | n + 1, h => by rw [SS, SS, SS_congr (fun i hi => h i (by omega)), (h n (by omega)).1, (h n (by omega)).2]
theorem SS_put {K T : Nat → Int64} {g : Int64 → Int64} {i : Nat} {x m : Int64} (hx : K i = x) : ∀ {n : Nat}, i < n → SS K (vp_updL T i (T i + m)) g n = SS K T g n + m * g x
  | 0, h => absurd h (Nat.not_lt_zero _)
  | n + 1, h => by
    rw [SS, SS]
    by_cases hi : i = n
    · subst hi
      rw [updL_s, SS_congr (fun j hj => ⟨rfl, updL_n (by omega)⟩), hx, Int64.add_mul, Int64.add_assoc]
    · rw [updL_n (Ne.symm hi), SS_put hx (by omega), Int64.add_assoc, Int64.add_assoc, Int64.add_comm (m * g x)]
theorem SS_new {K T K0 T0 : Nat → Int64} {g : Int64 → Int64} {n : Nat} {x m : Int64} (h : ∀ i, i < n → K0 i = K i ∧ T0 i = T i) : SS (vp_updL K0 n x) (vp_updL T0 n m) g (n + 1) = SS K T g n + m * g x := by
  rw [SS, updL_s, updL_s, SS_congr (K := K) (T := T) (fun i hi => ⟨by rw [updL_n (by omega)]; exact (h i hi).1, by rw [updL_n (by omega)]; exact (h i hi).2⟩)]
/-- what changes in a tally -/
def tRel (j : Nat) (v v1 : Nat → Int32) (G G1 : Nat → Nat → Int64) : Prop := (∀ k, k ≠ 11 + j → v1 k = v k) ∧ ∀ k, k ≠ 14 + 2 * j → k ≠ 15 + 2 * j → G1 k = G k
theorem tRel_rf {j : Nat} {v : Nat → Int32} {G : Nat → Nat → Int64} : tRel j v v G G := ⟨fun _ _ => rfl, fun _ _ _ => rfl⟩
theorem tRel_tr {j : Nat} {v v1 v2 : Nat → Int32} {G G1 G2 : Nat → Nat → Int64} (h : tRel j v v1 G G1) (h2 : tRel j v1 v2 G1 G2) : tRel j v v2 G G2 := ⟨fun k hk => (h2.1 k hk).trans (h.1 k hk), fun k hk hk2 => (h2.2 k hk hk2).trans (h.2 k hk hk2)⟩
theorem lg_0 (x y : Int64) : lg_cmp x y = 0 ↔ x = y := by
  unfold lg_cmp
  constructor
  · intro h
    split at h
    · exact absurd h (by decide)
    · split at h
      · assumption
      · exact absurd h (by decide)
  · intro h
    subst h
    rw [if_neg (by intro h; exact Int64.lt_irrefl h), if_pos rfl]
section NL
variable {p : Program} {l : Launch} {e : Env} {R : Room} {s : State} {m : MethodId} {args : Array Value} {below : List Frame} {meth : Method} {c : Code} {H : Heap} {locs : List Loc} {cells slots : Nat} {Q : State → Prop} {cc : ByteArray} {pc : Nat} {ls : Array Slot} {rest : List Value}
theorem nx_lne (hexec : p.tables.exec = Jvm.exec) (hb : c.code = cc) {x y : Int64} {off : Int} {tgt : Nat} (hdg : decode cc pc = .ok (.ifCond .ne off, 3)) (ht : (pc : Int) + off = (tgt : Int)) (kt : x ≠ y → W p l e R s m args below meth c H locs cells slots Q (F0 m tgt ls rest)) (kf : x = y → W p l e R s m args below meth c H locs cells slots Q (F0 m (pc + 3) ls rest)) : W p l e R s m args below meth c H locs cells slots Q (F0 m pc ls (.int (lg_cmp x y) :: rest)) :=
  lv_if_ne hexec hb hdg ht (fun q => kt (fun z => q ((lg_0 x y).mpr z))) (fun q => kf ((lg_0 x y).mp q))
end NL
theorem cs_up {cap : Nat → Nat} {n : Nat} : ∀ {j : Nat}, j < 6 → cs (va_up cap j n) + cap j = cs cap + n
  | 0, _ => by show n + cap 1 + cap 2 + cap 3 + cap 4 + cap 5 + cap 0 = cap 0 + cap 1 + cap 2 + cap 3 + cap 4 + cap 5 + n; omega
  | 1, _ => by show cap 0 + n + cap 2 + cap 3 + cap 4 + cap 5 + cap 1 = cap 0 + cap 1 + cap 2 + cap 3 + cap 4 + cap 5 + n; omega
  | 2, _ => by show cap 0 + cap 1 + n + cap 3 + cap 4 + cap 5 + cap 2 = cap 0 + cap 1 + cap 2 + cap 3 + cap 4 + cap 5 + n; omega
  | 3, _ => by show cap 0 + cap 1 + cap 2 + n + cap 4 + cap 5 + cap 3 = cap 0 + cap 1 + cap 2 + cap 3 + cap 4 + cap 5 + n; omega
  | 4, _ => by show cap 0 + cap 1 + cap 2 + cap 3 + n + cap 5 + cap 4 = cap 0 + cap 1 + cap 2 + cap 3 + cap 4 + cap 5 + n; omega
  | 5, _ => by show cap 0 + cap 1 + cap 2 + cap 3 + cap 4 + n + cap 5 = cap 0 + cap 1 + cap 2 + cap 3 + cap 4 + cap 5 + n; omega
  | j + 6, h => absurd h (by omega)
section XGW
variable {p : Program} {l : Launch} {e : Env} {R : Room} {s : State} {m : MethodId} {args : Array Value} {below : List Frame} {meth : Method} {c : Code} {H : Heap} {locs : List Loc} {Q : State → Prop} {ls : Array Slot}
variable {dC : Nat → ClassId} {dI : Nat → Nat → Nat} {aC : Nat → ClassId} {ad cap a0 : Nat → Nat} {v Z : Nat → Int32} {S : Nat → Nat → Int32} {F : Nat → Nat → Int32} {G : Nat → Nat → Int64}
theorem x_grow2 {j i z : Nat} {x y : Int64} (hj : j < 6) (hz : 16 ≤ z) (hz2 : z ≤ 4096) (hcap : cap j = z) (hv : v (11 + j) = nI z) (hx : p.tables.exec = Jvm.exec) (hb : c.code = cX7_add) (hml : c.maxLocals = 6) (hts : ∀ w ∈ wsX7_add, w.before args s = true) (hown : s.vm.findClass RX7 = some m.cls) (hK : va_K (dC, dI) vwCl (gT aC) s) (hI : xI ad) (hP : va_P (dC, dI) vwCl (wsX aC ad cap v Z S F G) H) (hA0 : ∀ q, xA ad q → xG a0 s.heap.size q) (hS : va_S (xG a0 s.heap.size) s.heap H locs)
    (hl : lv_has ls 6 [(5, .int (nI i)), (0, .ref (ad (32 + j))), (1, .long x), (3, .long y)]) (hr1 : 2 ≤ R.frames) (hr2 : 82 ≤ R.locals) (hr3 : 2 ≤ R.cells) (hr4 : 4 * z ≤ R.slots)
    (kk : ∀ (ad1 cap1 : Nat → Nat) (G1 : Nat → Nat → Int64) (H1 : Heap) (locs1 : List Loc), xI ad1 → (∀ k, k < 38 ∨ 50 ≤ k → ad1 k = ad k) → cap1 = va_up cap j (2 * z) → tRel j v v G G1 → (∀ i, i < z → G1 (14 + 2 * j) i = G (14 + 2 * j) i ∧ G1 (15 + 2 * j) i = G (15 + 2 * j) i) → va_P (dC, dI) vwCl (wsX aC ad1 cap1 v Z S F G1) H1 → (∀ q, xA ad1 q → xG a0 s.heap.size q) → va_S (xG a0 s.heap.size) s.heap H1 locs1 → W p l e R s m args below meth c H1 locs1 (cs cap1 - cs cap) (4 * (cs cap1 - cs cap)) Q (F0 m 88 ls [])) : W p l e R s m args below meth c H locs 0 0 Q (F0 m 54 ls []) :=
  x_grow hj (by omega) hz2 hcap hv hx hb hml hts hown hK hI hP hA0 hS hl hr1 hr2 hr3 hr4 (fun q1 q2 H1 locs1 h1 h2 h3 h4 => by
    have hcs := cs_up (cap := cap) (n := 2 * z) hj
    refine xg_more (cells' := cs (va_up cap j (2 * z)) - cs cap) (slots' := 4 * (cs (va_up cap j (2 * z)) - cs cap)) (by omega) (by omega) ?_
    refine kk _ _ _ H1 locs1 h1 (fun k hk => by rw [up_in (by omega), up_in (by omega)]) rfl ⟨fun _ _ => rfl, fun k h5 h6 => by rw [upn h6, upn h5]⟩ (fun i hi => ⟨?_, ?_⟩) h2 h3 h4
    · rw [upn (show 14 + 2 * j ≠ 15 + 2 * j by omega), va_up_self, pk_cpy_in (by omega) (by omega), Nat.sub_zero, Nat.zero_add]
    · rw [va_up_self, pk_cpy_in (by omega) (by omega), Nat.sub_zero, Nat.zero_add])
end XGW
/-- the kind of a tree with an act at its top, by the kinds of its entries -/
def bitN (i : Nat) : Int64 := (1 : Int64) <<< ((nI i).toInt64 &&& 63)
abbrev kdB (ac : Nat → Int32) (n0 n1 n2 : Nat → Int64) (a : Int32) (x y z : Int64) (i : Nat) : Prop := ac i = a ∧ n0 i &&& (x ^^^ (-1)) = 0 ∧ n1 i &&& (y ^^^ (-1)) = 0 ∧ n2 i &&& (z ^^^ (-1)) = 0
def kdF (ac : Nat → Int32) (n0 n1 n2 : Nat → Int64) (a : Int32) (x y z : Int64) : Nat → Int64
  | 0 => 0
  | i + 1 => if kdB ac n0 n1 n2 a x y z i then kdF ac n0 n1 n2 a x y z i ||| bitN i else kdF ac n0 n1 n2 a x y z i
/-- the nodes: how many, their acts, what they need, what is forbidden, the bits of a left tree's places -/
abbrev NT : Type := Nat × (Nat → Int32) × (Nat → Nat → Int64) × Int64 × (Nat → Int64)
def ntOK (T : NT) (v : Nat → Int32) (F : Nat → Nat → Int32) (G : Nat → Nat → Int64) : Prop := v 10 = nI T.1 ∧ F 4 = T.2.1 ∧ (∀ k, k < 3 → G (3 + k) = T.2.2.1 k) ∧ G 26 0 = T.2.2.2.1 ∧ G 2 = T.2.2.2.2
def ntR (v v1 : Nat → Int32) (F F1 : Nat → Nat → Int32) (G G1 : Nat → Nat → Int64) : Prop := (∀ k, k ≠ 10 → v1 k = v k) ∧ (∀ k, k ≠ 4 → F1 k = F k) ∧ ∀ k, k < 2 ∨ (6 ≤ k ∧ k ≠ 26) → G1 k = G k
theorem ntR_rf {v : Nat → Int32} {F : Nat → Nat → Int32} {G : Nat → Nat → Int64} : ntR v v F F G G := ⟨fun _ _ => rfl, fun _ _ => rfl, fun _ _ => rfl⟩
theorem ntR_tr {v v1 v2 : Nat → Int32} {F F1 F2 : Nat → Nat → Int32} {G G1 G2 : Nat → Nat → Int64} (h : ntR v v1 F F1 G G1) (h2 : ntR v1 v2 F1 F2 G1 G2) : ntR v v2 F F2 G G2 := ⟨fun k hk => (h2.1 k hk).trans (h.1 k hk), fun k hk => (h2.2.1 k hk).trans (h.2.1 k hk), fun k hk => (h2.2.2 k hk).trans (h.2.2 k hk)⟩
def adN (T : NT) (a : Int32) (w : Bool) : NT := (T.1 + 1, upd T.2.1 T.1 a, fun k => vp_updL (T.2.2.1 k) T.1 0, if w = true then T.2.2.2.1 ||| bitN T.1 else T.2.2.2.1, T.2.2.2.2)
/-- the places of the entries of the act at a place -/
def chP (E : Nat → Int32) (l : List Int32) (i : Nat) : Nat → Nat
  | 0 => i + 1
  | k + 1 => (endL E l (chP E l i k)).getD 0
def lkN (E : Nat → Int32) (l : List Int32) (i nd : Nat) (T : NT) (w : Nat) : NT := (T.1, T.2.1, fun k => if k < w then vp_updL (T.2.2.1 k) nd (T.2.2.2.2 (chP E l i k)) else T.2.2.1 k, T.2.2.2.1, T.2.2.2.2)
def btN (T : NT) (i : Nat) (x : Int64) : NT := (T.1, T.2.1, T.2.2.1, T.2.2.2.1, vp_updL T.2.2.2.2 i x)
def fbS (E : Nat → Int32) (l : List Int32) (T : NT) (i : Nat) : NT := if gD l i = -1 then btN T i 0 else lkN E l i T.1 (btN (adN (btN T i 0) (gD l i) (decide (i = 0))) i (bitN T.1)) (wt E (gD l i))
def fbF (E : Nat → Int32) (l : List Int32) (T : NT) : Nat → NT
  | 0 => T
  | i + 1 => fbF E l (fbS E l T i) i
def clN (T : NT) : NT := (0, T.2.1, T.2.2.1, 0, T.2.2.2.2)
def flF (E : Nat → Int32) (R : Nat → List Int32) (T : NT) : Nat → NT
  | 0 => clN T
  | i + 1 => fbF E (R (10 + i)) (flF E R T i) (R (10 + i)).length
/-- how many acts stand before a place -/
def acN (l : List Int32) : Nat → Nat
  | 0 => 0
  | i + 1 => acN l i + if gD l i = -1 then 0 else 1
theorem fbS_nd {E : Nat → Int32} {l : List Int32} {T : NT} {i : Nat} : (fbS E l T i).1 = T.1 + if gD l i = -1 then 0 else 1 := by
  rw [fbS]
  split
  · rfl
  · rfl
theorem chP_ok {E : Nat → Int32} {l : List Int32} (hT : isT E l) {i : Nat} (hi : i < l.length) : ∀ {k : Nat}, k ≤ wt E (gD l i) → ∃ q, endL E l i = some q ∧ chP E l i k ≤ l.length ∧ tE (wt E) (gD l) (l.length - chP E l i k) (wt E (gD l i) - k) (chP E l i k) = some q
  | 0, _ => by
    obtain ⟨q, h1, h2, h3⟩ := isT_end hT hi
    refine ⟨q, h1, by rw [chP]; omega, ?_⟩
    rw [endL, tE_step _ _ (by decide) hi] at h1
    rw [chP, Nat.sub_zero, show wt E (gD l i) = 1 + wt E (gD l i) - 1 by omega]
    exact h1
  | k + 1, hk => by
    obtain ⟨q, h1, h2, h3⟩ := chP_ok hT hi (k := k) (by omega)
    obtain ⟨y, y1, y2, y3, y4⟩ := tE_one (by omega) h2 h3
    have e : chP E l i (k + 1) = y := by
      rw [chP, show endL E l (chP E l i k) = some y from y3]; rfl
    rw [e]
    exact ⟨q, h1, y2, by rw [show wt E (gD l i) - (k + 1) = wt E (gD l i) - k - 1 by omega]; exact y4⟩
theorem chP_s {E : Nat → Int32} {l : List Int32} (hT : isT E l) {i : Nat} (hi : i < l.length) {k : Nat} (hk : k < wt E (gD l i)) : chP E l i k < l.length ∧ endL E l (chP E l i k) = some (chP E l i (k + 1)) := by
  obtain ⟨q, h1, h2, h3⟩ := chP_ok hT hi (k := k) (by omega)
  have hlt : chP E l i k < l.length := tE_lt (by omega) h3
  obtain ⟨y, y1, y2, y3, y4⟩ := tE_one (by omega) h2 h3
  refine ⟨hlt, ?_⟩
  rw [chP, show endL E l (chP E l i k) = some y from y3]; rfl
theorem chP_gt {E : Nat → Int32} {l : List Int32} (hT : isT E l) {i : Nat} (hi : i < l.length) : ∀ {k : Nat}, k ≤ wt E (gD l i) → i < chP E l i k
  | 0, _ => by rw [chP]; omega
  | k + 1, hk => by
    have h1 := chP_gt hT hi (k := k) (by omega)
    have h2 := chP_s hT hi (k := k) (by omega)
    have := endL_le (by omega) h2.2
    omega
