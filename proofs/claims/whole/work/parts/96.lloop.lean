/-! the law's loop, and the law from its entry -/
section LB
variable {p : Program} {l : Launch} {e : Env} {s : State} {m : MethodId} {below : List Frame} {meth : Method} {c : Code} {b L q0 : Nat} {xs : Nat → Int32} {dC : Nat → ClassId} {dI : Nat → Nat → Nat} {aC : Nat → ClassId} {am : Nat → Nat}
set_option maxHeartbeats 4000000 in
set_option maxRecDepth 100000 in
theorem la_loop (hX : LX p s m c b L xs dC dI aC) (hr : meth.sig.returnType = ret) (hlocks : meth.locks = false) : ∀ (f i : Nat), L + 10 ≤ i + f → i ≤ L + 5 → ∀ (ls : Array Slot), lv_has ls 4 [(0, .ref b), (1, .ref q0), (2, .ref (am 0)), (3, .int (nI i))] → ∀ (ad cap : Nat → Nat) (u z : MS) (H : Heap) (locs : List Loc), ad 0 = q0 → WO dC dI aC am s.heap.size ad cap u z H → va_S (lwA s) s.heap H locs → (∃ A n, LL A n u z) → W p l e room_1 s m #[Value.ref b] below meth c H locs (134 + (cs cap - 96)) (4820 + 4 * (cs cap - 96)) (lw_Z below #[Value.ref b] s) (F0 m 18 ls []) := by
  intro f
  induction f with
  | zero => intro i h1 h2; omega
  | succ f ih =>
  intro i h1 h2 ls hl ad cap u z H locs h0 hW hS hI
  obtain ⟨A, n, hLL⟩ := hI
  obtain ⟨v, R, F, G⟩ := u
  obtain ⟨w, Q, K, J⟩ := z
  obtain ⟨hx, hb, hml, hown, hts, hXX, hbl, hK, hL⟩ := id hX
  have hbA : ¬ lwA s b := Nat.not_le.mpr hbl
  refine lv_iload_n hx hb dL_law_18 rfl (lv_at hl 3 rfl) ?_
  refine lv_aload_n hx hb dL_law_19 rfl (lv_at hl 0 rfl) ?_
  refine va_slen hx hb hXX hbl hbA hS dL_law_20 ?_
  refine lv_iconst (v := 5) hx hb dL_law_21 (by decide) ?_
  refine lv_isub hx hb dL_law_22 ?_
  refine lv_icmp_gt (tgt := 732) hx hb dL_law_23 (by decide) (fun _ => ?_) (fun hle => ?_)
  · refine lv_iconst (v := 1) hx hb dL_law_732 (by decide) ?_
    refine va_forget hS.2.2 ?_
    refine W.widen (k := 600000) (n := 7302250) (la_room hW.2.2.2.2.2.1).1 (la_room hW.2.2.2.2.2.1).2 ?_
    exact lw_ret hx hb hr hlocks dL_law_733
  · have hi5 : i + 5 ≤ L := room5 hL (by omega) hle
    refine lv_aload_n hx hb dL_law_26 rfl (lv_at hl 0 rfl) ?_
    refine lv_iload_n hx hb dL_law_27 rfl (lv_at hl 3 rfl) ?_
    refine va_sld hx hb hXX hbl hbA hS (vp_in_nI (show i < L by omega) (by omega)) dL_law_28 ?_
    refine lv_bipush (v := 31) hx hb dL_law_29 (by decide) ?_
    refine lv_iand hx hb dL_law_31 ?_
    obtain ⟨k, hk, ek⟩ := and31 (xs (nI i).toNatClampNeg)
    rw [ek]
    have kk : LN p l e s m below meth c b dC dI aC am q0 (lw_Z below #[Value.ref b] s) ls := by
      intro ad cap u z H locs h0 hW hS hI
      refine lv_iinc (v := nI (i + 5)) (lv' := [(3, .int (nI (i + 5))), (0, .ref b), (1, .ref q0), (2, .ref (am 0))]) hx hb dL_law_726 hl (k := 3) rfl (by rw [show Int32.ofInt 5 = nI 5 by decide, nI_add]) (by decide) rfl (fun ls hl => ?_)
      refine lv_goto (tgt := 18) hx hb dL_law_729 (by decide) ?_
      exact ih (i + 5) (by omega) (by omega) ls (lv_sub hl [1, 2, 3, 0] rfl) ad cap u z H locs h0 hW hS hI
    clear ih ek
    subst h0
    match k, hk with
    | 0, _ => exact lv_tableIn (off := 104) (tgt := 136) hx hb dL_law_32 (by decide) (by decide) (by decide) (by decide) (la_act hX hl hi5 hW hS hLL kk)
    | 1, _ => exact lv_tableIn (off := 127) (tgt := 159) hx hb dL_law_32 (by decide) (by decide) (by decide) (by decide) (la_put hX hl hi5 hW hS hLL kk)
    | 2, _ => exact lv_tableIn (off := 160) (tgt := 192) hx hb dL_law_32 (by decide) (by decide) (by decide) (by decide) (la_empty hX hl hi5 hW hS hLL kk)
    | 3, _ => exact lv_tableIn (off := 183) (tgt := 215) hx hb dL_law_32 (by decide) (by decide) (by decide) (by decide) (la_at hX hl hi5 hW hS hLL kk)
    | 4, _ => exact lv_tableIn (off := 216) (tgt := 248) hx hb dL_law_32 (by decide) (by decide) (by decide) (by decide) (la_about hX hl hi5 hW hS hLL kk)
    | 5, _ => exact lv_tableIn (off := 249) (tgt := 281) hx hb dL_law_32 (by decide) (by decide) (by decide) (by decide) (la_graft hX hl hi5 hW hS hLL kk)
    | 6, _ => exact lv_tableIn (off := 302) (tgt := 334) hx hb dL_law_32 (by decide) (by decide) (by decide) (by decide) (la_same hX hl hi5 hW hS hLL kk)
    | 7, _ => exact lv_tableIn (off := 335) (tgt := 367) hx hb dL_law_32 (by decide) (by decide) (by decide) (by decide) (la_rule hX hl hi5 hW hS hLL kk)
    | 8, _ => exact lv_tableIn (off := 368) (tgt := 400) hx hb dL_law_32 (by decide) (by decide) (by decide) (by decide) (la_nought hX hl hi5 hW hS hLL kk)
    | 9, _ => exact lv_tableIn (off := 391) (tgt := 423) hx hb dL_law_32 (by decide) (by decide) (by decide) (by decide) (la_unrule hX hl hi5 hW hS hLL kk)
    | 10, _ => exact lv_tableIn (off := 404) (tgt := 436) hx hb dL_law_32 (by decide) (by decide) (by decide) (by decide) (la_side hX hl hi5 hW hS hLL kk)
    | 11, _ => exact lv_tableIn (off := 447) (tgt := 479) hx hb dL_law_32 (by decide) (by decide) (by decide) (by decide) (la_matches hX hl hi5 hW hS hLL kk)
    | 12, _ => exact lv_tableIn (off := 480) (tgt := 512) hx hb dL_law_32 (by decide) (by decide) (by decide) (by decide) (la_step hX hl hi5 hW hS hLL kk)
    | 13, _ => exact lv_tableIn (off := 503) (tgt := 535) hx hb dL_law_32 (by decide) (by decide) (by decide) (by decide) (la_normal hX hl hi5 hW hS hLL kk)
    | 14, _ => exact lv_tableIn (off := 526) (tgt := 558) hx hb dL_law_32 (by decide) (by decide) (by decide) (by decide) (la_howMany hX hl hi5 hW hS hLL kk)
    | 15, _ => exact lv_tableIn (off := 550) (tgt := 582) hx hb dL_law_32 (by decide) (by decide) (by decide) (by decide) (la_overlaps hX hl hi5 hW hS hLL kk)
    | 16, _ => exact lv_tableIn (off := 563) (tgt := 595) hx hb dL_law_32 (by decide) (by decide) (by decide) (by decide) (la_overlap hX hl hi5 hW hS hLL kk)
    | 17, _ => exact lv_tableIn (off := 596) (tgt := 628) hx hb dL_law_32 (by decide) (by decide) (by decide) (by decide) (la_closes hX hl hi5 hW hS hLL kk)
    | 18, _ => exact lv_tableIn (off := 609) (tgt := 641) hx hb dL_law_32 (by decide) (by decide) (by decide) (by decide) (la_turned hX hl hi5 hW hS hLL kk)
    | 19, _ => exact lv_tableIn (off := 633) (tgt := 665) hx hb dL_law_32 (by decide) (by decide) (by decide) (by decide) (la_dual hX hl hi5 hW hS hLL kk)
    | 20, _ => exact lv_tableIn (off := 657) (tgt := 689) hx hb dL_law_32 (by decide) (by decide) (by decide) (by decide) (la_count hX hl hi5 hW hS hLL kk)
    | 21, _ => exact lv_tableIn (off := 680) (tgt := 712) hx hb dL_law_32 (by decide) (by decide) (by decide) (by decide) (la_digest hX hl hi5 hW hS hLL kk)
    | k + 22, hk => exact lv_tableOut (tgt := 726) hx hb dL_law_32 (Or.inr (by rw [nI_toInt (by omega)]; omega)) (by decide) (kk ad cap _ _ H locs rfl hW hS ⟨A, n, hLL⟩)
theorem D_l {A : Nat → Prop} {w1 w2 : va_W} (h : va_D A (w1 ++ w2)) : va_D (fun q => A q ∧ ∃ (k : Nat) (x : Nat × va_E), w1[k]? = some x ∧ x.1 = q) w1 := ⟨fun i j x y hi hj he => h.1 i j x y (gA_l hi) (gA_l hj) he, fun k x hk => ⟨h.2 k x (gA_l hk), k, x, hk, rfl⟩⟩
theorem gA_r {w1 w2 : va_W} {j : Nat} {x : Nat × va_E} (h : w2[j]? = some x) : (w1 ++ w2)[w1.length + j]? = some x := by rw [List.getElem?_append_right (by omega), Nat.add_sub_cancel_left]; exact h
theorem D_r {A : Nat → Prop} {w1 w2 : va_W} (h : va_D A (w1 ++ w2)) : va_D (fun q => A q ∧ ∃ (k : Nat) (x : Nat × va_E), w2[k]? = some x ∧ x.1 = q) w2 := ⟨fun i j x y hi hj he => by have := h.1 _ _ x y (gA_r hi) (gA_r hj) he; omega, fun k x hk => ⟨h.2 _ x (gA_r hk), k, x, hk, rfl⟩⟩
theorem D_lr {A : Nat → Prop} {w1 w2 : va_W} (h : va_D A (w1 ++ w2)) {q : Nat} (h1 : ∃ (k : Nat) (x : Nat × va_E), w1[k]? = some x ∧ x.1 = q) (h2 : ∃ (k : Nat) (x : Nat × va_E), w2[k]? = some x ∧ x.1 = q) : False := by
  obtain ⟨i, x, hi, ex⟩ := h1
  obtain ⟨j, y, hj, ey⟩ := h2
  have h3 := h.1 _ _ x y (gA_l hi) (gA_r hj) (ex.trans ey.symm)
  have h4 := (List.getElem?_eq_some_iff.mp hi).1
  omega
theorem LL_0 : LL 0 0 (v0X, (fun _ => []), (fun _ _ => 0), (fun _ _ => 0)) ((fun _ => 0), (fun _ => []), (fun _ _ => 0), (fun _ _ => 0)) :=
  ⟨⟨⟨by decide, fun a h => absurd h (Nat.not_lt_zero a)⟩, rfl, rfl, by decide, fun r _ => vR_nil 0, fun k h => absurd h (Nat.not_lt_zero k), fun k h => absurd h (Nat.not_lt_zero k)⟩, ⟨fun q => absurd rfl q, fun q => absurd rfl q, fun q => absurd rfl q, fun _ _ _ _ _ _ => rfl⟩, rfl, rfl, rfl, (funext fun j => by
    show (0 : Int32) = v0X (17 + j)
    rw [v0X, if_neg (by omega)]), fun _ _ => rfl, fun q => absurd rfl q⟩
theorem WO_0 {o o' : Nat} {a : X9T} {a' : Nat → Nat} {H : Heap} (hP : va_P (dC, dI) vwCl (sh9 aC o a ++ sh10 aC o' a') H) (hD : va_D (lwA s) (sh9 aC o a ++ sh10 aC o' a')) : WO dC dI aC (amX o' a') s.heap.size (adX o a) (fun _ => 16) (v0X, (fun _ => []), (fun _ _ => 0), (fun _ _ => 0)) ((fun _ => 0), (fun _ => []), (fun _ _ => 0), (fun _ _ => 0)) H := by
  have h1 := sh9_I (D_l hD)
  have h2 := sh10_I (D_r hD)
  refine ⟨h1.1, h2.1, fun i j hi hj he => ?_, fun i hi => (h1.2 i hi).1, fun j hj => (h2.2 j hj).1, fun _ _ => ⟨(show 16 ≤ 16 by decide), (show 16 ≤ 8192 by decide)⟩, ⟨fun _ => 0, fun _ _ => 0, fun _ _ => ⟨Nat.zero_le 60, rfl, fun i hi => absurd hi (Nat.not_lt_zero i)⟩, sh9_wsX (fun k q hk => hP k q (gA_l hk))⟩, ⟨fun _ => 0, fun _ => 0, fun _ _ => ⟨Nat.zero_le 60, rfl, fun i hi => absurd hi (Nat.not_lt_zero i)⟩, sh10_wsM (fun k q hk => hP _ q (gA_r hk))⟩⟩
  exact D_lr hD (h1.2 i hi).2 (by rw [he]; exact (h2.2 j hj).2)
set_option maxHeartbeats 4000000 in
set_option maxRecDepth 100000 in
/-- THE LAW, from its entry -/
theorem whole_start (l : Launch) {b L : Nat} {xs : Nat → Int32} (hL : L ≤ 2560) (C0 : lw_At p s m meth c b L xs) : W p l e room_1 s m #[Value.ref b] below meth c s.heap [] 0 0 (lw_Z below #[Value.ref b] s) (entryFrame m ([Value.ref b] : List Value).toArray 4) := by
  obtain ⟨hx, hb, hr, hml, hown, hts0, hX, hbl, hlocks, hgv⟩ := id C0
  have hts : ∀ w ∈ wsL_law, w.before #[Value.ref b] s = true := fun w hw => hts0 w (wsL_law_in w hw)
  have hN := law_nw hts0
  obtain ⟨dC, dI, aC, hK⟩ := law_known hts0
  have hown : s.vm.findClass RL = some m.cls := hown
  have hb : c.code = cL_law := hb
  have hXL : LX p s m c b L xs dC dI aC := ⟨hx, hb, hml, hown, hts, hX, hbl, hK, hL⟩
  have hS : va_S (lwA s) s.heap s.heap [] := va_S.rf
  have hP : va_P (dC, dI) vwCl [] s.heap := fun k q h => by simp at h
  have hD : va_D (lwA s) [] := ⟨fun i j p q h => by simp at h, fun k q h => by simp at h⟩
  have hl := lv_entry ([.ref b]) (n := 4) (Nat.le_of_ble_eq_true rfl)
  rw [lg_entry_eq]
  generalize (lg_sl ([.ref b]) ++ List.replicate (4 - (lg_sl ([.ref b])).length) Slot.unset).toArray = ls at hl ⊢
  have hl : lv_has ls 4 [(0, .ref b)] := hl
  refine xn_new (ix := 7) (index := 9) (ci := 9) (C := RX9) (T := TX9) (N := 14) (fs := [.null, .null, .null, .null, .null, .null, .null, .null, .null, .int 0, .null, .int 0, .int 0, .int 0]) (sh := sh9 aC) (rest := []) ⟨hx, hb, hml, hown, hts⟩ inlX9 tyX9 tyX9_ok (hts0 _ kn_new.1) (hts0 _ kn_in2.2.2.2.2.1) (hts0 _ kn_new.2.2.1) hN hK hP hD hS (fun q h => h) rfl (fun j hj => by rcases (show j = 0 ∨ j = 1 ∨ j = 2 ∨ j = 3 ∨ j = 4 ∨ j = 5 ∨ j = 6 ∨ j = 7 ∨ j = 8 ∨ j = 9 ∨ j = 10 ∨ j = 11 ∨ j = 12 ∨ j = 13 by omega) with rfl | rfl | rfl | rfl | rfl | rfl | rfl | rfl | rfl | rfl | rfl | rfl | rfl | rfl <;> rfl) (fun q => n_9 l dC dI aC q) (cwI 0 hts gL_law_X9_init rfl rfl rfl (hts0 _ kn_new.2.2.1) (hts0 _ kn_new.2.2.2.2.1) (hts0 _ kn_new.2.2.2.2.2.2.1) rfl (by decide +kernel) ⟨Nat.le_of_ble_eq_true rfl, Nat.le_of_ble_eq_true rfl⟩) hl.1 (Nat.le_of_ble_eq_true rfl) (Nat.le_of_ble_eq_true rfl) (Nat.le_of_ble_eq_true rfl) dL_law_0 dL_law_3 dL_law_4 (fun o a H locs hP hD hS => ?_)
  refine lv_astore_n (lv' := [(1, .ref o), (0, .ref b)]) hx hb dL_law_7 rfl hl (by decide) rfl (fun ls hl => ?_)
  refine xn_new (ix := 10) (index := 12) (ci := 10) (C := RX10) (T := TX10) (N := 22) (fs := [.int 0, .null, .null, .null, .int 0, .null, .int 0, .null, .null, .null, .null, .int 0, .int 0, .int 0, .int 0, .int 0, .null, .int 0, .null, .null, .null, .null]) (sh := sh10 aC) (rest := []) ⟨hx, hb, hml, hown, hts⟩ inlX10 tyX10 tyX10_ok (hts0 _ kn_new.2.1) (hts0 _ kn_in2.2.2.2.2.2) (hts0 _ kn_new.2.2.2.1) hN hK hP hD hS (fun q h => h) rfl (fun j hj => by rcases (show j = 0 ∨ j = 1 ∨ j = 2 ∨ j = 3 ∨ j = 4 ∨ j = 5 ∨ j = 6 ∨ j = 7 ∨ j = 8 ∨ j = 9 ∨ j = 10 ∨ j = 11 ∨ j = 12 ∨ j = 13 ∨ j = 14 ∨ j = 15 ∨ j = 16 ∨ j = 17 ∨ j = 18 ∨ j = 19 ∨ j = 20 ∨ j = 21 by omega) with rfl | rfl | rfl | rfl | rfl | rfl | rfl | rfl | rfl | rfl | rfl | rfl | rfl | rfl | rfl | rfl | rfl | rfl | rfl | rfl | rfl | rfl <;> rfl) (fun q => n_10 l dC dI aC q) (cwI 0 hts gL_law_X10_init rfl rfl rfl (hts0 _ kn_new.2.2.2.1) (hts0 _ kn_new.2.2.2.2.2.1) (hts0 _ kn_new.2.2.2.2.2.2.2) rfl (by decide +kernel) ⟨Nat.le_of_ble_eq_true rfl, Nat.le_of_ble_eq_true rfl⟩) hl.1 (Nat.le_of_ble_eq_true rfl) (Nat.le_of_ble_eq_true rfl) (Nat.le_of_ble_eq_true rfl) dL_law_8 dL_law_11 dL_law_12 (fun o' a' H locs hP hD hS => ?_)
  refine lv_astore_n (lv' := [(2, .ref o'), (1, .ref o), (0, .ref b)]) hx hb dL_law_15 rfl hl (by decide) rfl (fun ls hl => ?_)
  refine lv_iconst (v := 0) hx hb dL_law_16 (by decide) ?_
  refine lv_istore_n (lv' := [(3, .int 0), (2, .ref o'), (1, .ref o), (0, .ref b)]) hx hb dL_law_17 rfl hl (by decide) rfl (fun ls hl => ?_)
  have hP : va_P (dC, dI) vwCl (sh9 aC o a ++ sh10 aC o' a') H := by rw [List.nil_append] at hP; exact hP
  have hD : va_D (lwA s) (sh9 aC o a ++ sh10 aC o' a') := by rw [List.nil_append] at hD; exact hD
  have hW := WO_0 hP hD
  refine W.widen (k := 134 + (cs (fun _ => 16) - 96)) (n := 4820 + 4 * (cs (fun _ => 16) - 96)) (by decide) (by decide) ?_
  exact la_loop (q0 := o) (am := amX o' a') hXL hr hlocks (L + 10) 0 (by omega) (by omega) ls (lv_sub hl [3, 2, 1, 0] rfl) (adX o a) (fun _ => 16) _ _ H locs rfl hW hS ⟨0, 0, LL_0⟩
end LB
