/-! rows for the class's walks -/
section NY
variable {p : Program} {l : Launch} {e : Env} {R : Room} {s : State} {m : MethodId} {args : Array Value} {below : List Frame} {meth : Method} {c : Code} {H : Heap} {locs : List Loc} {cells slots : Nat} {Q : State → Prop}
variable {cc : ByteArray} {pc : Nat} {ls : Array Slot} {rest : List Value} {D : va_G} {cl : List vw_C} {A : Nat → Prop} {a : Nat} {tys : List (ClassId × FieldType)} {ws : va_W} {H0 : Heap}
theorem nx_aalA {t : FieldType} (hexec : p.tables.exec = Jvm.exec) (hb : c.code = cc) (hK : va_K D cl tys s) (hP : va_P D cl ws H) (q0 t0 : Nat) {cA : ClassId} {n : Nat} {f : Nat → Option Nat} (ha : ws[q0]? = some (a, .inl (cA, n, .inr (.inr (.inr (.inr f)))))) (ht : tys[t0]? = some (cA, .array t)) {i : Nat} (hi : i < n) (hn : n < 2 ^ 31) {b : Nat} (hf : f i = some b) (hdg : decode cc pc = .ok (.aaload, 1))
    (kk : W p l e R s m args below meth c H locs cells slots Q (F0 m (pc + 1) ls (.ref b :: rest))) : W p l e R s m args below meth c H locs cells slots Q (F0 m pc ls (.int (nI i) :: .ref a :: rest)) := by
  have hin := vp_in_nI hi hn
  refine W.aald (v := .ref b) (ty := .array t) hexec hb (hP q0 _ ha) ((hK.2 t0 _ ht).1 n (fun j => va_rf (f j))) rfl (fun q => by cases q) (by show ¬ (nI i < 0 ∨ (arrV _ _ _).slots.size ≤ _); rw [arrV_size]; exact hin) (by show (arrV _ _ _).slots[_]? = _; rw [nI_clamp (Nat.lt_trans hi hn), arrV_read _ _ hi, hf]; rfl) rfl rfl hdg kk
theorem nx_copyi (hexec : p.tables.exec = Jvm.exec) (hb : c.code = cc) (hml : c.maxLocals = ls.size) {own : String} {index : Nat} (hown : s.vm.findClass own = some m.cls) (hlink : (Cond.methodLink own index arraycopyName).before args s = true) (hnat : (Cond.native arraycopyName).before args s = true) (hstat : (Cond.static arraycopyName).before args s = true) (hini : (Cond.initialized "java/lang/System").before args s = true)
    (hK : va_K D cl tys s) (hP : va_P D cl ws H) (hD : va_D A ws) (hS : va_S A H0 H locs) (q0 q1 t0 t1 : Nat) {a0 : Nat} {c0 c1 : ClassId} {n0 n1 : Nat} {f g : Nat → Int32} (ha0 : ws[q0]? = some (a0, .inl (c0, n0, .inl f))) (ha1 : ws[q1]? = some (a, .inl (c1, n1, .inl g))) (ht0 : tys[t0]? = some (c0, .int)) (ht1 : tys[t1]? = some (c1, .int))
    {sp dp n : Nat} (h4 : sp + n ≤ n0) (h5 : dp + n ≤ n1) (hs : n0 < 2 ^ 31 ∧ n1 < 2 ^ 31)
    (hframes : 1 ≤ R.frames) (hlocals : (rest.map fun v => v.category).sum + (nativeFrameWords "java/lang/System" "arraycopy" 5 + 11) ≤ R.locals) (hdg : decode cc pc = .ok (.invokestatic index, 3))
    (kk : ∀ (H1 : Heap) (locs1 : List Loc), va_P D cl (ws.set q1 (a, .inl (c1, n1, .inl (va_cpy f g sp dp n)))) H1 → va_S A H0 H1 locs1 → W p l e R s m args below meth c H1 locs1 cells slots Q (F0 m (pc + 3) ls rest)) : W p l e R s m args below meth c H locs cells slots Q (F0 m pc ls (.int (nI n) :: .int (nI dp) :: .ref a :: .int (nI sp) :: .ref a0 :: rest)) := by
  have e1 := nI_clamp (n := sp) (by omega)
  have e2 := nI_clamp (n := dp) (by omega)
  have e3 := nI_clamp (n := n) (by omega)
  refine va_copyi hexec hb hml hown hlink hnat hstat hini hK hP hD hS q0 q1 t0 t1 ha0 ha1 ht0 ht1 rfl (nI_pos (by omega)) (nI_pos (by omega)) (nI_pos (by omega)) (by rw [e1, e3]; exact h4) (by rw [e2, e3]; exact h5) (fun _ _ => rfl) hframes hlocals hdg (fun H1 locs1 h1 _ h3 => ?_)
  rw [e1, e2, e3] at h1
  exact kk H1 locs1 h1 h3
end NY
theorem xOK_st {Z : Nat → Int32} {S : Nat → Nat → Int32} {R : Nat → List Int32} (h : xOK Z S R) {k i : Nat} {x : Int32} (hi : (R k).length ≤ i) : xOK Z (va_up S k (upd (S k) i x)) R := by
  intro j hj
  have h1 := h j hj
  by_cases hjk : j = k
  · subst hjk
    rw [va_up_self]
    exact ⟨h1.1, h1.2.1, fun q hq => by rw [pk_un (by omega)]; exact h1.2.2 q hq⟩
  · rw [upn hjk]; exact h1
/-- a piece of a row put behind another one -/
theorem xOK_part {Z : Nat → Int32} {S : Nat → Nat → Int32} {R : Nat → List Int32} (h : xOK Z S R) {k j b q : Nat} (hk : k < 31) (hj : j < 31) (hbq : b ≤ q) (hq : q ≤ (R j).length) (hl : (R k).length + (q - b) ≤ 60) : xOK (va_up Z k (nI ((R k).length + (q - b)))) (va_up S k (va_cpy (S j) (S k) b (R k).length (q - b))) (va_up R k (R k ++ slc (R j) b q)) := by
  refine xOK_set h (by rw [List.length_append, slc_len hq]; exact hl) (by rw [List.length_append, slc_len hq]) (fun i hi => ?_)
  rw [List.length_append, slc_len hq] at hi
  rcases Nat.lt_or_ge i (R k).length with z | z
  · rw [pk_cpy_out (Or.inl z), gD_app_l z]
    exact (h k hk).2.2 i z
  · obtain ⟨t, rfl⟩ : ∃ t, i = (R k).length + t := ⟨i - (R k).length, by omega⟩
    rw [pk_cpy_in (by omega) (by omega), gD_app_r, slc_gD hq (by omega), Nat.add_sub_cancel_left]
    exact (h j hj).2.2 (b + t) (by omega)
theorem xOK_all {Z : Nat → Int32} {S : Nat → Nat → Int32} {R : Nat → List Int32} (h : xOK Z S R) {k j : Nat} (hj : j < 31) : xOK (va_up Z k (nI (R j).length)) (va_up S k (va_cpy (S j) (S k) 0 0 (R j).length)) (va_up R k (R j)) := by
  refine xOK_set h (h j hj).1 rfl (fun i hi => ?_)
  rw [pk_cpy_in (by omega) (by omega), Nat.sub_zero, Nat.zero_add]
  exact (h j hj).2.2 i hi
theorem lvs_gt {l : List Int32} {i : Nat} (hi : i < l.length) (h : gD l i = -1) : cF (gD l) i < lvs l := by
  have := cF_mono (gD l) (i := i + 1) (n := l.length) (by omega)
  rw [cF_t h] at this
  exact this
