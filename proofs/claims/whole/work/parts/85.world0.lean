/-! the class's world, as its constructor leaves it -/
abbrev X9T : Type := (Nat × (Nat × Nat × (Nat → (Nat × ((Nat × Nat) × (Nat × Nat)))))) × Nat × (Nat × Nat) × (Nat × Nat) × (Nat × ((Nat × Nat) × Nat × (Nat × Nat) × (Nat × Nat) × (Nat × Nat))) × (Nat × (Nat × Nat)) × (Nat × (Nat × Nat × (Nat → Nat) × Nat × Nat × (Nat → Nat × (Nat × Nat)))) × (Nat × (Nat × Nat × (Nat → Nat))) × Nat × Nat × (Nat → Nat × Nat)
def adX (o : Nat) (a : X9T) : Nat → Nat := pkF 0 [o, a.1.1, a.2.1, a.2.2.2.1.1, a.2.2.2.2.1.1, a.2.2.2.2.2.1.1, a.2.2.2.2.2.2.1.1, a.2.2.2.2.2.2.2.1.1, a.2.2.2.2.2.2.2.2.1, a.2.2.2.2.2.2.2.2.2.1, a.1.2.1, a.1.2.2.1, a.2.2.2.1.2, a.2.2.2.2.1.2.1.1, a.2.2.2.2.1.2.2.1, a.2.2.2.2.2.2.1.2.1, a.2.2.2.2.2.2.1.2.2.1, (a.2.2.2.2.2.2.1.2.2.2.1 0), (a.2.2.2.2.2.2.1.2.2.2.1 1), (a.2.2.2.2.2.2.1.2.2.2.1 2), a.2.2.2.2.2.2.1.2.2.2.2.1, a.2.2.2.2.2.2.1.2.2.2.2.2.1, a.2.2.2.2.2.2.2.1.2.1, a.2.2.2.2.2.2.2.1.2.2.1, a.2.2.2.2.1.2.1.2, (a.2.2.2.2.2.2.2.1.2.2.2 0), (a.2.2.2.2.2.2.2.1.2.2.2 1), (a.2.2.2.2.2.2.2.1.2.2.2 2), (a.2.2.2.2.2.2.2.1.2.2.2 3), (a.2.2.2.2.2.2.2.1.2.2.2 4), (a.2.2.2.2.2.2.2.1.2.2.2 5), (a.2.2.2.2.2.2.2.1.2.2.2 6), (a.2.2.2.2.2.2.1.2.2.2.2.2.2 0).1, (a.2.2.2.2.2.2.1.2.2.2.2.2.2 1).1, (a.2.2.2.2.2.2.1.2.2.2.2.2.2 2).1, (a.2.2.2.2.2.2.1.2.2.2.2.2.2 3).1, (a.2.2.2.2.2.2.1.2.2.2.2.2.2 4).1, (a.2.2.2.2.2.2.1.2.2.2.2.2.2 5).1, (a.2.2.2.2.2.2.1.2.2.2.2.2.2 0).2.1, (a.2.2.2.2.2.2.1.2.2.2.2.2.2 0).2.2, (a.2.2.2.2.2.2.1.2.2.2.2.2.2 1).2.1, (a.2.2.2.2.2.2.1.2.2.2.2.2.2 1).2.2, (a.2.2.2.2.2.2.1.2.2.2.2.2.2 2).2.1, (a.2.2.2.2.2.2.1.2.2.2.2.2.2 2).2.2, (a.2.2.2.2.2.2.1.2.2.2.2.2.2 3).2.1, (a.2.2.2.2.2.2.1.2.2.2.2.2.2 3).2.2, (a.2.2.2.2.2.2.1.2.2.2.2.2.2 4).2.1, (a.2.2.2.2.2.2.1.2.2.2.2.2.2 4).2.2, (a.2.2.2.2.2.2.1.2.2.2.2.2.2 5).2.1, (a.2.2.2.2.2.2.1.2.2.2.2.2.2 5).2.2, (a.1.2.2.2 0).1, (a.1.2.2.2 1).1, (a.1.2.2.2 2).1, (a.1.2.2.2 3).1, (a.1.2.2.2 4).1, (a.1.2.2.2 5).1, (a.1.2.2.2 6).1, (a.1.2.2.2 7).1, (a.2.2.2.2.2.2.2.2.2.2 0).1, (a.2.2.2.2.2.2.2.2.2.2 0).2, (a.2.2.2.2.2.2.2.2.2.2 1).1, (a.2.2.2.2.2.2.2.2.2.2 1).2, (a.2.2.2.2.2.2.2.2.2.2 2).1, (a.2.2.2.2.2.2.2.2.2.2 2).2, (a.2.2.2.2.2.2.2.2.2.2 3).1, (a.2.2.2.2.2.2.2.2.2.2 3).2, (a.2.2.2.2.2.2.2.2.2.2 4).1, (a.2.2.2.2.2.2.2.2.2.2 4).2, (a.2.2.2.2.2.2.2.2.2.2 5).1, (a.2.2.2.2.2.2.2.2.2.2 5).2, (a.2.2.2.2.2.2.2.2.2.2 6).1, (a.2.2.2.2.2.2.2.2.2.2 6).2, (a.2.2.2.2.2.2.2.2.2.2 7).1, (a.2.2.2.2.2.2.2.2.2.2 7).2, (a.2.2.2.2.2.2.2.2.2.2 8).1, (a.2.2.2.2.2.2.2.2.2.2 8).2, (a.2.2.2.2.2.2.2.2.2.2 9).1, (a.2.2.2.2.2.2.2.2.2.2 9).2, (a.1.2.2.2 0).2.1.1, (a.1.2.2.2 0).2.1.2, (a.1.2.2.2 1).2.1.1, (a.1.2.2.2 1).2.1.2, (a.1.2.2.2 2).2.1.1, (a.1.2.2.2 2).2.1.2, (a.1.2.2.2 3).2.1.1, (a.1.2.2.2 3).2.1.2, (a.1.2.2.2 4).2.1.1, (a.1.2.2.2 4).2.1.2, (a.1.2.2.2 5).2.1.1, (a.1.2.2.2 5).2.1.2, (a.1.2.2.2 6).2.1.1, (a.1.2.2.2 6).2.1.2, (a.1.2.2.2 7).2.1.1, (a.1.2.2.2 7).2.1.2, (a.1.2.2.2 0).2.2.1, (a.1.2.2.2 0).2.2.2, (a.1.2.2.2 1).2.2.1, (a.1.2.2.2 1).2.2.2, (a.1.2.2.2 2).2.2.1, (a.1.2.2.2 2).2.2.2, (a.1.2.2.2 3).2.2.1, (a.1.2.2.2 3).2.2.2, (a.1.2.2.2 4).2.2.1, (a.1.2.2.2 4).2.2.2, (a.1.2.2.2 5).2.2.1, (a.1.2.2.2 5).2.2.2, (a.1.2.2.2 6).2.2.1, (a.1.2.2.2 6).2.2.2, (a.1.2.2.2 7).2.2.1, (a.1.2.2.2 7).2.2.2, a.2.2.2.2.1.2.2.2.2.1.1, a.2.2.2.2.1.2.2.2.2.1.2, a.2.2.2.2.2.1.2.1, a.2.2.2.2.2.1.2.2, a.2.2.2.2.1.2.2.2.1.1, a.2.2.2.2.1.2.2.2.1.2, a.2.2.2.2.1.2.2.2.2.2.1, a.2.2.2.2.1.2.2.2.2.2.2, a.2.2.1.1, a.2.2.1.2]
def v0X : Nat → Int32 := fun k => if k = 4 then -1 else 0
theorem rg7 {β : Type} (f : Nat → β) : (List.range 7).map f = [f 0, f 1, f 2, f 3, f 4, f 5, f 6] := rfl
theorem rg3 {β : Type} (f : Nat → β) : (List.range 3).map f = [f 0, f 1, f 2] := rfl
theorem perm_I {A : Nat → Prop} {l : va_W} {ad pi : Nat → Nat} (h : va_D A l) (hp : ∀ k, k < 120 → ∃ e, l[pi k]? = some (ad k, e)) (hi : ∀ i j, i < 120 → j < 120 → pi i = pi j → i = j) : xI ad ∧ ∀ k, k < 120 → A (ad k) := by
  refine ⟨fun i j h1 h2 he => ?_, fun k hk => ?_⟩
  · obtain ⟨x, hx⟩ := hp i h1
    obtain ⟨y, hy⟩ := hp j h2
    exact hi i j h1 h2 (h.1 _ _ _ _ hx hy he)
  · obtain ⟨x, hx⟩ := hp k hk
    exact h.2 _ _ hx
theorem pi_inj : ∀ i, i < 120 → ∀ j, j < 120 → (pkF 0 [0, 2, 1, 47, 49, 59, 62, 88, 98, 99, 4, 3, 48, 50, 52, 64, 65, 66, 67, 68, 69, 63, 89, 90, 51, 91, 92, 93, 94, 95, 96, 97, 70, 73, 76, 79, 82, 85, 71, 72, 74, 75, 77, 78, 80, 81, 83, 84, 86, 87, 5, 10, 15, 20, 25, 30, 35, 40, 100, 101, 102, 103, 104, 105, 106, 107, 108, 109, 110, 111, 112, 113, 114, 115, 116, 117, 118, 119, 6, 7, 11, 12, 16, 17, 21, 22, 26, 27, 31, 32, 36, 37, 41, 42, 8, 9, 13, 14, 18, 19, 23, 24, 28, 29, 33, 34, 38, 39, 43, 44, 55, 56, 60, 61, 53, 54, 57, 58, 45, 46]) i = (pkF 0 [0, 2, 1, 47, 49, 59, 62, 88, 98, 99, 4, 3, 48, 50, 52, 64, 65, 66, 67, 68, 69, 63, 89, 90, 51, 91, 92, 93, 94, 95, 96, 97, 70, 73, 76, 79, 82, 85, 71, 72, 74, 75, 77, 78, 80, 81, 83, 84, 86, 87, 5, 10, 15, 20, 25, 30, 35, 40, 100, 101, 102, 103, 104, 105, 106, 107, 108, 109, 110, 111, 112, 113, 114, 115, 116, 117, 118, 119, 6, 7, 11, 12, 16, 17, 21, 22, 26, 27, 31, 32, 36, 37, 41, 42, 8, 9, 13, 14, 18, 19, 23, 24, 28, 29, 33, 34, 38, 39, 43, 44, 55, 56, 60, 61, 53, 54, 57, 58, 45, 46]) j → i = j := by decide +kernel
theorem xRows_0 {o : Nat} {a : X9T} : xRows (adX o a) = fun i => if i < 10 then some ((a.2.2.2.2.2.2.2.2.2.2 i).1) else none := by
  funext i
  match i with
  | 0 => rfl
  | 1 => rfl
  | 2 => rfl
  | 3 => rfl
  | 4 => rfl
  | 5 => rfl
  | 6 => rfl
  | 7 => rfl
  | 8 => rfl
  | 9 => rfl
  | i + 10 => rw [xRows, if_neg (by omega), if_neg (by omega)]
theorem xRules_0 {o : Nat} {a : X9T} : xRules (adX o a) = fun i => if i < 8 then some ((a.1.2.2.2 i).1) else none := by
  funext i
  match i with
  | 0 => rfl
  | 1 => rfl
  | 2 => rfl
  | 3 => rfl
  | 4 => rfl
  | 5 => rfl
  | 6 => rfl
  | 7 => rfl
  | i + 8 => rw [xRules, if_neg (by omega), if_neg (by omega)]
theorem xNeeds_0 {o : Nat} {a : X9T} : xNeeds (adX o a) = fun i => if i < 3 then some (a.2.2.2.2.2.2.1.2.2.2.1 i) else none := by
  funext i
  match i with
  | 0 => rfl
  | 1 => rfl
  | 2 => rfl
  | i + 3 => rw [xNeeds, if_neg (by omega), if_neg (by omega)]
theorem xTals_0 {o : Nat} {a : X9T} : xTals (adX o a) = fun i => if i < 6 then some ((a.2.2.2.2.2.2.1.2.2.2.2.2.2 i).1) else none := by
  funext i
  match i with
  | 0 => rfl
  | 1 => rfl
  | 2 => rfl
  | 3 => rfl
  | 4 => rfl
  | 5 => rfl
  | i + 6 => rw [xTals, if_neg (by omega), if_neg (by omega)]
theorem xPows_0 {o : Nat} {a : X9T} : xPows (adX o a) = fun i => if i < 7 then some (a.2.2.2.2.2.2.2.1.2.2.2 i) else none := by
  funext i
  match i with
  | 0 => rfl
  | 1 => rfl
  | 2 => rfl
  | 3 => rfl
  | 4 => rfl
  | 5 => rfl
  | 6 => rfl
  | i + 7 => rw [xPows, if_neg (by omega), if_neg (by omega)]
set_option maxRecDepth 100000 in
set_option maxHeartbeats 4000000 in
theorem sh9_wsX {dC : Nat → ClassId} {dI : Nat → Nat → Nat} {aC : Nat → ClassId} {o : Nat} {a : X9T} {H : Heap} (h : va_P (dC, dI) vwCl (sh9 aC o a) H) : va_P (dC, dI) vwCl (wsX aC (adX o a) (fun _ => 16) v0X (fun _ => 0) (fun _ _ => 0) (fun _ _ => 0) (fun _ _ => 0)) H := by
  simp only [sh9, sh8, sh4, sh3, sh6, sh2, sh1, sh0, sh7, sh5, rg7, rg3, List.nil_append, List.cons_append, List.append_nil] at h
  rw [wsX, xRows_0, xRules_0, xNeeds_0, xTals_0, xPows_0]
  intro k q hk
  match k, hk with
  | 0, hk => exact h 0 q hk
  | 1, hk => exact h 2 q hk
  | 2, hk => exact h 1 q hk
  | 3, hk => exact h 47 q hk
  | 4, hk => exact h 49 q hk
  | 5, hk => exact h 59 q hk
  | 6, hk => exact h 62 q hk
  | 7, hk => exact h 88 q hk
  | 8, hk => exact h 98 q hk
  | 9, hk => exact h 99 q hk
  | 10, hk => exact h 4 q hk
  | 11, hk => exact h 3 q hk
  | 12, hk => exact h 48 q hk
  | 13, hk => exact h 50 q hk
  | 14, hk => exact h 52 q hk
  | 15, hk => exact h 64 q hk
  | 16, hk => exact h 65 q hk
  | 17, hk => exact h 66 q hk
  | 18, hk => exact h 67 q hk
  | 19, hk => exact h 68 q hk
  | 20, hk => exact h 69 q hk
  | 21, hk => exact h 63 q hk
  | 22, hk => exact h 89 q hk
  | 23, hk => exact h 90 q hk
  | 24, hk => exact h 51 q hk
  | 25, hk => exact h 91 q hk
  | 26, hk => exact h 92 q hk
  | 27, hk => exact h 93 q hk
  | 28, hk => exact h 94 q hk
  | 29, hk => exact h 95 q hk
  | 30, hk => exact h 96 q hk
  | 31, hk => exact h 97 q hk
  | 32, hk => exact h 70 q hk
  | 33, hk => exact h 73 q hk
  | 34, hk => exact h 76 q hk
  | 35, hk => exact h 79 q hk
  | 36, hk => exact h 82 q hk
  | 37, hk => exact h 85 q hk
  | 38, hk => exact h 71 q hk
  | 39, hk => exact h 72 q hk
  | 40, hk => exact h 74 q hk
  | 41, hk => exact h 75 q hk
  | 42, hk => exact h 77 q hk
  | 43, hk => exact h 78 q hk
  | 44, hk => exact h 80 q hk
  | 45, hk => exact h 81 q hk
  | 46, hk => exact h 83 q hk
  | 47, hk => exact h 84 q hk
  | 48, hk => exact h 86 q hk
  | 49, hk => exact h 87 q hk
  | 50, hk => exact h 5 q hk
  | 51, hk => exact h 10 q hk
  | 52, hk => exact h 15 q hk
  | 53, hk => exact h 20 q hk
  | 54, hk => exact h 25 q hk
  | 55, hk => exact h 30 q hk
  | 56, hk => exact h 35 q hk
  | 57, hk => exact h 40 q hk
  | 58, hk => exact h 100 q hk
  | 59, hk => exact h 101 q hk
  | 60, hk => exact h 102 q hk
  | 61, hk => exact h 103 q hk
  | 62, hk => exact h 104 q hk
  | 63, hk => exact h 105 q hk
  | 64, hk => exact h 106 q hk
  | 65, hk => exact h 107 q hk
  | 66, hk => exact h 108 q hk
  | 67, hk => exact h 109 q hk
  | 68, hk => exact h 110 q hk
  | 69, hk => exact h 111 q hk
  | 70, hk => exact h 112 q hk
  | 71, hk => exact h 113 q hk
  | 72, hk => exact h 114 q hk
  | 73, hk => exact h 115 q hk
  | 74, hk => exact h 116 q hk
  | 75, hk => exact h 117 q hk
  | 76, hk => exact h 118 q hk
  | 77, hk => exact h 119 q hk
  | 78, hk => exact h 6 q hk
  | 79, hk => exact h 7 q hk
  | 80, hk => exact h 11 q hk
  | 81, hk => exact h 12 q hk
  | 82, hk => exact h 16 q hk
  | 83, hk => exact h 17 q hk
  | 84, hk => exact h 21 q hk
  | 85, hk => exact h 22 q hk
  | 86, hk => exact h 26 q hk
  | 87, hk => exact h 27 q hk
  | 88, hk => exact h 31 q hk
  | 89, hk => exact h 32 q hk
  | 90, hk => exact h 36 q hk
  | 91, hk => exact h 37 q hk
  | 92, hk => exact h 41 q hk
  | 93, hk => exact h 42 q hk
  | 94, hk => exact h 8 q hk
  | 95, hk => exact h 9 q hk
  | 96, hk => exact h 13 q hk
  | 97, hk => exact h 14 q hk
  | 98, hk => exact h 18 q hk
  | 99, hk => exact h 19 q hk
  | 100, hk => exact h 23 q hk
  | 101, hk => exact h 24 q hk
  | 102, hk => exact h 28 q hk
  | 103, hk => exact h 29 q hk
  | 104, hk => exact h 33 q hk
  | 105, hk => exact h 34 q hk
  | 106, hk => exact h 38 q hk
  | 107, hk => exact h 39 q hk
  | 108, hk => exact h 43 q hk
  | 109, hk => exact h 44 q hk
  | 110, hk => exact h 55 q hk
  | 111, hk => exact h 56 q hk
  | 112, hk => exact h 60 q hk
  | 113, hk => exact h 61 q hk
  | 114, hk => exact h 53 q hk
  | 115, hk => exact h 54 q hk
  | 116, hk => exact h 57 q hk
  | 117, hk => exact h 58 q hk
  | 118, hk => exact h 45 q hk
  | 119, hk => exact h 46 q hk
  | k + 120, hk => cases hk
set_option maxRecDepth 100000 in
set_option maxHeartbeats 4000000 in
theorem sh9_I {A : Nat → Prop} {aC : Nat → ClassId} {o : Nat} {a : X9T} (h : va_D A (sh9 aC o a)) : xI (adX o a) ∧ ∀ k, k < 120 → A (adX o a k) := by
  simp only [sh9, sh8, sh4, sh3, sh6, sh2, sh1, sh0, sh7, sh5, rg7, rg3, List.nil_append, List.cons_append, List.append_nil] at h
  refine perm_I (pi := (pkF 0 [0, 2, 1, 47, 49, 59, 62, 88, 98, 99, 4, 3, 48, 50, 52, 64, 65, 66, 67, 68, 69, 63, 89, 90, 51, 91, 92, 93, 94, 95, 96, 97, 70, 73, 76, 79, 82, 85, 71, 72, 74, 75, 77, 78, 80, 81, 83, 84, 86, 87, 5, 10, 15, 20, 25, 30, 35, 40, 100, 101, 102, 103, 104, 105, 106, 107, 108, 109, 110, 111, 112, 113, 114, 115, 116, 117, 118, 119, 6, 7, 11, 12, 16, 17, 21, 22, 26, 27, 31, 32, 36, 37, 41, 42, 8, 9, 13, 14, 18, 19, 23, 24, 28, 29, 33, 34, 38, 39, 43, 44, 55, 56, 60, 61, 53, 54, 57, 58, 45, 46])) h (fun k hk => ?_) (fun i j h1 h2 => pi_inj i h1 j h2)
  match k, hk with
  | 0, _ => exact ⟨_, rfl⟩
  | 1, _ => exact ⟨_, rfl⟩
  | 2, _ => exact ⟨_, rfl⟩
  | 3, _ => exact ⟨_, rfl⟩
  | 4, _ => exact ⟨_, rfl⟩
  | 5, _ => exact ⟨_, rfl⟩
  | 6, _ => exact ⟨_, rfl⟩
  | 7, _ => exact ⟨_, rfl⟩
  | 8, _ => exact ⟨_, rfl⟩
  | 9, _ => exact ⟨_, rfl⟩
  | 10, _ => exact ⟨_, rfl⟩
  | 11, _ => exact ⟨_, rfl⟩
  | 12, _ => exact ⟨_, rfl⟩
  | 13, _ => exact ⟨_, rfl⟩
  | 14, _ => exact ⟨_, rfl⟩
  | 15, _ => exact ⟨_, rfl⟩
  | 16, _ => exact ⟨_, rfl⟩
  | 17, _ => exact ⟨_, rfl⟩
  | 18, _ => exact ⟨_, rfl⟩
  | 19, _ => exact ⟨_, rfl⟩
  | 20, _ => exact ⟨_, rfl⟩
  | 21, _ => exact ⟨_, rfl⟩
  | 22, _ => exact ⟨_, rfl⟩
  | 23, _ => exact ⟨_, rfl⟩
  | 24, _ => exact ⟨_, rfl⟩
  | 25, _ => exact ⟨_, rfl⟩
  | 26, _ => exact ⟨_, rfl⟩
  | 27, _ => exact ⟨_, rfl⟩
  | 28, _ => exact ⟨_, rfl⟩
  | 29, _ => exact ⟨_, rfl⟩
  | 30, _ => exact ⟨_, rfl⟩
  | 31, _ => exact ⟨_, rfl⟩
  | 32, _ => exact ⟨_, rfl⟩
  | 33, _ => exact ⟨_, rfl⟩
  | 34, _ => exact ⟨_, rfl⟩
  | 35, _ => exact ⟨_, rfl⟩
  | 36, _ => exact ⟨_, rfl⟩
  | 37, _ => exact ⟨_, rfl⟩
  | 38, _ => exact ⟨_, rfl⟩
  | 39, _ => exact ⟨_, rfl⟩
  | 40, _ => exact ⟨_, rfl⟩
  | 41, _ => exact ⟨_, rfl⟩
  | 42, _ => exact ⟨_, rfl⟩
  | 43, _ => exact ⟨_, rfl⟩
  | 44, _ => exact ⟨_, rfl⟩
  | 45, _ => exact ⟨_, rfl⟩
  | 46, _ => exact ⟨_, rfl⟩
  | 47, _ => exact ⟨_, rfl⟩
  | 48, _ => exact ⟨_, rfl⟩
  | 49, _ => exact ⟨_, rfl⟩
  | 50, _ => exact ⟨_, rfl⟩
  | 51, _ => exact ⟨_, rfl⟩
  | 52, _ => exact ⟨_, rfl⟩
  | 53, _ => exact ⟨_, rfl⟩
  | 54, _ => exact ⟨_, rfl⟩
  | 55, _ => exact ⟨_, rfl⟩
  | 56, _ => exact ⟨_, rfl⟩
  | 57, _ => exact ⟨_, rfl⟩
  | 58, _ => exact ⟨_, rfl⟩
  | 59, _ => exact ⟨_, rfl⟩
  | 60, _ => exact ⟨_, rfl⟩
  | 61, _ => exact ⟨_, rfl⟩
  | 62, _ => exact ⟨_, rfl⟩
  | 63, _ => exact ⟨_, rfl⟩
  | 64, _ => exact ⟨_, rfl⟩
  | 65, _ => exact ⟨_, rfl⟩
  | 66, _ => exact ⟨_, rfl⟩
  | 67, _ => exact ⟨_, rfl⟩
  | 68, _ => exact ⟨_, rfl⟩
  | 69, _ => exact ⟨_, rfl⟩
  | 70, _ => exact ⟨_, rfl⟩
  | 71, _ => exact ⟨_, rfl⟩
  | 72, _ => exact ⟨_, rfl⟩
  | 73, _ => exact ⟨_, rfl⟩
  | 74, _ => exact ⟨_, rfl⟩
  | 75, _ => exact ⟨_, rfl⟩
  | 76, _ => exact ⟨_, rfl⟩
  | 77, _ => exact ⟨_, rfl⟩
  | 78, _ => exact ⟨_, rfl⟩
  | 79, _ => exact ⟨_, rfl⟩
  | 80, _ => exact ⟨_, rfl⟩
  | 81, _ => exact ⟨_, rfl⟩
  | 82, _ => exact ⟨_, rfl⟩
  | 83, _ => exact ⟨_, rfl⟩
  | 84, _ => exact ⟨_, rfl⟩
  | 85, _ => exact ⟨_, rfl⟩
  | 86, _ => exact ⟨_, rfl⟩
  | 87, _ => exact ⟨_, rfl⟩
  | 88, _ => exact ⟨_, rfl⟩
  | 89, _ => exact ⟨_, rfl⟩
  | 90, _ => exact ⟨_, rfl⟩
  | 91, _ => exact ⟨_, rfl⟩
  | 92, _ => exact ⟨_, rfl⟩
  | 93, _ => exact ⟨_, rfl⟩
  | 94, _ => exact ⟨_, rfl⟩
  | 95, _ => exact ⟨_, rfl⟩
  | 96, _ => exact ⟨_, rfl⟩
  | 97, _ => exact ⟨_, rfl⟩
  | 98, _ => exact ⟨_, rfl⟩
  | 99, _ => exact ⟨_, rfl⟩
  | 100, _ => exact ⟨_, rfl⟩
  | 101, _ => exact ⟨_, rfl⟩
  | 102, _ => exact ⟨_, rfl⟩
  | 103, _ => exact ⟨_, rfl⟩
  | 104, _ => exact ⟨_, rfl⟩
  | 105, _ => exact ⟨_, rfl⟩
  | 106, _ => exact ⟨_, rfl⟩
  | 107, _ => exact ⟨_, rfl⟩
  | 108, _ => exact ⟨_, rfl⟩
  | 109, _ => exact ⟨_, rfl⟩
  | 110, _ => exact ⟨_, rfl⟩
  | 111, _ => exact ⟨_, rfl⟩
  | 112, _ => exact ⟨_, rfl⟩
  | 113, _ => exact ⟨_, rfl⟩
  | 114, _ => exact ⟨_, rfl⟩
  | 115, _ => exact ⟨_, rfl⟩
  | 116, _ => exact ⟨_, rfl⟩
  | 117, _ => exact ⟨_, rfl⟩
  | 118, _ => exact ⟨_, rfl⟩
  | 119, _ => exact ⟨_, rfl⟩
  | k + 120, hk => omega
