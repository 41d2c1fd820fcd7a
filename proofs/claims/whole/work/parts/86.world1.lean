/-! the reference's world, as its constructor leaves it -/
def amX (o : Nat) (a : Nat → Nat) : Nat → Nat
  | 0 => o
  | k + 1 => a k
theorem sh10_wsM {dC : Nat → ClassId} {dI : Nat → Nat → Nat} {aC : Nat → ClassId} {o : Nat} {a : Nat → Nat} {H : Heap} (h : va_P (dC, dI) vwCl (sh10 aC o a) H) : va_P (dC, dI) vwCl (wsM aC (amX o a) (fun _ => 0) (fun _ => 0) (fun _ => 0) (fun _ _ => 0) (fun _ _ => 0)) H := by
  simp only [sh10, List.nil_append, List.cons_append] at h
  exact h
theorem sh10_I {A : Nat → Prop} {aC : Nat → ClassId} {o : Nat} {a : Nat → Nat} (h : va_D A (sh10 aC o a)) : mI (amX o a) ∧ ∀ k, k < 14 → A (amX o a k) := by
  simp only [sh10, List.nil_append, List.cons_append] at h
  have hw : va_D A (wsM aC (amX o a) (fun _ => 0) (fun _ => 0) (fun _ => 0) (fun _ _ => 0) (fun _ _ => 0)) := h
  have hp : ∀ k, k < 14 → ∃ e, (wsM aC (amX o a) (fun _ => 0) (fun _ => 0) (fun _ => 0) (fun _ _ => 0) (fun _ _ => 0))[k]? = some (amX o a k, e) := by
    intro k hk
    match k, hk with
    | 0, _ => exact ⟨_, rfl⟩
    | 1, _ => exact ⟨_, rfl⟩
    | 2, _ => exact ⟨_, rfl⟩
    | 3, _ => exact ⟨_, rfl⟩
    | 4, _ => exact ⟨_, rfl⟩
    | 5, _ => exact ⟨_, rfl⟩
    | 6, _ => exact ⟨_, rfl⟩
    | 7, _ => exact ⟨_, rfl⟩
    | 8, _ => exact ⟨_, rfl⟩
    | 9, _ => exact ⟨_, rfl⟩
    | 10, _ => exact ⟨_, rfl⟩
    | 11, _ => exact ⟨_, rfl⟩
    | 12, _ => exact ⟨_, rfl⟩
    | 13, _ => exact ⟨_, rfl⟩
    | k + 14, hk => omega
  refine ⟨fun i j h1 h2 he => ?_, fun k hk => ?_⟩
  · obtain ⟨x, hx⟩ := hp i h1
    obtain ⟨y, hy⟩ := hp j h2
    exact hw.1 _ _ _ _ hx hy he
  · obtain ⟨x, hx⟩ := hp k hk
    exact hw.2 _ _ hx
