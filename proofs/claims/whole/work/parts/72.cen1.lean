/-! kinds as sets of nodes -/
def tb (x : Int64) (i : Nat) : Bool := x.toBitVec.getLsbD i
theorem tb_0 (i : Nat) : tb 0 i = false := by
  show (0#64).getLsbD i = false
  exact BitVec.getLsbD_zero
theorem tb_or (x y : Int64) (i : Nat) : tb (x ||| y) i = (tb x i || tb y i) := by
  show (x ||| y).toBitVec.getLsbD i = _
  rw [Int64.toBitVec_or, BitVec.getLsbD_or]; rfl
theorem bitN_bv : ∀ i, i < 36 → (bitN i).toBitVec = BitVec.twoPow 64 i := by decide +kernel
theorem tb_bit {i : Nat} (hi : i < 36) (j : Nat) : tb (bitN i) j = decide (j = i) := by
  show (bitN i).toBitVec.getLsbD j = _
  rw [bitN_bv i hi, BitVec.getLsbD_twoPow]
  by_cases h : j = i
  · subst h; rw [decide_eq_true (show j < 64 by omega), decide_eq_true rfl]; rfl
  · rw [decide_eq_false (show ¬ i = j from fun e => h e.symm), decide_eq_false h, Bool.and_false]
theorem bitN_inj {i j : Nat} (hi : i < 36) (hj : j < 36) (h : bitN i = bitN j) : i = j := by
  have h1 := tb_bit hi i
  rw [h, tb_bit hj, decide_eq_true rfl] at h1
  exact of_decide_eq_true h1
theorem bitN_ne {i : Nat} (hi : i < 36) : ¬ bitN i = 0 := by
  intro h
  have h1 := tb_bit hi i
  rw [h, tb_0, decide_eq_true rfl] at h1
  cases h1
theorem tb_and0 (x y : Int64) : x &&& y = 0 ↔ ∀ i, ¬ (tb x i = true ∧ tb y i = true) := by
  constructor
  · intro h i ⟨h1, h2⟩
    have h3 : tb (x &&& y) i = (tb x i && tb y i) := by
      show (x &&& y).toBitVec.getLsbD i = _
      rw [Int64.toBitVec_and, BitVec.getLsbD_and]; rfl
    rw [h, tb_0, h1, h2] at h3
    cases h3
  · intro h
    refine Int64.toBitVec_inj.mp ?_
    rw [Int64.toBitVec_and]
    refine BitVec.eq_of_getLsbD_eq (fun i hi => ?_)
    rw [BitVec.getLsbD_and]
    have h0 : (0 : Int64).toBitVec.getLsbD i = false := tb_0 i
    rw [h0]
    have h1 := h i
    have e1 : x.toBitVec.getLsbD i = tb x i := rfl
    have e2 : y.toBitVec.getLsbD i = tb y i := rfl
    rw [e1, e2]
    cases ha : tb x i <;> cases hb : tb y i <;> first | rfl | exact absurd ⟨ha, hb⟩ h1
theorem tb_not (x : Int64) {i : Nat} (hi : i < 64) : tb (x ^^^ (-1)) i = !(tb x i) := by
  show (x ^^^ (-1)).toBitVec.getLsbD i = _
  rw [Int64.toBitVec_xor, BitVec.getLsbD_xor]
  have h : (-1 : Int64).toBitVec.getLsbD i = true := by
    rw [show (-1 : Int64).toBitVec = BitVec.allOnes 64 by decide, BitVec.getLsbD_allOnes, decide_eq_true hi]
  rw [h]
  show (tb x i ^^ true) = _
  cases tb x i <;> rfl
theorem tb_hi (x : Int64) {i : Nat} (hi : 64 ≤ i) : tb x i = false := BitVec.getLsbD_of_ge _ _ hi
theorem sub_0 (x : Int64) : (0 : Int64) &&& (x ^^^ (-1)) = 0 := by
  rw [tb_and0]; intro i h; rw [tb_0] at h; cases h.1
theorem sub_bit {i : Nat} (hi : i < 36) (x : Int64) : bitN i &&& (x ^^^ (-1)) = 0 ↔ tb x i = true := by
  rw [tb_and0]
  constructor
  · intro h
    have h1 := h i
    rw [tb_bit hi, decide_eq_true rfl, tb_not x (by omega)] at h1
    cases hx : tb x i with
    | true => rfl
    | false => rw [hx] at h1; exact absurd ⟨rfl, rfl⟩ h1
  · intro hx j ⟨h1, h2⟩
    rw [tb_bit hi] at h1
    have := of_decide_eq_true h1
    subst this
    rw [tb_not x (by omega), hx] at h2
    cases h2
theorem tb_kd {ac : Nat → Int32} {n0 n1 n2 : Nat → Int64} {a : Int32} {x y z : Int64} : ∀ {n : Nat}, n ≤ 36 → ∀ i, tb (kdF ac n0 n1 n2 a x y z n) i = true ↔ i < n ∧ kdB ac n0 n1 n2 a x y z i
  | 0, _, i => by rw [kdF, tb_0]; exact ⟨fun h => (by cases h), fun h => absurd h.1 (Nat.not_lt_zero i)⟩
  | n + 1, hn, i => by
    have ih := tb_kd (ac := ac) (n0 := n0) (n1 := n1) (n2 := n2) (a := a) (x := x) (y := y) (z := z) (n := n) (by omega) i
    rw [kdF]
    by_cases h : kdB ac n0 n1 n2 a x y z n
    · rw [if_pos h, tb_or, Bool.or_eq_true, ih, tb_bit (by omega), decide_eq_true_iff]
      constructor
      · rintro (h1 | h1)
        · exact ⟨by omega, h1.2⟩
        · subst h1; exact ⟨Nat.lt_succ_self _, h⟩
      · intro h1
        rcases Nat.lt_or_ge i n with q | q
        · exact Or.inl ⟨q, h1.2⟩
        · exact Or.inr (by omega)
    · rw [if_neg h, ih]
      constructor
      · intro h1; exact ⟨by omega, h1.2⟩
      · intro h1
        rcases Nat.lt_or_ge i n with q | q
        · exact ⟨q, h1.2⟩
        · rw [show i = n by omega] at h1; exact absurd h1.2 h
