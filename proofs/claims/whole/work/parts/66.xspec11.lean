/-! small rows for the sums -/
theorem sI_z {x : Int64} {f : Nat → Int64} : x + sI f 0 = x := Int64.add_zero x
theorem sI_s {x : Int64} {f : Nat → Int64} {j : Nat} : x + sI f (j + 1) = x + sI f j + f j := by rw [sI, Int64.add_assoc]
theorem idx3 {i j k z1 z2 z3 : Nat} (hi : i < z1) (hj : j < z2) (hk : k < z3) : i * (z2 * z3) + j * z3 + k + 1 ≤ z1 * (z2 * z3) := by
  have h1 : (i + 1) * (z2 * z3) ≤ z1 * (z2 * z3) := Nat.mul_le_mul_right _ hi
  have h2 : (j + 1) * z3 ≤ z2 * z3 := Nat.mul_le_mul_right _ hj
  rw [Nat.add_mul, Nat.one_mul] at h1 h2
  omega
theorem up_j {j z3 : Nat} : (j + 1) * z3 = j * z3 + z3 := by rw [Nat.add_mul, Nat.one_mul]
