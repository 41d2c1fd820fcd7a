/-! sums over tallies -/
def sI (f : Nat → Int64) : Nat → Int64
  | 0 => 0
  | i + 1 => sI f i + f i
def sN (f : Nat → Nat) : Nat → Nat
  | 0 => 0
  | i + 1 => sN f i + f i
theorem sI_congr {f g : Nat → Int64} : ∀ {n : Nat}, (∀ i, i < n → f i = g i) → sI f n = sI g n
  | 0, _ => rfl
  | n + 1, h => by rw [sI, sI, sI_congr (fun i hi => h i (by omega)), h n (by omega)]
theorem sI_mul {f : Nat → Int64} {x : Int64} : ∀ {n : Nat}, sI (fun i => x * f i) n = x * sI f n
  | 0 => by rw [sI, sI, Int64.mul_zero]
  | n + 1 => by rw [sI, sI, sI_mul, Int64.mul_add]
theorem SS_sI {K T : Nat → Int64} {g : Int64 → Int64} : ∀ {n : Nat}, SS K T g n = sI (fun i => T i * g (K i)) n
  | 0 => rfl
  | n + 1 => by rw [SS, sI, SS_sI]
theorem sN_le {f : Nat → Nat} : ∀ {n m : Nat}, n ≤ m → sN f n ≤ sN f m
  | n, 0, h => by rw [show n = 0 by omega]; exact Nat.le_refl _
  | n, m + 1, h => by
    rcases Nat.lt_or_ge m n with z | z
    · rw [show n = m + 1 by omega]; exact Nat.le_refl _
    · have := sN_le (f := f) (n := n) (m := m) z
      rw [sN]; omega
/-- one act on top of three kinds -/
def hK (kd : Int64 → Int64 → Int64 → Int64) (fb : Int64) (g : Int64 → Int64) (x y w : Int64) : Int64 := if kd x y w &&& fb = 0 then g (kd x y w) else 0
def jt (kd : Int64 → Int64 → Int64 → Int64) (fb : Int64) (K1 T1 K2 T2 K3 T3 : Nat → Int64) (g : Int64 → Int64) (i j k : Nat) : Int64 := T1 i * T2 j * T3 k * hK kd fb g (K1 i) (K2 j) (K3 k)
def j2 (kd : Int64 → Int64 → Int64 → Int64) (fb : Int64) (K1 T1 K2 T2 K3 T3 : Nat → Int64) (zr : Nat) (g : Int64 → Int64) (i j : Nat) : Int64 := sI (jt kd fb K1 T1 K2 T2 K3 T3 g i j) zr
def j1 (kd : Int64 → Int64 → Int64 → Int64) (fb : Int64) (K1 T1 K2 T2 K3 T3 : Nat → Int64) (zq zr : Nat) (g : Int64 → Int64) (i : Nat) : Int64 := sI (j2 kd fb K1 T1 K2 T2 K3 T3 zr g i) zq
theorem jt_y {kd : Int64 → Int64 → Int64 → Int64} {fb : Int64} {K1 T1 K2 T2 K3 T3 : Nat → Int64} {g : Int64 → Int64} {i j k : Nat} (h : kd (K1 i) (K2 j) (K3 k) &&& fb = 0) : jt kd fb K1 T1 K2 T2 K3 T3 g i j k = T1 i * T2 j * T3 k * g (kd (K1 i) (K2 j) (K3 k)) := by rw [jt, hK, if_pos h]
theorem jt_n {kd : Int64 → Int64 → Int64 → Int64} {fb : Int64} {K1 T1 K2 T2 K3 T3 : Nat → Int64} {g : Int64 → Int64} {i j k : Nat} (h : ¬ kd (K1 i) (K2 j) (K3 k) &&& fb = 0) : jt kd fb K1 T1 K2 T2 K3 T3 g i j k = 0 := by rw [jt, hK, if_neg h, Int64.mul_zero]
theorem j_SS {kd : Int64 → Int64 → Int64 → Int64} {fb : Int64} {K1 T1 K2 T2 K3 T3 : Nat → Int64} {g : Int64 → Int64} {zp zq zr : Nat} : sI (j1 kd fb K1 T1 K2 T2 K3 T3 zq zr g) zp = SS K1 T1 (fun x => SS K2 T2 (fun y => SS K3 T3 (fun w => hK kd fb g x y w) zr) zq) zp := by
  rw [SS_sI]
  refine sI_congr (fun i _ => ?_)
  rw [j1, SS_sI, ← sI_mul]
  refine sI_congr (fun j _ => ?_)
  rw [j2, SS_sI, ← sI_mul, ← sI_mul]
  refine sI_congr (fun k _ => ?_)
  rw [jt, Int64.mul_assoc, Int64.mul_assoc]
abbrev uC (e n i j : Nat) : Prop := (0 < n - (i + 1) - (j + 1)) ↔ 2 < e
def u3 (kd : Int64 → Int64 → Int64 → Int64) (fb : Int64) (Sx : Nat → (Int64 → Int64) → Int64) (e n : Nat) (g : Int64 → Int64) (i j : Nat) : Int64 := if uC e n i j then Sx (i + 1) (fun x => Sx (j + 1) (fun y => Sx (n - (i + 1) - (j + 1)) (fun w => hK kd fb g x y w))) else 0
def u2 (kd : Int64 → Int64 → Int64 → Int64) (fb : Int64) (Sx : Nat → (Int64 → Int64) → Int64) (e n : Nat) (g : Int64 → Int64) (i : Nat) : Int64 := sI (u3 kd fb Sx e n g i) (n - (i + 1))
def tU (kd : Int64 → Int64 → Int64 → Int64) (fb : Int64) (Sx : Nat → (Int64 → Int64) → Int64) (e n : Nat) (g : Int64 → Int64) : Int64 := sI (u2 kd fb Sx e n g) (n - 1)
/-- the sum of g over the kinds of all trees of n leaves without a forbidden one -/
def SgF (kd : Int32 → Int64 → Int64 → Int64 → Int64) (fb : Int64) (E : Nat → Int32) (A : Nat) : Nat → Nat → (Int64 → Int64) → Int64
  | 0, n, g => if n ≤ 1 then g 0 else 0
  | f + 1, n, g => if n ≤ 1 then g 0 else sI (fun a => tU (kd (nI a)) fb (SgF kd fb E A f) (wt E (nI a)) n g) A
def Sg (kd : Int32 → Int64 → Int64 → Int64 → Int64) (fb : Int64) (E : Nat → Int32) (A n : Nat) (g : Int64 → Int64) : Int64 := SgF kd fb E A 6 n g
theorem tU_congr {kd : Int64 → Int64 → Int64 → Int64} {fb : Int64} {S1 S2 : Nat → (Int64 → Int64) → Int64} {e n : Nat} {g : Int64 → Int64} (h : ∀ j g, j < n → S1 j g = S2 j g) (hn : 2 ≤ n) : tU kd fb S1 e n g = tU kd fb S2 e n g := by
  rw [tU, tU]
  refine sI_congr (fun i hi => ?_)
  rw [u2, u2]
  refine sI_congr (fun j hj => ?_)
  rw [u3, u3]
  split
  · rw [h (i + 1) _ (by omega)]
    refine congrArg _ (funext fun x => ?_)
    rw [h (j + 1) _ (by omega)]
    refine congrArg _ (funext fun y => ?_)
    exact h _ _ (by omega)
  · rfl
theorem SgF_st {kd : Int32 → Int64 → Int64 → Int64 → Int64} {fb : Int64} {E : Nat → Int32} {A : Nat} : ∀ (f n : Nat) (g : Int64 → Int64), n ≤ f + 1 → SgF kd fb E A (f + 1) n g = SgF kd fb E A f n g
  | 0, n, g, h => by rw [SgF, SgF, if_pos h, if_pos h]
  | f + 1, n, g, h => by
    rw [SgF, SgF]
    split
    · rfl
    · rename_i h1
      exact sI_congr (fun a _ => tU_congr (fun j g hj => SgF_st f j g (by omega)) (by omega))
theorem Sg_1 {kd : Int32 → Int64 → Int64 → Int64 → Int64} {fb : Int64} {E : Nat → Int32} {A n : Nat} {g : Int64 → Int64} (h : n ≤ 1) : Sg kd fb E A n g = g 0 := by rw [Sg, SgF, if_pos h]
theorem Sg_s {kd : Int32 → Int64 → Int64 → Int64 → Int64} {fb : Int64} {E : Nat → Int32} {A n : Nat} {g : Int64 → Int64} (h : 2 ≤ n) (h6 : n ≤ 6) : Sg kd fb E A n g = sI (fun a => tU (kd (nI a)) fb (Sg kd fb E A) (wt E (nI a)) n g) A := by
  rw [Sg, SgF, if_neg (by omega)]
  exact sI_congr (fun a _ => tU_congr (fun j g hj => (SgF_st 5 j g (by omega)).symm) h)
/-- bounds of the tallies -/
def Bd : Nat → Nat
  | 0 => 1
  | 1 => 1
  | 2 => 4
  | 3 => 32
  | 4 => 320
  | _ => 3584
def b3 (e n i j : Nat) : Nat := if uC e n i j then Bd (i + 1) * Bd (j + 1) * Bd (n - (i + 1) - (j + 1)) else 0
def b2 (e n i : Nat) : Nat := sN (b3 e n i) (n - (i + 1))
def bT (e n : Nat) : Nat := sN (b2 e n) (n - 1)
def Dm : Nat → Nat
  | 2 => 1
  | 3 => 8
  | 4 => 80
  | 5 => 896
  | _ => 0
theorem bT_le : ∀ e, e < 4 → 2 ≤ e → ∀ n, n < 6 → 2 ≤ n → bT e n ≤ Dm n := by decide +kernel
theorem Dm_Bd : ∀ n, n < 6 → 2 ≤ n → 4 * Dm n = Bd n := by decide +kernel
theorem Bd_le : ∀ n, n < 6 → Bd n ≤ 3584 ∧ 1 ≤ Bd n := by decide +kernel
theorem bT_part {e n i j : Nat} (hi : i < n - 1) (hj : j < n - (i + 1)) : sN (b2 e n) i + sN (b3 e n i) j + b3 e n i j ≤ bT e n := by
  have h1 : sN (b3 e n i) (j + 1) ≤ b2 e n i := sN_le (by omega)
  have h2 : sN (b2 e n) (i + 1) ≤ bT e n := sN_le (by omega)
  rw [sN] at h1 h2
  omega
/-- what changes in the tally of n leaves, if there is one -/
def kRel (n : Nat) (v v1 : Nat → Int32) (G G1 : Nat → Nat → Int64) : Prop := (∀ k, (n < 6 → k ≠ 11 + n) → v1 k = v k) ∧ ∀ k, (n < 6 → k ≠ 14 + 2 * n ∧ k ≠ 15 + 2 * n) → G1 k = G k
theorem kRel_rf {n : Nat} {v : Nat → Int32} {G : Nat → Nat → Int64} : kRel n v v G G := ⟨fun _ _ => rfl, fun _ _ => rfl⟩
theorem kRel_tr {j : Nat} {v v1 v2 : Nat → Int32} {G G1 G2 : Nat → Nat → Int64} (h : kRel j v v1 G G1) (h2 : kRel j v1 v2 G1 G2) : kRel j v v2 G G2 := ⟨fun k hk => (h2.1 k hk).trans (h.1 k hk), fun k hk => (h2.2 k hk).trans (h.2 k hk)⟩
abbrev tsOK (n z : Nat) (v : Nat → Int32) (cap : Nat → Nat) : Prop := v (11 + n) = nI z ∧ z ≤ cap n ∧ 16 ≤ cap n
