/-! counts and digests -/
def tcF (E : Nat → Int32) (R : Nat → List Int32) : Nat → Nat
  | 0 => 0
  | i + 1 => tcF E R i + (if isT E (R i) then 1 else 0)
def nzF (f : Nat → Int32) : Nat → Nat
  | 0 => 0
  | i + 1 => nzF f i + (if f i = 0 then 0 else 1)
theorem tcF_t {E : Nat → Int32} {R : Nat → List Int32} {i : Nat} (h : isT E (R i)) : tcF E R (i + 1) = tcF E R i + 1 := by rw [tcF, if_pos h]
theorem tcF_f {E : Nat → Int32} {R : Nat → List Int32} {i : Nat} (h : ¬ isT E (R i)) : tcF E R (i + 1) = tcF E R i + 0 := by rw [tcF, if_neg h]
theorem nzF_t {f : Nat → Int32} {i : Nat} (h : ¬ f i = 0) : nzF f (i + 1) = nzF f i + 1 := by rw [nzF, if_neg h]
theorem nzF_f {f : Nat → Int32} {i : Nat} (h : f i = 0) : nzF f (i + 1) = nzF f i + 0 := by rw [nzF, if_pos h]
def pCount (A : Nat) (E : Nat → Int32) (R : Nat → List Int32) (n : Nat) (tn : Nat → Int32) (w : Int32) : Int32 :=
  if w = nI 0 then nI A else if w = nI 1 then nI n else if w = nI 2 then nI (tcF E R 10) else if w = nI 3 then nI (nzF tn n) else -2
def dgF (h : Int64) (g : Nat → Int32) : Nat → Int64
  | 0 => h
  | i + 1 => 31 * dgF h g i + (g i).toInt64
def dgR (h : Int64) (l : List Int32) : Int64 := 31 * dgF h (gD l) l.length + 9
def itF (f : Nat → Int64 → Int64) (h : Int64) : Nat → Int64
  | 0 => h
  | i + 1 => f i (itF f h i)
def dg1 (A : Nat) (E : Nat → Int32) (R : Nat → List Int32) (n : Nat) (tn : Nat → Int32) : Nat → Int64 := itF (fun k h => 31 * h + (pCount A E R n tn (nI k)).toInt64) 227
def dg2 (E : Nat → Int32) (h : Int64) : Nat → Int64 := itF (fun a h => 31 * h + (E a).toInt64) h
def dg3 (R : Nat → List Int32) (h : Int64) : Nat → Int64 := itF (fun r h => dgR h (R r)) h
def dg4 (R : Nat → List Int32) (h : Int64) : Nat → Int64 := itF (fun k h => dgR (dgR h (R (10 + k))) (R (18 + k))) h
def pDigest (A : Nat) (E : Nat → Int32) (R : Nat → List Int32) (n : Nat) (tn : Nat → Int32) : Int64 := dg4 R (dg3 R (dg2 E (dg1 A E R n tn 4) A) 10) n
theorem nrm_row {R : Nat → List Int32} {X M Y : List Int32} {k r : Nat} (hk : k < 26) (hr : r < 10) : va_up (va_up (va_up (va_up R 26 X) 28 M) 26 Y) r Y k = va_up R r Y k := by
  by_cases hkr : k = r
  · subst hkr; rw [va_up_self, va_up_self]
  · rw [upn hkr, upn hkr, upn (show k ≠ 26 by omega), upn (show k ≠ 28 by omega), upn (show k ≠ 26 by omega)]
