/-! what the public calls answer -/
abbrev tr (E : Nat → Int32) (R : Nat → List Int32) (a : Int32) : Prop := rIn a 10 ∧ isT E (R a.toNatClampNeg)
abbrev szL (l : List Int32) : Nat := l.length - lvs l
abbrev lf (E : Nat → Int32) (R : Nat → List Int32) (a : Int32) : Prop := tr E R a ∧ 1 ≤ szL (R a.toNatClampNeg) ∧ szL (R a.toNatClampNeg) ≤ 4
def pPut (A : Nat) (R : Nat → List Int32) (r z : Int32) : Int32 × (Nat → List Int32) :=
  if rIn r 10 ∧ vSd A z then (if (R r.toNatClampNeg).length = 60 then (-4, R) else (nI ((R r.toNatClampNeg).length + 1), va_up R r.toNatClampNeg (R r.toNatClampNeg ++ [z]))) else (-2, R)
def pEmpty (R : Nat → List Int32) (r : Int32) : Int32 × (Nat → List Int32) :=
  if rIn r 10 then (nI (R r.toNatClampNeg).length, va_up R r.toNatClampNeg []) else (-2, R)
def pAt (R : Nat → List Int32) (r i : Int32) : Int32 :=
  if rIn r 10 then (if rIn i (R r.toNatClampNeg).length then gD (R r.toNatClampNeg) i.toNatClampNeg else -100) else -2
def pSame (E : Nat → Int32) (R : Nat → List Int32) (a b : Int32) : Int32 :=
  if tr E R a ∧ tr E R b then bI (R a.toNatClampNeg = R b.toNatClampNeg) else -2
def pSide (n : Nat) (R : Nat → List Int32) (k w to : Int32) : Int32 × (Nat → List Int32) :=
  if rIn k n ∧ rIn w 2 ∧ rIn to 10 then (nI (R ((if w = 0 then 10 else 18) + k.toNatClampNeg)).length, va_up R to.toNatClampNeg (R ((if w = 0 then 10 else 18) + k.toNatClampNeg))) else (-2, R)
def pRule2 (R : Nat → List Int32) (n q r : Nat) : Int32 := if lvs (R q) ≠ lvs (R r) then -3 else if n = 8 then -4 else nI n
def pRule (E : Nat → Int32) (R : Nat → List Int32) (n : Nat) (a b : Int32) : Int32 := if lf E R a ∧ tr E R b then pRule2 R n a.toNatClampNeg b.toNatClampNeg else -2
def pNought (E : Nat → Int32) (R : Nat → List Int32) (n : Nat) (a : Int32) : Int32 := if lf E R a then (if n = 8 then -4 else nI n) else -2
def uRule2 (v : Nat → Int32) (R : Nat → List Int32) (F : Nat → Nat → Int32) (G : Nat → Nat → Int64) (n q r : Nat) : MS :=
  if lvs (R q) = lvs (R r) ∧ n ≠ 8 then (va_up (va_up v 4 (nI (n + 1))) 6 (nI 0), va_up (va_up R (10 + n) (R q)) (18 + n) (R r), va_up F 4 (upd (F 4) n (nI 0)), G) else (v, R, F, G)
def uRule (v : Nat → Int32) (R : Nat → List Int32) (F : Nat → Nat → Int32) (G : Nat → Nat → Int64) (n : Nat) (a b : Int32) : MS :=
  if lf (F 1) R a ∧ tr (F 1) R b then uRule2 v R F G n a.toNatClampNeg b.toNatClampNeg else (v, R, F, G)
def uNought2 (v : Nat → Int32) (R : Nat → List Int32) (F : Nat → Nat → Int32) (G : Nat → Nat → Int64) (n q : Nat) : MS :=
  if n ≠ 8 then (va_up (va_up v 4 (nI (n + 1))) 6 (nI 0), va_up (va_up R (10 + n) (R q)) (18 + n) [], va_up F 4 (upd (F 4) n (nI 1)), G) else (v, R, F, G)
def uNought (v : Nat → Int32) (R : Nat → List Int32) (F : Nat → Nat → Int32) (G : Nat → Nat → Int64) (n : Nat) (a : Int32) : MS :=
  if lf (F 1) R a then uNought2 v R F G n a.toNatClampNeg else (v, R, F, G)
