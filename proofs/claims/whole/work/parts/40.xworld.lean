/-! the class's world: one object and all that hangs from it -/
def xRows (ad : Nat → Nat) (i : Nat) : Option Nat := if i < 10 then some (ad (58 + 2 * i)) else none
def xRules (ad : Nat → Nat) (i : Nat) : Option Nat := if i < 8 then some (ad (50 + i)) else none
def xNeeds (ad : Nat → Nat) (i : Nat) : Option Nat := if i < 3 then some (ad (17 + i)) else none
def xTals (ad : Nat → Nat) (i : Nat) : Option Nat := if i < 6 then some (ad (32 + i)) else none
def xPows (ad : Nat → Nat) (i : Nat) : Option Nat := if i < 7 then some (ad (25 + i)) else none
def wsX (aC : Nat → ClassId) (ad cap : Nat → Nat) (v Z : Nat → Int32) (S F : Nat → Nat → Int32) (G : Nat → Nat → Int64) : va_W :=
  [(ad 0, .inr (9, [.ref (ad 1), .ref (ad 2), .ref (ad 118), .ref (ad 3), .ref (ad 4), .ref (ad 5), .ref (ad 6), .ref (ad 7), .ref (ad 8), .int (v 2), .ref (ad 9), .int (v 3), .int (v 4), .int (v 5)])),
   (ad 1, .inr (8, [.ref (ad 10), .int (v 0), .ref (ad 11), .int (v 1)])),
   (ad 2, .inl (aC 3, 10, .inr (.inr (.inr (.inr (xRows ad)))))),
   (ad 3, .inr (6, [.ref (ad 12)])),
   (ad 4, .inr (2, [.ref (ad 13), .ref (ad 14), .ref (ad 114), .ref (ad 110), .ref (ad 116)])),
   (ad 5, .inr (1, [.ref (ad 112), .int (v 6), .int (v 7), .int (v 8), .int (v 9)])),
   (ad 6, .inr (0, [.ref (ad 15), .ref (ad 16), .int (v 10), .long (G 26 0), .ref (ad 20), .ref (ad 21)])),
   (ad 7, .inr (5, [.ref (ad 22), .ref (ad 23)])),
   (ad 8, .inl (aC 1, 7, .inr (.inl (G 0)))),
   (ad 9, .inl (aC 1, 7, .inr (.inl (G 1)))),
   (ad 10, .inl (aC 0, 4, .inl (F 0))),
   (ad 11, .inl (aC 4, 8, .inr (.inr (.inr (.inr (xRules ad)))))),
   (ad 12, .inl (aC 0, 60, .inl (F 1))),
   (ad 13, .inr (6, [.ref (ad 24)])),
   (ad 14, .inl (aC 0, 60, .inl (F 3))),
   (ad 15, .inl (aC 0, 36, .inl (F 4))),
   (ad 16, .inl (aC 6, 3, .inr (.inr (.inr (.inr (xNeeds ad)))))),
   (ad 17, .inl (aC 1, 36, .inr (.inl (G 3)))),
   (ad 18, .inl (aC 1, 36, .inr (.inl (G 4)))),
   (ad 19, .inl (aC 1, 36, .inr (.inl (G 5)))),
   (ad 20, .inl (aC 1, 60, .inr (.inl (G 2)))),
   (ad 21, .inl (aC 5, 6, .inr (.inr (.inr (.inr (xTals ad)))))),
   (ad 22, .inl (aC 1, 7, .inr (.inl (G 6)))),
   (ad 23, .inl (aC 6, 7, .inr (.inr (.inr (.inr (xPows ad)))))),
   (ad 24, .inl (aC 0, 60, .inl (F 2))),
   (ad 25, .inl (aC 1, 7, .inr (.inl (G 7)))),
   (ad 26, .inl (aC 1, 7, .inr (.inl (G 8)))),
   (ad 27, .inl (aC 1, 7, .inr (.inl (G 9)))),
   (ad 28, .inl (aC 1, 7, .inr (.inl (G 10)))),
   (ad 29, .inl (aC 1, 7, .inr (.inl (G 11)))),
   (ad 30, .inl (aC 1, 7, .inr (.inl (G 12)))),
   (ad 31, .inl (aC 1, 7, .inr (.inl (G 13)))),
   (ad 32, .inr (7, [.ref (ad 38), .ref (ad 39), .int (v 11)])),
   (ad 33, .inr (7, [.ref (ad 40), .ref (ad 41), .int (v 12)])),
   (ad 34, .inr (7, [.ref (ad 42), .ref (ad 43), .int (v 13)])),
   (ad 35, .inr (7, [.ref (ad 44), .ref (ad 45), .int (v 14)])),
   (ad 36, .inr (7, [.ref (ad 46), .ref (ad 47), .int (v 15)])),
   (ad 37, .inr (7, [.ref (ad 48), .ref (ad 49), .int (v 16)])),
   (ad 38, .inl (aC 1, cap 0, .inr (.inl (G 14)))),
   (ad 39, .inl (aC 1, cap 0, .inr (.inl (G 15)))),
   (ad 40, .inl (aC 1, cap 1, .inr (.inl (G 16)))),
   (ad 41, .inl (aC 1, cap 1, .inr (.inl (G 17)))),
   (ad 42, .inl (aC 1, cap 2, .inr (.inl (G 18)))),
   (ad 43, .inl (aC 1, cap 2, .inr (.inl (G 19)))),
   (ad 44, .inl (aC 1, cap 3, .inr (.inl (G 20)))),
   (ad 45, .inl (aC 1, cap 3, .inr (.inl (G 21)))),
   (ad 46, .inl (aC 1, cap 4, .inr (.inl (G 22)))),
   (ad 47, .inl (aC 1, cap 4, .inr (.inl (G 23)))),
   (ad 48, .inl (aC 1, cap 5, .inr (.inl (G 24)))),
   (ad 49, .inl (aC 1, cap 5, .inr (.inl (G 25)))),
   (ad 50, .inr (4, [.ref (ad 78), .ref (ad 94), .int (v 17)])),
   (ad 51, .inr (4, [.ref (ad 80), .ref (ad 96), .int (v 18)])),
   (ad 52, .inr (4, [.ref (ad 82), .ref (ad 98), .int (v 19)])),
   (ad 53, .inr (4, [.ref (ad 84), .ref (ad 100), .int (v 20)])),
   (ad 54, .inr (4, [.ref (ad 86), .ref (ad 102), .int (v 21)])),
   (ad 55, .inr (4, [.ref (ad 88), .ref (ad 104), .int (v 22)])),
   (ad 56, .inr (4, [.ref (ad 90), .ref (ad 106), .int (v 23)])),
   (ad 57, .inr (4, [.ref (ad 92), .ref (ad 108), .int (v 24)])),
   (ad 58, .inr (3, [.ref (ad 59), .int (Z 0)])),
   (ad 59, .inl (aC 0, 60, .inl (S 0))),
   (ad 60, .inr (3, [.ref (ad 61), .int (Z 1)])),
   (ad 61, .inl (aC 0, 60, .inl (S 1))),
   (ad 62, .inr (3, [.ref (ad 63), .int (Z 2)])),
   (ad 63, .inl (aC 0, 60, .inl (S 2))),
   (ad 64, .inr (3, [.ref (ad 65), .int (Z 3)])),
   (ad 65, .inl (aC 0, 60, .inl (S 3))),
   (ad 66, .inr (3, [.ref (ad 67), .int (Z 4)])),
   (ad 67, .inl (aC 0, 60, .inl (S 4))),
   (ad 68, .inr (3, [.ref (ad 69), .int (Z 5)])),
   (ad 69, .inl (aC 0, 60, .inl (S 5))),
   (ad 70, .inr (3, [.ref (ad 71), .int (Z 6)])),
   (ad 71, .inl (aC 0, 60, .inl (S 6))),
   (ad 72, .inr (3, [.ref (ad 73), .int (Z 7)])),
   (ad 73, .inl (aC 0, 60, .inl (S 7))),
   (ad 74, .inr (3, [.ref (ad 75), .int (Z 8)])),
   (ad 75, .inl (aC 0, 60, .inl (S 8))),
   (ad 76, .inr (3, [.ref (ad 77), .int (Z 9)])),
   (ad 77, .inl (aC 0, 60, .inl (S 9))),
   (ad 78, .inr (3, [.ref (ad 79), .int (Z 10)])),
   (ad 79, .inl (aC 0, 60, .inl (S 10))),
   (ad 80, .inr (3, [.ref (ad 81), .int (Z 11)])),
   (ad 81, .inl (aC 0, 60, .inl (S 11))),
   (ad 82, .inr (3, [.ref (ad 83), .int (Z 12)])),
   (ad 83, .inl (aC 0, 60, .inl (S 12))),
   (ad 84, .inr (3, [.ref (ad 85), .int (Z 13)])),
   (ad 85, .inl (aC 0, 60, .inl (S 13))),
   (ad 86, .inr (3, [.ref (ad 87), .int (Z 14)])),
   (ad 87, .inl (aC 0, 60, .inl (S 14))),
   (ad 88, .inr (3, [.ref (ad 89), .int (Z 15)])),
   (ad 89, .inl (aC 0, 60, .inl (S 15))),
   (ad 90, .inr (3, [.ref (ad 91), .int (Z 16)])),
   (ad 91, .inl (aC 0, 60, .inl (S 16))),
   (ad 92, .inr (3, [.ref (ad 93), .int (Z 17)])),
   (ad 93, .inl (aC 0, 60, .inl (S 17))),
   (ad 94, .inr (3, [.ref (ad 95), .int (Z 18)])),
   (ad 95, .inl (aC 0, 60, .inl (S 18))),
   (ad 96, .inr (3, [.ref (ad 97), .int (Z 19)])),
   (ad 97, .inl (aC 0, 60, .inl (S 19))),
   (ad 98, .inr (3, [.ref (ad 99), .int (Z 20)])),
   (ad 99, .inl (aC 0, 60, .inl (S 20))),
   (ad 100, .inr (3, [.ref (ad 101), .int (Z 21)])),
   (ad 101, .inl (aC 0, 60, .inl (S 21))),
   (ad 102, .inr (3, [.ref (ad 103), .int (Z 22)])),
   (ad 103, .inl (aC 0, 60, .inl (S 22))),
   (ad 104, .inr (3, [.ref (ad 105), .int (Z 23)])),
   (ad 105, .inl (aC 0, 60, .inl (S 23))),
   (ad 106, .inr (3, [.ref (ad 107), .int (Z 24)])),
   (ad 107, .inl (aC 0, 60, .inl (S 24))),
   (ad 108, .inr (3, [.ref (ad 109), .int (Z 25)])),
   (ad 109, .inl (aC 0, 60, .inl (S 25))),
   (ad 110, .inr (3, [.ref (ad 111), .int (Z 26)])),
   (ad 111, .inl (aC 0, 60, .inl (S 26))),
   (ad 112, .inr (3, [.ref (ad 113), .int (Z 27)])),
   (ad 113, .inl (aC 0, 60, .inl (S 27))),
   (ad 114, .inr (3, [.ref (ad 115), .int (Z 28)])),
   (ad 115, .inl (aC 0, 60, .inl (S 28))),
   (ad 116, .inr (3, [.ref (ad 117), .int (Z 29)])),
   (ad 117, .inl (aC 0, 60, .inl (S 29))),
   (ad 118, .inr (3, [.ref (ad 119), .int (Z 30)])),
   (ad 119, .inl (aC 0, 60, .inl (S 30)))]
def xOK (Z : Nat → Int32) (S : Nat → Nat → Int32) (R : Nat → List Int32) : Prop := ∀ k, k < 31 → (R k).length ≤ 60 ∧ Z k = nI (R k).length ∧ ∀ i, i < (R k).length → S k i = gD (R k) i
def xA (ad : Nat → Nat) : Nat → Prop := fun q => ∃ n, n < 120 ∧ q = ad n
def xI (ad : Nat → Nat) : Prop := ∀ i j, i < 120 → j < 120 → ad i = ad j → i = j
def XB (dC : Nat → ClassId) (dI : Nat → Nat → Nat) (aC : Nat → ClassId) (ad cap : Nat → Nat) (u : MS) (U : State) : Prop := va_K (dC, dI) vwCl (gT aC) U ∧ ∃ Z S, xOK Z S u.2.1 ∧ va_P (dC, dI) vwCl (wsX aC ad cap u.1 Z S u.2.2.1 u.2.2.2) U.heap
theorem XB_blind {dC : Nat → ClassId} {dI : Nat → Nat → Nat} {aC : Nat → ClassId} {ad cap : Nat → Nat} {av : List Value} {u : MS} : FrameBlind (va_Pc av (XB dC dI aC ad cap u)) := fun a U g mk q => ⟨q.1, va_K.moved (u := U) (U := U.calling g mk a) (Vm.Alike.refl U.vm) q.2.1, q.2.2⟩
theorem wsX_D {aC : Nat → ClassId} {ad cap : Nat → Nat} {v Z : Nat → Int32} {S F : Nat → Nat → Int32} {G : Nat → Nat → Int64} (hI : xI ad) : va_D (xA ad) (wsX aC ad cap v Z S F G) := ws_D (N := 120) rfl hI (fun n h => ⟨n, h, rfl⟩)
theorem xw_ro {aC : Nat → ClassId} {ad cap : Nat → Nat} {v Z : Nat → Int32} {S F : Nat → Nat → Int32} {G : Nat → Nat → Int64} : ∀ k, k < 31 → (wsX aC ad cap v Z S F G)[58 + 2 * k]? = some (ad (58 + 2 * k), .inr (3, [.ref (ad (59 + 2 * k)), .int (Z k)]))
  | 0, _ => rfl
  | 1, _ => rfl
  | 2, _ => rfl
  | 3, _ => rfl
  | 4, _ => rfl
  | 5, _ => rfl
  | 6, _ => rfl
  | 7, _ => rfl
  | 8, _ => rfl
  | 9, _ => rfl
  | 10, _ => rfl
  | 11, _ => rfl
  | 12, _ => rfl
  | 13, _ => rfl
  | 14, _ => rfl
  | 15, _ => rfl
  | 16, _ => rfl
  | 17, _ => rfl
  | 18, _ => rfl
  | 19, _ => rfl
  | 20, _ => rfl
  | 21, _ => rfl
  | 22, _ => rfl
  | 23, _ => rfl
  | 24, _ => rfl
  | 25, _ => rfl
  | 26, _ => rfl
  | 27, _ => rfl
  | 28, _ => rfl
  | 29, _ => rfl
  | 30, _ => rfl
  | k + 31, h => absurd h (by omega)
theorem xw_ra {aC : Nat → ClassId} {ad cap : Nat → Nat} {v Z : Nat → Int32} {S F : Nat → Nat → Int32} {G : Nat → Nat → Int64} : ∀ k, k < 31 → (wsX aC ad cap v Z S F G)[59 + 2 * k]? = some (ad (59 + 2 * k), .inl (aC 0, 60, .inl (S k)))
  | 0, _ => rfl
  | 1, _ => rfl
  | 2, _ => rfl
  | 3, _ => rfl
  | 4, _ => rfl
  | 5, _ => rfl
  | 6, _ => rfl
  | 7, _ => rfl
  | 8, _ => rfl
  | 9, _ => rfl
  | 10, _ => rfl
  | 11, _ => rfl
  | 12, _ => rfl
  | 13, _ => rfl
  | 14, _ => rfl
  | 15, _ => rfl
  | 16, _ => rfl
  | 17, _ => rfl
  | 18, _ => rfl
  | 19, _ => rfl
  | 20, _ => rfl
  | 21, _ => rfl
  | 22, _ => rfl
  | 23, _ => rfl
  | 24, _ => rfl
  | 25, _ => rfl
  | 26, _ => rfl
  | 27, _ => rfl
  | 28, _ => rfl
  | 29, _ => rfl
  | 30, _ => rfl
  | k + 31, h => absurd h (by omega)
theorem xw_ru {aC : Nat → ClassId} {ad cap : Nat → Nat} {v Z : Nat → Int32} {S F : Nat → Nat → Int32} {G : Nat → Nat → Int64} : ∀ j, j < 8 → (wsX aC ad cap v Z S F G)[50 + j]? = some (ad (50 + j), .inr (4, [.ref (ad (58 + 2 * (10 + j))), .ref (ad (58 + 2 * (18 + j))), .int (v (17 + j))]))
  | 0, _ => rfl
  | 1, _ => rfl
  | 2, _ => rfl
  | 3, _ => rfl
  | 4, _ => rfl
  | 5, _ => rfl
  | 6, _ => rfl
  | 7, _ => rfl
  | j + 8, h => absurd h (by omega)
theorem xw_to {aC : Nat → ClassId} {ad cap : Nat → Nat} {v Z : Nat → Int32} {S F : Nat → Nat → Int32} {G : Nat → Nat → Int64} : ∀ j, j < 6 → (wsX aC ad cap v Z S F G)[32 + j]? = some (ad (32 + j), .inr (7, [.ref (ad (38 + 2 * j)), .ref (ad (39 + 2 * j)), .int (v (11 + j))]))
  | 0, _ => rfl
  | 1, _ => rfl
  | 2, _ => rfl
  | 3, _ => rfl
  | 4, _ => rfl
  | 5, _ => rfl
  | j + 6, h => absurd h (by omega)
theorem xw_tk {aC : Nat → ClassId} {ad cap : Nat → Nat} {v Z : Nat → Int32} {S F : Nat → Nat → Int32} {G : Nat → Nat → Int64} : ∀ j, j < 6 → (wsX aC ad cap v Z S F G)[38 + 2 * j]? = some (ad (38 + 2 * j), .inl (aC 1, cap j, .inr (.inl (G (14 + 2 * j)))))
  | 0, _ => rfl
  | 1, _ => rfl
  | 2, _ => rfl
  | 3, _ => rfl
  | 4, _ => rfl
  | 5, _ => rfl
  | j + 6, h => absurd h (by omega)
theorem xw_tt {aC : Nat → ClassId} {ad cap : Nat → Nat} {v Z : Nat → Int32} {S F : Nat → Nat → Int32} {G : Nat → Nat → Int64} : ∀ j, j < 6 → (wsX aC ad cap v Z S F G)[39 + 2 * j]? = some (ad (39 + 2 * j), .inl (aC 1, cap j, .inr (.inl (G (15 + 2 * j)))))
  | 0, _ => rfl
  | 1, _ => rfl
  | 2, _ => rfl
  | 3, _ => rfl
  | 4, _ => rfl
  | 5, _ => rfl
  | j + 6, h => absurd h (by omega)
theorem xw_nd {aC : Nat → ClassId} {ad cap : Nat → Nat} {v Z : Nat → Int32} {S F : Nat → Nat → Int32} {G : Nat → Nat → Int64} : ∀ k, k < 3 → (wsX aC ad cap v Z S F G)[17 + k]? = some (ad (17 + k), .inl (aC 1, 36, .inr (.inl (G (3 + k)))))
  | 0, _ => rfl
  | 1, _ => rfl
  | 2, _ => rfl
  | k + 3, h => absurd h (by omega)
theorem xw_pw {aC : Nat → ClassId} {ad cap : Nat → Nat} {v Z : Nat → Int32} {S F : Nat → Nat → Int32} {G : Nat → Nat → Int64} : ∀ k, k < 7 → (wsX aC ad cap v Z S F G)[25 + k]? = some (ad (25 + k), .inl (aC 1, 7, .inr (.inl (G (7 + k)))))
  | 0, _ => rfl
  | 1, _ => rfl
  | 2, _ => rfl
  | 3, _ => rfl
  | 4, _ => rfl
  | 5, _ => rfl
  | 6, _ => rfl
  | k + 7, h => absurd h (by omega)
theorem xs_len {aC : Nat → ClassId} {ad cap : Nat → Nat} {v Z : Nat → Int32} {S F : Nat → Nat → Int32} {G : Nat → Nat → Int64} {z : Int32} : ∀ k, k < 31 → (wsX aC ad cap v Z S F G).set (58 + 2 * k) (ad (58 + 2 * k), .inr (3, [.ref (ad (59 + 2 * k)), .int z])) = wsX aC ad cap v (va_up Z k z) S F G
  | 0, _ => rfl
  | 1, _ => rfl
  | 2, _ => rfl
  | 3, _ => rfl
  | 4, _ => rfl
  | 5, _ => rfl
  | 6, _ => rfl
  | 7, _ => rfl
  | 8, _ => rfl
  | 9, _ => rfl
  | 10, _ => rfl
  | 11, _ => rfl
  | 12, _ => rfl
  | 13, _ => rfl
  | 14, _ => rfl
  | 15, _ => rfl
  | 16, _ => rfl
  | 17, _ => rfl
  | 18, _ => rfl
  | 19, _ => rfl
  | 20, _ => rfl
  | 21, _ => rfl
  | 22, _ => rfl
  | 23, _ => rfl
  | 24, _ => rfl
  | 25, _ => rfl
  | 26, _ => rfl
  | 27, _ => rfl
  | 28, _ => rfl
  | 29, _ => rfl
  | 30, _ => rfl
  | k + 31, h => absurd h (by omega)
theorem xs_arr {aC : Nat → ClassId} {ad cap : Nat → Nat} {v Z : Nat → Int32} {S F : Nat → Nat → Int32} {G : Nat → Nat → Int64} {f : Nat → Int32} : ∀ k, k < 31 → (wsX aC ad cap v Z S F G).set (59 + 2 * k) (ad (59 + 2 * k), .inl (aC 0, 60, .inl f)) = wsX aC ad cap v Z (va_up S k f) F G
  | 0, _ => rfl
  | 1, _ => rfl
  | 2, _ => rfl
  | 3, _ => rfl
  | 4, _ => rfl
  | 5, _ => rfl
  | 6, _ => rfl
  | 7, _ => rfl
  | 8, _ => rfl
  | 9, _ => rfl
  | 10, _ => rfl
  | 11, _ => rfl
  | 12, _ => rfl
  | 13, _ => rfl
  | 14, _ => rfl
  | 15, _ => rfl
  | 16, _ => rfl
  | 17, _ => rfl
  | 18, _ => rfl
  | 19, _ => rfl
  | 20, _ => rfl
  | 21, _ => rfl
  | 22, _ => rfl
  | 23, _ => rfl
  | 24, _ => rfl
  | 25, _ => rfl
  | 26, _ => rfl
  | 27, _ => rfl
  | 28, _ => rfl
  | 29, _ => rfl
  | 30, _ => rfl
  | k + 31, h => absurd h (by omega)
theorem xs_rule {aC : Nat → ClassId} {ad cap : Nat → Nat} {v Z : Nat → Int32} {S F : Nat → Nat → Int32} {G : Nat → Nat → Int64} {z : Int32} : ∀ j, j < 8 → (wsX aC ad cap v Z S F G).set (50 + j) (ad (50 + j), .inr (4, [.ref (ad (58 + 2 * (10 + j))), .ref (ad (58 + 2 * (18 + j))), .int z])) = wsX aC ad cap (va_up v (17 + j) z) Z S F G
  | 0, _ => rfl
  | 1, _ => rfl
  | 2, _ => rfl
  | 3, _ => rfl
  | 4, _ => rfl
  | 5, _ => rfl
  | 6, _ => rfl
  | 7, _ => rfl
  | j + 8, h => absurd h (by omega)
theorem xs_tal {aC : Nat → ClassId} {ad cap : Nat → Nat} {v Z : Nat → Int32} {S F : Nat → Nat → Int32} {G : Nat → Nat → Int64} {z : Int32} : ∀ j, j < 6 → (wsX aC ad cap v Z S F G).set (32 + j) (ad (32 + j), .inr (7, [.ref (ad (38 + 2 * j)), .ref (ad (39 + 2 * j)), .int z])) = wsX aC ad cap (va_up v (11 + j) z) Z S F G
  | 0, _ => rfl
  | 1, _ => rfl
  | 2, _ => rfl
  | 3, _ => rfl
  | 4, _ => rfl
  | 5, _ => rfl
  | j + 6, h => absurd h (by omega)
theorem xs_tk {aC : Nat → ClassId} {ad cap : Nat → Nat} {v Z : Nat → Int32} {S F : Nat → Nat → Int32} {G : Nat → Nat → Int64} {f : Nat → Int64} : ∀ j, j < 6 → (wsX aC ad cap v Z S F G).set (38 + 2 * j) (ad (38 + 2 * j), .inl (aC 1, cap j, .inr (.inl f))) = wsX aC ad cap v Z S F (va_up G (14 + 2 * j) f)
  | 0, _ => rfl
  | 1, _ => rfl
  | 2, _ => rfl
  | 3, _ => rfl
  | 4, _ => rfl
  | 5, _ => rfl
  | j + 6, h => absurd h (by omega)
theorem xs_tt {aC : Nat → ClassId} {ad cap : Nat → Nat} {v Z : Nat → Int32} {S F : Nat → Nat → Int32} {G : Nat → Nat → Int64} {f : Nat → Int64} : ∀ j, j < 6 → (wsX aC ad cap v Z S F G).set (39 + 2 * j) (ad (39 + 2 * j), .inl (aC 1, cap j, .inr (.inl f))) = wsX aC ad cap v Z S F (va_up G (15 + 2 * j) f)
  | 0, _ => rfl
  | 1, _ => rfl
  | 2, _ => rfl
  | 3, _ => rfl
  | 4, _ => rfl
  | 5, _ => rfl
  | j + 6, h => absurd h (by omega)
theorem xs_nd {aC : Nat → ClassId} {ad cap : Nat → Nat} {v Z : Nat → Int32} {S F : Nat → Nat → Int32} {G : Nat → Nat → Int64} {f : Nat → Int64} : ∀ k, k < 3 → (wsX aC ad cap v Z S F G).set (17 + k) (ad (17 + k), .inl (aC 1, 36, .inr (.inl f))) = wsX aC ad cap v Z S F (va_up G (3 + k) f)
  | 0, _ => rfl
  | 1, _ => rfl
  | 2, _ => rfl
  | k + 3, h => absurd h (by omega)
theorem xs_pw {aC : Nat → ClassId} {ad cap : Nat → Nat} {v Z : Nat → Int32} {S F : Nat → Nat → Int32} {G : Nat → Nat → Int64} {f : Nat → Int64} : ∀ k, k < 7 → (wsX aC ad cap v Z S F G).set (25 + k) (ad (25 + k), .inl (aC 1, 7, .inr (.inl f))) = wsX aC ad cap v Z S F (va_up G (7 + k) f)
  | 0, _ => rfl
  | 1, _ => rfl
  | 2, _ => rfl
  | 3, _ => rfl
  | 4, _ => rfl
  | 5, _ => rfl
  | 6, _ => rfl
  | k + 7, h => absurd h (by omega)
theorem xOK_set {Z : Nat → Int32} {S : Nat → Nat → Int32} {R : Nat → List Int32} (h : xOK Z S R) {k : Nat} {l : List Int32} {f : Nat → Int32} {z : Int32} (hl : l.length ≤ 60) (hz : z = nI l.length) (hf : ∀ i, i < l.length → f i = gD l i) : xOK (va_up Z k z) (va_up S k f) (va_up R k l) := by
  intro j hj
  by_cases hjk : j = k
  · subst hjk
    rw [va_up_self, va_up_self, va_up_self]
    exact ⟨hl, hz, hf⟩
  · rw [upn hjk, upn hjk, upn hjk]
    exact h j hj
theorem xOK_len {Z : Nat → Int32} {S : Nat → Nat → Int32} {R : Nat → List Int32} (h : xOK Z S R) {k : Nat} {l : List Int32} {z : Int32} (hl : l.length ≤ 60) (hz : z = nI l.length) (hf : ∀ i, i < l.length → S k i = gD l i) : xOK (va_up Z k z) S (va_up R k l) := by
  have := xOK_set h (k := k) hl hz hf
  rwa [up_eta] at this
section XC
variable {p : Program} {l : Launch} {e : Env} {R : Room} {s : State} {m : MethodId} {args : Array Value} {below : List Frame} {meth : Method} {c : Code} {H : Heap} {locs : List Loc} {cells slots : Nat} {Q : State → Prop}
variable {cc : ByteArray} {pc : Nat} {ls : Array Slot} {rest st As : List Value} {H0 : Heap} {Ts ws : List Cond} {own C : String} {index n nL maxL b : Nat} {y : MethodName} {bytes : ByteArray} {ret : Option FieldType} {rm : Room}
variable {dC : Nat → ClassId} {dI : Nat → Nat → Nat} {aC : Nat → ClassId} {ad cap : Nat → Nat} {v Z : Nat → Int32} {S : Nat → Nat → Int32} {RR : Nat → List Int32} {F : Nat → Nat → Int32} {G : Nat → Nat → Int64}
theorem xPre {q0 ci : Nat} {qc : vw_C} {fs : List Value} (hc : vwCl[ci]? = some qc) (he : (wsX aC ad cap v Z S F G)[q0]? = some (b, .inr (ci, fs))) (hK : va_K (dC, dI) vwCl (gT aC) s) (hZ : xOK Z S RR) (hP : va_P (dC, dI) vwCl (wsX aC ad cap v Z S F G) H) : PreV s H qc.1 b (va_Pc (.ref b :: As) (XB dC dI aC ad cap (v, RR, F, G))) As :=
  ⟨XB_blind, va_recv (q0 := q0) (ci := ci) hK hP hc he, fun U hU hW => ⟨rfl, va_K.moved hW.alike hK, Z, S, hZ, by rw [hU]; exact hP⟩⟩
theorem xp_i {post : Int32 → Prop} (Sx : CallFix p m c cc nL s args Ts own) (hM : Met l y ws rm (va_Pc (.ref b :: As) (XB dC dI aC ad cap (v, RR, F, G))) (vp_Si post) 0 0 (fun _ => False)) (cw : CallW R s args own C index y bytes maxL ret ws rm 0 0 n) (hp : PreV s H C b (va_Pc (.ref b :: As) (XB dC dI aC ad cap (v, RR, F, G))) As)
    (hn : As.length = n) (hsize : ls.size = nL) (hst : st = As.reverse ++ .ref b :: rest) (hroom : (rest.map fun v => v.category).sum ≤ 8) (hdg : decode cc pc = .ok (.invokevirtual index, 3)) (hf : cells ≤ R.cells ∧ slots ≤ R.slots)
    (kk : ∀ r : Int32, post r → W p l e R s m args below meth c H locs cells slots Q (F0 m (pc + 3) ls (.int r :: rest))) : W p l e R s m args below meth c H locs cells slots Q (F0 m pc ls st) :=
  vp_callSi (W.runV Sx hM cw hp rfl hn hsize hst (lv_room hroom) hdg hf) kk
theorem xp_l {post : Int64 → Prop} (Sx : CallFix p m c cc nL s args Ts own) (hM : Met l y ws rm (va_Pc (.ref b :: As) (XB dC dI aC ad cap (v, RR, F, G))) (vp_Sl post) 0 0 (fun _ => False)) (cw : CallW R s args own C index y bytes maxL ret ws rm 0 0 n) (hp : PreV s H C b (va_Pc (.ref b :: As) (XB dC dI aC ad cap (v, RR, F, G))) As)
    (hn : As.length = n) (hsize : ls.size = nL) (hst : st = As.reverse ++ .ref b :: rest) (hroom : (rest.map fun v => v.category).sum ≤ 8) (hdg : decode cc pc = .ok (.invokevirtual index, 3)) (hf : cells ≤ R.cells ∧ slots ≤ R.slots)
    (kk : ∀ r : Int64, post r → W p l e R s m args below meth c H locs cells slots Q (F0 m (pc + 3) ls (.long r :: rest))) : W p l e R s m args below meth c H locs cells slots Q (F0 m pc ls st) :=
  vp_callSl (W.runV Sx hM cw hp rfl hn hsize hst (lv_room hroom) hdg hf) kk
theorem xc_i {post : Int32 → MS → Prop} (Sx : CallFix p m c cc nL s args Ts own) (hM : Met l y ws rm (va_Pc (.ref b :: As) (XB dC dI aC ad cap (v, RR, F, G))) (va_Qi post (XB dC dI aC ad cap) (xA ad)) 0 0 (xA ad)) (cw : CallW R s args own C index y bytes maxL ret ws rm 0 0 n) (hp : PreV s H C b (va_Pc (.ref b :: As) (XB dC dI aC ad cap (v, RR, F, G))) As) (hS : va_S (xA ad) H0 H locs)
    (hn : As.length = n) (hsize : ls.size = nL) (hst : st = As.reverse ++ .ref b :: rest) (hroom : (rest.map fun v => v.category).sum ≤ 8) (hdg : decode cc pc = .ok (.invokevirtual index, 3)) (hf : cells ≤ R.cells ∧ slots ≤ R.slots)
    (kk : ∀ (r : Int32) (v1 : Nat → Int32) (R1 : Nat → List Int32) (F1 : Nat → Nat → Int32) (G1 : Nat → Nat → Int64) (Z1 : Nat → Int32) (S1 : Nat → Nat → Int32) (H1 : Heap) (locs1 : List Loc), post r (v1, R1, F1, G1) → xOK Z1 S1 R1 → va_P (dC, dI) vwCl (wsX aC ad cap v1 Z1 S1 F1 G1) H1 → va_S (xA ad) H0 H1 locs1 → W p l e R s m args below meth c H1 locs1 cells slots Q (F0 m (pc + 3) ls (.int r :: rest))) : W p l e R s m args below meth c H locs cells slots Q (F0 m pc ls st) :=
  va_calli (va_runV Sx hM cw hp rfl hn hsize hst (lv_room hroom) hdg hf) hS (fun _ _ h => h) (fun _ h => h) (fun r u t H1 locs1 ht hvm hw hB _ _ hS => by
    obtain ⟨v1, R1, F1, G1⟩ := u
    obtain ⟨-, Z1, S1, h1, h2⟩ := hB
    rw [ht] at h2
    exact kk r v1 R1 F1 G1 Z1 S1 H1 locs1 hw h1 h2 hS)
theorem xc_v {post : MS → Prop} (Sx : CallFix p m c cc nL s args Ts own) (hM : Met l y ws rm (va_Pc (.ref b :: As) (XB dC dI aC ad cap (v, RR, F, G))) (va_Qv post (XB dC dI aC ad cap) (xA ad)) 0 0 (xA ad)) (cw : CallW R s args own C index y bytes maxL ret ws rm 0 0 n) (hp : PreV s H C b (va_Pc (.ref b :: As) (XB dC dI aC ad cap (v, RR, F, G))) As) (hS : va_S (xA ad) H0 H locs)
    (hn : As.length = n) (hsize : ls.size = nL) (hst : st = As.reverse ++ .ref b :: rest) (hroom : (rest.map fun v => v.category).sum ≤ 8) (hdg : decode cc pc = .ok (.invokevirtual index, 3)) (hf : cells ≤ R.cells ∧ slots ≤ R.slots)
    (kk : ∀ (v1 : Nat → Int32) (R1 : Nat → List Int32) (F1 : Nat → Nat → Int32) (G1 : Nat → Nat → Int64) (Z1 : Nat → Int32) (S1 : Nat → Nat → Int32) (H1 : Heap) (locs1 : List Loc), post (v1, R1, F1, G1) → xOK Z1 S1 R1 → va_P (dC, dI) vwCl (wsX aC ad cap v1 Z1 S1 F1 G1) H1 → va_S (xA ad) H0 H1 locs1 → W p l e R s m args below meth c H1 locs1 cells slots Q (F0 m (pc + 3) ls rest)) : W p l e R s m args below meth c H locs cells slots Q (F0 m pc ls st) :=
  va_callv (va_runV Sx hM cw hp rfl hn hsize hst (lv_room hroom) hdg hf) hS (fun _ _ h => h) (fun _ h => h) (fun u t H1 locs1 ht hvm hw hB _ _ hS => by
    obtain ⟨v1, R1, F1, G1⟩ := u
    obtain ⟨-, Z1, S1, h1, h2⟩ := hB
    rw [ht] at h2
    exact kk v1 R1 F1 G1 Z1 S1 H1 locs1 hw h1 h2 hS)
theorem xc_l {post : Int64 → MS → Prop} (Sx : CallFix p m c cc nL s args Ts own) (hM : Met l y ws rm (va_Pc (.ref b :: As) (XB dC dI aC ad cap (v, RR, F, G))) (va_Ql post (XB dC dI aC ad cap) (xA ad)) 0 0 (xA ad)) (cw : CallW R s args own C index y bytes maxL ret ws rm 0 0 n) (hp : PreV s H C b (va_Pc (.ref b :: As) (XB dC dI aC ad cap (v, RR, F, G))) As) (hS : va_S (xA ad) H0 H locs)
    (hn : As.length = n) (hsize : ls.size = nL) (hst : st = As.reverse ++ .ref b :: rest) (hroom : (rest.map fun v => v.category).sum ≤ 8) (hdg : decode cc pc = .ok (.invokevirtual index, 3)) (hf : cells ≤ R.cells ∧ slots ≤ R.slots)
    (kk : ∀ (r : Int64) (v1 : Nat → Int32) (R1 : Nat → List Int32) (F1 : Nat → Nat → Int32) (G1 : Nat → Nat → Int64) (Z1 : Nat → Int32) (S1 : Nat → Nat → Int32) (H1 : Heap) (locs1 : List Loc), post r (v1, R1, F1, G1) → xOK Z1 S1 R1 → va_P (dC, dI) vwCl (wsX aC ad cap v1 Z1 S1 F1 G1) H1 → va_S (xA ad) H0 H1 locs1 → W p l e R s m args below meth c H1 locs1 cells slots Q (F0 m (pc + 3) ls (.long r :: rest))) : W p l e R s m args below meth c H locs cells slots Q (F0 m pc ls st) :=
  va_calll (va_runV Sx hM cw hp rfl hn hsize hst (lv_room hroom) hdg hf) hS (fun _ _ h => h) (fun _ h => h) (fun r u t H1 locs1 ht hvm hw hB _ _ hS => by
    obtain ⟨v1, R1, F1, G1⟩ := u
    obtain ⟨-, Z1, S1, h1, h2⟩ := hB
    rw [ht] at h2
    exact kk r v1 R1 F1 G1 Z1 S1 H1 locs1 hw h1 h2 hS)
end XC
