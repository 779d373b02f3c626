def zRg (I : zStore) : Prop := ∀ k i, -2147483648 ≤ I k i ∧ I k i < 2147483648
theorem zRg_up {I : zStore} {k : Nat} {i v : Int} (h : zRg I) (hv : -2147483648 ≤ v ∧ v < 2147483648) : zRg (zup I k i v) := by
  intro a b
  unfold zup
  split
  · exact hv
  · exact h a b
theorem zup_self (I : zStore) (k : Nat) (i : Int) : zup I k i (I k i) = I := by
  funext a b
  unfold zup
  split
  · next h => rw [h.1, h.2]
  · rfl
/-! the layout of both systems, by places in the order in which they are made: 0 LineLearner .. 109, 110 LineLearnerModel .. 128, 129 the law's row -/
def zlayT : List zSpec := [.inl (3, [some (some 1), none, some (some 2), some (some 10), some (some 15), some (some 22), some (some 23), none, none, some (some 24), some (some 25)]), .inr (.inl (1, 30)), .inl (2, [none, some (some 3), some (some 4), some (some 5), some (some 6), some (some 7), some (some 8), some (some 9)]), .inr (.inl (0, 12)), .inr (.inl (0, 12)), .inr (.inl (1, 360)), .inr (.inl (0, 360)), .inr (.inl (0, 360)), .inr (.inl (0, 360)), .inr (.inl (0, 360)), .inl (0, [some (some 2), none, none, none, some (some 11), some (some 12), none, none, some (some 13), some (some 14)]), .inr (.inl (0, 1271)), .inr (.inl (0, 70)), .inr (.inl (0, 30)), .inr (.inl (2, 31)), .inl (1, [none, none, some (some 16), some (some 17), some (some 18), some (some 19), some (some 20), some (some 21)]), .inr (.inl (0, 40)), .inr (.inl (0, 40)), .inr (.inl (0, 40)), .inr (.inl (0, 40)), .inr (.inl (0, 40)), .inr (.inl (0, 40)), .inr (.inl (2, 12)), .inr (.inl (0, 360)), .inr (.inl (0, 12)), .inr (.inr [some 26, some 33, some 40, some 47, some 54, some 61, some 68, some 75, some 82, some 89, some 96, some 103]), .inl (1, [none, none, some (some 27), some (some 28), some (some 29), some (some 30), some (some 31), some (some 32)]), .inr (.inl (0, 40)), .inr (.inl (0, 40)), .inr (.inl (0, 40)), .inr (.inl (0, 40)), .inr (.inl (0, 40)), .inr (.inl (0, 40)), .inl (1, [none, none, some (some 34), some (some 35), some (some 36), some (some 37), some (some 38), some (some 39)]), .inr (.inl (0, 40)), .inr (.inl (0, 40)), .inr (.inl (0, 40)), .inr (.inl (0, 40)), .inr (.inl (0, 40)), .inr (.inl (0, 40)), .inl (1, [none, none, some (some 41), some (some 42), some (some 43), some (some 44), some (some 45), some (some 46)]), .inr (.inl (0, 40)), .inr (.inl (0, 40)), .inr (.inl (0, 40)), .inr (.inl (0, 40)), .inr (.inl (0, 40)), .inr (.inl (0, 40)), .inl (1, [none, none, some (some 48), some (some 49), some (some 50), some (some 51), some (some 52), some (some 53)]), .inr (.inl (0, 40)), .inr (.inl (0, 40)), .inr (.inl (0, 40)), .inr (.inl (0, 40)), .inr (.inl (0, 40)), .inr (.inl (0, 40)), .inl (1, [none, none, some (some 55), some (some 56), some (some 57), some (some 58), some (some 59), some (some 60)]), .inr (.inl (0, 40)), .inr (.inl (0, 40)), .inr (.inl (0, 40)), .inr (.inl (0, 40)), .inr (.inl (0, 40)), .inr (.inl (0, 40)), .inl (1, [none, none, some (some 62), some (some 63), some (some 64), some (some 65), some (some 66), some (some 67)]), .inr (.inl (0, 40)), .inr (.inl (0, 40)), .inr (.inl (0, 40)), .inr (.inl (0, 40)), .inr (.inl (0, 40)), .inr (.inl (0, 40)), .inl (1, [none, none, some (some 69), some (some 70), some (some 71), some (some 72), some (some 73), some (some 74)]), .inr (.inl (0, 40)), .inr (.inl (0, 40)), .inr (.inl (0, 40)), .inr (.inl (0, 40)), .inr (.inl (0, 40)), .inr (.inl (0, 40)), .inl (1, [none, none, some (some 76), some (some 77), some (some 78), some (some 79), some (some 80), some (some 81)]), .inr (.inl (0, 40)), .inr (.inl (0, 40)), .inr (.inl (0, 40)), .inr (.inl (0, 40)), .inr (.inl (0, 40)), .inr (.inl (0, 40)), .inl (1, [none, none, some (some 83), some (some 84), some (some 85), some (some 86), some (some 87), some (some 88)]), .inr (.inl (0, 40)), .inr (.inl (0, 40)), .inr (.inl (0, 40)), .inr (.inl (0, 40)), .inr (.inl (0, 40)), .inr (.inl (0, 40)), .inl (1, [none, none, some (some 90), some (some 91), some (some 92), some (some 93), some (some 94), some (some 95)]), .inr (.inl (0, 40)), .inr (.inl (0, 40)), .inr (.inl (0, 40)), .inr (.inl (0, 40)), .inr (.inl (0, 40)), .inr (.inl (0, 40)), .inl (1, [none, none, some (some 97), some (some 98), some (some 99), some (some 100), some (some 101), some (some 102)]), .inr (.inl (0, 40)), .inr (.inl (0, 40)), .inr (.inl (0, 40)), .inr (.inl (0, 40)), .inr (.inl (0, 40)), .inr (.inl (0, 40)), .inl (1, [none, none, some (some 104), some (some 105), some (some 106), some (some 107), some (some 108), some (some 109)]), .inr (.inl (0, 40)), .inr (.inl (0, 40)), .inr (.inl (0, 40)), .inr (.inl (0, 40)), .inr (.inl (0, 40)), .inr (.inl (0, 40)), .inl (4, [none, none, some (some 111), none, some (some 112), some (some 113), some (some 114), some (some 115), some (some 116), some (some 117), none, none, none, some (some 118), some (some 119), some (some 120), some (some 121), some (some 122), none, none, some (some 123), some (some 124), none, some (some 125), some (some 126), some (some 127), some (some 128)]), .inr (.inl (0, 30)), .inr (.inl (0, 12)), .inr (.inl (0, 360)), .inr (.inl (0, 12)), .inr (.inl (0, 360)), .inr (.inl (0, 360)), .inr (.inl (0, 360)), .inr (.inl (0, 13)), .inr (.inl (0, 13)), .inr (.inl (0, 520)), .inr (.inl (0, 520)), .inr (.inl (0, 6240)), .inr (.inl (0, 12)), .inr (.inl (0, 1271)), .inr (.inl (0, 70)), .inr (.inl (0, 40)), .inr (.inl (0, 40)), .inr (.inl (0, 480)), .inr (.inl (3, 1))]
def zlay (k : Nat) : zSpec := zlayT.getD k (.inr (.inr []))
/-- the class's places are there -/
def zLay (F : zFr) : Prop := 110 ≤ F.2.1 ∧ ∀ k, k < 110 → F.2.2 k = zlay k
/-- the model's places too -/
def zLayM (F : zFr) : Prop := 129 ≤ F.2.1 ∧ ∀ k, k < 129 → F.2.2 k = zlay k
theorem zLayM.c {F : zFr} (h : zLayM F) : zLay F := ⟨Nat.le_trans (by decide) h.1, fun k hk => h.2 k (Nat.lt_trans hk (by decide))⟩
theorem zlt {F : zFr} (h : zLay F) {k : Nat} (hk : k < 110) : k < F.2.1 := Nat.lt_of_lt_of_le hk h.1
theorem zltM {F : zFr} (h : zLayM F) {k : Nat} (hk : k < 129) : k < F.2.1 := Nat.lt_of_lt_of_le hk h.1
theorem zl0 {F : zFr} (h : zLay F) : F.2.2 0 = .inl (3, [some (some 1), none, some (some 2), some (some 10), some (some 15), some (some 22), some (some 23), none, none, some (some 24), some (some 25)]) := (h.2 0 (by decide)).trans rfl
theorem zl1 {F : zFr} (h : zLay F) : F.2.2 1 = .inr (.inl (1, 30)) := (h.2 1 (by decide)).trans rfl
theorem zl2 {F : zFr} (h : zLay F) : F.2.2 2 = .inl (2, [none, some (some 3), some (some 4), some (some 5), some (some 6), some (some 7), some (some 8), some (some 9)]) := (h.2 2 (by decide)).trans rfl
theorem zl3 {F : zFr} (h : zLay F) : F.2.2 3 = .inr (.inl (0, 12)) := (h.2 3 (by decide)).trans rfl
theorem zl4 {F : zFr} (h : zLay F) : F.2.2 4 = .inr (.inl (0, 12)) := (h.2 4 (by decide)).trans rfl
theorem zl5 {F : zFr} (h : zLay F) : F.2.2 5 = .inr (.inl (1, 360)) := (h.2 5 (by decide)).trans rfl
theorem zl6 {F : zFr} (h : zLay F) : F.2.2 6 = .inr (.inl (0, 360)) := (h.2 6 (by decide)).trans rfl
theorem zl7 {F : zFr} (h : zLay F) : F.2.2 7 = .inr (.inl (0, 360)) := (h.2 7 (by decide)).trans rfl
theorem zl8 {F : zFr} (h : zLay F) : F.2.2 8 = .inr (.inl (0, 360)) := (h.2 8 (by decide)).trans rfl
theorem zl9 {F : zFr} (h : zLay F) : F.2.2 9 = .inr (.inl (0, 360)) := (h.2 9 (by decide)).trans rfl
theorem zl10 {F : zFr} (h : zLay F) : F.2.2 10 = .inl (0, [some (some 2), none, none, none, some (some 11), some (some 12), none, none, some (some 13), some (some 14)]) := (h.2 10 (by decide)).trans rfl
theorem zl11 {F : zFr} (h : zLay F) : F.2.2 11 = .inr (.inl (0, 1271)) := (h.2 11 (by decide)).trans rfl
theorem zl12 {F : zFr} (h : zLay F) : F.2.2 12 = .inr (.inl (0, 70)) := (h.2 12 (by decide)).trans rfl
theorem zl13 {F : zFr} (h : zLay F) : F.2.2 13 = .inr (.inl (0, 30)) := (h.2 13 (by decide)).trans rfl
theorem zl14 {F : zFr} (h : zLay F) : F.2.2 14 = .inr (.inl (2, 31)) := (h.2 14 (by decide)).trans rfl
theorem zl15 {F : zFr} (h : zLay F) : F.2.2 15 = .inl (1, [none, none, some (some 16), some (some 17), some (some 18), some (some 19), some (some 20), some (some 21)]) := (h.2 15 (by decide)).trans rfl
theorem zl16 {F : zFr} (h : zLay F) : F.2.2 16 = .inr (.inl (0, 40)) := (h.2 16 (by decide)).trans rfl
theorem zl17 {F : zFr} (h : zLay F) : F.2.2 17 = .inr (.inl (0, 40)) := (h.2 17 (by decide)).trans rfl
theorem zl18 {F : zFr} (h : zLay F) : F.2.2 18 = .inr (.inl (0, 40)) := (h.2 18 (by decide)).trans rfl
theorem zl19 {F : zFr} (h : zLay F) : F.2.2 19 = .inr (.inl (0, 40)) := (h.2 19 (by decide)).trans rfl
theorem zl20 {F : zFr} (h : zLay F) : F.2.2 20 = .inr (.inl (0, 40)) := (h.2 20 (by decide)).trans rfl
theorem zl21 {F : zFr} (h : zLay F) : F.2.2 21 = .inr (.inl (0, 40)) := (h.2 21 (by decide)).trans rfl
theorem zl22 {F : zFr} (h : zLay F) : F.2.2 22 = .inr (.inl (2, 12)) := (h.2 22 (by decide)).trans rfl
theorem zl23 {F : zFr} (h : zLay F) : F.2.2 23 = .inr (.inl (0, 360)) := (h.2 23 (by decide)).trans rfl
theorem zl24 {F : zFr} (h : zLay F) : F.2.2 24 = .inr (.inl (0, 12)) := (h.2 24 (by decide)).trans rfl
theorem zl25 {F : zFr} (h : zLay F) : F.2.2 25 = .inr (.inr [some 26, some 33, some 40, some 47, some 54, some 61, some 68, some 75, some 82, some 89, some 96, some 103]) := (h.2 25 (by decide)).trans rfl
theorem zl26 {F : zFr} (h : zLay F) : F.2.2 26 = .inl (1, [none, none, some (some 27), some (some 28), some (some 29), some (some 30), some (some 31), some (some 32)]) := (h.2 26 (by decide)).trans rfl
theorem zl27 {F : zFr} (h : zLay F) : F.2.2 27 = .inr (.inl (0, 40)) := (h.2 27 (by decide)).trans rfl
theorem zl28 {F : zFr} (h : zLay F) : F.2.2 28 = .inr (.inl (0, 40)) := (h.2 28 (by decide)).trans rfl
theorem zl29 {F : zFr} (h : zLay F) : F.2.2 29 = .inr (.inl (0, 40)) := (h.2 29 (by decide)).trans rfl
theorem zl30 {F : zFr} (h : zLay F) : F.2.2 30 = .inr (.inl (0, 40)) := (h.2 30 (by decide)).trans rfl
theorem zl31 {F : zFr} (h : zLay F) : F.2.2 31 = .inr (.inl (0, 40)) := (h.2 31 (by decide)).trans rfl
theorem zl32 {F : zFr} (h : zLay F) : F.2.2 32 = .inr (.inl (0, 40)) := (h.2 32 (by decide)).trans rfl
theorem zl33 {F : zFr} (h : zLay F) : F.2.2 33 = .inl (1, [none, none, some (some 34), some (some 35), some (some 36), some (some 37), some (some 38), some (some 39)]) := (h.2 33 (by decide)).trans rfl
theorem zl34 {F : zFr} (h : zLay F) : F.2.2 34 = .inr (.inl (0, 40)) := (h.2 34 (by decide)).trans rfl
theorem zl35 {F : zFr} (h : zLay F) : F.2.2 35 = .inr (.inl (0, 40)) := (h.2 35 (by decide)).trans rfl
theorem zl36 {F : zFr} (h : zLay F) : F.2.2 36 = .inr (.inl (0, 40)) := (h.2 36 (by decide)).trans rfl
theorem zl37 {F : zFr} (h : zLay F) : F.2.2 37 = .inr (.inl (0, 40)) := (h.2 37 (by decide)).trans rfl
theorem zl38 {F : zFr} (h : zLay F) : F.2.2 38 = .inr (.inl (0, 40)) := (h.2 38 (by decide)).trans rfl
theorem zl39 {F : zFr} (h : zLay F) : F.2.2 39 = .inr (.inl (0, 40)) := (h.2 39 (by decide)).trans rfl
theorem zl40 {F : zFr} (h : zLay F) : F.2.2 40 = .inl (1, [none, none, some (some 41), some (some 42), some (some 43), some (some 44), some (some 45), some (some 46)]) := (h.2 40 (by decide)).trans rfl
theorem zl41 {F : zFr} (h : zLay F) : F.2.2 41 = .inr (.inl (0, 40)) := (h.2 41 (by decide)).trans rfl
theorem zl42 {F : zFr} (h : zLay F) : F.2.2 42 = .inr (.inl (0, 40)) := (h.2 42 (by decide)).trans rfl
theorem zl43 {F : zFr} (h : zLay F) : F.2.2 43 = .inr (.inl (0, 40)) := (h.2 43 (by decide)).trans rfl
theorem zl44 {F : zFr} (h : zLay F) : F.2.2 44 = .inr (.inl (0, 40)) := (h.2 44 (by decide)).trans rfl
theorem zl45 {F : zFr} (h : zLay F) : F.2.2 45 = .inr (.inl (0, 40)) := (h.2 45 (by decide)).trans rfl
theorem zl46 {F : zFr} (h : zLay F) : F.2.2 46 = .inr (.inl (0, 40)) := (h.2 46 (by decide)).trans rfl
theorem zl47 {F : zFr} (h : zLay F) : F.2.2 47 = .inl (1, [none, none, some (some 48), some (some 49), some (some 50), some (some 51), some (some 52), some (some 53)]) := (h.2 47 (by decide)).trans rfl
theorem zl48 {F : zFr} (h : zLay F) : F.2.2 48 = .inr (.inl (0, 40)) := (h.2 48 (by decide)).trans rfl
theorem zl49 {F : zFr} (h : zLay F) : F.2.2 49 = .inr (.inl (0, 40)) := (h.2 49 (by decide)).trans rfl
theorem zl50 {F : zFr} (h : zLay F) : F.2.2 50 = .inr (.inl (0, 40)) := (h.2 50 (by decide)).trans rfl
theorem zl51 {F : zFr} (h : zLay F) : F.2.2 51 = .inr (.inl (0, 40)) := (h.2 51 (by decide)).trans rfl
theorem zl52 {F : zFr} (h : zLay F) : F.2.2 52 = .inr (.inl (0, 40)) := (h.2 52 (by decide)).trans rfl
theorem zl53 {F : zFr} (h : zLay F) : F.2.2 53 = .inr (.inl (0, 40)) := (h.2 53 (by decide)).trans rfl
theorem zl54 {F : zFr} (h : zLay F) : F.2.2 54 = .inl (1, [none, none, some (some 55), some (some 56), some (some 57), some (some 58), some (some 59), some (some 60)]) := (h.2 54 (by decide)).trans rfl
theorem zl55 {F : zFr} (h : zLay F) : F.2.2 55 = .inr (.inl (0, 40)) := (h.2 55 (by decide)).trans rfl
theorem zl56 {F : zFr} (h : zLay F) : F.2.2 56 = .inr (.inl (0, 40)) := (h.2 56 (by decide)).trans rfl
theorem zl57 {F : zFr} (h : zLay F) : F.2.2 57 = .inr (.inl (0, 40)) := (h.2 57 (by decide)).trans rfl
theorem zl58 {F : zFr} (h : zLay F) : F.2.2 58 = .inr (.inl (0, 40)) := (h.2 58 (by decide)).trans rfl
theorem zl59 {F : zFr} (h : zLay F) : F.2.2 59 = .inr (.inl (0, 40)) := (h.2 59 (by decide)).trans rfl
theorem zl60 {F : zFr} (h : zLay F) : F.2.2 60 = .inr (.inl (0, 40)) := (h.2 60 (by decide)).trans rfl
theorem zl61 {F : zFr} (h : zLay F) : F.2.2 61 = .inl (1, [none, none, some (some 62), some (some 63), some (some 64), some (some 65), some (some 66), some (some 67)]) := (h.2 61 (by decide)).trans rfl
theorem zl62 {F : zFr} (h : zLay F) : F.2.2 62 = .inr (.inl (0, 40)) := (h.2 62 (by decide)).trans rfl
theorem zl63 {F : zFr} (h : zLay F) : F.2.2 63 = .inr (.inl (0, 40)) := (h.2 63 (by decide)).trans rfl
theorem zl64 {F : zFr} (h : zLay F) : F.2.2 64 = .inr (.inl (0, 40)) := (h.2 64 (by decide)).trans rfl
theorem zl65 {F : zFr} (h : zLay F) : F.2.2 65 = .inr (.inl (0, 40)) := (h.2 65 (by decide)).trans rfl
theorem zl66 {F : zFr} (h : zLay F) : F.2.2 66 = .inr (.inl (0, 40)) := (h.2 66 (by decide)).trans rfl
theorem zl67 {F : zFr} (h : zLay F) : F.2.2 67 = .inr (.inl (0, 40)) := (h.2 67 (by decide)).trans rfl
theorem zl68 {F : zFr} (h : zLay F) : F.2.2 68 = .inl (1, [none, none, some (some 69), some (some 70), some (some 71), some (some 72), some (some 73), some (some 74)]) := (h.2 68 (by decide)).trans rfl
theorem zl69 {F : zFr} (h : zLay F) : F.2.2 69 = .inr (.inl (0, 40)) := (h.2 69 (by decide)).trans rfl
theorem zl70 {F : zFr} (h : zLay F) : F.2.2 70 = .inr (.inl (0, 40)) := (h.2 70 (by decide)).trans rfl
theorem zl71 {F : zFr} (h : zLay F) : F.2.2 71 = .inr (.inl (0, 40)) := (h.2 71 (by decide)).trans rfl
theorem zl72 {F : zFr} (h : zLay F) : F.2.2 72 = .inr (.inl (0, 40)) := (h.2 72 (by decide)).trans rfl
theorem zl73 {F : zFr} (h : zLay F) : F.2.2 73 = .inr (.inl (0, 40)) := (h.2 73 (by decide)).trans rfl
theorem zl74 {F : zFr} (h : zLay F) : F.2.2 74 = .inr (.inl (0, 40)) := (h.2 74 (by decide)).trans rfl
theorem zl75 {F : zFr} (h : zLay F) : F.2.2 75 = .inl (1, [none, none, some (some 76), some (some 77), some (some 78), some (some 79), some (some 80), some (some 81)]) := (h.2 75 (by decide)).trans rfl
theorem zl76 {F : zFr} (h : zLay F) : F.2.2 76 = .inr (.inl (0, 40)) := (h.2 76 (by decide)).trans rfl
theorem zl77 {F : zFr} (h : zLay F) : F.2.2 77 = .inr (.inl (0, 40)) := (h.2 77 (by decide)).trans rfl
theorem zl78 {F : zFr} (h : zLay F) : F.2.2 78 = .inr (.inl (0, 40)) := (h.2 78 (by decide)).trans rfl
theorem zl79 {F : zFr} (h : zLay F) : F.2.2 79 = .inr (.inl (0, 40)) := (h.2 79 (by decide)).trans rfl
theorem zl80 {F : zFr} (h : zLay F) : F.2.2 80 = .inr (.inl (0, 40)) := (h.2 80 (by decide)).trans rfl
theorem zl81 {F : zFr} (h : zLay F) : F.2.2 81 = .inr (.inl (0, 40)) := (h.2 81 (by decide)).trans rfl
theorem zl82 {F : zFr} (h : zLay F) : F.2.2 82 = .inl (1, [none, none, some (some 83), some (some 84), some (some 85), some (some 86), some (some 87), some (some 88)]) := (h.2 82 (by decide)).trans rfl
theorem zl83 {F : zFr} (h : zLay F) : F.2.2 83 = .inr (.inl (0, 40)) := (h.2 83 (by decide)).trans rfl
theorem zl84 {F : zFr} (h : zLay F) : F.2.2 84 = .inr (.inl (0, 40)) := (h.2 84 (by decide)).trans rfl
theorem zl85 {F : zFr} (h : zLay F) : F.2.2 85 = .inr (.inl (0, 40)) := (h.2 85 (by decide)).trans rfl
theorem zl86 {F : zFr} (h : zLay F) : F.2.2 86 = .inr (.inl (0, 40)) := (h.2 86 (by decide)).trans rfl
theorem zl87 {F : zFr} (h : zLay F) : F.2.2 87 = .inr (.inl (0, 40)) := (h.2 87 (by decide)).trans rfl
theorem zl88 {F : zFr} (h : zLay F) : F.2.2 88 = .inr (.inl (0, 40)) := (h.2 88 (by decide)).trans rfl
theorem zl89 {F : zFr} (h : zLay F) : F.2.2 89 = .inl (1, [none, none, some (some 90), some (some 91), some (some 92), some (some 93), some (some 94), some (some 95)]) := (h.2 89 (by decide)).trans rfl
theorem zl90 {F : zFr} (h : zLay F) : F.2.2 90 = .inr (.inl (0, 40)) := (h.2 90 (by decide)).trans rfl
theorem zl91 {F : zFr} (h : zLay F) : F.2.2 91 = .inr (.inl (0, 40)) := (h.2 91 (by decide)).trans rfl
theorem zl92 {F : zFr} (h : zLay F) : F.2.2 92 = .inr (.inl (0, 40)) := (h.2 92 (by decide)).trans rfl
theorem zl93 {F : zFr} (h : zLay F) : F.2.2 93 = .inr (.inl (0, 40)) := (h.2 93 (by decide)).trans rfl
theorem zl94 {F : zFr} (h : zLay F) : F.2.2 94 = .inr (.inl (0, 40)) := (h.2 94 (by decide)).trans rfl
theorem zl95 {F : zFr} (h : zLay F) : F.2.2 95 = .inr (.inl (0, 40)) := (h.2 95 (by decide)).trans rfl
theorem zl96 {F : zFr} (h : zLay F) : F.2.2 96 = .inl (1, [none, none, some (some 97), some (some 98), some (some 99), some (some 100), some (some 101), some (some 102)]) := (h.2 96 (by decide)).trans rfl
theorem zl97 {F : zFr} (h : zLay F) : F.2.2 97 = .inr (.inl (0, 40)) := (h.2 97 (by decide)).trans rfl
theorem zl98 {F : zFr} (h : zLay F) : F.2.2 98 = .inr (.inl (0, 40)) := (h.2 98 (by decide)).trans rfl
theorem zl99 {F : zFr} (h : zLay F) : F.2.2 99 = .inr (.inl (0, 40)) := (h.2 99 (by decide)).trans rfl
theorem zl100 {F : zFr} (h : zLay F) : F.2.2 100 = .inr (.inl (0, 40)) := (h.2 100 (by decide)).trans rfl
theorem zl101 {F : zFr} (h : zLay F) : F.2.2 101 = .inr (.inl (0, 40)) := (h.2 101 (by decide)).trans rfl
theorem zl102 {F : zFr} (h : zLay F) : F.2.2 102 = .inr (.inl (0, 40)) := (h.2 102 (by decide)).trans rfl
theorem zl103 {F : zFr} (h : zLay F) : F.2.2 103 = .inl (1, [none, none, some (some 104), some (some 105), some (some 106), some (some 107), some (some 108), some (some 109)]) := (h.2 103 (by decide)).trans rfl
theorem zl104 {F : zFr} (h : zLay F) : F.2.2 104 = .inr (.inl (0, 40)) := (h.2 104 (by decide)).trans rfl
theorem zl105 {F : zFr} (h : zLay F) : F.2.2 105 = .inr (.inl (0, 40)) := (h.2 105 (by decide)).trans rfl
theorem zl106 {F : zFr} (h : zLay F) : F.2.2 106 = .inr (.inl (0, 40)) := (h.2 106 (by decide)).trans rfl
theorem zl107 {F : zFr} (h : zLay F) : F.2.2 107 = .inr (.inl (0, 40)) := (h.2 107 (by decide)).trans rfl
theorem zl108 {F : zFr} (h : zLay F) : F.2.2 108 = .inr (.inl (0, 40)) := (h.2 108 (by decide)).trans rfl
theorem zl109 {F : zFr} (h : zLay F) : F.2.2 109 = .inr (.inl (0, 40)) := (h.2 109 (by decide)).trans rfl
theorem zl110 {F : zFr} (h : zLayM F) : F.2.2 110 = .inl (4, [none, none, some (some 111), none, some (some 112), some (some 113), some (some 114), some (some 115), some (some 116), some (some 117), none, none, none, some (some 118), some (some 119), some (some 120), some (some 121), some (some 122), none, none, some (some 123), some (some 124), none, some (some 125), some (some 126), some (some 127), some (some 128)]) := (h.2 110 (by decide)).trans rfl
theorem zl111 {F : zFr} (h : zLayM F) : F.2.2 111 = .inr (.inl (0, 30)) := (h.2 111 (by decide)).trans rfl
theorem zl112 {F : zFr} (h : zLayM F) : F.2.2 112 = .inr (.inl (0, 12)) := (h.2 112 (by decide)).trans rfl
theorem zl113 {F : zFr} (h : zLayM F) : F.2.2 113 = .inr (.inl (0, 360)) := (h.2 113 (by decide)).trans rfl
theorem zl114 {F : zFr} (h : zLayM F) : F.2.2 114 = .inr (.inl (0, 12)) := (h.2 114 (by decide)).trans rfl
theorem zl115 {F : zFr} (h : zLayM F) : F.2.2 115 = .inr (.inl (0, 360)) := (h.2 115 (by decide)).trans rfl
theorem zl116 {F : zFr} (h : zLayM F) : F.2.2 116 = .inr (.inl (0, 360)) := (h.2 116 (by decide)).trans rfl
theorem zl117 {F : zFr} (h : zLayM F) : F.2.2 117 = .inr (.inl (0, 360)) := (h.2 117 (by decide)).trans rfl
theorem zl118 {F : zFr} (h : zLayM F) : F.2.2 118 = .inr (.inl (0, 13)) := (h.2 118 (by decide)).trans rfl
theorem zl119 {F : zFr} (h : zLayM F) : F.2.2 119 = .inr (.inl (0, 13)) := (h.2 119 (by decide)).trans rfl
theorem zl120 {F : zFr} (h : zLayM F) : F.2.2 120 = .inr (.inl (0, 520)) := (h.2 120 (by decide)).trans rfl
theorem zl121 {F : zFr} (h : zLayM F) : F.2.2 121 = .inr (.inl (0, 520)) := (h.2 121 (by decide)).trans rfl
theorem zl122 {F : zFr} (h : zLayM F) : F.2.2 122 = .inr (.inl (0, 6240)) := (h.2 122 (by decide)).trans rfl
theorem zl123 {F : zFr} (h : zLayM F) : F.2.2 123 = .inr (.inl (0, 12)) := (h.2 123 (by decide)).trans rfl
theorem zl124 {F : zFr} (h : zLayM F) : F.2.2 124 = .inr (.inl (0, 1271)) := (h.2 124 (by decide)).trans rfl
theorem zl125 {F : zFr} (h : zLayM F) : F.2.2 125 = .inr (.inl (0, 70)) := (h.2 125 (by decide)).trans rfl
theorem zl126 {F : zFr} (h : zLayM F) : F.2.2 126 = .inr (.inl (0, 40)) := (h.2 126 (by decide)).trans rfl
theorem zl127 {F : zFr} (h : zLayM F) : F.2.2 127 = .inr (.inl (0, 40)) := (h.2 127 (by decide)).trans rfl
theorem zl128 {F : zFr} (h : zLayM F) : F.2.2 128 = .inr (.inl (0, 480)) := (h.2 128 (by decide)).trans rfl
/-- a format at b -/
def zFm (F : zFr) (b : Nat) : Prop := 15 ≤ b ∧ b + 6 < F.2.1 ∧ F.2.2 b = .inl (1, [none, none, some (some (b + 1)), some (some (b + 2)), some (some (b + 3)), some (some (b + 4)), some (some (b + 5)), some (some (b + 6))]) ∧ F.2.2 (b + 1) = .inr (.inl (0, 40)) ∧ F.2.2 (b + 2) = .inr (.inl (0, 40)) ∧ F.2.2 (b + 3) = .inr (.inl (0, 40)) ∧ F.2.2 (b + 4) = .inr (.inl (0, 40)) ∧ F.2.2 (b + 5) = .inr (.inl (0, 40)) ∧ F.2.2 (b + 6) = .inr (.inl (0, 40))
theorem zfN0 {F : zFr} {b : Nat} (h : zFm F b) : b < F.2.1 := by have := h.2.1; omega
theorem zf0 {F : zFr} {b : Nat} (h : zFm F b) : F.2.2 b = .inl (1, [none, none, some (some (b + 1)), some (some (b + 2)), some (some (b + 3)), some (some (b + 4)), some (some (b + 5)), some (some (b + 6))]) := h.2.2.1
theorem zfN1 {F : zFr} {b : Nat} (h : zFm F b) : b + 1 < F.2.1 := by have := h.2.1; omega
theorem zf1 {F : zFr} {b : Nat} (h : zFm F b) : F.2.2 (b + 1) = .inr (.inl (0, 40)) := h.2.2.2.1
theorem zfN2 {F : zFr} {b : Nat} (h : zFm F b) : b + 2 < F.2.1 := by have := h.2.1; omega
theorem zf2 {F : zFr} {b : Nat} (h : zFm F b) : F.2.2 (b + 2) = .inr (.inl (0, 40)) := h.2.2.2.2.1
theorem zfN3 {F : zFr} {b : Nat} (h : zFm F b) : b + 3 < F.2.1 := by have := h.2.1; omega
theorem zf3 {F : zFr} {b : Nat} (h : zFm F b) : F.2.2 (b + 3) = .inr (.inl (0, 40)) := h.2.2.2.2.2.1
theorem zfN4 {F : zFr} {b : Nat} (h : zFm F b) : b + 4 < F.2.1 := by have := h.2.1; omega
theorem zf4 {F : zFr} {b : Nat} (h : zFm F b) : F.2.2 (b + 4) = .inr (.inl (0, 40)) := h.2.2.2.2.2.2.1
theorem zfN5 {F : zFr} {b : Nat} (h : zFm F b) : b + 5 < F.2.1 := by have := h.2.1; omega
theorem zf5 {F : zFr} {b : Nat} (h : zFm F b) : F.2.2 (b + 5) = .inr (.inl (0, 40)) := h.2.2.2.2.2.2.2.1
theorem zfN6 {F : zFr} {b : Nat} (h : zFm F b) : b + 6 < F.2.1 := by have := h.2.1; omega
theorem zf6 {F : zFr} {b : Nat} (h : zFm F b) : F.2.2 (b + 6) = .inr (.inl (0, 40)) := h.2.2.2.2.2.2.2.2
theorem zFm.at {F : zFr} (h : zLay F) : zFm F 15 := ⟨by decide, zlt h (by decide), zl15 h, zl16 h, zl17 h, zl18 h, zl19 h, zl20 h, zl21 h⟩
theorem zFm.gr {F : zFr} (h : zLay F) : ∀ g, g < 12 → zFm F (26 + 7 * g)
  | 0, _ => ⟨by decide, zlt h (by decide), zl26 h, zl27 h, zl28 h, zl29 h, zl30 h, zl31 h, zl32 h⟩
  | 1, _ => ⟨by decide, zlt h (by decide), zl33 h, zl34 h, zl35 h, zl36 h, zl37 h, zl38 h, zl39 h⟩
  | 2, _ => ⟨by decide, zlt h (by decide), zl40 h, zl41 h, zl42 h, zl43 h, zl44 h, zl45 h, zl46 h⟩
  | 3, _ => ⟨by decide, zlt h (by decide), zl47 h, zl48 h, zl49 h, zl50 h, zl51 h, zl52 h, zl53 h⟩
  | 4, _ => ⟨by decide, zlt h (by decide), zl54 h, zl55 h, zl56 h, zl57 h, zl58 h, zl59 h, zl60 h⟩
  | 5, _ => ⟨by decide, zlt h (by decide), zl61 h, zl62 h, zl63 h, zl64 h, zl65 h, zl66 h, zl67 h⟩
  | 6, _ => ⟨by decide, zlt h (by decide), zl68 h, zl69 h, zl70 h, zl71 h, zl72 h, zl73 h, zl74 h⟩
  | 7, _ => ⟨by decide, zlt h (by decide), zl75 h, zl76 h, zl77 h, zl78 h, zl79 h, zl80 h, zl81 h⟩
  | 8, _ => ⟨by decide, zlt h (by decide), zl82 h, zl83 h, zl84 h, zl85 h, zl86 h, zl87 h, zl88 h⟩
  | 9, _ => ⟨by decide, zlt h (by decide), zl89 h, zl90 h, zl91 h, zl92 h, zl93 h, zl94 h, zl95 h⟩
  | 10, _ => ⟨by decide, zlt h (by decide), zl96 h, zl97 h, zl98 h, zl99 h, zl100 h, zl101 h, zl102 h⟩
  | 11, _ => ⟨by decide, zlt h (by decide), zl103 h, zl104 h, zl105 h, zl106 h, zl107 h, zl108 h, zl109 h⟩
  | n + 12, h => absurd h (by omega)
theorem hd_X0_init : zHead yX0_init cX0_init 2 1 none := ⟨kw74, kw3, by decide +kernel, by decide +kernel, by decide +kernel⟩
theorem hd_X0_takeCosts : zHead yX0_takeCosts cX0_takeCosts 5 3 (some .boolean) := ⟨kw483, kw3, by decide +kernel, by decide +kernel, by decide +kernel⟩
theorem hd_X0_leastCost : zHead yX0_leastCost cX0_leastCost 5 2 (some .int) := ⟨kw212, kw3, by decide +kernel, by decide +kernel, by decide +kernel⟩
theorem hd_X0_fillRow : zHead yX0_fillRow cX0_fillRow 12 3 none := ⟨kw216, kw3, by decide +kernel, by decide +kernel, by decide +kernel⟩
theorem hd_X0_skipCost : zHead yX0_skipCost cX0_skipCost 3 2 (some .int) := ⟨kw220, kw3, by decide +kernel, by decide +kernel, by decide +kernel⟩
theorem hd_X0_pairCost : zHead yX0_pairCost cX0_pairCost 4 3 (some .int) := ⟨kw234, kw3, by decide +kernel, by decide +kernel, by decide +kernel⟩
theorem hd_X0_align : zHead yX0_align cX0_align 8 2 (some .int) := ⟨kw495, kw3, by decide +kernel, by decide +kernel, by decide +kernel⟩
theorem hd_X0_lastStep : zHead yX0_lastStep cX0_lastStep 8 4 (some .int) := ⟨kw500, kw3, by decide +kernel, by decide +kernel, by decide +kernel⟩
theorem hd_X0_hasRoom : zHead yX0_hasRoom cX0_hasRoom 2 1 (some .boolean) := ⟨kw504, kw3, by decide +kernel, by decide +kernel, by decide +kernel⟩
theorem hd_X0_join : zHead yX0_join cX0_join 8 2 none := ⟨kw509, kw3, by decide +kernel, by decide +kernel, by decide +kernel⟩
theorem hd_X0_isMatch : zHead yX0_isMatch cX0_isMatch 8 2 (some .boolean) := ⟨kw544, kw3, by decide +kernel, by decide +kernel, by decide +kernel⟩
theorem hd_X0_canTake : zHead yX0_canTake cX0_canTake 5 3 (some .boolean) := ⟨kw548, kw3, by decide +kernel, by decide +kernel, by decide +kernel⟩
theorem hd_X1_init : zHead yX1_init cX1_init 1 0 none := ⟨kw116, kw4, by decide +kernel, by decide +kernel, by decide +kernel⟩
theorem hd_X1_makeEmpty : zHead yX1_makeEmpty cX1_makeEmpty 1 0 none := ⟨kw204, kw4, by decide +kernel, by decide +kernel, by decide +kernel⟩
theorem hd_X1_canMiss : zHead yX1_canMiss cX1_canMiss 2 1 (some .boolean) := ⟨kw224, kw4, by decide +kernel, by decide +kernel, by decide +kernel⟩
theorem hd_X1_addSlot : zHead yX1_addSlot cX1_addSlot 4 2 (some .int) := ⟨kw513, kw4, by decide +kernel, by decide +kernel, by decide +kernel⟩
theorem hd_X1_useSlot : zHead yX1_useSlot cX1_useSlot 4 3 none := ⟨kw517, kw4, by decide +kernel, by decide +kernel, by decide +kernel⟩
theorem hd_X2_init : zHead yX2_init cX2_init 1 0 none := ⟨kw26, kw2, by decide +kernel, by decide +kernel, by decide +kernel⟩
theorem hd_X2_add : zHead yX2_add cX2_add 5 2 (some .int) := ⟨kw392, kw2, by decide +kernel, by decide +kernel, by decide +kernel⟩
theorem hd_X2_cut : zHead yX2_cut cX2_cut 8 1 none := ⟨kw397, kw2, by decide +kernel, by decide +kernel, by decide +kernel⟩
theorem hd_X2_kindOf : zHead yX2_kindOf cX2_kindOf 1 1 (some .int) := ⟨kw400, kw2, by decide +kernel, by decide +kernel, by decide +kernel⟩
theorem hd_X2_numberTexts : zHead yX2_numberTexts cX2_numberTexts 4 1 none := ⟨kw405, kw2, by decide +kernel, by decide +kernel, by decide +kernel⟩
theorem hd_X2_firstAlike : zHead yX2_firstAlike cX2_firstAlike 5 2 (some .int) := ⟨kw409, kw2, by decide +kernel, by decide +kernel, by decide +kernel⟩
theorem hd_X2_isSameText : zHead yX2_isSameText cX2_isSameText 4 2 (some .boolean) := ⟨kw413, kw2, by decide +kernel, by decide +kernel, by decide +kernel⟩
theorem hd_X3_init : zHead yX3_init cX3_init 2 0 none := ⟨kw18, kw1, by decide +kernel, by decide +kernel, by decide +kernel⟩
theorem hd_X3_feed : zHead yX3_feed cX3_feed 6 1 (some .int) := ⟨kw291, kw1, by decide +kernel, by decide +kernel, by decide +kernel⟩
theorem hd_X3_countBytes : zHead yX3_countBytes cX3_countBytes 5 1 (some .int) := ⟨kw294, kw1, by decide +kernel, by decide +kernel, by decide +kernel⟩
theorem hd_X3_byteOf : zHead yX3_byteOf cX3_byteOf 3 2 (some .int) := ⟨kw297, kw1, by decide +kernel, by decide +kernel, by decide +kernel⟩
theorem hd_X3_store : zHead yX3_store cX3_store 2 0 (some .int) := ⟨kw387, kw1, by decide +kernel, by decide +kernel, by decide +kernel⟩
theorem hd_X3_lineCount : zHead yX3_lineCount cX3_lineCount 1 0 (some .int) := ⟨kw196, kw1, by decide +kernel, by decide +kernel, by decide +kernel⟩
theorem hd_X3_tokenCount : zHead yX3_tokenCount cX3_tokenCount 2 1 (some .int) := ⟨kw421, kw1, by decide +kernel, by decide +kernel, by decide +kernel⟩
theorem hd_X3_tokenKind : zHead yX3_tokenKind cX3_tokenKind 3 2 (some .int) := ⟨kw448, kw1, by decide +kernel, by decide +kernel, by decide +kernel⟩
theorem hd_X3_setCosts : zHead yX3_setCosts cX3_setCosts 4 3 (some .boolean) := ⟨kw475, kw1, by decide +kernel, by decide +kernel, by decide +kernel⟩
theorem hd_X3_isCost : zHead yX3_isCost cX3_isCost 1 1 (some .boolean) := ⟨kw478, kw1, by decide +kernel, by decide +kernel, by decide +kernel⟩
theorem hd_X3_merge : zHead yX3_merge cX3_merge 5 1 (some .int) := ⟨kw490, kw1, by decide +kernel, by decide +kernel, by decide +kernel⟩
theorem hd_X3_clear : zHead yX3_clear cX3_clear 3 0 (some .int) := ⟨kw200, kw1, by decide +kernel, by decide +kernel, by decide +kernel⟩
theorem hd_X3_isMerged : zHead yX3_isMerged cX3_isMerged 2 1 (some .boolean) := ⟨kw526, kw1, by decide +kernel, by decide +kernel, by decide +kernel⟩
theorem hd_X3_costWith : zHead yX3_costWith cX3_costWith 2 1 (some .int) := ⟨kw533, kw1, by decide +kernel, by decide +kernel, by decide +kernel⟩
theorem hd_X3_fits : zHead yX3_fits cX3_fits 2 1 (some .boolean) := ⟨kw540, kw1, by decide +kernel, by decide +kernel, by decide +kernel⟩
theorem hd_X3_strangest : zHead yX3_strangest cX3_strangest 5 0 (some .int) := ⟨kw208, kw1, by decide +kernel, by decide +kernel, by decide +kernel⟩
theorem hd_X3_slotCount : zHead yX3_slotCount cX3_slotCount 1 0 (some .int) := ⟨kw238, kw1, by decide +kernel, by decide +kernel, by decide +kernel⟩
theorem hd_X3_slotKind : zHead yX3_slotKind cX3_slotKind 2 1 (some .int) := ⟨kw555, kw1, by decide +kernel, by decide +kernel, by decide +kernel⟩
theorem hd_X3_isOptional : zHead yX3_isOptional cX3_isOptional 2 1 (some .boolean) := ⟨kw589, kw1, by decide +kernel, by decide +kernel, by decide +kernel⟩
theorem hd_X3_tokenAt : zHead yX3_tokenAt cX3_tokenAt 3 2 (some .int) := ⟨kw596, kw1, by decide +kernel, by decide +kernel, by decide +kernel⟩
theorem hd_X3_needLine : zHead yX3_needLine cX3_needLine 2 1 none := ⟨kw425, kw1, by decide +kernel, by decide +kernel, by decide +kernel⟩
theorem hd_X3_needToken : zHead yX3_needToken cX3_needToken 3 2 none := ⟨kw452, kw1, by decide +kernel, by decide +kernel, by decide +kernel⟩
theorem hd_X3_neededSlot : zHead yX3_neededSlot cX3_neededSlot 2 1 (some .int) := ⟨kw559, kw1, by decide +kernel, by decide +kernel, by decide +kernel⟩
theorem hd_X3_tokenIn : zHead yX3_tokenIn cX3_tokenIn 5 2 (some .int) := ⟨kw600, kw1, by decide +kernel, by decide +kernel, by decide +kernel⟩
theorem hd_X3_firstByteOf : zHead yX3_firstByteOf cX3_firstByteOf 1 1 (some .int) := ⟨kw278, kw1, by decide +kernel, by decide +kernel, by decide +kernel⟩
theorem hd_X3_placeOf : zHead yX3_placeOf cX3_placeOf 2 2 (some .int) := ⟨kw230, kw1, by decide +kernel, by decide +kernel, by decide +kernel⟩
