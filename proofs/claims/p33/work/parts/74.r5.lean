/-! the whole relation; what it is taken from -/
def rR (A B : zStore) (N n : Nat) : Prop := rLn A B N ∧ rBu A B ∧ rCo A B ∧ rF A B 15 0 N n ∧ rM A B N n ∧ rG A B N
def rEA (A A' : zStore) : Prop := ∀ (c : Nat) (j : Int), c < 110 → c ≠ 11 → c ≠ 12 → c ≠ 13 → c ≠ 14 → (c ≠ 10 ∨ j ≠ 6 ∧ j ≠ 7) → A' c j = A c j
def rEB (B B' : zStore) : Prop := ∀ (c : Nat) (j : Int), 110 ≤ c → c < 124 → (c ≠ 110 ∨ j ≠ 0 ∧ j ≠ 22) → B' c j = B c j
section RCG
variable {A B A' B' : zStore} {N n b : Nat} {f : Int}
theorem rEA.c (h : rEA A A') {c : Nat} (h1 : c < 110) (h2 : c ≠ 10) (h3 : c < 11 ∨ 14 < c) : A' c = A c := funext fun j => h c j h1 (by omega) (by omega) (by omega) (by omega) (Or.inl h2)
theorem rEB.c (h : rEB B B') {c : Nat} (h1 : 110 < c) (h2 : c < 124) : B' c = B c := funext fun j => h c j (by omega) h2 (Or.inl (by omega))
theorem rEB.o (h : rEB B B') {j : Int} (h1 : j ≠ 0) (h2 : j ≠ 22) : B' 110 j = B 110 j := h 110 j (by decide) (by decide) (Or.inr ⟨h1, h2⟩)
theorem rEA.rfl : rEA A A := fun _ _ _ _ _ _ _ _ => Eq.refl _
theorem rEB.rfl : rEB B B := fun _ _ _ _ _ => Eq.refl _
theorem rLn_c (h2 : A' 2 0 = A 2 0) (h3 : A' 3 = A 3) (h4 : A' 4 = A 4) (h5 : A' 5 = A 5) (h6 : A' 6 = A 6) (h7 : A' 7 = A 7) (h8 : A' 8 = A 8) (h9 : A' 9 = A 9) (k3 : B' 110 3 = B 110 3) (k12 : B' 112 = B 112) (k13 : B' 113 = B 113) (k14 : B' 114 = B 114) (k15 : B' 115 = B 115) (k16 : B' 116 = B 116) (k17 : B' 117 = B 117) (h : rLn A B N) : rLn A' B' N := by
  unfold rLn rTx rPl rLine rTok zsm at *
  simp only [h2, h3, h4, h5, h6, h7, h8, h9, k3, k12, k13, k14, k15, k16, k17]
  exact h
theorem rBu_c (h0 : A' 0 1 = A 0 1) (h1 : A' 1 = A 1) (k1 : B' 110 1 = B 110 1) (k11 : B' 111 = B 111) (h : rBu A B) : rBu A' B' := by
  unfold rBu at *
  simp only [h0, h1, k1, k11]
  exact h
theorem rCo_c (h1 : A' 10 1 = A 10 1) (h2 : A' 10 2 = A 10 2) (h3 : A' 10 3 = A 10 3) (k1 : B' 110 10 = B 110 10) (k2 : B' 110 11 = B 110 11) (k3 : B' 110 12 = B 110 12) (h : rCo A B) : rCo A' B' := by
  unfold rCo at *
  simp only [h1, h2, h3, k1, k2, k3]
  exact h
theorem rF_c (h0 : A' b 0 = A b 0) (h01 : A' b 1 = A b 1) (h1 : A' (b + 1) = A (b + 1)) (h2 : A' (b + 2) = A (b + 2)) (h3 : A' (b + 3) = A (b + 3)) (h6 : A' (b + 6) = A (b + 6)) (a4 : A' 4 = A 4) (a6 : A' 6 = A 6) (a9 : A' 9 = A 9) (k18 : B' 118 f = B 118 f) (k19 : B' 119 f = B 119 f) (k20 : ∀ i : Nat, i < n → B' 120 (40 * f + i) = B 120 (40 * f + i)) (k21 : ∀ i : Nat, i < n → B' 121 (40 * f + i) = B 121 (40 * f + i)) (k22 : ∀ i : Nat, i < n → ∀ l : Nat, l < 12 → B' 122 (12 * (40 * f + i) + l) = B 122 (12 * (40 * f + i) + l)) (hN : N ≤ 12) (h : rF A B b f N n) : rF A' B' b f N n := by
  obtain ⟨p1, p2, p3, p4⟩ := h
  refine ⟨?_, ?_, fun i hi => ?_, ?_⟩
  · rw [h0, k18]; exact p1
  · rw [h01, k19]; exact p2
  · have q := p3 i hi
    have e := zmu_c (u := B' 122) (u' := B 122) (f := f) (s := i) (f' := f) (s' := i) N fun l hl => by rw [k22 i hi l (by omega)]
    unfold rSl rPl at *
    rw [e]
    simp only [h1, h2, h3, h6, a4, a6, a9, k20 i hi, k21 i hi, k19]
    refine ⟨q.1, q.2.1, q.2.2.1, q.2.2.2.1, fun l hl hx => ?_⟩
    rw [k22 i hi l hl] at hx ⊢
    exact q.2.2.2.2 l hl hx
  · rw [h1]; exact p4
theorem rM_c (h16 : A' 16 = A 16) (h17 : A' 17 = A 17) (h19 : A' 19 = A 19) (h20 : A' 20 = A 20) (h22 : A' 22 = A 22) (h23 : A' 23 = A 23) (a4 : A' 4 = A 4) (a6 : A' 6 = A 6) (k17 : B' 117 = B 117) (k19 : B' 119 = B 119) (k22 : B' 122 = B 122) (h : rM A B N n) : rM A' B' N n := by
  unfold rM at *
  simp only [h16, h17, h19, h20, h22, h23, a4, a6, k17, k19, k22]
  exact h
theorem rG_c (h7 : A' 0 7 = A 0 7) (h8 : A' 0 8 = A 0 8) (h24 : A' 24 = A 24) (hg : ∀ g : Nat, g < 12 → A' (26 + 7 * g) 0 = A (26 + 7 * g) 0) (k18 : B' 110 18 = B 110 18) (k19 : B' 110 19 = B 110 19) (k118 : B' 118 = B 118) (k23 : B' 123 = B 123) (h : rG A B N) : rG A' B' N := by
  unfold rG at *
  simp only [h7, h8, h24, k18, k19, k118, k23]
  refine ⟨h.1, h.2.1, h.2.2.1, fun q => ?_⟩
  obtain ⟨q1, q2, q3⟩ := h.2.2.2 q
  have h8b := h.2.1
  exact ⟨q1, q2, fun g hg2 => by rw [hg g (by omega)]; exact q3 g hg2⟩
theorem rR_c (hA : rEA A A') (hB : rEB B B') (h : rR A B N n) : rR A' B' N n := by
  obtain ⟨h1, h2, h3, h4, h5, h6⟩ := h
  have a : ∀ c, c < 110 → c ≠ 10 → (c < 11 ∨ 14 < c) → A' c = A c := fun c p q r => hA.c p q r
  have k : ∀ c, 110 < c → c < 124 → B' c = B c := fun c p q => hB.c p q
  refine ⟨rLn_c ?_ (a 3 (by decide) (by decide) (by decide)) (a 4 (by decide) (by decide) (by decide)) (a 5 (by decide) (by decide) (by decide)) (a 6 (by decide) (by decide) (by decide)) (a 7 (by decide) (by decide) (by decide)) (a 8 (by decide) (by decide) (by decide)) (a 9 (by decide) (by decide) (by decide)) (hB.o (by decide) (by decide)) (k 112 (by decide) (by decide)) (k 113 (by decide) (by decide)) (k 114 (by decide) (by decide)) (k 115 (by decide) (by decide)) (k 116 (by decide) (by decide)) (k 117 (by decide) (by decide)) h1, rBu_c ?_ (a 1 (by decide) (by decide) (by decide)) (hB.o (by decide) (by decide)) (k 111 (by decide) (by decide)) h2, rCo_c ?_ ?_ ?_ (hB.o (by decide) (by decide)) (hB.o (by decide) (by decide)) (hB.o (by decide) (by decide)) h3, rF_c ?_ ?_ (a 16 (by decide) (by decide) (by decide)) (a 17 (by decide) (by decide) (by decide)) (a 18 (by decide) (by decide) (by decide)) (a 21 (by decide) (by decide) (by decide)) (a 4 (by decide) (by decide) (by decide)) (a 6 (by decide) (by decide) (by decide)) (a 9 (by decide) (by decide) (by decide)) ?_ ?_ ?_ ?_ ?_ h1.1.2.2 h4, rM_c (a 16 (by decide) (by decide) (by decide)) (a 17 (by decide) (by decide) (by decide)) (a 19 (by decide) (by decide) (by decide)) (a 20 (by decide) (by decide) (by decide)) (a 22 (by decide) (by decide) (by decide)) (a 23 (by decide) (by decide) (by decide)) (a 4 (by decide) (by decide) (by decide)) (a 6 (by decide) (by decide) (by decide)) (k 117 (by decide) (by decide)) (k 119 (by decide) (by decide)) (k 122 (by decide) (by decide)) h5, rG_c ?_ ?_ (a 24 (by decide) (by decide) (by decide)) ?_ (hB.o (by decide) (by decide)) (hB.o (by decide) (by decide)) (k 118 (by decide) (by decide)) (k 123 (by decide) (by decide)) h6⟩
  · rw [a 2 (by decide) (by decide) (by decide)]
  · rw [a 0 (by decide) (by decide) (by decide)]
  · exact hA 10 1 (by decide) (by decide) (by decide) (by decide) (by decide) (Or.inr (by decide))
  · exact hA 10 2 (by decide) (by decide) (by decide) (by decide) (by decide) (Or.inr (by decide))
  · exact hA 10 3 (by decide) (by decide) (by decide) (by decide) (by decide) (Or.inr (by decide))
  · rw [a 15 (by decide) (by decide) (by decide)]
  · rw [a 15 (by decide) (by decide) (by decide)]
  · rw [k 118 (by decide) (by decide)]
  · rw [k 119 (by decide) (by decide)]
  · intro i _; rw [k 120 (by decide) (by decide)]
  · intro i _; rw [k 121 (by decide) (by decide)]
  · intro i _ l _; rw [k 122 (by decide) (by decide)]
  · rw [a 0 (by decide) (by decide) (by decide)]
  · rw [a 0 (by decide) (by decide) (by decide)]
  · intro g hg
    rw [a (26 + 7 * g) (by omega) (by omega) (by omega)]
end RCG
/-- n numbers below n that are apart are all of them -/
theorem r_surj : ∀ {n : Nat} {f : Int → Int}, (∀ i j : Nat, i < n → j < n → f i = f j → i = j) → (∀ i : Nat, i < n → 0 ≤ f i ∧ f i < n) → ∀ k : Nat, k < n → ∃ i : Nat, i < n ∧ f i = k
  | 0, _, _, _, k, hk => absurd hk (by omega)
  | n + 1, f, hi, hb, k, hk => by
    by_cases hn : ∃ i : Nat, i < n + 1 ∧ f i = k
    · exact hn
    · exfalso
      -- close the gap: numbers above k go down by one, and the last place is left out
      have ne : ∀ i : Nat, i < n + 1 → f i ≠ k := fun i h e => hn ⟨i, h, e⟩
      obtain ⟨g, hg⟩ : ∃ g : Int → Int, ∀ x, g x = if f x < k then f x else f x - 1 := ⟨_, fun _ => rfl⟩
      have hi2 : ∀ i j : Nat, i < n → j < n → g i = g j → i = j := fun i j h1 h2 e => by
        have a1 := ne i (by omega)
        have a2 := ne j (by omega)
        rw [hg, hg] at e
        apply hi i j (by omega) (by omega)
        split at e <;> split at e <;> omega
      have hb2 : ∀ i : Nat, i < n → 0 ≤ g i ∧ g i < n := fun i h1 => by
        have a1 := ne i (by omega)
        have a2 := hb i (by omega)
        rw [hg]
        split <;> omega
      have an := ne n (by omega)
      have bn := hb n (by omega)
      have gn : 0 ≤ g n ∧ g n < n := by
        rw [hg]
        split <;> omega
      -- the value of the last place, closed up, is taken by another place too
      obtain ⟨i, h1, h2⟩ := r_surj (n := n) (f := g) hi2 hb2 (g n).toNat (by omega)
      have a1 := ne i (by omega)
      have : i = n := hi i n (by omega) (by omega) (by
        have e : g i = g n := by omega
        rw [hg, hg] at e
        split at e <;> split at e <;> omega)
      omega
section RPM
variable {A B : zStore} {N n : Nat}
theorem r_line (h : rR A B N n) {line : Int} (h0 : 0 ≤ line) (h1 : line < A 2 0) : ∃ l : Nat, line = l ∧ l < N := ⟨line.toNat, by omega, by have := h.1.1.1; omega⟩
theorem r_slot (h : rR A B N n) {slot : Int} (h0 : 0 ≤ slot) (h1 : slot < A 15 0) : ∃ s : Nat, slot = s ∧ s < n := ⟨slot.toNat, by omega, by have := h.2.2.2.1.1.1; omega⟩
theorem p_N (h : rR A B N n) : (0 ≤ A 2 0 ∧ A 2 0 ≤ 12) ∧ (0 ≤ B 110 3 ∧ B 110 3 ≤ 12) := by
  have := h.1.1
  omega
theorem p_n (h : rR A B N n) : (0 ≤ A 15 0 ∧ A 15 0 ≤ 40) ∧ (0 ≤ B 118 0 ∧ B 118 0 ≤ 40) := by
  have := h.2.2.2.1.1
  omega
theorem p_mk (h : rR A B N n) : 0 ≤ B 119 0 ∧ B 119 0 < 4096 := ⟨h.2.2.2.1.2.1.1, h.2.2.2.1.2.1.2.1⟩
theorem p_j (h : rR A B N n) : 0 ≤ A 15 1 ∧ A 15 1 ≤ 12 := by
  rw [h.2.2.2.1.2.1.2.2.1]
  exact zbc_bd _
theorem p_Ln (h : rR A B N n) : zLn A N := fun line h0 h1 => by
  obtain ⟨l, rfl, hl⟩ := r_line h h0 (by have := h.1.1.1; omega)
  have h2 := (h.1.2.1 l hl).2.1
  have h3 := h.2.2.2.2.1.1 l (by have := h.1.1.2.2; omega)
  have h4 := zbit_01 (B 119 0) l
  rw [h3]
  exact ⟨by omega, h2.1, h2.2.1⟩
theorem p_tok (h : rR A B N n) {line : Int} (h0 : 0 ≤ line) (h1 : line < A 2 0) : 0 ≤ A 4 line ∧ A 4 line ≤ 30 ∧ B 114 line = A 4 line := by
  obtain ⟨l, rfl, hl⟩ := r_line h h0 h1
  exact (h.1.2.1 l hl).2.1
theorem p_ord (h : rR A B N n) {slot : Int} (h0 : 0 ≤ slot) (h1 : slot < A 15 0) : 0 ≤ A 16 slot ∧ A 16 slot < 40 := by
  obtain ⟨s, rfl, hs⟩ := r_slot h h0 h1
  have h2 := (h.2.2.2.1.2.2.1 s hs).1
  have h3 := h.2.2.2.1.1.2.2
  show 0 ≤ A (15 + 1) s ∧ A (15 + 1) s < 40
  omega
/-- a slot, in both -/
theorem r_sl (h : rR A B N n) {s : Nat} (hs : s < n) : (0 ≤ A 16 s ∧ A 16 s < n) ∧ (0 ≤ A 17 (A 16 s) ∧ A 17 (A 16 s) ≤ 3 ∧ B 120 (40 * 0 + s) = A 17 (A 16 s)) ∧ ((A 18 (A 16 s) = (-1) ∧ B 121 (40 * 0 + s) = (-1)) ∨ (rPl A N (B 121 (40 * 0 + s)) ∧ A 18 (A 16 s) = A 9 (B 121 (40 * 0 + s)) ∧ A 6 (B 121 (40 * 0 + s)) = A 17 (A 16 s))) ∧ A 21 (A 16 s) = zmu (B 122) 0 s N ∧ ∀ l : Nat, l < 12 → B 122 (12 * (40 * 0 + (s : Int)) + l) ≠ (-1) → zbit (B 119 0) l = 1 ∧ 0 ≤ B 122 (12 * (40 * 0 + (s : Int)) + l) ∧ B 122 (12 * (40 * 0 + (s : Int)) + l) < A 4 l := h.2.2.2.1.2.2.1 s hs
theorem r_s0 (s : Int) : 40 * 0 + s = s := by omega
theorem p_Fo (h : rR A B N n) : zFo A 15 n := by
  have hF := h.2.2.2.1
  refine ⟨fun i hi => (hF.2.2.1 i hi).1, fun id h0 h1 => ?_, p_j h⟩
  -- every number below n is some slot's: the order is one to one
  have surj : ∀ k : Nat, k < n → ∃ i : Nat, i < n ∧ A (15 + 1) i = k := by
    exact r_surj hF.2.2.2 fun i hi => (hF.2.2.1 i hi).1
  obtain ⟨i, hi, e⟩ := surj id.toNat (by omega)
  have h2 := (hF.2.2.1 i hi).2.2.2.1
  have h3 := zmu_bd (B 122) 0 i N
  have h4 := h.1.1.2.2
  rw [e, show ((id.toNat : Nat) : Int) = id by omega] at h2
  rw [h2]
  omega
end RPM

