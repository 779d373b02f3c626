/-! the bits of a mask -/
theorem zbit_01 (v : Int) (l : Nat) : zbit v l = 0 ∨ zbit v l = 1 := by
  unfold zbit
  generalize v / ((2 ^ l : Nat) : Int) = x
  omega
theorem zshl_q : ∀ l : Nat, l < 12 → zshl 1 l = ((2 ^ l : Nat) : Int) ∧ 2 ^ l < 4096 := by decide +kernel
theorem zor_nat {n m : Nat} (hn : n < 4096) (hm : m < 4096) : zor (n : Int) (m : Int) = ((n ||| m : Nat) : Int) := by
  have h1 : n ||| m < 2 ^ 12 := Nat.or_lt_two_pow (by omega) (by omega)
  have e : ∀ k : Nat, (zI (k : Int)).toBitVec = BitVec.ofNat 32 k := fun k => by
    unfold zI
    rw [Int32.toBitVec_ofInt, BitVec.ofInt_natCast]
  unfold zor
  have h2 : (zI (n : Int) ||| zI (m : Int)).toInt = ((zI (n : Int) ||| zI (m : Int)).toBitVec).toInt := rfl
  rw [h2, Int32.toBitVec_or, e, e, ← BitVec.ofNat_or, BitVec.toInt_eq_toNat_of_lt]
  · rw [BitVec.toNat_ofNat, Nat.mod_eq_of_lt (by omega)]
  · rw [BitVec.toNat_ofNat, Nat.mod_eq_of_lt (by omega)]
    omega
theorem zbcN_or : ∀ (k l x : Nat), l < k → x.testBit l = false → zbcN k ((x ||| 2 ^ l : Nat) : Int) = zbcN k (x : Int) + 1
  | 0, l, x, h, _ => absurd h (by omega)
  | k + 1, 0, x, _, h => by
    have h1 : x % 2 = 0 := by
      have := Nat.toNat_testBit x 0
      rw [h] at this
      simp at this
      omega
    have h2 : (x ||| 2 ^ 0) = x + 1 := by
      rw [Nat.pow_zero]
      have e1 : (x ||| 1) / 2 = x / 2 := by rw [Nat.or_div_two]; simp
      have e2 : (x ||| 1) % 2 = 1 := by
        have := Nat.toNat_testBit (x ||| 1) 0
        rw [Nat.testBit_or, show Nat.testBit 1 0 = true from rfl, Bool.or_true, Nat.pow_zero, Nat.div_one] at this
        exact this.symm
      omega
    rw [h2]
    simp only [zbcN]
    rw [show (((x + 1 : Nat) : Int) / 2) = (x : Int) / 2 by omega]
    omega
  | k + 1, l + 1, x, hl, h => by
    have e1 : (x ||| 2 ^ (l + 1)) / 2 = (x / 2) ||| 2 ^ l := by
      rw [Nat.or_div_two, Nat.pow_succ, Nat.mul_div_cancel _ (by decide)]
    have e2 : (x ||| 2 ^ (l + 1)) % 2 = x % 2 := by
      have h1 := Nat.toNat_testBit (x ||| 2 ^ (l + 1)) 0
      have h2 := Nat.toNat_testBit x 0
      rw [Nat.testBit_or, Nat.testBit_two_pow, decide_eq_false (by omega), Bool.or_false, h2] at h1
      simp at h1
      omega
    have ih := zbcN_or k l (x / 2) (by omega) (by rw [Nat.testBit_div_two]; exact h)
    simp only [zbcN]
    rw [show (((x ||| 2 ^ (l + 1) : Nat) : Int) / 2) = (((x / 2) ||| 2 ^ l : Nat) : Int) by omega, ih, show (((x / 2 : Nat) : Int)) = (x : Int) / 2 by omega]
    omega
theorem zbit_nat (n l : Nat) : zbit (n : Int) l = ((n.testBit l).toNat : Int) := by
  unfold zbit
  rw [Nat.toNat_testBit]
  rfl
theorem zor_eq {v : Int} {l : Nat} (h : 0 ≤ v ∧ v < 4096) (hl : l < 12) (h0 : zbit v l = 0) : (0 ≤ zor v (zshl 1 l) ∧ zor v (zshl 1 l) < 4096) ∧ zbc (zor v (zshl 1 l)) = zbc v + 1 ∧ ∀ l2 : Nat, zbit (zor v (zshl 1 l)) l2 = if l2 = l then 1 else zbit v l2 := by
  obtain ⟨n, rfl⟩ : ∃ n : Nat, v = n := ⟨v.toNat, by omega⟩
  obtain ⟨h1, h2⟩ := zshl_q l hl
  rw [h1, zor_nat (by omega) h2]
  have h3 : n ||| 2 ^ l < 2 ^ 12 := Nat.or_lt_two_pow (by omega) (by omega)
  have h4 : n.testBit l = false := by
    rw [zbit_nat] at h0
    cases hb : n.testBit l
    · rfl
    · rw [hb] at h0
      exact absurd h0 (by decide)
  refine ⟨⟨by omega, by omega⟩, zbcN_or 12 l n hl h4, fun l2 => ?_⟩
  rw [zbit_nat, zbit_nat, Nat.testBit_or, Nat.testBit_two_pow]
  by_cases e : l2 = l
  · subst e
    rw [if_pos rfl, decide_eq_true rfl, Bool.or_true]
    rfl
  · rw [if_neg e, decide_eq_false (fun q => e q.symm), Bool.or_false]
theorem zbit_z (l : Nat) : zbit 0 l = 0 := by
  unfold zbit
  rw [Int.zero_ediv]
  rfl
theorem zbc_z : zbc 0 = 0 := by decide
/-! the relation: A has the class's cells, B the model's -/
def rPl (A : zStore) (N : Nat) (v : Int) : Prop := ∃ l t : Nat, l < N ∧ (t : Int) < A 4 l ∧ v = (l : Int) * 30 + t
def rTok (A B : zStore) (l : Nat) (p : Int) : Prop := (0 ≤ A 6 p ∧ A 6 p ≤ 3 ∧ B 115 p = A 6 p) ∧ (0 ≤ B 116 p ∧ A 7 p = (l : Int) * 30 + B 116 p) ∧ (1 ≤ A 8 p ∧ A 8 p ≤ 30 ∧ B 117 p = A 8 p ∧ B 116 p + B 117 p ≤ A 3 l) ∧ A 6 p = zkd (A 5 (A 7 p)) ∧ (A 6 p = 1 → ∀ i : Int, 0 ≤ i → i < A 8 p → 48 ≤ A 5 (A 7 p + i) ∧ A 5 (A 7 p + i) ≤ 57)
def rLine (A B : zStore) (l : Nat) : Prop := (0 ≤ A 3 l ∧ A 3 l ≤ 30 ∧ B 112 l = A 3 l) ∧ (0 ≤ A 4 l ∧ A 4 l ≤ 30 ∧ B 114 l = A 4 l) ∧ (∀ i : Int, 0 ≤ i → i < A 3 l → (0 ≤ A 5 ((l : Int) * 30 + i) ∧ A 5 ((l : Int) * 30 + i) ≤ 126) ∧ B 113 (30 * (l : Int) + i) = A 5 ((l : Int) * 30 + i)) ∧ ∀ t : Nat, (t : Int) < A 4 l → rTok A B l ((l : Int) * 30 + t)
def rTx (A : zStore) (N : Nat) : Prop := ∀ p : Int, rPl A N p → rPl A N (A 9 p) ∧ zsm A (A 9 p) p = true ∧ ∀ q : Int, rPl A N q → (A 9 p = A 9 q ↔ zsm A p q = true) ∧ (zsm A q p = true → A 9 p ≤ q)
def rLn (A B : zStore) (N : Nat) : Prop := (A 2 0 = N ∧ B 110 3 = N ∧ N ≤ 12) ∧ (∀ l : Nat, l < N → rLine A B l) ∧ rTx A N
def rBu (A B : zStore) : Prop := (0 ≤ A 0 1 ∧ A 0 1 ≤ 30 ∧ B 110 1 = A 0 1) ∧ ∀ i : Int, 0 ≤ i → i < A 0 1 → (0 ≤ A 1 i ∧ A 1 i ≤ 126) ∧ B 111 i = A 1 i
def rCo (A B : zStore) : Prop := (0 ≤ A 10 1 ∧ A 10 1 ≤ 20 ∧ B 110 10 = A 10 1) ∧ (0 ≤ A 10 2 ∧ A 10 2 ≤ 20 ∧ B 110 11 = A 10 2) ∧ (0 ≤ A 10 3 ∧ A 10 3 ≤ 20 ∧ B 110 12 = A 10 3)
def rSl (A B : zStore) (b : Nat) (f : Int) (N n i : Nat) : Prop := (0 ≤ A (b + 1) i ∧ A (b + 1) i < n) ∧ (0 ≤ A (b + 2) (A (b + 1) i) ∧ A (b + 2) (A (b + 1) i) ≤ 3 ∧ B 120 (40 * f + i) = A (b + 2) (A (b + 1) i)) ∧ ((A (b + 3) (A (b + 1) i) = (-1) ∧ B 121 (40 * f + i) = (-1)) ∨ (rPl A N (B 121 (40 * f + i)) ∧ A (b + 3) (A (b + 1) i) = A 9 (B 121 (40 * f + i)) ∧ A 6 (B 121 (40 * f + i)) = A (b + 2) (A (b + 1) i))) ∧ A (b + 6) (A (b + 1) i) = zmu (B 122) f i N ∧ ∀ l : Nat, l < 12 → B 122 (12 * (40 * f + i) + l) ≠ (-1) → zbit (B 119 f) l = 1 ∧ 0 ≤ B 122 (12 * (40 * f + i) + l) ∧ B 122 (12 * (40 * f + i) + l) < A 4 l
def rF (A B : zStore) (b : Nat) (f : Int) (N n : Nat) : Prop := (A b 0 = n ∧ B 118 f = n ∧ n ≤ 40) ∧ (0 ≤ B 119 f ∧ B 119 f < 4096 ∧ A b 1 = zbc (B 119 f) ∧ ∀ l : Nat, l < 12 → zbit (B 119 f) l = 1 → l < N) ∧ (∀ i : Nat, i < n → rSl A B b f N n i) ∧ ∀ i j : Nat, i < n → j < n → A (b + 1) i = A (b + 1) j → i = j
def rM (A B : zStore) (N n : Nat) : Prop := (∀ l : Nat, l < 12 → A 22 l = zbit (B 119 0) l) ∧ (∀ l : Nat, l < 12 → zbit (B 119 0) l = 1 → ∀ t : Nat, (t : Int) < A 4 l → ∃ i : Nat, i < n ∧ B 122 (12 * (40 * 0 + (i : Int)) + l) = t ∧ A 23 ((l : Int) * 30 + t) = A 16 i) ∧ (∀ i : Nat, i < n → ∀ l : Nat, l < 12 → B 122 (12 * (40 * 0 + (i : Int)) + l) ≠ (-1) → A 23 ((l : Int) * 30 + B 122 (12 * (40 * 0 + (i : Int)) + l)) = A 16 i ∧ A 6 ((l : Int) * 30 + B 122 (12 * (40 * 0 + (i : Int)) + l)) = A 17 (A 16 i)) ∧ ∀ i : Nat, i < n → 1 ≤ A 19 (A 16 i) ∧ A 19 (A 16 i) = zme (B 122) (B 117) i 0 N ∧ A 20 (A 16 i) = zme (B 122) (B 117) i 1 N
def rG (A B : zStore) (N : Nat) : Prop := (A 0 7 = B 110 18 ∧ (A 0 7 = 0 ∨ A 0 7 = 1)) ∧ (0 ≤ A 0 8 ∧ A 0 8 ≤ 12) ∧ (0 ≤ B 110 19 ∧ B 110 19 ≤ 12) ∧ (A 0 7 = 1 → A 0 8 = B 110 19 ∧ (∀ l : Nat, l < N → A 24 l = B 123 l) ∧ ∀ g : Nat, (g : Int) < A 0 8 → A (26 + 7 * g) 0 = B 118 (1 + (g : Int)))
section RLN
variable {A B : zStore} {N : Nat}
theorem rPl_b (hL : rLn A B N) {p : Int} (h : rPl A N p) : 0 ≤ p ∧ p < 360 := by
  obtain ⟨l, t, h1, h2, rfl⟩ := h
  have h3 := (hL.2.1 l h1).2.1
  have h4 := hL.1.2.2
  omega
theorem rPl_T (hL : rLn A B N) {p : Int} (h : rPl A N p) : zmT B p := by
  have h0 := rPl_b hL h
  obtain ⟨l, t, h1, h2, rfl⟩ := h
  have h3 := hL.2.1 l h1
  have h4 := h3.2.2.2 t h2
  obtain ⟨-, k2, k3, -⟩ := h4
  have h5 := h3.1
  exact ⟨h0, by omega, by omega, by omega⟩
theorem rPl_C (hL : rLn A B N) {p : Int} (h : rPl A N p) : zTk A p := by
  have h0 := rPl_b hL h
  obtain ⟨l, t, h1, h2, rfl⟩ := h
  have h3 := hL.2.1 l h1
  have h4 := h3.2.2.2 t h2
  obtain ⟨-, k2, k3, -⟩ := h4
  have h5 := h3.1
  have h6 := hL.1.2.2
  exact ⟨h0, by omega, by omega, by omega, by omega⟩
theorem rseq_c {f g : Int → Int} {a b c d : Int} : ∀ n : Nat, (∀ k : Nat, k < n → f (a + k) = g (c + k) ∧ f (b + k) = g (d + k)) → zseq f a b n = zseq g c d n
  | 0, _ => rfl
  | n + 1, h => by
    simp only [zseq]
    rw [rseq_c n (fun k hk => h k (by omega)), (h n (by omega)).1, (h n (by omega)).2]
/-- the bytes of a token are the same in both -/
theorem rPl_x (hL : rLn A B N) {p : Int} (h : rPl A N p) {k : Nat} (hk : (k : Int) < A 8 p) : A 5 (A 7 p + k) = B 113 (p / 30 * 30 + B 116 p + k) := by
  obtain ⟨l, t, h1, h2, rfl⟩ := h
  have h3 := hL.2.1 l h1
  obtain ⟨-, k2, k3, -⟩ := h3.2.2.2 t h2
  have h5 := h3.2.1
  have h7 := h3.2.2.1 (B 116 ((l : Int) * 30 + t) + k) (by omega) (by omega)
  have e1 : ((l : Int) * 30 + t) / 30 = l := by omega
  rw [e1, k2.2, show (l : Int) * 30 + B 116 ((l : Int) * 30 + t) + k = (l : Int) * 30 + (B 116 ((l : Int) * 30 + t) + k) by omega, ← h7.2]
  congr 1
  omega
theorem rPl_s (hL : rLn A B N) {p q : Int} (hp : rPl A N p) (hq : rPl A N q) : zmS (B 117) (B 116) (B 113) p q = zsm A p q := by
  have sz : ∀ p, rPl A N p → B 117 p = A 8 p ∧ 0 ≤ A 8 p := fun p h => by
    obtain ⟨l, t, h1, h2, rfl⟩ := h
    obtain ⟨-, -, k3, -⟩ := (hL.2.1 l h1).2.2.2 t h2
    exact ⟨k3.2.2.1, by omega⟩
  have s1 := sz p hp
  have s2 := sz q hq
  unfold zmS zsm
  rw [s1.1, s2.1]
  by_cases e : A 8 p = A 8 q
  · congr 1
    exact (rseq_c _ fun k hk => ⟨rPl_x hL hp (by omega), rPl_x hL hq (by omega)⟩).symm
  · rw [beq_false_of_ne e]
    rfl
theorem rTx_s (hL : rLn A B N) {p q : Int} (hp : rPl A N p) (hq : rPl A N q) : A 9 p = A 9 q ↔ zmS (B 117) (B 116) (B 113) p q = true := by
  rw [rPl_s hL hp hq]
  exact ((hL.2.2 p hp).2.2 q hq).1
theorem rPl_9 (hL : rLn A B N) {p : Int} (hp : rPl A N p) : 0 ≤ A 9 p ∧ A 9 p < 360 := rPl_b hL (hL.2.2 p hp).1
end RLN
section RFM
variable {A B : zStore} {N n m b : Nat} {f : Int} {line : Nat}
theorem r_pl (hL : rLn A B N) (hl : line < N) {t : Nat} (ht : (t : Int) < A 4 line) : rPl A N ((line : Int) * 30 + t) := ⟨line, t, hl, ht, rfl⟩
theorem r_Al (hL : rLn A B N) (hC : rCo A B) (hF : rF A B b f N n) (hl : line < N) (hm : A 4 line = m) : zAl A b line n m := by
  have h1 := hL.1.2.2
  have h2 := (hL.2.1 line hl).2.1
  have hn := hF.1.2.2
  refine ⟨by omega, hF.1.1, hF.1.2.2, hm, by omega, fun i hi => ?_, ⟨hC.1.1, hC.1.2.1⟩, ⟨hC.2.1.1, hC.2.1.2.1⟩, ⟨hC.2.2.1, hC.2.2.2.1⟩⟩
  have := (hF.2.2.1 i hi).1
  omega
theorem r_sk (hL : rLn A B N) (hC : rCo A B) (hF : rF A B b f N n) {i : Nat} (hi : i < n) : zs_ A b i = zms B f i := by
  have h := hF.2.2.1 i hi
  have h1 := hL.1.2.1
  unfold zs_ zsk zms
  rw [h.2.2.2.1, hF.2.1.2.2.1, hC.2.1.2.2, h1]
  rfl
theorem r_pc (hL : rLn A B N) (hC : rCo A B) (hF : rF A B b f N n) (hl : line < N) {i t : Nat} (hi : i < n) (ht : (t : Int) < A 4 line) : zq_ A b line i t = zmq B f line i t := by
  have h := hF.2.2.1 i hi
  obtain ⟨k1, -⟩ := (hL.2.1 line hl).2.2.2 t ht
  have hp := r_pl hL hl ht
  unfold zq_ zpc zmq
  rw [Int.mul_comm 30, h.2.1.2.2, k1.2.2, hC.1.2.2]
  by_cases hk : A (b + 2) (A (b + 1) i) ≠ A 6 ((line : Int) * 30 + t)
  · rw [if_pos hk, if_pos hk]
  · rw [if_neg hk, if_neg hk]
    rcases h.2.2.1 with q | q
    · rw [if_pos q.1, if_pos q.2]
    · have v0 := rPl_b hL q.1
      have v9 := rPl_9 hL q.1
      have q21 := q.2.1
      rw [if_neg (show ¬ A (b + 3) (A (b + 1) i) = (-1) by omega), if_neg (show ¬ B 121 (40 * f + i) = (-1) by omega), q.2.1]
      have := rTx_s hL q.1 hp
      by_cases e : A 9 (B 121 (40 * f + i)) = A 9 ((line : Int) * 30 + t)
      · rw [if_pos e, if_pos (this.mp e)]
      · rw [if_neg e, if_neg (fun q2 => e (this.mpr q2))]
end RFM
section ZCG
variable {s s' : Nat → Int} {f : Int} {q q' : Nat → Nat → Int} {n m : Nat}
theorem zrow_c {P P' : Nat → Int} {a : Int} {r r' : Nat → Int} (hP : ∀ t : Nat, t ≤ m → P t = P' t) (hr : ∀ t : Nat, t < m → r t = r' t) : ∀ t : Nat, t ≤ m → zrow P a f r t = zrow P' a f r' t
  | 0, _ => by simp only [zrow]; rw [hP 0 (by omega)]
  | t + 1, h => by
    simp only [zrow]
    rw [zrow_c hP hr t (by omega), hP (t + 1) h, hP t (by omega), hr t (by omega)]
theorem zC_c (hs : ∀ i : Nat, i < n → s i = s' i) (hq : ∀ i t : Nat, i < n → t < m → q i t = q' i t) : ∀ i : Nat, i ≤ n → ∀ t : Nat, t ≤ m → zC s f q i t = zC s' f q' i t
  | 0, _, t, _ => rfl
  | i + 1, hi, t, ht => by
    simp only [zC]
    rw [hs i (by omega)]
    exact zrow_c (fun t ht => zC_c hs hq i (by omega) t ht) (fun t ht => hq i t (by omega) ht) t ht
theorem zstep_c (hs : ∀ i : Nat, i < n → s i = s' i) (hq : ∀ i t : Nat, i < n → t < m → q i t = q' i t) {i t : Nat} (hi : i ≤ n) (ht : t ≤ m) : zstep s f q i t = zstep s' f q' i t := by
  unfold zstep
  by_cases h0 : i = 0
  · rw [if_pos h0, if_pos h0]
  · rw [if_neg h0, if_neg h0]
    by_cases h1 : t = 0
    · rw [if_pos h1, if_pos h1]
    · rw [if_neg h1, if_neg h1, zC_c hs hq i hi t ht, zC_c hs hq (i - 1) (by omega) (t - 1) (by omega), zC_c hs hq (i - 1) (by omega) t ht, hq (i - 1) (t - 1) (by omega) (by omega), hs (i - 1) (by omega)]
theorem zpos_c (hs : ∀ i : Nat, i < n → s i = s' i) (hq : ∀ i t : Nat, i < n → t < m → q i t = q' i t) : ∀ k : Nat, zpos s f q n m k = zpos s' f q' n m k ∧ (zpos s f q n m k).1 ≤ n ∧ (zpos s f q n m k).2 ≤ m
  | 0 => ⟨rfl, Nat.le_refl _, Nat.le_refl _⟩
  | k + 1 => by
    obtain ⟨h1, h2, h3⟩ := zpos_c hs hq k
    have e := zstep_c (f := f) hs hq h2 h3
    rcases hp : zpos s f q n m k with ⟨i, t⟩
    rw [hp] at h1 h2 h3 e
    rw [zpos_s hp, zpos_s h1.symm, e]
    refine ⟨rfl, ?_, ?_⟩
    · dsimp only at h2 ⊢
      split <;> omega
    · dsimp only at h3 ⊢
      split <;> omega
theorem zway_c (hs : ∀ i : Nat, i < n → s i = s' i) (hq : ∀ i t : Nat, i < n → t < m → q i t = q' i t) (k : Nat) : zway s f q n m k = zway s' f q' n m k := by
  obtain ⟨h1, h2, h3⟩ := zpos_c (f := f) hs hq k
  unfold zway
  rw [zstep_c hs hq h2 h3, h1]
theorem zlen_c (hs : ∀ i : Nat, i < n → s i = s' i) (hq : ∀ i t : Nat, i < n → t < m → q i t = q' i t) : zlen s f q n m = zlen s' f q' n m := by
  unfold zlen
  congr 1
  funext k
  rw [(zpos_c (f := f) hs hq k).1]
end ZCG
section RWY
variable {A B : zStore} {N n m b : Nat} {f : Int} {line : Nat}
theorem r_C (hL : rLn A B N) (hC : rCo A B) (hF : rF A B b f N n) (hl : line < N) (hm : A 4 line = m) : zCC A b line n m = zmC B f line n m := by
  unfold zCC zmC
  rw [hC.2.2.2.2]
  exact zC_c (fun i hi => r_sk hL hC hF hi) (fun i t hi ht => r_pc hL hC hF hl hi (by omega)) n (Nat.le_refl _) m (Nat.le_refl _)
theorem r_w (hL : rLn A B N) (hC : rCo A B) (hF : rF A B b f N n) (hl : line < N) (hm : A 4 line = m) : zmw B f line n m = zw_ A b line n m := by
  funext k
  unfold zmw zw_
  rw [hC.2.2.2.2]
  exact (zway_c (fun i hi => r_sk hL hC hF hi) (fun i t hi ht => r_pc hL hC hF hl hi (by omega)) k).symm
theorem r_P (hL : rLn A B N) (hC : rCo A B) (hF : rF A B b f N n) (hl : line < N) (hm : A 4 line = m) : zmP B f line n m = zP_ A b line n m := by
  funext k
  unfold zmP zP_
  rw [hC.2.2.2.2]
  exact (zpos_c (fun i hi => r_sk hL hC hF hi) (fun i t hi ht => r_pc hL hC hF hl hi (by omega)) k).1.symm
theorem r_K (hL : rLn A B N) (hC : rCo A B) (hF : rF A B b f N n) (hl : line < N) (hm : A 4 line = m) : zmK B f line n m = zK A b line n m := by
  unfold zmK zK
  rw [hC.2.2.2.2]
  exact (zlen_c (fun i hi => r_sk hL hC hF hi) (fun i t hi ht => r_pc hL hC hF hl hi (by omega))).symm
theorem r_Wy {I : zStore} {l9 : Int} : zWy (zw_ I b l9 n m) (zP_ I b l9 n m) (zK I b l9 n m) n m := by
  refine ⟨fun k hk => ?_, rfl, ?_, fun k hk => ?_⟩
  · have hp := zlen_pos (s := zs_ I b) (f := I 10 3) (q := zq_ I b l9) (n := n) (m := m) (k := k) hk
    exact (zstep_2 (s := zs_ I b) (f := I 10 3) (q := zq_ I b l9) hp).2.2.2
  · exact zlen_end (s := zs_ I b) (f := I 10 3) (q := zq_ I b l9) (n := n) (m := m)
  · have hp := zlen_pos (s := zs_ I b) (f := I 10 3) (q := zq_ I b l9) (n := n) (m := m) (k := k) hk
    have hz := zstep_2 (s := zs_ I b) (f := I 10 3) (q := zq_ I b l9) hp
    have hP1 : zP_ I b l9 n m (k + 1) = (if zw_ I b l9 n m k = 2 then (zP_ I b l9 n m k).1 else (zP_ I b l9 n m k).1 - 1, if zw_ I b l9 n m k = 1 then (zP_ I b l9 n m k).2 else (zP_ I b l9 n m k).2 - 1) := rfl
    have hz2 : (zw_ I b l9 n m k ≠ 2 → 0 < (zP_ I b l9 n m k).1) ∧ (zw_ I b l9 n m k ≠ 1 → 0 < (zP_ I b l9 n m k).2) := ⟨fun q => hz.2.1 q, fun q => hz.2.2.1 q⟩
    rw [hP1]
    constructor
    · dsimp only
      split
      · rfl
      · have := hz2.1 (by assumption)
        omega
    · dsimp only
      split
      · rfl
      · have := hz2.2 (by assumption)
        omega
end RWY

