/-! sums in two ways -/
def zsum (f : Nat → Int) : Nat → Int
  | 0 => 0
  | n + 1 => zsum f n + f n
theorem zsum_c {f g : Nat → Int} : ∀ n : Nat, (∀ k : Nat, k < n → f k = g k) → zsum f n = zsum g n
  | 0, _ => rfl
  | n + 1, h => by
    simp only [zsum]
    rw [zsum_c n fun k hk => h k (by omega), h n (by omega)]
theorem zsum_0 {f : Nat → Int} : ∀ n : Nat, (∀ k : Nat, k < n → f k = 0) → zsum f n = 0
  | 0, _ => rfl
  | n + 1, h => by
    simp only [zsum]
    rw [zsum_0 n fun k hk => h k (by omega), h n (by omega)]
    rfl
theorem zsum_add {f g : Nat → Int} : ∀ n : Nat, zsum (fun k => f k + g k) n = zsum f n + zsum g n
  | 0 => rfl
  | n + 1 => by
    simp only [zsum]
    rw [zsum_add n]
    omega
theorem zsum_sw {f : Nat → Nat → Int} (m : Nat) : ∀ n : Nat, zsum (fun i => zsum (fun j => f i j) m) n = zsum (fun j => zsum (fun i => f i j) n) m
  | 0 => (zsum_0 m fun _ _ => rfl).symm
  | n + 1 => by
    simp only [zsum]
    rw [zsum_sw m n, ← zsum_add]
theorem zsum_1 {f : Nat → Int} {k : Nat} : ∀ n : Nat, k < n → (∀ j : Nat, j < n → j ≠ k → f j = 0) → zsum f n = f k
  | 0, h, _ => absurd h (by omega)
  | n + 1, h, h0 => by
    simp only [zsum]
    by_cases e : k = n
    · subst e
      rw [zsum_0 k fun j hj => h0 j (by omega) (by omega), Int.zero_add]
    · rw [zsum_1 n (by omega) fun j hj hk => h0 j (by omega) hk, h0 n (by omega) (fun q => e q.symm), Int.add_zero]
theorem zsum_le {f : Nat → Int} {c : Int} : ∀ n : Nat, (∀ k : Nat, k < n → 0 ≤ f k ∧ f k ≤ c) → 0 ≤ zsum f n ∧ zsum f n ≤ c * n
  | 0, _ => by simp [zsum]
  | n + 1, h => by
    have h1 := zsum_le n fun k hk => h k (by omega)
    have h2 := h n (by omega)
    simp only [zsum]
    have e : c * ((n + 1 : Nat) : Int) = c * n + c := by rw [show (((n + 1 : Nat)) : Int) = n + 1 by omega, Int.mul_add, Int.mul_one]
    rw [e]
    omega
/-- what a token of a line costs, if it varies -/
def zgtk (A : zStore) (l t : Nat) : Int := if A 18 (A 23 ((l : Int) * 30 + t)) = (-1) then 1 + zPT (A 6 ((l : Int) * 30 + t)) * A 8 ((l : Int) * 30 + t) else 0
def zhtk (B : zStore) (s l : Nat) : Int := if B 121 s = (-1) ∧ B 122 (12 * (40 * 0 + (s : Int)) + l) ≠ (-1) then 1 + zPT (B 120 s) * B 117 (30 * (l : Int) + B 122 (12 * (40 * 0 + (s : Int)) + l)) else 0
def zxtk (A B : zStore) (s l t : Nat) : Int := if B 122 (12 * (40 * 0 + (s : Int)) + l) = t then zgtk A l t else 0
theorem zvb_sum (A : zStore) (l : Nat) : ∀ m : Nat, zvb A l m = zsum (zgtk A l) m
  | 0 => rfl
  | m + 1 => by
    simp only [zvb, zsum]
    rw [zvb_sum A l m]
    rfl
theorem zmv_sum (B : zStore) (s : Nat) : ∀ N : Nat, zmv B s N = zsum (zhtk B s) N
  | 0 => rfl
  | N + 1 => by
    simp only [zmv, zsum]
    rw [zmv_sum B s N]
    rfl
section RSU
variable {A B : zStore} {N n : Nat}
theorem e_ht (h : rR A B N n) {l s : Nat} (hl : l < N) (hs : s < n) {m : Nat} (hm : A 4 l = m) : zhtk B s l = zsum (zxtk A B s l) m := by
  unfold zhtk
  by_cases hu : B 122 (12 * (40 * 0 + (s : Int)) + l) = (-1)
  · have c : ¬ (B 121 s = (-1) ∧ B 122 (12 * (40 * 0 + (s : Int)) + l) ≠ (-1)) := fun q => q.2 hu
    rw [if_neg c, zsum_0]
    intro t _
    unfold zxtk
    rw [hu, if_neg (by omega)]
  · obtain ⟨t, ht, a1, -, a3, a4⟩ := r_use h hl hs hu
    have v := (h.2.2.2.2.1.2.2.1 s hs l (by have := h.1.1; omega) hu).1
    have N12 := h.1.1
    rw [ht] at v
    have e1 : zsum (zxtk A B s l) m = zxtk A B s l t := zsum_1 m (by omega) fun j hj hne => by
      unfold zxtk
      rw [ht, if_neg (by omega)]
    rw [e1]
    unfold zxtk
    rw [if_pos ht]
    unfold zgtk
    obtain ⟨-, s2, -⟩ := r_sl h hs
    rw [r_s0] at s2
    have sz : B 117 ((l : Int) * 30 + t) = A 8 ((l : Int) * 30 + t) := ((h.1.2.1 l hl).2.2.2 t a1).2.2.1.2.2.1
    rw [v, a4, ht, s2.2.2, Int.mul_comm 30, sz]
    rcases e_text h hs with q | q
    · rw [if_pos q.1, if_pos ⟨q.2, by omega⟩]
    · rw [if_neg q.1, if_neg (fun r => q.2.1 r.1)]
theorem e_gt (h : rR A B N n) {l t : Nat} (hl : l < N) (hb : zbit (B 119 0) l = 1) (ht : (t : Int) < A 4 l) : zsum (fun s => zxtk A B s l t) n = zgtk A l t := by
  have N12 := h.1.1
  obtain ⟨i, hi, e1, e2⟩ := h.2.2.2.2.1.2.1 l (by omega) hb t ht
  rw [zsum_1 n hi fun j hj hne => ?_]
  · unfold zxtk
    rw [if_pos e1]
  · unfold zxtk
    by_cases e : B 122 (12 * (40 * 0 + (j : Int)) + l) = t
    · exfalso
      have v := (h.2.2.2.2.1.2.2.1 j hj l (by omega) (by omega)).1
      rw [e, e2] at v
      exact hne (h.2.2.2.1.2.2.2 j i hj hi v.symm)
    · rw [if_neg e]
theorem e_m2 (h : rR A B N n) : ∀ M : Nat, M ≤ N → zb2 A M = zsum (fun l => zsum (fun s => zhtk B s l) n) M
  | 0, _ => rfl
  | l + 1, hl => by
    have ih := e_m2 h l (by omega)
    have N12 := h.1.1
    have tk := (h.1.2.1 l (by omega)).2.1
    have m1 := h.2.2.2.2.1.1 l (by omega)
    simp only [zb2, zsum]
    rw [ih]
    congr 1
    by_cases h0 : A 22 l = 0
    · rw [if_pos h0]
      refine (zsum_0 n fun s hs => ?_).symm
      unfold zhtk
      refine if_neg fun q => ?_
      have := ((r_sl h hs).2.2.2.2 l (by omega) q.2).1
      omega
    · rw [if_neg h0, zvb_sum]
      have b1 : zbit (B 119 0) l = 1 := by
        have := zbit_01 (B 119 0) l
        omega
      obtain ⟨m, hm⟩ : ∃ m : Nat, A 4 l = m := ⟨(A 4 l).toNat, by omega⟩
      rw [hm, Int.toNat_natCast, zsum_c n (g := fun s => zsum (fun t => zxtk A B s l t) m) fun s hs => e_ht h (by omega) hs hm, zsum_sw]
      exact (zsum_c m fun t ht => e_gt h (by omega) b1 (by omega)).symm
theorem e_m1 (h : rR A B N n) : ∀ s : Nat, s ≤ n → zmbt B N s = zb1 A s + zsum (fun s => zmv B s N) s
  | 0, _ => rfl
  | s + 1, hs => by
    have ih := e_m1 h s (by omega)
    have s4 := (r_sl h (s := s) (by omega)).2.2.2.1
    have mk : A 15 1 = zbc (B 119 0) := h.2.2.2.1.2.1.2.2.1
    simp only [zmbt, zb1, zsum]
    rw [ih, s4, mk]
    rcases e_text h (s := s) (by omega) with q | q
    · rw [if_pos q.1, if_pos q.2]
      omega
    · rw [if_neg q.1, if_neg q.2.1, q.2.2.2.2.1]
      have : 0 ≤ B 117 (B 121 s) := by
        have := (rPl_T h.1 q.2.2.2.1).2.2.1
        have t2 := rPl_C h.1 q.2.2.1
        have := t2.2.2.1
        rw [← q.2.2.2.2.1]
        obtain ⟨l2, t2, a1, a2, a3⟩ := q.2.2.1
        rw [a3]
        have := ((h.1.2.1 l2 a1).2.2.2 t2 a2).2.2.1.1
        omega
      omega
/-- the bits are the same -/
theorem e_bits (h : rR A B N n) : zb1 A n + zb2 A N = zmbt B N n := by
  rw [e_m1 h n (Nat.le_refl _), e_m2 h N (Nat.le_refl _), zsum_sw (f := fun l s => zhtk B s l)]
  congr 1
  exact (zsum_c n fun s _ => zmv_sum B s N).symm
theorem p_Sl (h : rR A B N n) : zSl A n := fun s h0 h1 => by
  obtain ⟨k, rfl⟩ : ∃ k : Nat, s = k := ⟨s.toNat, by omega⟩
  have hk : k < n := by omega
  have n40 := h.2.2.2.1.1.2.2
  have s1 := (r_sl h hk).1
  refine ⟨by omega, ?_⟩
  rcases e_text h hk with q | q
  · exact ⟨fun r => absurd q.1 r, Or.inl q.1⟩
  · have b := rPl_b h.1 q.2.2.1
    refine ⟨fun _ => b, Or.inr ?_⟩
    obtain ⟨l2, t2, a1, a2, a3⟩ := q.2.2.1
    rw [a3]
    have := ((h.1.2.1 l2 a1).2.2.2 t2 a2).2.2.1
    omega
theorem p_Tks (h : rR A B N n) : ∀ l : Int, 0 ≤ l → l < N → A 22 l ≠ 0 → zTks A l := fun l h0 h1 h2 => by
  obtain ⟨k, rfl⟩ : ∃ k : Nat, l = k := ⟨l.toNat, by omega⟩
  have N12 := h.1.1
  have n40 := h.2.2.2.1.1.2.2
  have m1 := h.2.2.2.2.1.1 k (by omega)
  have b1 : zbit (B 119 0) k = 1 := by
    have := zbit_01 (B 119 0) k
    omega
  intro t t0 t1
  obtain ⟨t, rfl⟩ : ∃ t2 : Nat, t = t2 := ⟨t.toNat, by omega⟩
  obtain ⟨i, hi, e1, e2⟩ := h.2.2.2.2.1.2.1 k (by omega) b1 t t1
  have s1 := (r_sl h hi).1
  have tk := (h.1.2.1 k (by omega)).2.2.2 t t1
  unfold rTok at tk
  rw [e2]
  omega
theorem p_Sz (h : rR A B N n) : zSz A N := fun l h0 h1 => by
  obtain ⟨k, rfl⟩ : ∃ k : Nat, l = k := ⟨l.toNat, by omega⟩
  have := (h.1.2.1 k (by omega)).1
  omega
theorem p_bb (h : rR A B N n) : 0 ≤ zmbt B N n ∧ zmbt B N n < 200000 := by
  rw [← e_bits h]
  have N12 := h.1.1
  have n40 := h.2.2.2.1.1.2.2
  have a := zb1_bd (p_Sl h) (p_j h) n (by omega)
  have b : 0 ≤ zb2 A N ∧ zb2 A N ≤ 6330 * N := by
    have key : ∀ M : Nat, M ≤ N → 0 ≤ zb2 A M ∧ zb2 A M ≤ 6330 * M := fun M hM => by
      induction M with
      | zero => simp only [zb2]; omega
      | succ l ih =>
        have ih := ih (by omega)
        have tk := (h.1.2.1 l (by omega)).2.1
        simp only [zb2]
        by_cases h0 : A 22 l = 0
        · rw [if_pos h0]
          omega
        · rw [if_neg h0]
          have := zvb_bd (p_Tks h l (by omega) (by omega) h0) (A 4 l).toNat (by omega)
          omega
    exact key N (Nat.le_refl _)
  omega
theorem p_Bt (h : rR A B N n) : zmBt B N n := by
  have N12 := h.1.1
  have F := h.2.2.2.1
  refine ⟨⟨N12.2.1, N12.2.2⟩, ⟨F.1.2.1, F.1.2.2⟩, p_mk h, fun i hi => ⟨fun hx => ?_, ?_⟩, fun i hi l hl hx => ?_⟩
  · rcases e_text h hi with q | q
    · exact absurd q.2 hx
    · exact rPl_b h.1 q.2.2.2.1
  · have s2 := (r_sl h hi).2.1
    rw [r_s0] at s2
    omega
  · obtain ⟨t, ht, a1, a2, -⟩ := r_use h hl hi hx
    omega
theorem p_HU (h : rR A B N n) {s : Nat} (hs : s < n) : ∀ l : Int, 0 ≤ l → l < B 110 3 → B 122 (12 * (40 * 0 + (s : Int)) + l) ≠ (-1) → 0 ≤ B 122 (12 * (40 * 0 + (s : Int)) + l) ∧ B 122 (12 * (40 * 0 + (s : Int)) + l) < 30 := fun l h0 h1 hx => by
  have N12 := h.1.1
  obtain ⟨k, rfl⟩ : ∃ k : Nat, l = k := ⟨l.toNat, by omega⟩
  exact (p_Bt h).2.2.2.2 s hs k (by omega) hx
theorem p_Ft (h : rR A B N n) {line m : Nat} (hl : line < N) (hm : A 4 line = m) : zmFt B line n m := by
  have N12 := h.1.1
  have F := h.2.2.2.1
  have tk := (h.1.2.1 line hl).2.1
  refine ⟨by omega, ⟨F.1.2.1, F.1.2.2⟩, ⟨by omega, by omega⟩, by omega, p_mk h, fun i hi hx => ?_, fun t ht => ?_, fun i hi => p_HU h hi⟩
  · rw [r_s0] at hx ⊢
    rcases e_text h hi with q | q
    · exact absurd q.2 hx
    · exact rPl_T h.1 q.2.2.2.1
  · rw [Int.mul_comm 30]
    exact rPl_T h.1 (r_pl h.1 hl (by omega))
/-! what the lines cost by themselves -/
theorem e_ow (h : rR A B N n) : ∀ M : Nat, M ≤ N → zcow A M = zmow B M ∧ (zcow A M = 0 ∨ ∃ k : Nat, k < 31 * M ∧ zcow A M = ((8 * k + 8 : Nat) : Int)) ∧ (zcow A M = 0 ↔ ∀ l : Nat, l < M → zbit (B 119 0) l = 0)
  | 0, _ => ⟨rfl, Or.inl rfl, by simp [zcow]⟩
  | l + 1, hl => by
    obtain ⟨i1, i2, i3⟩ := e_ow h l (by omega)
    have N12 := h.1.1
    have mk := p_mk h
    have m1 := h.2.2.2.2.1.1 l (by omega)
    have sz := (h.1.2.1 l (by omega)).1
    have b01 := zbit_01 (B 119 0) l
    simp only [zcow, zmow]
    rw [zbit_eq mk (by omega), ← i1, m1, sz.2.2]
    rcases b01 with q | q
    · rw [q, if_pos rfl, if_neg (by decide)]
      refine ⟨rfl, ?_, ?_⟩
      · rcases i2 with r | ⟨k, r1, r2⟩
        · exact Or.inl r
        · exact Or.inr ⟨k, by omega, r2⟩
      · rw [i3]
        refine ⟨fun r k hk => ?_, fun r k hk => r k (by omega)⟩
        by_cases e : k = l
        · subst e; exact q
        · exact r k (by omega)
    · rw [q, if_neg (by decide), if_pos rfl]
      refine ⟨rfl, Or.inr ?_, ?_⟩
      · rcases i2 with r | ⟨k, r1, r2⟩
        · exact ⟨(A 3 l).toNat, by omega, by omega⟩
        · exact ⟨k + 1 + (A 3 l).toNat, by omega, by omega⟩
      · constructor
        · intro r
          exfalso
          rcases i2 with r1 | ⟨k, r1, r2⟩ <;> omega
        · intro r
          have := r l (by omega)
          omega
theorem zbit_all {v : Int} (h : 0 ≤ v ∧ v < 4096) (h0 : ∀ l : Nat, l < 12 → zbit v l = 0) : v = 0 := by
  obtain ⟨n, rfl⟩ : ∃ n : Nat, v = n := ⟨v.toNat, by omega⟩
  have e : n = 0 := by
    apply Nat.eq_of_testBit_eq
    intro i
    rw [Nat.zero_testBit]
    by_cases hi : i < 12
    · have := h0 i hi
      rw [zbit_nat] at this
      cases hb : n.testBit i
      · rfl
      · rw [hb] at this
        exact absurd this (by decide)
    · refine Nat.testBit_lt_two_pow (Nat.lt_of_lt_of_le (show n < 2 ^ 12 by omega) (Nat.pow_le_pow_right (by decide) (by omega)))
  omega
theorem e_mk0 (h : rR A B N n) : zcow A N = 0 ↔ B 119 0 = 0 := by
  have N12 := h.1.1
  rw [(e_ow h N (Nat.le_refl _)).2.2]
  constructor
  · intro q
    refine zbit_all (p_mk h) fun l hl => ?_
    by_cases hN : l < N
    · exact q l hN
    · have b01 := zbit_01 (B 119 0) l
      rcases b01 with r | r
      · exact r
      · exact absurd (h.2.2.2.1.2.1.2.2.2 l hl r) hN
  · intro q l hl
    rw [q, zbit_z]
theorem p_ow (h : rR A B N n) : B 119 0 ≠ 0 → ∃ k : Nat, k < 400 ∧ zmow B N = ((8 * k + 8 : Nat) : Int) := fun hne => by
  have N12 := h.1.1
  obtain ⟨i1, i2, -⟩ := e_ow h N (Nat.le_refl _)
  rcases i2 with r | ⟨k, r1, r2⟩
  · exact absurd ((e_mk0 h).mp r) hne
  · exact ⟨k, by omega, by rw [← i1]; exact r2⟩
theorem e_sav (h : rR A B N n) : (if zcow A N = 0 then FP.dconst0 else zsav (zb1 A n + zb2 A N) (zcow A N)) = (if B 119 0 = 0 then FP.dconst0 else zsav (zmbt B N n) (zmow B N)) := by
  rw [e_bits h, ← (e_ow h N (Nat.le_refl _)).1]
  have := e_mk0 h
  by_cases q : zcow A N = 0
  · rw [if_pos q, if_pos (this.mp q)]
  · rw [if_neg q, if_neg (fun r => q (this.mpr r))]
/-! the digest -/
theorem e_dl (h : rR A B N n) {l : Nat} (hl : l < N) {d d' : Int} (hd : d = d') : ∀ i : Nat, (i : Int) ≤ A 3 l → zdl A l d i = zmdl B l d' i
  | 0, _ => hd
  | i + 1, hi => by
    have ih := e_dl h hl hd i (by omega)
    simp only [zdl, zmdl]
    rw [ih, ← ((h.1.2.1 l hl).2.2.1 i (by omega) (by omega)).2]
theorem e_dL (h : rR A B N n) {st st' : Int} (hst : st * 31 + A 2 0 = st') : ∀ l : Nat, l ≤ N → zdL A st l = zmdL B st' l
  | 0, _ => hst
  | l + 1, hl => by
    have ih := e_dL h hst l (by omega)
    have sz := (h.1.2.1 l (by omega)).1
    simp only [zdL, zmdL]
    rw [ih, sz.2.2]
    exact e_dl h (by omega) rfl _ (by omega)
theorem e_dS (h : rR A B N n) {st st' : Int} (hst : st * 31 + A 15 0 = st') : ∀ s : Nat, s ≤ n → zdS A st s = zmdS B st' s
  | 0, _ => hst
  | s + 1, hs => by
    have ih := e_dS h hst s (by omega)
    have N12 := h.1.1
    obtain ⟨-, s2, -, s4, -⟩ := r_sl h (s := s) (by omega)
    rw [r_s0] at s2
    have m4 := h.2.2.2.2.1.2.2.2 s (by omega)
    have eN : (B 110 3).toNat = N := by omega
    simp only [zdS, zmdS]
    rw [ih, eN, m4.2.1, m4.2.2, s4, s2.2.2]
    congr 1
    rcases e_text h (s := s) (by omega) with q | q
    · rw [if_pos q.1, if_pos q.2]
    · rw [if_neg q.1, if_neg q.2.1, q.2.2.2.2.1]
theorem e_dG (h : rR A B N n) (hg : A 0 7 = 1) {d d' : Int} (hd : d = d') : ∀ l : Nat, l ≤ N → zdG A d l = zmdG B d' l
  | 0, _ => hd
  | l + 1, hl => by
    have ih := e_dG h hg hd l (by omega)
    simp only [zdG, zmdG]
    rw [ih, (h.2.2.2.2.2.2.2.2 hg).2.1 l (by omega)]
theorem e_dig (h : rR A B N n) : zdig A N n = zmdig B N n := by
  have G := h.2.2.2.2.2
  have C := h.2.2.1
  have mk : A 15 1 = zbc (B 119 0) := h.2.2.2.1.2.1.2.2.1
  have bu := h.2.1.1
  have eL := e_dL h (st := 149 * 31 + A 0 1) (st' := (4619 + B 110 1) * 31 + B 110 3) (by rw [bu.2.2, ← e_2 h, show (149 : Int) * 31 = 4619 from rfl]) N (Nat.le_refl _)
  have eS := e_dS h (st := ((((zdL A (149 * 31 + A 0 1) N * 31 + A 10 1) * 31) + A 10 2) * 31) + A 10 3) (st' := zmdc B N) (by
    unfold zmdc
    rw [eL, C.1.2.2, C.2.1.2.2, C.2.2.2.2, e_15 h]) n (Nat.le_refl _)
  unfold zdig zmdig
  rw [eS, mk, ← G.1.1]
  by_cases q : A 0 7 = 0
  · rw [if_pos q, if_pos q]
  · rw [if_neg q, if_neg q]
    exact e_dG h (by have := G.1.2; omega) rfl N (Nat.le_refl _)
end RSU
