theorem fa_first_c {p q : Nat → Bool} : ∀ n : Nat, (∀ k : Nat, k < n → p k = q k) → fa_first p n = fa_first q n
  | 0, _ => rfl
  | n + 1, h => by
    simp only [fa_first]
    rw [fa_first_c n fun k hk => h k (by omega), h n (by omega)]
theorem zseq_t {bt : Int → Int} {a b : Int} : ∀ n : Nat, zseq bt a b n = true → ∀ k : Nat, k < n → bt (a + k) = bt (b + k)
  | 0, _, k, hk => absurd hk (by omega)
  | n + 1, h, k, hk => by
    simp only [zseq, Bool.and_eq_true, beq_iff_eq] at h
    by_cases e : k = n
    · subst e
      exact h.2
    · exact zseq_t n h.1 k (by omega)
theorem zR_c {cm cm' : Nat → Bool} {tk tk' : Nat → Nat → Bool} {n m : Nat} (hc : ∀ i : Nat, i < n → cm i = cm' i) (ht : ∀ i t : Nat, i < n → t < m → tk i t = tk' i t) : ∀ i t : Nat, i ≤ n → t ≤ m → zR cm tk i t = zR cm' tk' i t
  | 0, t, _, _ => rfl
  | i + 1, 0, hi, _ => by
    simp only [zR]
    rw [hc i (by omega), zR_c hc ht i 0 (by omega) (by omega)]
  | i + 1, t + 1, hi, hm => by
    simp only [zR]
    rw [hc i (by omega), zR_c hc ht i (t + 1) (by omega) (by omega), zR_c hc ht i t (by omega) (by omega), ht i t (by omega) (by omega)]
theorem zsg_c {C C' : Nat → Int} : ∀ N : Nat, (∀ l : Nat, l < N → C l = C' l) → zsg C N = zsg C' N
  | 0, _ => rfl
  | N + 1, h => by
    simp only [zsg]
    rw [zsg_c N fun l hl => h l (by omega), h N (by omega)]
theorem znum_c {bt bt' : Int → Int} {j j' : Int} : ∀ n : Nat, (∀ k : Nat, k < n → bt (j + k) = bt' (j' + k)) → znum bt j n = znum bt' j' n
  | 0, _ => rfl
  | n + 1, h => by
    simp only [znum]
    rw [znum_c n fun k hk => h k (by omega), h n (by omega)]
theorem znum_bd {bt : Int → Int} {j : Int} : ∀ n : Nat, (∀ k : Nat, k < n → 48 ≤ bt (j + k) ∧ bt (j + k) ≤ 57) → 0 ≤ znum bt j n ∧ znum bt j n < 10 ^ n
  | 0, _ => by simp [znum]
  | n + 1, h => by
    have ih := znum_bd n fun k hk => h k (by omega)
    have h1 := h n (by omega)
    simp only [znum]
    rw [Int.pow_succ]
    omega
section REQ
variable {A B : zStore} {N n : Nat}
theorem e_kind (h : rR A B N n) {line token : Int} (h0 : 0 ≤ line) (h1 : line < A 2 0) (h2 : 0 ≤ token) (h3 : token < A 4 line) : A 6 (line * 30 + token) = B 115 (30 * line + token) ∧ A 7 (line * 30 + token) - line * 30 = B 116 (30 * line + token) := by
  obtain ⟨l, rfl, hl⟩ := r_line h h0 h1
  obtain ⟨t, rfl⟩ : ∃ t : Nat, token = t := ⟨token.toNat, by omega⟩
  obtain ⟨k1, k2, -⟩ := (h.1.2.1 l hl).2.2.2 t h3
  rw [Int.mul_comm 30]
  omega
theorem e_front (h : rR A B N n) {a c : Int} (h0 : 0 ≤ a) (h1 : a < A 2 0) (h2 : 0 ≤ c) (h3 : c < A 2 0) : zfront A a c = zmFr B a c := by
  have t1 := p_tok h h0 h1
  have t2 := p_tok h h2 h3
  obtain ⟨l, rfl, hl⟩ := r_line h h0 h1
  obtain ⟨l2, rfl, hl2⟩ := r_line h h2 h3
  unfold zfront zmFr
  rw [t1.2.2, t2.2.2]
  refine fa_first_c _ fun k hk => ?_
  have p1 := r_pl h.1 hl (t := k) (by omega)
  have p2 := r_pl h.1 hl2 (t := k) (by omega)
  have e := rTx_s h.1 p1 p2
  rw [Int.mul_comm 30, Int.mul_comm 30]
  by_cases q : A 9 ((l : Int) * 30 + k) = A 9 ((l2 : Int) * 30 + k)
  · rw [e.mp q, q]
    simp
  · rw [Bool.eq_false_iff.mpr (fun r => q (e.mpr r)), bne_iff_ne.mpr q]
    rfl
/-- the same text, the same kind -/
theorem e_knd (h : rR A B N n) {p q : Int} (hp : rPl A N p) (hq : rPl A N q) (e : zsm A p q = true) : A 6 p = A 6 q ∧ A 8 p = A 8 q ∧ ∀ k : Int, 0 ≤ k → k < A 8 p → A 5 (A 7 p + k) = A 5 (A 7 q + k) := by
  unfold zsm at e
  rw [Bool.and_eq_true, beq_iff_eq] at e
  have hz := zseq_t _ e.2
  have tk : ∀ p, rPl A N p → 1 ≤ A 8 p ∧ A 6 p = zkd (A 5 (A 7 p)) := fun p hp => by
    obtain ⟨l, t, h1, h2, rfl⟩ := hp
    obtain ⟨-, -, k3, k4, -⟩ := (h.1.2.1 l h1).2.2.2 t h2
    exact ⟨k3.1, k4⟩
  have t1 := tk p hp
  have t2 := tk q hq
  have z0 := hz 0 (by omega)
  rw [show A 7 p + ((0 : Nat) : Int) = A 7 p by omega, show A 7 q + ((0 : Nat) : Int) = A 7 q by omega] at z0
  refine ⟨by rw [t1.2, t2.2, z0], e.1, fun k h0 h1 => ?_⟩
  have := hz k.toNat (by omega)
  rw [show ((k.toNat : Nat) : Int) = k by omega] at this
  exact this
theorem e_fits (h : rR A B N n) {line m : Nat} (hl : line < N) (hm : A 4 line = m) : zRR A 15 line n m = zmR B line n m := by
  have N12 := h.1.1
  unfold zRR zmR
  refine zR_c (fun i hi => ?_) (fun i t hi ht => ?_) n m (Nat.le_refl _) (Nat.le_refl _)
  · have s := r_sl h hi
    have hF := h.2.2.2.1
    unfold zcm zmcm
    rw [show A (15 + 6) (A (15 + 1) i) = zmu (B 122) 0 i N from s.2.2.2.1, hF.2.1.2.2.1, N12.2.1]
    rfl
  · obtain ⟨s1, s2, s3, s4, s5⟩ := r_sl h hi
    have hp := r_pl h.1 hl (t := t) (by omega)
    obtain ⟨k1, k2, k3, k4⟩ := (h.1.2.1 line hl).2.2.2 t (by omega)
    have hx := h.2.2.2.2.1.2.2.2 i hi
    unfold ztkB
    congr 1
    have e3 : (B 110 3).toNat = N := by omega
    unfold ztk zmcp
    rw [Int.mul_comm 30, s2.2.2, k1.2.2, e3, k3.2.2.1, ← hx.2.1, ← hx.2.2]
    show (if A 18 (A 16 i) ≠ (-1) then _ else (if A 17 (A 16 i) = A 6 ((line : Int) * 30 + t) ∧ A 19 (A 16 i) ≤ A 8 ((line : Int) * 30 + t) ∧ A 8 ((line : Int) * 30 + t) ≤ A 20 (A 16 i) then (1 : Int) else 0)) = _
    rcases s3 with q | q
    · have n1 : ¬ A 18 (A 16 i) ≠ (-1) := fun r => r q.1
      have n2 : ¬ B 121 (40 * 0 + (i : Int)) ≠ (-1) := fun r => r q.2
      rw [if_neg n1, if_neg n2]
      by_cases e : A 17 (A 16 i) ≠ A 6 ((line : Int) * 30 + t)
      · have c1 : ¬ (A 17 (A 16 i) = A 6 ((line : Int) * 30 + t) ∧ A 19 (A 16 i) ≤ A 8 ((line : Int) * 30 + t) ∧ A 8 ((line : Int) * 30 + t) ≤ A 20 (A 16 i)) := fun r => e r.1
        rw [if_pos e, if_neg c1]
      · rw [if_neg e]
        have e := Decidable.not_not.mp e
        by_cases c : A 19 (A 16 i) ≤ A 8 ((line : Int) * 30 + t) ∧ A 8 ((line : Int) * 30 + t) ≤ A 20 (A 16 i)
        · rw [if_pos ⟨e, c⟩, if_pos c]
        · have c1 : ¬ (A 17 (A 16 i) = A 6 ((line : Int) * 30 + t) ∧ A 19 (A 16 i) ≤ A 8 ((line : Int) * 30 + t) ∧ A 8 ((line : Int) * 30 + t) ≤ A 20 (A 16 i)) := fun r => c r.2
          rw [if_neg c1, if_neg c]
    · have v0 := rPl_b h.1 q.1
      have v9 := rPl_9 h.1 q.1
      have q21 := q.2.1
      have n1 : A 18 (A 16 i) ≠ (-1) := by omega
      have n2 : B 121 (40 * 0 + (i : Int)) ≠ (-1) := by omega
      have ts := rTx_s h.1 q.1 hp
      rw [if_pos n1, if_pos n2]
      show (if A 18 (A 16 i) = A 9 ((line : Int) * 30 + t) then (1 : Int) else 0) = _
      rw [q21]
      by_cases e : A 9 (B 121 (40 * 0 + (i : Int))) = A 9 ((line : Int) * 30 + t)
      · have ek := e_knd h q.1 hp (((h.1.2.2 _ q.1).2.2 _ hp).1.mp e)
        have c1 : ¬ A 17 (A 16 i) ≠ A 6 ((line : Int) * 30 + t) := fun r => r (by rw [← q.2.2]; exact ek.1)
        rw [if_pos e, if_neg c1, ts.mp e]
        rfl
      · rw [if_neg e, Bool.eq_false_iff.mpr (fun r => e (ts.mpr r))]
        split <;> rfl
theorem e_str (h : rR A B N n) {m : Nat → Nat} (hm : ∀ l : Nat, l < N → A 4 l = m l) : zsg (fun l => zCC A 15 l n (m l)) N = zsg (fun l => zmC B 0 l n (m l)) N := zsg_c N fun l hl => r_C h.1 h.2.2.1 h.2.2.2.1 hl (hm l hl)
/-- a slot's text -/
theorem e_text (h : rR A B N n) {s : Nat} (hs : s < n) : (A 18 (A 16 s) = (-1) ∧ B 121 s = (-1)) ∨ (A 18 (A 16 s) ≠ (-1) ∧ B 121 s ≠ (-1) ∧ rPl A N (A 18 (A 16 s)) ∧ rPl A N (B 121 s) ∧ A 8 (A 18 (A 16 s)) = B 117 (B 121 s) ∧ ∀ ix : Int, 0 ≤ ix → ix < A 8 (A 18 (A 16 s)) → A 5 (A 7 (A 18 (A 16 s)) + ix) = B 113 (((B 121 s / 30) * 30 + B 116 (B 121 s)) + ix)) := by
  obtain ⟨-, -, s3, -⟩ := r_sl h hs
  rw [r_s0] at s3
  rcases s3 with q | q
  · exact Or.inl q
  · have v0 := rPl_b h.1 q.1
    have v9 := rPl_9 h.1 q.1
    have tx := h.1.2.2 _ q.1
    have ek := e_knd h tx.1 q.1 tx.2.1
    have sz : B 117 (B 121 s) = A 8 (B 121 s) := by
      obtain ⟨l, t, a1, a2, a3⟩ := q.1
      obtain ⟨-, -, k3, -⟩ := (h.1.2.1 l a1).2.2.2 t a2
      rw [a3]
      exact k3.2.2.1
    rw [q.2.1]
    refine Or.inr ⟨by omega, by omega, tx.1, q.1, by rw [ek.2.1, sz], fun ix h0 h1 => ?_⟩
    rw [ek.2.2 ix h0 h1]
    have := rPl_x h.1 q.1 (k := ix.toNat) (by rw [ek.2.1] at h1; omega)
    rw [show ((ix.toNat : Nat) : Int) = ix by omega] at this
    exact this
/-- the token of a line that has used a slot -/
theorem e_tok (h : rR A B N n) {l s : Nat} (hl : l < N) (hs : s < n) : zti A l (A 16 s) = B 122 (12 * (40 * 0 + (s : Int)) + l) := by
  have N12 := h.1.1
  have tk := (h.1.2.1 l hl).2.1
  obtain ⟨m1, m2, m3, -⟩ := h.2.2.2.2.1
  have hF := h.2.2.2.1
  have s5 := (r_sl h hs).2.2.2.2 l (by omega)
  have e22 := m1 l (by omega)
  have m3 := m3 s hs l (by omega)
  unfold zti
  by_cases h0 : A 22 l = 0
  · rw [if_pos h0]
    by_cases hu : B 122 (12 * (40 * 0 + (s : Int)) + l) = (-1)
    · exact hu.symm
    · have := (s5 hu).1
      omega
  · rw [if_neg h0]
    have b1 : zbit (B 119 0) l = 1 := by
      have := zbit_01 (B 119 0) l
      omega
    have m2 := m2 l (by omega) b1
    have no : ∀ j : Nat, (j : Int) < A 4 l → (j : Int) ≠ B 122 (12 * (40 * 0 + (s : Int)) + l) → (A 23 ((l : Int) * 30 + j) == A 16 s) = false := fun j h1 h2 => by
      obtain ⟨i, hi, q1, q2⟩ := m2 j h1
      refine beq_false_of_ne fun e => ?_
      have : i = s := hF.2.2.2 i s hi hs (q2.symm.trans e)
      subst this
      exact h2 q1.symm
    by_cases hu : B 122 (12 * (40 * 0 + (s : Int)) + l) = (-1)
    · have e1 : fa_first (fun t => A 23 ((l : Int) * 30 + t) == A 16 s) (A 4 l).toNat = (A 4 l).toNat := fa_first_all fun j hj => no j (by omega) (by omega)
      rw [e1, if_neg (Nat.lt_irrefl _), hu]
    · have u := s5 hu
      have v := (m3 hu).1
      obtain ⟨t, ht⟩ : ∃ t : Nat, B 122 (12 * (40 * 0 + (s : Int)) + l) = t := ⟨(B 122 (12 * (40 * 0 + (s : Int)) + l)).toNat, by omega⟩
      rw [ht] at u v no ⊢
      have e1 : fa_first (fun t => A 23 ((l : Int) * 30 + t) == A 16 s) (A 4 l).toNat = t := fa_first_eq (by omega) (beq_iff_eq.mpr v) fun j hj => no j (by omega) (by omega)
      rw [e1, if_pos (by omega)]
/-- it is a token of the line, of the slot's kind -/
theorem r_use (h : rR A B N n) {l s : Nat} (hl : l < N) (hs : s < n) (hu : B 122 (12 * (40 * 0 + (s : Int)) + l) ≠ (-1)) : ∃ t : Nat, B 122 (12 * (40 * 0 + (s : Int)) + l) = t ∧ (t : Int) < A 4 l ∧ t < 30 ∧ rPl A N ((l : Int) * 30 + t) ∧ A 6 ((l : Int) * 30 + t) = A 17 (A 16 s) := by
  have N12 := h.1.1
  have tk := (h.1.2.1 l hl).2.1
  have u := (r_sl h hs).2.2.2.2 l (by omega) hu
  have v := h.2.2.2.2.1.2.2.1 s hs l (by omega) hu
  obtain ⟨t, ht⟩ : ∃ t : Nat, B 122 (12 * (40 * 0 + (s : Int)) + l) = t := ⟨(B 122 (12 * (40 * 0 + (s : Int)) + l)).toNat, by omega⟩
  rw [ht] at u v
  exact ⟨t, ht, u.2.2, by omega, r_pl h.1 hl u.2.2, v.2⟩
theorem e_zno (h : rR A B N n) {l t : Nat} (hl : l < N) (ht : (t : Int) < A 4 l) : zno A ((l : Int) * 30 + t) = zmno B l (30 * (l : Int) + t) := by
  obtain ⟨-, k2, k3, -⟩ := (h.1.2.1 l hl).2.2.2 t ht
  have hb := (h.1.2.1 l hl).2.2.1
  have hs := (h.1.2.1 l hl).1
  unfold zno zmno
  rw [Int.mul_comm 30]
  obtain ⟨k0, hk0⟩ : ∃ k0, k0 = max 0 (B 117 ((l : Int) * 30 + t) - 9) := ⟨_, rfl⟩
  have e1 : max (A 7 ((l : Int) * 30 + t)) (A 7 ((l : Int) * 30 + t) + A 8 ((l : Int) * 30 + t) - 9) = A 7 ((l : Int) * 30 + t) + k0 := by omega
  rw [e1, ← hk0, show A 7 ((l : Int) * 30 + t) + A 8 ((l : Int) * 30 + t) - (A 7 ((l : Int) * 30 + t) + k0) = B 117 ((l : Int) * 30 + t) - k0 by omega]
  refine znum_c _ fun k hk => ?_
  have := hb (B 116 ((l : Int) * 30 + t) + k0 + k) (by omega) (by omega)
  rw [Int.mul_comm 30] at this
  rw [k2.2, show (l : Int) * 30 + B 116 ((l : Int) * 30 + t) + k0 + k = (l : Int) * 30 + (B 116 ((l : Int) * 30 + t) + k0 + k) by omega]
  exact this.2.symm
theorem e_num (h : rR A B N n) {l s : Nat} (hl : l < N) (hs : s < n) : znb A l (A 16 s) = zmb B l s := by
  have s2 := (r_sl h hs).2.1
  rw [r_s0] at s2
  unfold znb zmb
  rw [e_tok h hl hs, s2.2.2]
  by_cases c : B 122 (12 * (40 * 0 + (s : Int)) + l) ≠ (-1) ∧ A 17 (A 16 s) = 1
  · rw [if_pos c, if_pos c]
    obtain ⟨t, ht, h1, -⟩ := r_use h hl hs c.1
    rw [ht]
    exact e_zno h hl h1
  · rw [if_neg c, if_neg c]
theorem p_no (h : rR A B N n) {l t : Nat} (hl : l < N) (ht : (t : Int) < A 4 l) (hk : A 6 ((l : Int) * 30 + t) = 1) : 0 ≤ zno A ((l : Int) * 30 + t) ∧ zno A ((l : Int) * 30 + t) < 2147483648 := by
  obtain ⟨-, k2, k3, -, k5⟩ := (h.1.2.1 l hl).2.2.2 t ht
  have k5 := k5 hk
  unfold zno
  generalize hmx : max (A 7 ((l : Int) * 30 + t)) (A 7 ((l : Int) * 30 + t) + A 8 ((l : Int) * 30 + t) - 9) = mx
  have hb := znum_bd (bt := A 5) (j := mx) (A 7 ((l : Int) * 30 + t) + A 8 ((l : Int) * 30 + t) - mx).toNat fun k hk2 => by
    have := k5 (mx - A 7 ((l : Int) * 30 + t) + k) (by omega) (by omega)
    rw [show A 7 ((l : Int) * 30 + t) + (mx - A 7 ((l : Int) * 30 + t) + k) = mx + k by omega] at this
    exact this
  refine ⟨hb.1, Int.lt_of_lt_of_le hb.2 ?_⟩
  generalize hk9 : (A 7 ((l : Int) * 30 + t) + A 8 ((l : Int) * 30 + t) - mx).toNat = k9
  have h9 : k9 ≤ 9 := by omega
  have e9 : (10 : Int) ^ k9 = ((10 ^ k9 : Nat) : Int) := by rw [Int.natCast_pow]; rfl
  have l9 : 10 ^ k9 ≤ 10 ^ 9 := Nat.pow_le_pow_right (by decide) h9
  rw [e9]
  have : (10 : Nat) ^ 9 = 1000000000 := by decide
  omega
theorem p_Nb (h : rR A B N n) {s : Int} (h0 : 0 ≤ s) (h1 : s < A 15 0) : zNb A (A 16 s) N := by
  obtain ⟨s, rfl, hs⟩ := r_slot h h0 h1
  intro line l0 l1 hx hk
  obtain ⟨l, rfl, hl⟩ := r_line h l0 (by have := h.1.1.1; omega)
  rw [e_tok h hl hs] at hx ⊢
  obtain ⟨t, ht, a1, -, a3, a4⟩ := r_use h hl hs hx
  rw [ht]
  exact ⟨rPl_C h.1 a3, p_no h hl a1 (by omega)⟩
theorem e_ztx (h : rR A B N n) {l s : Nat} (hl : l < N) (hs : s < n) : (ztx A l (A 16 s) = (-1) ∧ B 122 (12 * (40 * 0 + (s : Int)) + l) = (-1)) ∨ (B 122 (12 * (40 * 0 + (s : Int)) + l) ≠ (-1) ∧ rPl A N (30 * (l : Int) + B 122 (12 * (40 * 0 + (s : Int)) + l)) ∧ ztx A l (A 16 s) = A 9 (30 * (l : Int) + B 122 (12 * (40 * 0 + (s : Int)) + l)) ∧ 0 ≤ ztx A l (A 16 s)) := by
  unfold ztx
  rw [e_tok h hl hs]
  by_cases hu : B 122 (12 * (40 * 0 + (s : Int)) + l) = (-1)
  · rw [if_pos hu]
    exact Or.inl ⟨rfl, hu⟩
  · obtain ⟨t, ht, a1, -, a3, -⟩ := r_use h hl hs hu
    have a9 := rPl_9 h.1 a3
    rw [if_neg hu, Int.mul_comm 30]
    rw [ht] at hu ⊢
    exact Or.inr ⟨hu, a3, rfl, a9.1⟩
theorem e_d1 (h : rR A B N n) {l s : Nat} (hl : l < N) (hs : s < n) : ∀ o : Nat, o ≤ l → zmd1 B s l o = (decide (ztx A l (A 16 s) ≠ (-1)) && !zbf A (A 16 s) (ztx A l (A 16 s)) o)
  | 0, _ => by
    simp only [zmd1, zbf, Bool.not_false, Bool.and_true]
    rcases e_ztx h hl hs with q | q
    · rw [q.1, q.2]
    · rw [decide_eq_true q.1, decide_eq_true (show ztx A l (A 16 s) ≠ (-1) by omega)]
  | o + 1, ho => by
    have ih := e_d1 h hl hs o (by omega)
    simp only [zmd1, zbf]
    rw [ih]
    rcases e_ztx h hl hs with q | q
    · rw [q.1]
      rfl
    · have hne : ztx A l (A 16 s) ≠ (-1) := by omega
      rw [decide_eq_true hne, Bool.true_and, Bool.true_and, Bool.not_or]
      congr 1
      rcases e_ztx h (l := o) (by omega) hs with r | r
      · rw [r.1, r.2, decide_eq_true rfl, Bool.true_or, beq_false_of_ne (fun e => hne e.symm)]
        rfl
      · rw [decide_eq_false r.1, Bool.false_or, q.2.2.1, r.2.2.1]
        have e := rTx_s h.1 q.2.1 r.2.1
        by_cases c : A 9 (30 * (l : Int) + B 122 (12 * (40 * 0 + (s : Int)) + l)) = A 9 (30 * (o : Int) + B 122 (12 * (40 * 0 + (s : Int)) + o))
        · rw [e.mp c, c]
          simp
        · rw [Bool.eq_false_iff.mpr (fun x => c (e.mpr x)), beq_false_of_ne (fun x => c x.symm)]
theorem e_dist (h : rR A B N n) {s : Nat} (hs : s < n) : ∀ l : Nat, l ≤ N → (zdc A (A 16 s) l : Int) = zmd B s l
  | 0, _ => rfl
  | l + 1, hl => by
    have ih := e_dist h hs l (by omega)
    have e := e_d1 h (l := l) (by omega) hs l (Nat.le_refl _)
    simp only [zdc, zmd]
    rw [e, ← ih]
    by_cases c : ztx A l (A 16 s) ≠ (-1) ∧ zbf A (A 16 s) (ztx A l (A 16 s)) l = false
    · rw [if_pos c, decide_eq_true c.1, c.2]
      rfl
    · rw [if_neg c]
      by_cases c1 : ztx A l (A 16 s) ≠ (-1)
      · have c2 : zbf A (A 16 s) (ztx A l (A 16 s)) l = true := by
          cases hq : zbf A (A 16 s) (ztx A l (A 16 s)) l
          · exact absurd ⟨c1, hq⟩ c
          · rfl
        rw [c2, Bool.not_true, Bool.and_false]
        rfl
      · rw [decide_eq_false c1, Bool.false_and]
        rfl
theorem e_rs (h : rR A B N n) {s : Nat} (hs : s < n) : ∀ l : Nat, l ≤ N → (zrs (fun l => zti A l (A 16 s)) (fun l => znb A l (A 16 s)) l).1 = (zmr B s l).2 ∧ ((zrs (fun l => zti A l (A 16 s)) (fun l => znb A l (A 16 s)) l).1 = true → (zrs (fun l => zti A l (A 16 s)) (fun l => znb A l (A 16 s)) l).2 = (zmr B s l).1)
  | 0, _ => ⟨rfl, fun _ => rfl⟩
  | l + 1, hl => by
    have ih := e_rs h hs l (by omega)
    simp only [zrs, zmr]
    rw [e_tok h (l := l) (by omega) hs, e_num h (l := l) (by omega) hs]
    generalize zrs (fun l => zti A l (A 16 s)) (fun l => znb A l (A 16 s)) l = x at *
    generalize zmr B s l = y at *
    obtain ⟨a, b⟩ := x
    obtain ⟨c, d⟩ := y
    dsimp only at *
    obtain ⟨i1, i2⟩ := ih
    subst i1
    by_cases hu : B 122 (12 * (40 * 0 + (s : Int)) + l) = (-1)
    · rw [if_pos hu, if_pos hu]
      exact ⟨rfl, i2⟩
    · rw [if_neg hu, if_neg hu]
      cases a
      · by_cases hc : zmb B l s ≤ b
        · rw [if_pos hc]
          exact ⟨rfl, fun q => nomatch (show false = true from q)⟩
        · rw [if_neg hc]
          exact ⟨rfl, fun q => nomatch (show false = true from q)⟩
      · have i2 := i2 rfl
        subst i2
        by_cases hc : zmb B l s ≤ b
        · rw [if_pos hc, decide_eq_false (by omega)]
          exact ⟨rfl, fun q => nomatch (show false = true from q)⟩
        · rw [if_neg hc, decide_eq_true (show b < zmb B l s by omega)]
          exact ⟨rfl, fun _ => rfl⟩
theorem e_rise (h : rR A B N n) {s : Nat} (hs : s < n) : zb (zrise A (A 16 s) N) = if B 120 s = 1 ∧ 2 ≤ zmu (B 122) 0 s N then zb (zmr B s N).2 else 0 := by
  obtain ⟨-, s2, -, s4, -⟩ := r_sl h hs
  rw [r_s0] at s2
  unfold zrise
  rw [(e_rs h hs N (Nat.le_refl _)).1, s4, s2.2.2]
  by_cases c : A 17 (A 16 s) = 1 ∧ 2 ≤ zmu (B 122) 0 s N
  · rw [if_pos c, decide_eq_true c, Bool.true_and]
  · rw [if_neg c, decide_eq_false c, Bool.false_and]
    rfl
end REQ
