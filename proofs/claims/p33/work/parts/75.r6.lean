theorem zseq_t {bt : Int → Int} {a b : Int} : ∀ n : Nat, zseq bt a b n = true → ∀ k : Nat, k < n → bt (a + k) = bt (b + k)
  | 0, _, k, hk => absurd hk (by omega)
  | n + 1, h, k, hk => by
    simp only [zseq, Bool.and_eq_true, beq_iff_eq] at h
    by_cases e : k = n
    · subst e
      exact h.2
    · exact zseq_t n h.1 k (by omega)
theorem zsg_c {C C' : Nat → Int} : ∀ N : Nat, (∀ l : Nat, l < N → C l = C' l) → zsg C N = zsg C' N
  | 0, _ => rfl
  | N + 1, h => by
    simp only [zsg]
    rw [zsg_c N fun l hl => h l (by omega), h N (by omega)]
section REQ
variable {A B : zStore} {N n : Nat}
theorem e_kind (h : rR A B N n) {line token : Int} (h0 : 0 ≤ line) (h1 : line < A 2 0) (h2 : 0 ≤ token) (h3 : token < A 4 line) : A 6 (line * 30 + token) = B 115 (30 * line + token) ∧ A 7 (line * 30 + token) - line * 30 = B 116 (30 * line + token) := by
  obtain ⟨l, rfl, hl⟩ := r_line h h0 h1
  obtain ⟨t, rfl⟩ : ∃ t : Nat, token = t := ⟨token.toNat, by omega⟩
  obtain ⟨k1, k2, -⟩ := (h.1.2.1 l hl).2.2.2 t h3
  rw [Int.mul_comm 30]
  omega
/-- the same text, the same kind -/
theorem e_knd (h : rR A B N n) {p q : Int} (hp : rPl A N p) (hq : rPl A N q) (e : zsm A p q = true) : A 6 p = A 6 q ∧ A 8 p = A 8 q ∧ ∀ k : Int, 0 ≤ k → k < A 8 p → A 5 (A 7 p + k) = A 5 (A 7 q + k) := by
  unfold zsm at e
  rw [Bool.and_eq_true, beq_iff_eq] at e
  have hz := zseq_t _ e.2
  have tk : ∀ p, rPl A N p → 1 ≤ A 8 p ∧ A 6 p = zkd (A 5 (A 7 p)) := fun p hp => by
    obtain ⟨l, t, h1, h2, rfl⟩ := hp
    obtain ⟨-, -, k3, k4, -⟩ := (h.1.2.1 l h1).2.2.2 t h2
    exact ⟨k3.1, k4⟩
  have t1 := tk p hp
  have t2 := tk q hq
  have z0 := hz 0 (by omega)
  rw [show A 7 p + ((0 : Nat) : Int) = A 7 p by omega, show A 7 q + ((0 : Nat) : Int) = A 7 q by omega] at z0
  refine ⟨by rw [t1.2, t2.2, z0], e.1, fun k h0 h1 => ?_⟩
  have := hz k.toNat (by omega)
  rw [show ((k.toNat : Nat) : Int) = k by omega] at this
  exact this
theorem e_str (h : rR A B N n) {m : Nat → Nat} (hm : ∀ l : Nat, l < N → A 4 l = m l) : zsg (fun l => zCC A 15 l n (m l)) N = zsg (fun l => zmC B 0 l n (m l)) N := zsg_c N fun l hl => r_C h.1 h.2.2.1 h.2.2.2.1 hl (hm l hl)
/-- a slot's text -/
theorem e_text (h : rR A B N n) {s : Nat} (hs : s < n) : (A 18 (A 16 s) = (-1) ∧ B 121 s = (-1)) ∨ (A 18 (A 16 s) ≠ (-1) ∧ B 121 s ≠ (-1) ∧ rPl A N (A 18 (A 16 s)) ∧ rPl A N (B 121 s) ∧ A 8 (A 18 (A 16 s)) = B 117 (B 121 s) ∧ ∀ ix : Int, 0 ≤ ix → ix < A 8 (A 18 (A 16 s)) → A 5 (A 7 (A 18 (A 16 s)) + ix) = B 113 (((B 121 s / 30) * 30 + B 116 (B 121 s)) + ix)) := by
  obtain ⟨-, -, s3, -⟩ := r_sl h hs
  rw [r_s0] at s3
  rcases s3 with q | q
  · exact Or.inl q
  · have v0 := rPl_b h.1 q.1
    have v9 := rPl_9 h.1 q.1
    have tx := h.1.2.2 _ q.1
    have ek := e_knd h tx.1 q.1 tx.2.1
    have sz : B 117 (B 121 s) = A 8 (B 121 s) := by
      obtain ⟨l, t, a1, a2, a3⟩ := q.1
      obtain ⟨-, -, k3, -⟩ := (h.1.2.1 l a1).2.2.2 t a2
      rw [a3]
      exact k3.2.2.1
    rw [q.2.1]
    refine Or.inr ⟨by omega, by omega, tx.1, q.1, by rw [ek.2.1, sz], fun ix h0 h1 => ?_⟩
    rw [ek.2.2 ix h0 h1]
    have := rPl_x h.1 q.1 (k := ix.toNat) (by rw [ek.2.1] at h1; omega)
    rw [show ((ix.toNat : Nat) : Int) = ix by omega] at this
    exact this
/-- the token of a line that has used a slot -/
theorem e_tok (h : rR A B N n) {l s : Nat} (hl : l < N) (hs : s < n) : zti A l (A 16 s) = B 122 (12 * (40 * 0 + (s : Int)) + l) := by
  have N12 := h.1.1
  have tk := (h.1.2.1 l hl).2.1
  obtain ⟨m1, m2, m3, -⟩ := h.2.2.2.2.1
  have hF := h.2.2.2.1
  have s5 := (r_sl h hs).2.2.2.2 l (by omega)
  have e22 := m1 l (by omega)
  have m3 := m3 s hs l (by omega)
  unfold zti
  by_cases h0 : A 22 l = 0
  · rw [if_pos h0]
    by_cases hu : B 122 (12 * (40 * 0 + (s : Int)) + l) = (-1)
    · exact hu.symm
    · have := (s5 hu).1
      omega
  · rw [if_neg h0]
    have b1 : zbit (B 119 0) l = 1 := by
      have := zbit_01 (B 119 0) l
      omega
    have m2 := m2 l (by omega) b1
    have no : ∀ j : Nat, (j : Int) < A 4 l → (j : Int) ≠ B 122 (12 * (40 * 0 + (s : Int)) + l) → (A 23 ((l : Int) * 30 + j) == A 16 s) = false := fun j h1 h2 => by
      obtain ⟨i, hi, q1, q2⟩ := m2 j h1
      refine beq_false_of_ne fun e => ?_
      have : i = s := hF.2.2.2 i s hi hs (q2.symm.trans e)
      subst this
      exact h2 q1.symm
    by_cases hu : B 122 (12 * (40 * 0 + (s : Int)) + l) = (-1)
    · have e1 : fa_first (fun t => A 23 ((l : Int) * 30 + t) == A 16 s) (A 4 l).toNat = (A 4 l).toNat := fa_first_all fun j hj => no j (by omega) (by omega)
      rw [e1, if_neg (Nat.lt_irrefl _), hu]
    · have u := s5 hu
      have v := (m3 hu).1
      obtain ⟨t, ht⟩ : ∃ t : Nat, B 122 (12 * (40 * 0 + (s : Int)) + l) = t := ⟨(B 122 (12 * (40 * 0 + (s : Int)) + l)).toNat, by omega⟩
      rw [ht] at u v no ⊢
      have e1 : fa_first (fun t => A 23 ((l : Int) * 30 + t) == A 16 s) (A 4 l).toNat = t := fa_first_eq (by omega) (beq_iff_eq.mpr v) fun j hj => no j (by omega) (by omega)
      rw [e1, if_pos (by omega)]
/-- it is a token of the line, of the slot's kind -/
theorem r_use (h : rR A B N n) {l s : Nat} (hl : l < N) (hs : s < n) (hu : B 122 (12 * (40 * 0 + (s : Int)) + l) ≠ (-1)) : ∃ t : Nat, B 122 (12 * (40 * 0 + (s : Int)) + l) = t ∧ (t : Int) < A 4 l ∧ t < 30 ∧ rPl A N ((l : Int) * 30 + t) ∧ A 6 ((l : Int) * 30 + t) = A 17 (A 16 s) := by
  have N12 := h.1.1
  have tk := (h.1.2.1 l hl).2.1
  have u := (r_sl h hs).2.2.2.2 l (by omega) hu
  have v := h.2.2.2.2.1.2.2.1 s hs l (by omega) hu
  obtain ⟨t, ht⟩ : ∃ t : Nat, B 122 (12 * (40 * 0 + (s : Int)) + l) = t := ⟨(B 122 (12 * (40 * 0 + (s : Int)) + l)).toNat, by omega⟩
  rw [ht] at u v
  exact ⟨t, ht, u.2.2, by omega, r_pl h.1 hl u.2.2, v.2⟩
end REQ

