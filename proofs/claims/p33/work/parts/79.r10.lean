section RSTR
variable {A B : zStore} {N n z : Nat} {V : Nat → Int}
theorem rPl_up (hL : rLn A B N) {p : Int} (h : rPl A N p) : rPl (zsto A N z V) (N + 1) p := r_pl2.mpr (Or.inl h)
theorem r_store (h : rR A B N n) (hN : N < 12) (hz : A 0 1 = z) (hV : ∀ t : Nat, t < zcnt (zkb (zad1 A N z) N) z → zfst (zad2 A N z) N ((N : Int) * 30 + t) (V t)) : rR (zsto A N z V) (zmsto B N z) (N + 1) n := by
  obtain ⟨a1, a2, a3, a4, a5, a6⟩ := h
  have z30 := a2.1
  have a : ∀ c, 9 < c → zsto A N z V c = A c := fun c hc => zsto_big hc
  have k : ∀ c, 117 < c → zmsto B N z c = B c := fun c hc => zmsto_o (by omega)
  obtain ⟨v1, v7, v2⟩ := zsto_v (A := A) (N := N) (z := z) (V := V)
  obtain ⟨w1, w3, w18⟩ := zmsto_v (B := B) (N := N) (z := z)
  have n12 := a1.1
  -- a merged line is one of the lines before
  have un : ∀ (b : Nat) (f : Int) (m : Nat), rF A B b f N m → ∀ i : Nat, i < m → B 122 (12 * (40 * f + (i : Int)) + (N : Int)) = (-1) := fun b f m hF i hi => by
    by_cases e : B 122 (12 * (40 * f + (i : Int)) + (N : Int)) = (-1)
    · exact e
    · have := ((hF.2.2.1 i hi).2.2.2.2 N (by omega) e).1
      have := hF.2.1.2.2.2 N (by omega) this
      omega
  have u0 := un 15 0 n a4
  have e4 : ∀ l : Int, l ≠ N → zsto A N z V 4 l = A 4 l := fun l hl => by rw [zsto_o (by decide), zad2_4, if_neg hl]
  have e6 : ∀ j : Int, j < (N : Int) * 30 → zsto A N z V 6 j = A 6 j := fun j hj => by rw [zsto_o (by decide), zad2_old (by omega) (by omega) (by omega)]
  have e17 : ∀ j : Int, j < (N : Int) * 30 → zmsto B N z 117 j = B 117 j := fun j hj => zmsto_old (by decide) (by omega)
  refine ⟨⟨⟨v2, w3, by omega⟩, fun l hl => ?_, r_txs a1 (by omega) hV⟩, ⟨⟨by omega, by omega, by omega⟩, fun i i0 i1 => by rw [v1] at i1; omega⟩, ?_, ?_, ?_, ?_⟩
  · by_cases e : l = N
    · subst e
      exact r_new a2 hN hz
    · exact r_old a1 (by omega) (by omega)
  · refine rCo_c ?_ ?_ ?_ (zmsto_0 (by decide)) (zmsto_0 (by decide)) (zmsto_0 (by decide)) a3
    · rw [a 10 (by decide)]
    · rw [a 10 (by decide)]
    · rw [a 10 (by decide)]
  · obtain ⟨p1, p2, p3, p4⟩ := a4
    unfold rF
    rw [a 15 (by decide), a (15 + 1) (by decide), k 118 (by decide), k 119 (by decide)]
    refine ⟨p1, ⟨p2.1, p2.2.1, p2.2.2.1, fun l hl q => ?_⟩, fun i hi => ?_, p4⟩
    · have := p2.2.2.2 l hl q
      omega
    · obtain ⟨q1, q2, q3, q4, q5⟩ := p3 i hi
      unfold rSl
      rw [a (15 + 1) (by decide), a (15 + 2) (by decide), a (15 + 3) (by decide), a (15 + 6) (by decide), k 119 (by decide), k 120 (by decide), k 121 (by decide), k 122 (by decide)]
      refine ⟨q1, q2, ?_, ?_, fun l hl hx => ?_⟩
      · rcases q3 with r | r
        · exact Or.inl r
        · have lt := rPl_lt a1 r.1
          refine Or.inr ⟨rPl_up a1 r.1, ?_, ?_⟩
          · rw [zsto_9 lt.2.1]; exact r.2.1
          · rw [e6 _ lt.2.1]; exact r.2.2
      · simp only [zmu]
        rw [u0 i hi, if_pos rfl, Int.add_zero]
        exact q4
      · have r := q5 l hl hx
        have := p2.2.2.2 l hl r.1
        rw [e4 l (by omega)]
        exact r
  · obtain ⟨p1, p2, p3, p4⟩ := a5
    have lN := a4.2.1.2.2.2
    unfold rM
    rw [a 16 (by decide), a 17 (by decide), a 19 (by decide), a 20 (by decide), a 22 (by decide), a 23 (by decide), k 119 (by decide), k 122 (by decide)]
    refine ⟨p1, fun l hl q t ht => ?_, fun i hi l hl q => ?_, fun i hi => ?_⟩
    · have := lN l hl q
      rw [e4 l (by omega)] at ht
      exact p2 l hl q t ht
    · have r := p3 i hi l hl q
      have s := (a4.2.2.1 i hi).2.2.2.2 l hl q
      have := lN l hl s.1
      have t30 := (a1.2.1 l this).2.1
      rw [e6 _ (by omega)]
      exact r
    · have r := p4 i hi
      have e : ∀ g : Int, zme (B 122) (zmsto B N z 117) i g (N + 1) = zme (B 122) (B 117) i g N := fun g => by
        simp only [zme]
        rw [u0 i hi, if_pos rfl]
        have key : ∀ M : Nat, M ≤ N → zme (B 122) (zmsto B N z 117) i g M = zme (B 122) (B 117) i g M := fun M => by
          induction M with
          | zero => intro _; rfl
          | succ l ih =>
            intro hl
            simp only [zme]
            rw [ih (by omega)]
            by_cases q : B 122 (12 * (40 * 0 + (i : Int)) + (l : Int)) = (-1)
            · rw [if_pos q, if_pos q]
            · have s := (a4.2.2.1 i hi).2.2.2.2 l (by omega) q
              have t30 := (a1.2.1 l (by omega)).2.1
              rw [e17 _ (by omega)]
        exact key N (Nat.le_refl _)
      rw [e, e]
      exact r
  · refine ⟨⟨by rw [v7, w18], Or.inl v7⟩, ?_, ?_, fun q => absurd (v7.symm.trans q) (by decide)⟩
    · rw [zsto_0 (by decide)]; exact a6.2.1
    · rw [zmsto_0 (by decide)]; exact a6.2.2.1
/-- the texts that the contract of store asks -/
theorem r_V (h : rR A B N n) (hN : N < 12) (hz : A 0 1 = z) : ∃ V : Nat → Int, ∀ t : Nat, t < zcnt (zkb (zad1 A N z) N) z → zfst (zad2 A N z) N ((N : Int) * 30 + t) (V t) ∧ 0 ≤ V t ∧ V t < 360 := by
  have z30 := h.2.1.1
  have c30 := zcnt_le (zkb (zad1 A N z) N) z
  have b0 : ∀ l : Nat, l ≤ N → zad2 A N z 4 l ≤ 30 := fun l hl => by
    rw [zad2_4]
    by_cases e : l = N
    · rw [if_pos (by omega)]; omega
    · rw [if_neg (by omega)]
      exact (h.1.2.1 l (by omega)).2.1.2.1
  have H : ∀ t : Nat, ∃ v : Int, t < zcnt (zkb (zad1 A N z) N) z → zfst (zad2 A N z) N ((N : Int) * 30 + t) v ∧ 0 ≤ v ∧ v < 360 := fun t => by
    by_cases ht : t < zcnt (zkb (zad1 A N z) N) z
    · obtain ⟨v, hv⟩ := zfst_ex (I := zad2 A N z) (L := N) (t := t) (by rw [zad2_4, if_pos rfl]; omega) b0
      refine ⟨v, fun _ => ⟨hv, ?_⟩⟩
      obtain ⟨l0, t0, h1, h2, h3, -⟩ := hv
      have := b0 l0 h1
      omega
    · exact ⟨0, fun q => absurd q ht⟩
  obtain ⟨V, hV⟩ := Classical.axiomOfChoice H
  exact ⟨V, hV⟩
/-- what store asks of the lines before -/
theorem p_st (h : rR A B N n) : ∀ l : Nat, l < N → 0 ≤ A 4 l ∧ A 4 l ≤ 30 ∧ ∀ t : Nat, (t : Int) < A 4 l → zTk A (l * 30 + t) := fun l hl => by
  have t30 := (h.1.2.1 l hl).2.1
  exact ⟨t30.1, t30.2.1, fun t ht => rPl_C h.1 (r_pl h.1 hl ht)⟩
end RSTR

