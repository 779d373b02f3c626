section RSU
variable {A B : zStore} {N n : Nat}
theorem p_Bt (h : rR A B N n) : zmBt B N n := by
  have N12 := h.1.1
  have F := h.2.2.2.1
  refine ⟨⟨N12.2.1, N12.2.2⟩, ⟨F.1.2.1, F.1.2.2⟩, p_mk h, fun i hi => ⟨fun hx => ?_, ?_⟩, fun i hi l hl hx => ?_⟩
  · rcases e_text h hi with q | q
    · exact absurd q.2 hx
    · exact rPl_b h.1 q.2.2.2.1
  · have s2 := (r_sl h hi).2.1
    rw [r_s0] at s2
    omega
  · obtain ⟨t, ht, a1, a2, -⟩ := r_use h hl hi hx
    omega
theorem p_HU (h : rR A B N n) {s : Nat} (hs : s < n) : ∀ l : Int, 0 ≤ l → l < B 110 3 → B 122 (12 * (40 * 0 + (s : Int)) + l) ≠ (-1) → 0 ≤ B 122 (12 * (40 * 0 + (s : Int)) + l) ∧ B 122 (12 * (40 * 0 + (s : Int)) + l) < 30 := fun l h0 h1 hx => by
  have N12 := h.1.1
  obtain ⟨k, rfl⟩ : ∃ k : Nat, l = k := ⟨l.toNat, by omega⟩
  exact (p_Bt h).2.2.2.2 s hs k (by omega) hx
theorem p_Ft (h : rR A B N n) {line m : Nat} (hl : line < N) (hm : A 4 line = m) : zmFt B line n m := by
  have N12 := h.1.1
  have F := h.2.2.2.1
  have tk := (h.1.2.1 line hl).2.1
  refine ⟨by omega, ⟨F.1.2.1, F.1.2.2⟩, ⟨by omega, by omega⟩, by omega, p_mk h, fun i hi hx => ?_, fun t ht => ?_, fun i hi => p_HU h hi⟩
  · rw [r_s0] at hx ⊢
    rcases e_text h hi with q | q
    · exact absurd q.2 hx
    · exact rPl_T h.1 q.2.2.2.1
  · rw [Int.mul_comm 30]
    exact rPl_T h.1 (r_pl h.1 hl (by omega))
end RSU

