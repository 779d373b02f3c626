section RMG
variable {A B : zStore} {N n m : Nat} {line : Nat}
theorem zmg_o {c : Nat} {j : Int} (h : c ≠ 22) (h2 : c ≠ 23) : zmg A line n m c j = zaj A 15 line n m c j := by
  unfold zmg
  rw [zup_k h, zfl_k h2]
theorem zmg_22 {l : Int} : zmg A line n m 22 l = if l = line then 1 else A 22 l := by
  unfold zmg
  by_cases e : l = line
  · rw [if_pos e, e, zup_at]
  · rw [if_neg e, zup_i e, zfl_k (by decide), zaj_o (by decide) (by decide) (by decide) (by decide) (by decide)]
theorem zmg_23 (hm : m ≤ 30) {l t : Nat} (ht : t < 30) : zmg A line n m 23 ((l : Int) * 30 + t) = if l = line ∧ t < m then zaj A 15 line n m 13 t else A 23 ((l : Int) * 30 + t) := by
  unfold zmg
  rw [zup_k (by decide)]
  by_cases e : l = line ∧ t < m
  · obtain ⟨rfl, e2⟩ := e
    rw [if_pos ⟨rfl, e2⟩, zfl_in e2 rfl]
  · rw [if_neg e, zfl_out (by omega), zaj_o (by decide) (by decide) (by decide) (by decide) (by decide)]
theorem r_merge (h : rR A B N n) (hl : line < N) (hm : A 4 line = m) (h0 : zbit (B 119 0) line = 0) (hK : zK A 15 line n m ≤ 40) : rR (zmg A line n m) (zmaj B 0 line n m) N (zK A 15 line n m) := by
  obtain ⟨a1, a2, a3, a4, a5, a6⟩ := h
  have m30 : m ≤ 30 := by
    have := (a1.2.1 line hl).2.1
    omega
  have a : ∀ c, c < 110 → (c < 10 ∨ c = 14 ∨ 23 < c) → zmg A line n m c = A c := fun c hc h2 => funext fun j => by
    rw [zmg_o (by omega) (by omega), zaj_o (by omega) (by omega) (by omega) (by omega) (by omega)]
  have a10 : ∀ j : Int, j ≠ 6 → j ≠ 7 → zmg A line n m 10 j = A 10 j := fun j j6 j7 => by
    rw [zmg_o (by omega) (by omega), zaj_10 (by decide) j6 j7]
  have k : ∀ c, 110 < c → c < 124 → (c < 118 ∨ c = 123) → zmaj B 0 line n m c = B c := fun c c1 c2 c3 => funext fun j => by
    rw [zmaj_o c2 (by omega) (by omega) (by omega) (by omega) (by omega) (Or.inl (by omega))]
  have k0 : ∀ j : Int, j ≠ 22 → zmaj B 0 line n m 110 j = B 110 j := fun j hj => zmaj_o (by decide) (by decide) (by decide) (by decide) (by decide) (by decide) (Or.inr hj)
  have h22 : ∀ l : Nat, zmg A line n m 22 l = if l = line then 1 else A 22 l := fun l => by
    rw [zmg_22]
    by_cases e : l = line
    · rw [if_pos e, if_pos (by omega)]
    · rw [if_neg e, if_neg (by omega)]
  refine ⟨rLn_c ?_ (a 3 (by decide) (by decide)) (a 4 (by decide) (by decide)) (a 5 (by decide) (by decide)) (a 6 (by decide) (by decide)) (a 7 (by decide) (by decide)) (a 8 (by decide) (by decide)) (a 9 (by decide) (by decide)) (k0 3 (by decide)) (k 112 (by decide) (by decide) (by decide)) (k 113 (by decide) (by decide) (by decide)) (k 114 (by decide) (by decide) (by decide)) (k 115 (by decide) (by decide) (by decide)) (k 116 (by decide) (by decide) (by decide)) (k 117 (by decide) (by decide) (by decide)) a1, rBu_c ?_ (a 1 (by decide) (by decide)) (k0 1 (by decide)) (k 111 (by decide) (by decide) (by decide)) a2, rCo_c (a10 1 (by decide) (by decide)) (a10 2 (by decide) (by decide)) (a10 3 (by decide) (by decide)) (k0 10 (by decide)) (k0 11 (by decide)) (k0 12 (by decide)) a3, ?_, ?_, ?_⟩
  · rw [a 2 (by decide) (by decide)]
  · rw [a 0 (by decide) (by decide)]
  · exact rF_merge a1 a3 a4 (by decide) hl hm h0 hK (zmg_o (by decide) (by decide)) (zmg_o (by decide) (by decide)) (fun c j c1 c2 => zmg_o (by omega) (by omega)) (a 9 (by decide) (by decide)) (a 4 (by decide) (by decide)) (a 6 (by decide) (by decide)) rfl rfl (fun c j _ _ => rfl)
  · exact rM_merge a1 a3 a4 a5 hl hm h0 hK (fun c j c1 c2 => zmg_o (by omega) (by omega)) (a 4 (by decide) (by decide)) (a 6 (by decide) (by decide)) (fun l => h22 l) (fun l t ht => zmg_23 m30 ht) rfl (fun c j _ _ => rfl) (k 117 (by decide) (by decide) (by decide))
  · have k8 : ∀ g : Nat, zmaj B 0 line n m 118 (1 + (g : Int)) = B 118 (1 + (g : Int)) := fun g => (zmaj_of (by omega)).1
    unfold rG at *
    rw [a 0 (by decide) (by decide), a 24 (by decide) (by decide), k0 18 (by decide), k0 19 (by decide), k 123 (by decide) (by decide) (by decide)]
    refine ⟨a6.1, a6.2.1, a6.2.2.1, fun q => ?_⟩
    obtain ⟨q1, q2, q3⟩ := a6.2.2.2 q
    refine ⟨q1, q2, fun g hg => ?_⟩
    rw [a (26 + 7 * g) (by omega) (by omega), k8]
    exact q3 g hg
end RMG
