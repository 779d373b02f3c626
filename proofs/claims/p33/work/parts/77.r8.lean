/-! the steps that change things: feed, setCosts, clear -/
theorem zfd_o {I : zStore} {x : Int64} {c : Nat} {j : Int} (h : c ≠ 1 ∧ (c ≠ 0 ∨ j ≠ 1)) : ∀ i : Nat, zfd I x i c j = I c j
  | 0 => rfl
  | i + 1 => by
    have ih := zfd_o (I := I) (x := x) h i
    simp only [zfd]
    split
    · exact ih
    · have e : ∀ v : Int, zup (zup (zfd I x i) 1 (zfd I x i 0 1) (zby x i)) 0 1 v c j = zup (zfd I x i) 1 (zfd I x i 0 1) (zby x i) c j := fun v => by
        by_cases hc : c = 0
        · subst hc
          exact zup_i (by omega)
        · exact zup_k hc
      rw [e, zup_k h.1, ih]
theorem zmfd_o {I : zStore} {x : Int64} {c : Nat} {j : Int} (h : c ≠ 111 ∧ (c ≠ 110 ∨ j ≠ 1 ∧ j ≠ 0)) : ∀ i : Nat, zmfd I x i c j = I c j
  | 0 => by
    simp only [zmfd]
    by_cases hc : c = 110
    · subst hc
      exact zup_i (by omega)
    · exact zup_k hc
  | i + 1 => by
    have ih := zmfd_o (I := I) (x := x) h i
    simp only [zmfd]
    split
    · exact ih
    · have e : ∀ v : Int, zup (zup (zmfd I x i) 111 (zmfd I x i 110 1) (zby x i)) 110 1 v c j = zup (zmfd I x i) 111 (zmfd I x i 110 1) (zby x i) c j := fun v => by
        by_cases hc : c = 110
        · subst hc
          exact zup_i (by omega)
        · exact zup_k hc
      rw [e, zup_k h.1, ih]
theorem zcb_in {x : Int64} {i : Nat} (h : zcb x (i + 1) ≠ (-1)) (h0 : zby x i ≠ 0) : 32 ≤ zby x i ∧ zby x i ≤ 126 := by
  simp only [zcb] at h
  rw [if_neg h0] at h
  by_cases c : 32 ≤ zby x i ∧ zby x i ≤ 126
  · exact c
  · rw [if_neg c] at h
    split at h <;> exact absurd rfl h
section RST
variable {A B : zStore} {N n : Nat}
theorem r_feedB (hB : rBu A B) {x : Int64} (h1 : zcb x 8 ≠ (-1)) (h2 : A 0 1 + zcb x 8 ≤ 30) : ∀ i : Nat, i ≤ 8 → rBu (zfd A x i) (zmfd B x i)
  | 0, _ => by
    refine rBu_c rfl rfl ?_ ?_ hB
    · exact zup_i (by decide)
    · exact zup_c (by decide)
  | i + 1, hi => by
    obtain ⟨⟨b0, b1, b2⟩, b3⟩ := r_feedB hB h1 h2 i (by omega)
    have m1 := zcb_mono (x := x) (i := i + 1) (8 - (i + 1)) (by rw [show i + 1 + (8 - (i + 1)) = 8 by omega]; exact h1)
    rw [show i + 1 + (8 - (i + 1)) = 8 by omega] at m1
    have m0 := zcb_mono (x := x) (i := i) 1 m1.2
    have e1 := zfd_n (I := A) (x := x) (i + 1) m1.2
    have e0 := zfd_n (I := A) (x := x) i m0.2
    simp only [zfd, zmfd] at e1 ⊢
    by_cases q : zby x i = 0
    · rw [if_pos q, if_pos q]
      exact ⟨⟨b0, b1, b2⟩, b3⟩
    · have hin := zcb_in m1.2 q
      rw [if_neg q] at e1 ⊢
      rw [if_neg q, b2]
      rw [zup_at] at e1
      refine ⟨⟨?_, ?_, ?_⟩, fun j j0 j1 => ?_⟩
      · rw [zup_at]; omega
      · rw [zup_at]; omega
      · rw [zup_at, zup_at]
      · rw [zup_at] at j1
        rw [zup_k (show 1 ≠ 0 by decide), zup_k (show 111 ≠ 110 by decide)]
        by_cases e : j = zfd A x i 0 1
        · subst e
          rw [zup_at, zup_at]
          exact ⟨by omega, rfl⟩
        · rw [zup_i e, zup_i e]
          exact b3 j j0 (by omega)
/-- feed -/
theorem r_feed (h : rR A B N n) {x : Int64} (h1 : zcb x 8 ≠ (-1)) (h2 : A 0 1 + zcb x 8 ≤ 30) : rR (zfd A x 8) (zmfd B x 8) N n := by
  obtain ⟨a1, a2, a3, a4, a5, a6⟩ := h
  have a : ∀ c, 1 < c → zfd A x 8 c = A c := fun c hc => funext fun j => zfd_o (by omega) 8
  have k : ∀ c, 111 < c → zmfd B x 8 c = B c := fun c hc => funext fun j => zmfd_o (by omega) 8
  have a0 : ∀ j : Int, j ≠ 1 → zfd A x 8 0 j = A 0 j := fun j hj => zfd_o (by omega) 8
  have k0 : ∀ j : Int, j ≠ 0 → j ≠ 1 → zmfd B x 8 110 j = B 110 j := fun j hj hj2 => zmfd_o (by omega) 8
  refine ⟨rLn_c ?_ (a 3 (by decide)) (a 4 (by decide)) (a 5 (by decide)) (a 6 (by decide)) (a 7 (by decide)) (a 8 (by decide)) (a 9 (by decide)) (k0 3 (by decide) (by decide)) (k 112 (by decide)) (k 113 (by decide)) (k 114 (by decide)) (k 115 (by decide)) (k 116 (by decide)) (k 117 (by decide)) a1, r_feedB a2 h1 h2 8 (Nat.le_refl _), rCo_c ?_ ?_ ?_ (k0 10 (by decide) (by decide)) (k0 11 (by decide) (by decide)) (k0 12 (by decide) (by decide)) a3, rF_c ?_ ?_ (a 16 (by decide)) (a 17 (by decide)) (a 18 (by decide)) (a 21 (by decide)) (a 4 (by decide)) (a 6 (by decide)) (a 9 (by decide)) ?_ ?_ (fun i _ => by rw [k 120 (by decide)]) (fun i _ => by rw [k 121 (by decide)]) (fun i _ l _ => by rw [k 122 (by decide)]) a1.1.2.2 a4, rM_c (a 16 (by decide)) (a 17 (by decide)) (a 19 (by decide)) (a 20 (by decide)) (a 22 (by decide)) (a 23 (by decide)) (a 4 (by decide)) (a 6 (by decide)) (k 117 (by decide)) (k 119 (by decide)) (k 122 (by decide)) a5, rG_c (a0 7 (by decide)) (a0 8 (by decide)) (a 24 (by decide)) (fun g hg => by rw [a (26 + 7 * g) (by omega)]) (k0 18 (by decide) (by decide)) (k0 19 (by decide) (by decide)) (k 118 (by decide)) (k 123 (by decide)) a6⟩
  · rw [a 2 (by decide)]
  · rw [a 10 (by decide)]
  · rw [a 10 (by decide)]
  · rw [a 10 (by decide)]
  · rw [a 15 (by decide)]
  · rw [a 15 (by decide)]
  · rw [k 118 (by decide)]
  · rw [k 119 (by decide)]
/-- setCosts -/
def zcoA (A : zStore) (nc ns nf : Int) : zStore := zup (zup (zup (zup A 0 7 0) 10 1 nc) 10 2 ns) 10 3 nf
def zcoB (B : zStore) (nc ns nf : Int) : zStore := zup (zup (zup (zup (zup B 110 0 0) 110 10 nc) 110 11 ns) 110 12 nf) 110 18 0
theorem zcoA_o {nc ns nf : Int} {c : Nat} (h : c ≠ 0 ∧ c ≠ 10) : zcoA A nc ns nf c = A c := by
  unfold zcoA
  rw [zup_c h.2, zup_c h.2, zup_c h.2, zup_c h.1]
theorem zcoB_o {nc ns nf : Int} {c : Nat} (h : c ≠ 110) : zcoB B nc ns nf c = B c := by
  unfold zcoB
  rw [zup_c h, zup_c h, zup_c h, zup_c h, zup_c h]
theorem r_cost (h : rR A B N n) {nc ns nf : Int} (h1 : 0 ≤ nc ∧ nc ≤ 20) (h2 : 0 ≤ ns ∧ ns ≤ 20) (h3 : 0 ≤ nf ∧ nf ≤ 20) : rR (zcoA A nc ns nf) (zcoB B nc ns nf) N n := by
  obtain ⟨a1, a2, a3, a4, a5, a6⟩ := h
  have a : ∀ c, c ≠ 0 → c ≠ 10 → zcoA A nc ns nf c = A c := fun c hc h0 => zcoA_o ⟨hc, h0⟩
  have k : ∀ c, 110 < c → zcoB B nc ns nf c = B c := fun c hc => zcoB_o (by omega)
  have a0 : ∀ j : Int, j ≠ 7 → zcoA A nc ns nf 0 j = A 0 j := fun j hj => by
    unfold zcoA
    rw [zup_k (by decide), zup_k (by decide), zup_k (by decide), zup_i hj]
  have k0 : ∀ j : Int, j ≠ 0 → j ≠ 10 → j ≠ 11 → j ≠ 12 → j ≠ 18 → zcoB B nc ns nf 110 j = B 110 j := fun j j1 j2 j3 j4 j5 => by
    unfold zcoB
    rw [zup_i j5, zup_i j4, zup_i j3, zup_i j2, zup_i j1]
  have c1 : zcoA A nc ns nf 10 1 = nc := by
    unfold zcoA
    rw [zup_i (by decide), zup_i (by decide), zup_at]
  have c2 : zcoA A nc ns nf 10 2 = ns := by
    unfold zcoA
    rw [zup_i (by decide), zup_at]
  have c3 : zcoA A nc ns nf 10 3 = nf := by
    unfold zcoA
    rw [zup_at]
  have d1 : zcoB B nc ns nf 110 10 = nc := by
    unfold zcoB
    rw [zup_i (by decide), zup_i (by decide), zup_i (by decide), zup_at]
  have d2 : zcoB B nc ns nf 110 11 = ns := by
    unfold zcoB
    rw [zup_i (by decide), zup_i (by decide), zup_at]
  have d3 : zcoB B nc ns nf 110 12 = nf := by
    unfold zcoB
    rw [zup_i (by decide), zup_at]
  have g7 : zcoA A nc ns nf 0 7 = 0 := by
    unfold zcoA
    rw [zup_k (by decide), zup_k (by decide), zup_k (by decide), zup_at]
  have g18 : zcoB B nc ns nf 110 18 = 0 := by
    unfold zcoB
    rw [zup_at]
  refine ⟨rLn_c ?_ (a 3 (by decide) (by decide)) (a 4 (by decide) (by decide)) (a 5 (by decide) (by decide)) (a 6 (by decide) (by decide)) (a 7 (by decide) (by decide)) (a 8 (by decide) (by decide)) (a 9 (by decide) (by decide)) (k0 3 (by decide) (by decide) (by decide) (by decide) (by decide)) (k 112 (by decide)) (k 113 (by decide)) (k 114 (by decide)) (k 115 (by decide)) (k 116 (by decide)) (k 117 (by decide)) a1, rBu_c (a0 1 (by decide)) (a 1 (by decide) (by decide)) (k0 1 (by decide) (by decide) (by decide) (by decide) (by decide)) (k 111 (by decide)) a2, ?_, rF_c ?_ ?_ (a 16 (by decide) (by decide)) (a 17 (by decide) (by decide)) (a 18 (by decide) (by decide)) (a 21 (by decide) (by decide)) (a 4 (by decide) (by decide)) (a 6 (by decide) (by decide)) (a 9 (by decide) (by decide)) ?_ ?_ (fun i _ => by rw [k 120 (by decide)]) (fun i _ => by rw [k 121 (by decide)]) (fun i _ l _ => by rw [k 122 (by decide)]) a1.1.2.2 a4, rM_c (a 16 (by decide) (by decide)) (a 17 (by decide) (by decide)) (a 19 (by decide) (by decide)) (a 20 (by decide) (by decide)) (a 22 (by decide) (by decide)) (a 23 (by decide) (by decide)) (a 4 (by decide) (by decide)) (a 6 (by decide) (by decide)) (k 117 (by decide)) (k 119 (by decide)) (k 122 (by decide)) a5, ?_⟩
  · rw [a 2 (by decide) (by decide)]
  · unfold rCo
    rw [c1, c2, c3, d1, d2, d3]
    exact ⟨⟨h1.1, h1.2, rfl⟩, ⟨h2.1, h2.2, rfl⟩, h3.1, h3.2, rfl⟩
  · rw [a 15 (by decide) (by decide)]
  · rw [a 15 (by decide) (by decide)]
  · rw [k 118 (by decide)]
  · rw [k 119 (by decide)]
  · refine ⟨⟨by rw [g7, g18], Or.inl g7⟩, ?_, ?_, fun q => absurd (g7.symm.trans q) (by decide)⟩
    · rw [a0 8 (by decide)]; exact a6.2.1
    · rw [k0 19 (by decide) (by decide) (by decide) (by decide) (by decide)]; exact a6.2.2.1
end RST

