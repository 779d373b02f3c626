/-! uses and extremes under one line more -/
theorem zmu_c {u u' : Int → Int} {f s f' s' : Int} : ∀ N : Nat, (∀ l : Nat, l < N → (u (12 * (40 * f + s) + l) = (-1) ↔ u' (12 * (40 * f' + s') + l) = (-1))) → zmu u f s N = zmu u' f' s' N
  | 0, _ => rfl
  | N + 1, h => by
    have ih := zmu_c N fun l hl => h l (by omega)
    have h1 := h N (by omega)
    simp only [zmu]
    rw [ih]
    by_cases e : u (12 * (40 * f + s) + N) = (-1)
    · rw [if_pos e, if_pos (h1.mp e)]
    · rw [if_neg e, if_neg (fun q => e (h1.mpr q))]
theorem zmu_0 {u : Int → Int} {f s : Int} : ∀ N : Nat, (∀ l : Nat, l < N → u (12 * (40 * f + s) + l) = (-1)) → zmu u f s N = 0
  | 0, _ => rfl
  | N + 1, h => by
    simp only [zmu]
    rw [zmu_0 N (fun l hl => h l (by omega)), if_pos (h N (by omega))]
    rfl
theorem zmu_1 {u u' : Int → Int} {f s f' s' : Int} {x : Nat} (hx : u (12 * (40 * f + s) + x) = (-1)) (hx' : u' (12 * (40 * f' + s') + x) ≠ (-1)) : ∀ N : Nat, x < N → (∀ l : Nat, l < N → l ≠ x → (u (12 * (40 * f + s) + l) = (-1) ↔ u' (12 * (40 * f' + s') + l) = (-1))) → zmu u' f' s' N = zmu u f s N + 1
  | 0, h, _ => absurd h (by omega)
  | N + 1, hN, h => by
    simp only [zmu]
    by_cases e : x = N
    · subst e
      rw [if_pos hx, if_neg hx', zmu_c (u := u') (u' := u) (f := f') (f' := f) (s := s') (s' := s) x (fun l hl => (h l (by omega) (by omega)).symm)]
      omega
    · have ih := zmu_1 hx hx' N (by omega) fun l hl => h l (by omega)
      have h1 := h N (by omega) (by omega)
      rw [ih]
      by_cases e2 : u (12 * (40 * f + s) + N) = (-1)
      · rw [if_pos e2, if_pos (h1.mp e2)]
        omega
      · rw [if_neg e2, if_neg (fun q => e2 (h1.mpr q))]
/-- what an extreme is: none, or the size of a token that has used the slot, and no other is beyond it -/
def zmeP (u z : Int → Int) (slot : Int) (g : Int) (N : Nat) (v : Int) : Prop := (v = (-1) ∧ ∀ l : Nat, l < N → u (12 * (40 * 0 + slot) + l) = (-1)) ∨ ((∃ l : Nat, l < N ∧ u (12 * (40 * 0 + slot) + l) ≠ (-1) ∧ v = z (30 * l + u (12 * (40 * 0 + slot) + l))) ∧ ∀ l : Nat, l < N → u (12 * (40 * 0 + slot) + l) ≠ (-1) → (g = 0 → v ≤ z (30 * l + u (12 * (40 * 0 + slot) + l))) ∧ (g ≠ 0 → z (30 * l + u (12 * (40 * 0 + slot) + l)) ≤ v))
theorem zme_P {u z : Int → Int} {slot g : Int} : ∀ N : Nat, (∀ l : Nat, l < N → u (12 * (40 * 0 + slot) + l) ≠ (-1) → 1 ≤ z (30 * l + u (12 * (40 * 0 + slot) + l))) → zmeP u z slot g N (zme u z slot g N)
  | 0, _ => Or.inl ⟨rfl, fun l hl => absurd hl (by omega)⟩
  | N + 1, h => by
    have ih := zme_P (g := g) N fun l hl => h l (by omega)
    have hN := h N (by omega)
    have e : zme u z slot g (N + 1) = if u (12 * (40 * 0 + slot) + N) = (-1) then zme u z slot g N else if zme u z slot g N = (-1) ∨ (g ≠ 0 ∧ zme u z slot g N < z (30 * N + u (12 * (40 * 0 + slot) + N))) ∨ (g = 0 ∧ z (30 * N + u (12 * (40 * 0 + slot) + N)) < zme u z slot g N) then z (30 * N + u (12 * (40 * 0 + slot) + N)) else zme u z slot g N := rfl
    rw [e]
    generalize zme u z slot g N = v at *
    have last : ∀ l : Nat, l < N + 1 → l < N ∨ l = N := fun l hl => by omega
    by_cases hu : u (12 * (40 * 0 + slot) + N) = (-1)
    · rw [if_pos hu]
      rcases ih with ⟨p, q⟩ | ⟨⟨l0, p1, p2, p3⟩, q⟩
      · refine Or.inl ⟨p, fun l hl => ?_⟩
        rcases last l hl with hl | rfl
        · exact q l hl
        · exact hu
      · refine Or.inr ⟨⟨l0, by omega, p2, p3⟩, fun l hl hx => ?_⟩
        rcases last l hl with hl | rfl
        · exact q l hl hx
        · exact absurd hu hx
    · rw [if_neg hu]
      have hN := hN hu
      rcases ih with ⟨p, q⟩ | ⟨⟨l0, p1, p2, p3⟩, q⟩
      · rw [if_pos (Or.inl p)]
        refine Or.inr ⟨⟨N, by omega, hu, rfl⟩, fun l hl hx => ?_⟩
        rcases last l hl with hl | rfl
        · exact absurd (q l hl) hx
        · exact ⟨fun _ => Int.le_refl _, fun _ => Int.le_refl _⟩
      · have v1 := h l0 (by omega) p2
        by_cases hc : v = (-1) ∨ (g ≠ 0 ∧ v < z (30 * N + u (12 * (40 * 0 + slot) + N))) ∨ (g = 0 ∧ z (30 * N + u (12 * (40 * 0 + slot) + N)) < v)
        · rw [if_pos hc]
          refine Or.inr ⟨⟨N, by omega, hu, rfl⟩, fun l hl hx => ?_⟩
          rcases last l hl with hl | rfl
          · have := q l hl hx
            constructor
            · intro hg
              have := this.1 hg
              omega
            · intro hg
              have := this.2 hg
              omega
          · exact ⟨fun _ => Int.le_refl _, fun _ => Int.le_refl _⟩
        · rw [if_neg hc]
          refine Or.inr ⟨⟨l0, by omega, p2, p3⟩, fun l hl hx => ?_⟩
          rcases last l hl with hl | rfl
          · exact q l hl hx
          · constructor
            · intro hg
              omega
            · intro hg
              omega
theorem zmeP_u {u z : Int → Int} {slot g : Int} {N : Nat} {v v' : Int} (h : zmeP u z slot g N v) (h' : zmeP u z slot g N v') : v = v' := by
  rcases h with ⟨p, q⟩ | ⟨⟨l0, p1, p2, p3⟩, q⟩
  · rcases h' with ⟨p', -⟩ | ⟨⟨l0, p1, p2, -⟩, -⟩
    · omega
    · exact absurd (q l0 p1) p2
  · rcases h' with ⟨-, q'⟩ | ⟨⟨l1, r1, r2, r3⟩, q'⟩
    · exact absurd (q' l0 p1) p2
    · have a1 := q l1 r1 r2
      have a2 := q' l0 p1 p2
      by_cases hg : g = 0
      · have := a1.1 hg
        have := a2.1 hg
        omega
      · have := a1.2 hg
        have := a2.2 hg
        omega
section ZWE
variable {w : Nat → Int} {P : Nat → Nat × Nat} {K n m : Nat}
/-- each token has its step, each slot too -/
theorem zWy_t (h : zWy w P K n m) {t : Nat} : ∀ k : Nat, k ≤ K → t < (P 0).2 → (P k).2 ≤ t → ∃ j : Nat, j < k ∧ w j ≠ 1 ∧ (P (j + 1)).2 = t
  | 0, _, h1, h2 => absurd h1 (by omega)
  | k + 1, hk, h1, h2 => by
    have hs := (h.2.2.2 k (by omega)).2
    by_cases h3 : (P k).2 ≤ t
    · obtain ⟨j, a, b, c⟩ := zWy_t h k (by omega) h1 h3
      exact ⟨j, by omega, b, c⟩
    · by_cases hw : w k = 1
      · rw [if_pos hw] at hs
        omega
      · rw [if_neg hw] at hs
        exact ⟨k, by omega, hw, by omega⟩
theorem zWy_s (h : zWy w P K n m) {i : Nat} : ∀ k : Nat, k ≤ K → i < (P 0).1 → (P k).1 ≤ i → ∃ j : Nat, j < k ∧ w j ≠ 2 ∧ (P (j + 1)).1 = i
  | 0, _, h1, h2 => absurd h1 (by omega)
  | k + 1, hk, h1, h2 => by
    have hs := (h.2.2.2 k (by omega)).1
    by_cases h3 : (P k).1 ≤ i
    · obtain ⟨j, a, b, c⟩ := zWy_s h k (by omega) h1 h3
      exact ⟨j, by omega, b, c⟩
    · by_cases hw : w k = 2
      · rw [if_pos hw] at hs
        omega
      · rw [if_neg hw] at hs
        exact ⟨k, by omega, hw, by omega⟩
end ZWE
/-- a pair has the same kind -/
theorem zw_pair {I : zStore} {b : Nat} {l9 : Int} {n m k : Nat} (h : zw_ I b l9 n m k = 0) (hk : k < zK I b l9 n m) : zq_ I b l9 (zP_ I b l9 n m (k + 1)).1 (zP_ I b l9 n m (k + 1)).2 ≠ (-1) := by
  have hp := zlen_pos (s := zs_ I b) (f := I 10 3) (q := zq_ I b l9) (n := n) (m := m) (k := k) hk
  have hs := (r_Wy (I := I) (b := b) (l9 := l9) (n := n) (m := m)).2.2.2 k hk
  rw [if_neg (by omega), if_neg (by omega)] at hs
  have hd : zw_ I b l9 n m k = zstep (zs_ I b) (I 10 3) (zq_ I b l9) (zP_ I b l9 n m k).1 (zP_ I b l9 n m k).2 := rfl
  rw [hd] at h
  unfold zstep at h
  rw [if_neg (by omega), if_neg (by omega)] at h
  rw [show (zP_ I b l9 n m (k + 1)).1 = (zP_ I b l9 n m k).1 - 1 by omega, show (zP_ I b l9 n m (k + 1)).2 = (zP_ I b l9 n m k).2 - 1 by omega]
  intro q
  rw [if_neg (fun r => r.1 q)] at h
  split at h
  · omega
  · omega
section RMG
variable {A B : zStore} {N n m b : Nat} {f : Int} {line : Nat}
theorem zaj_0 (hb : 15 ≤ b) (hn : A b 0 = n) : zaj A b line n m b 0 = zK A b line n m := by
  unfold zaj zje
  rw [zup_i (by decide), zjJ_0 hb, zAe_o (by omega) (by omega) (by omega), hn]
  exact (zWy_K r_Wy).symm
theorem zaj_1 (hb : 15 ≤ b) : zaj A b line n m b 1 = A b 1 + 1 := by
  unfold zaj zje
  rw [zup_at, zAe_o (by omega) (by omega) (by omega)]
theorem zaj_o {c : Nat} {j : Int} (h : c < b ∨ b + 6 < c) (h1 : c ≠ 10) (h2 : c ≠ 11) (h3 : c ≠ 12) (h4 : c ≠ 13) : zaj A b line n m c j = A c j := by
  unfold zaj
  rw [zje_o h h4, zAe_o h2 h3 h1]
theorem zaj_10 {j : Int} (hb : 15 ≤ b) (h6 : j ≠ 6) (h7 : j ≠ 7) : zaj A b line n m 10 j = A 10 j := by
  unfold zaj
  rw [zje_o (by omega) (by decide)]
  exact zSc_Ae 10 j (by decide) (by decide) (Or.inr ⟨h6, h7⟩)
/-- the cells of the class's format behind the merge, slot by slot (the step k of the way: the slot K - 1 - k) -/
theorem zaj_sl (hb : 15 ≤ b) (hn : A b 0 = n) (ho : ∀ i : Nat, i < n → 0 ≤ A (b + 1) i ∧ A (b + 1) i < n) (hi : ∀ i j : Nat, i < n → j < n → A (b + 1) i = A (b + 1) j → i = j) {k : Nat} (hk : k < zK A b line n m) :
    zaj A b line n m (b + 1) ((zK A b line n m - 1 - k : Nat) : Int) = zid A b n (zw_ A b line n m) (zP_ A b line n m) k ∧ zaj A b line n m (b + 2) (zid A b n (zw_ A b line n m) (zP_ A b line n m) k) = zn2 A b n line (zw_ A b line n m) (zP_ A b line n m) k ∧ zaj A b line n m (b + 3) (zid A b n (zw_ A b line n m) (zP_ A b line n m) k) = zn3 A b n line (zw_ A b line n m) (zP_ A b line n m) k ∧ zaj A b line n m (b + 4) (zid A b n (zw_ A b line n m) (zP_ A b line n m) k) = zn4 A b n line (zw_ A b line n m) (zP_ A b line n m) k ∧ zaj A b line n m (b + 5) (zid A b n (zw_ A b line n m) (zP_ A b line n m) k) = zn5 A b n line (zw_ A b line n m) (zP_ A b line n m) k ∧ zaj A b line n m (b + 6) (zid A b n (zw_ A b line n m) (zP_ A b line n m) k) = zn6 A b n (zw_ A b line n m) (zP_ A b line n m) k ∧ (zw_ A b line n m k ≠ 1 → zaj A b line n m 13 (zP_ A b line n m (k + 1)).2 = zid A b n (zw_ A b line n m) (zP_ A b line n m) k) := by
  have hT : ∀ (c : Nat) (j : Int), c ≠ 10 → c ≠ 11 → c ≠ 12 → zAe A b line n m c j = A c j := fun c j h0 h1 h2 => zAe_o h1 h2 h0
  have hx := zjJ_all (T := zAe A b line n m) (line := line) hb (r_Wy (I := A) (b := b) (l9 := line) (n := n) (m := m)) (by rw [hT b 0 (by omega) (by omega) (by omega)]; exact hn) (fun i h => by rw [hT (b + 1) i (by omega) (by omega) (by omega)]; exact ho i h) (fun i j h1 h2 h3 => by rw [hT (b + 1) i (by omega) (by omega) (by omega), hT (b + 1) j (by omega) (by omega) (by omega)] at h3; exact hi i j h1 h2 h3) (zK A b line n m) (Nat.le_refl _)
  have ez : zid (zAe A b line n m) b n (zw_ A b line n m) (zP_ A b line n m) = zid A b n (zw_ A b line n m) (zP_ A b line n m) := by
    funext j
    unfold zid
    rw [hT (b + 1) _ (by omega) (by omega) (by omega)]
  rw [ez] at hx
  obtain ⟨-, h2, h3, h4⟩ := hx
  obtain ⟨a2, a3, a4, a5, a6⟩ := h2 k hk
  have b1 := h3 k hk
  have b4 := h4 k hk
  have e2 : zn2 (zAe A b line n m) b n line (zw_ A b line n m) (zP_ A b line n m) k = zn2 A b n line (zw_ A b line n m) (zP_ A b line n m) k := by
    unfold zn2
    rw [ez, hT 6 _ (by decide) (by decide) (by decide), hT (b + 2) _ (by omega) (by omega) (by omega)]
  have e3 : zn3 (zAe A b line n m) b n line (zw_ A b line n m) (zP_ A b line n m) k = zn3 A b n line (zw_ A b line n m) (zP_ A b line n m) k := by
    unfold zn3
    rw [ez, hT 9 _ (by decide) (by decide) (by decide), hT (b + 3) _ (by omega) (by omega) (by omega)]
  have e4 : zn4 (zAe A b line n m) b n line (zw_ A b line n m) (zP_ A b line n m) k = zn4 A b n line (zw_ A b line n m) (zP_ A b line n m) k := by
    unfold zn4
    rw [ez, hT 8 _ (by decide) (by decide) (by decide), hT (b + 4) _ (by omega) (by omega) (by omega)]
  have e5 : zn5 (zAe A b line n m) b n line (zw_ A b line n m) (zP_ A b line n m) k = zn5 A b n line (zw_ A b line n m) (zP_ A b line n m) k := by
    unfold zn5
    rw [ez, hT 8 _ (by decide) (by decide) (by decide), hT (b + 5) _ (by omega) (by omega) (by omega)]
  have e6 : zn6 (zAe A b line n m) b n (zw_ A b line n m) (zP_ A b line n m) k = zn6 A b n (zw_ A b line n m) (zP_ A b line n m) k := by
    unfold zn6
    rw [ez, hT (b + 6) _ (by omega) (by omega) (by omega)]
  rw [e2] at a2
  rw [e3] at a3
  rw [e4] at a4
  rw [e5] at a5
  rw [e6] at a6
  unfold zaj zje
  rw [zup_k (by omega), zup_k (by omega), zup_k (by omega), zup_k (by omega), zup_k (by omega), zup_k (by omega)]
  refine ⟨b1, a2, a3, a4, a5, a6, fun q => ?_⟩
  rw [zup_k (by omega)]
  exact b4 q
/-- the model's rows behind the merge, slot by slot -/
theorem zmaj_sl {k : Nat} (hk : k < zmK B f line n m) (hK : zmK B f line n m ≤ 40) : zmaj B f line n m 120 (40 * f + ((zmK B f line n m - 1 - k : Nat) : Int)) = (if zmw B f line n m k = 2 then B 115 (30 * (line : Int) + (zmP B f line n m (k + 1)).2) else B 120 (40 * f + (zmP B f line n m (k + 1)).1)) ∧ zmaj B f line n m 121 (40 * f + ((zmK B f line n m - 1 - k : Nat) : Int)) = (if zmw B f line n m k = 2 then 30 * (line : Int) + (zmP B f line n m (k + 1)).2 else if zmw B f line n m k = 0 ∧ B 121 (40 * f + (zmP B f line n m (k + 1)).1) ≠ (-1) ∧ zmS (B 117) (B 116) (B 113) (B 121 (40 * f + (zmP B f line n m (k + 1)).1)) (30 * (line : Int) + (zmP B f line n m (k + 1)).2) = false then (-1) else B 121 (40 * f + (zmP B f line n m (k + 1)).1)) ∧ ∀ l : Nat, l < 12 → zmaj B f line n m 122 (12 * (40 * f + ((zmK B f line n m - 1 - k : Nat) : Int)) + l) = (if l = line ∧ zmw B f line n m k ≠ 1 then ((zmP B f line n m (k + 1)).2 : Int) else if zmw B f line n m k = 2 then (-1) else B 122 (12 * (40 * f + (zmP B f line n m (k + 1)).1) + l)) := by
  generalize hKd : zmK B f line n m = K at *
  obtain ⟨j, hj⟩ : ∃ j, j = K - 1 - k := ⟨_, rfl⟩
  have hs := zmal_sm (I := B) (f := f) (line := (line : Int)) (n := n) (m := m)
  have e1 : K - 1 - j = k := by omega
  have e2 : K - j = k + 1 := by omega
  rw [← hj]
  unfold zmaj
  rw [hKd]
  unfold zmM
  refine ⟨?_, ?_, fun l hl => ?_⟩
  · rw [zup_k (by decide), zup_k (by decide)]
    unfold zmO
    rw [zm3_r1 (x := j) (by omega) rfl]
    unfold zmnk
    rw [e1, e2, hs.o (c := 115) (by decide) (by decide), hs.o (c := 120) (by decide) (by decide)]
  · rw [zup_k (by decide), zup_k (by decide)]
    unfold zmO
    have := zm3_r2 (T := zmN (zmal B f line n m) f line (zmw B f line n m) (zmP B f line n m) K K) (k := 120) (a := 40 * f) (b := 40 * f) (c := 480 * f) (na := K) (nb := K) (nc := 12 * K) (f := zmnk (zmal B f line n m) f line K (zmw B f line n m) (zmP B f line n m)) (g := zmnt (zmal B f line n m) f line K (zmw B f line n m) (zmP B f line n m)) (h := zmnu (zmal B f line n m) f line K (zmw B f line n m) (zmP B f line n m)) (x := j) (j := 40 * f + (j : Int)) (by omega) rfl
    rw [this]
    unfold zmnt
    rw [e1, e2, hs.o (c := 121) (by decide) (by decide), hs.o (c := 117) (by decide) (by decide), hs.o (c := 116) (by decide) (by decide), hs.o (c := 113) (by decide) (by decide)]
  · rw [zup_k (by decide), zup_k (by decide)]
    unfold zmO
    have := zm3_r3 (T := zmN (zmal B f line n m) f line (zmw B f line n m) (zmP B f line n m) K K) (k := 120) (a := 40 * f) (b := 40 * f) (c := 480 * f) (na := K) (nb := K) (nc := 12 * K) (f := zmnk (zmal B f line n m) f line K (zmw B f line n m) (zmP B f line n m)) (g := zmnt (zmal B f line n m) f line K (zmw B f line n m) (zmP B f line n m)) (h := zmnu (zmal B f line n m) f line K (zmw B f line n m) (zmP B f line n m)) (x := 12 * j + l) (j := 12 * (40 * f + (j : Int)) + l) (by omega) (by omega)
    rw [this]
    unfold zmnu zmn0
    rw [show (12 * j + l) / 12 = j by omega, show (12 * j + l) % 12 = l by omega, e1, e2, hs.o (c := 122) (by decide) (by decide)]
    by_cases h1 : l = line
    · subst h1
      by_cases h2 : zmw B f l n m k ≠ 1
      · rw [if_pos ⟨rfl, h2⟩, if_pos ⟨rfl, h2⟩]
      · have c1 : ¬ ((l : Int) = l ∧ zmw B f l n m k ≠ 1) := fun q => h2 q.2
        have c2 : ¬ (l = l ∧ zmw B f l n m k ≠ 1) := fun q => h2 q.2
        rw [if_neg c1, if_neg c2]
    · have c1 : ¬ ((l : Int) = line ∧ zmw B f line n m k ≠ 1) := fun q => h1 (by have := q.1; omega)
      have c2 : ¬ (l = line ∧ zmw B f line n m k ≠ 1) := fun q => h1 q.1
      rw [if_neg c1, if_neg c2]
theorem zmaj_118 : zmaj B f line n m 118 f = zmK B f line n m := by
  unfold zmaj zmM
  rw [zup_k (by decide), zup_at]
theorem zmaj_119 : zmaj B f line n m 119 f = zor (B 119 f) (zshl 1 line) := by
  unfold zmaj zmM
  rw [zup_at, zmal_sm.o (c := 119) (by decide) (by decide)]
/-- what the merge leaves alone -/
theorem zmaj_o {c : Nat} {j : Int} (h : c < 124) (h1 : c ≠ 118) (h2 : c ≠ 119) (h3 : c ≠ 120) (h4 : c ≠ 121) (h5 : c ≠ 122) (h6 : c ≠ 110 ∨ j ≠ 22) : zmaj B f line n m c j = B c j := by
  unfold zmaj zmM
  rw [zup_k h2, zup_k h1]
  unfold zmO
  rw [zm3_o h3 h4 h5, zmN_o (by omega)]
  exact zmal_sm c j (by omega) (by omega) (by omega) (by omega) (by omega) h6
theorem zmaj_of {j : Int} (h : j ≠ f) : zmaj B f line n m 118 j = B 118 j ∧ zmaj B f line n m 119 j = B 119 j := by
  have hs := zmal_sm (I := B) (f := f) (line := (line : Int)) (n := n) (m := m)
  unfold zmaj zmM
  constructor
  · rw [zup_k (by decide), zup_i h]
    unfold zmO
    rw [zm3_o (by decide) (by decide) (by decide), zmN_o (by omega), hs.o (c := 118) (by decide) (by decide)]
  · rw [zup_i h, zup_k (by decide)]
    unfold zmO
    rw [zm3_o (by decide) (by decide) (by decide), zmN_o (by omega), hs.o (c := 119) (by decide) (by decide)]
end RMG

