section RGS
variable {A B S T : zStore} {N n l : Nat} {limit : Int}
theorem r_Fo {b : Nat} {f : Int} (N12 : N ≤ 12) (hF : rF A B b f N n) : zFo A b n := by
  refine ⟨fun i hi => (hF.2.2.1 i hi).1, fun id h0 h1 => ?_, ?_⟩
  · obtain ⟨i, hi, e⟩ := r_surj hF.2.2.2 (fun i hi => (hF.2.2.1 i hi).1) id.toNat (by omega)
    have h2 := (hF.2.2.1 i hi).2.2.2.1
    have h3 := zmu_bd (B 122) f i N
    rw [e, show ((id.toNat : Nat) : Int) = id by omega] at h2
    rw [h2]
    omega
  · rw [hF.2.1.2.2.1]
    exact zbc_bd _
theorem r_cho (h : rGI A B S T N l l) (hL : rLn A B N) (hC : rCo A B) (hl : l < N) : rGI A B (zgc S limit l) (zmgc T limit l) N (l + 1) l ∧ (zgh S limit l : Int) < zgc S limit l 0 8 ∧ zgh S limit l < 12 ∧ zmgh T limit l = zgh S limit l ∧ zgc S limit l 4 l = S 4 l ∧ zK (zgc S limit l) (26 + 7 * zgh S limit l) l (zgc S limit l (26 + 7 * zgh S limit l) 0).toNat (S 4 l).toNat ≤ 40 := by
  obtain ⟨v1, v2, v3, v4, v5⟩ := rGI_v (limit := limit) h hL hC hl
  have N12 := hL.1.2.2
  have tk := ((rGI_Ln h hL).2.1 l hl).2.1
  have G := h.2.2.1
  have sc : zSc S (zgn S l) := zns_s _
  have sm : zSm T (zmgn T l) := zmgn_s
  have hI := rGI_s N12 h sc sm
  have n8 : zgn S l 0 8 = S 0 8 := zgn_8
  by_cases q : zgv S limit l = (-1)
  · have eh : zgh S limit l = (S 0 8).toNat := by
      unfold zgh
      rw [if_pos q]
    have e1 : zgc S limit l = zup (zup (zup (zgn S l) (26 + 7 * zgh S limit l) 0 0) (26 + 7 * zgh S limit l) 1 0) 0 8 ((zgn S l) 0 8 + 1) := by
      unfold zgc
      rw [if_pos q]
    have e2 : zmgc T limit l = zup (zup (zup (zmgn T l) 118 (1 + (zgh S limit l : Int)) 0) 119 (1 + (zgh S limit l : Int)) 0) 110 19 (zmgn T l 110 19 + 1) := by
      unfold zmgc
      rw [if_pos (v4.mpr q), v3]
    have hn := rGI_new (h := zgh S limit l) N12 hI (by rw [n8, eh]; omega)
    rw [← e1, ← e2] at hn
    have e0 : zgc S limit l (26 + 7 * zgh S limit l) 0 = 0 := by
      rw [e1, zup_k (by omega), zup_i (by decide), zup_at]
    have e8 : zgc S limit l 0 8 = S 0 8 + 1 := by rw [e1, zup_at, n8]
    have e4 : zgc S limit l 4 l = S 4 l := by
      rw [e1, zup_k (by decide), zup_k (by omega), zup_k (by omega)]
      exact sc.o (by decide) (by decide) (by decide)
    refine ⟨hn, by omega, by omega, v3, e4, ?_⟩
    rw [e0]
    have := zlen_le (s := zs_ (zgc S limit l) (26 + 7 * zgh S limit l)) (f := zgc S limit l 10 3) (q := zq_ (zgc S limit l) (26 + 7 * zgh S limit l) l) (n := (0 : Int).toNat) (m := (S 4 l).toNat)
    have b : (0 : Int).toNat + (S 4 l).toNat ≤ 40 := by
      have t := tk.2.1
      clear v5 v2 this
      omega
    unfold zK
    exact Nat.le_trans this b
  · rcases v5 with r | ⟨i, i1, i2, i3⟩
    · exact absurd r q
    · have eh : zgh S limit l = i := by
        unfold zgh
        rw [if_neg q]
        omega
      have e1 : zgc S limit l = zgn S l := by
        unfold zgc
        rw [if_neg q]
      have q2 : ¬ ((zmgv T l).1 = (-1) ∨ limit < (zmgv T l).2) := fun r => q (v4.mp r)
      have e2 : zmgc T limit l = zmgn T l := by
        unfold zmgc
        rw [if_neg q2]
      rw [e1, e2, eh]
      refine ⟨?_, by omega, by omega, by omega, sc.o (by decide) (by decide) (by decide), ?_⟩
      · obtain ⟨h1, h2, h3, h4, h5⟩ := hI
        exact ⟨h1, h2, by omega, h4, h5⟩
      · rw [sc.o (by omega) (by omega) (by omega), zK_s sc (by omega)]
        exact i3
/-- a line's turn -/
theorem r_turn (h : rGI A B S T N l l) (hL : rLn A B N) (hC : rCo A B) (hl : l < N) : rGI A B (zgt S limit l) (zmgt T limit l) N (l + 1) (l + 1) ∧ zGl S limit l ∧ zmGl T limit l := by
  obtain ⟨c1, c2, c3, c4, c5, c6⟩ := r_cho (limit := limit) h hL hC hl
  have N12 := hL.1.2.2
  have L0 := rGI_Ln h hL
  have C0 := rGI_Co h hC
  have L3 := rGI_Ln c1 hL
  have C3 := rGI_Co c1 hC
  have tk := (L0.2.1 l hl).2.1
  have G := h.2.2.1
  have hm : S 4 l = ((S 4 l).toNat : Int) := by omega
  have hm3 : zgc S limit l 4 l = ((S 4 l).toNat : Int) := by rw [c5]; exact hm
  obtain ⟨F1, F2, -⟩ := rGI_g c1 c2
  have em : (T 114 l).toNat = (S 4 l).toNat := by rw [tk.2.2]
  have ek := r_K L3 C3 F1 hl hm3
  refine ⟨?_, ⟨by omega, fun g hg => ?_, r_Al L3 C3 F1 hl hm3, r_Fo N12 F1, c6⟩, ⟨by omega, fun g hg => ?_, ?_, ?_⟩⟩
  · have j := rGI_join (k := (zgc S limit l (26 + 7 * zgh S limit l) 0).toNat) c1 hL hC hl c2 rfl hm3 c6
    unfold zgt zmgt
    rw [c4, F2, em]
    exact j
  · obtain ⟨g1, g2, -⟩ := rGI_g h (g := g) (by omega)
    exact r_Al L0 C0 g1 hl hm
  · obtain ⟨g1, g2, -⟩ := rGI_g h (g := g) (by omega)
    rw [g2, em]
    exact r_A L0 C0 g1 (by omega) hl hm
  · rw [c4, F2, em]
    exact r_A L3 C3 F1 (by omega) hl hm3
  · rw [c4, F2, em, ek]
    exact c6
theorem r_gp (hL : rLn A B N) (hC : rCo A B) : ∀ l : Nat, l ≤ N → rGI A B (zgp A limit l) (zmgp B limit l) N l l ∧ ∀ x : Nat, x < l → zGl (zgp A limit x) limit x ∧ zmGl (zmgp B limit x) limit x
  | 0, _ => ⟨rGI_0, fun x hx => absurd hx (by omega)⟩
  | l + 1, hl => by
    obtain ⟨h1, h2⟩ := r_gp hL hC l (by omega)
    obtain ⟨t1, t2, t3⟩ := r_turn (limit := limit) h1 hL hC (by omega)
    refine ⟨t1, fun x hx => ?_⟩
    by_cases e : x = l
    · subst e
      exact ⟨t2, t3⟩
    · exact h2 x (by omega)
/-- group -/
theorem r_group (h : rR A B N n) : rR (zup (zgp A limit N) 0 7 1) (zup (zmgp B limit N) 110 18 1) N n ∧ zgp A limit N 0 8 = zmgp B limit N 110 19 := by
  obtain ⟨a1, a2, a3, a4, a5, a6⟩ := h
  have N12 := a1.1.2.2
  have n40 := a4.1.2.2
  have I := (r_gp (limit := limit) a1 a3 N (Nat.le_refl _)).1
  have L0 := rGI_Ln I a1
  have C0 := rGI_Co I a3
  obtain ⟨h1, ⟨h2, ⟨h3, h4⟩, h5⟩, h6, h7, h8⟩ := I
  generalize zgp A limit N = S at *
  generalize zmgp B limit N = T at *
  have a : ∀ c : Nat, c < 26 → c ≠ 0 → c ≠ 10 → c ≠ 11 → c ≠ 12 → c ≠ 13 → c ≠ 24 → zup S 0 7 1 c = A c := fun c c1 c2 c3 c4 c5 c6 c7 => by
    rw [zup_c c2]
    exact funext fun j => h1 c j c1 c4 c5 c6 c7 (Or.inl c3) (Or.inl c2)
  have s : ∀ c : Nat, c ≠ 0 → zup S 0 7 1 c = S c := fun c hc => zup_c hc
  have t : ∀ c : Nat, c ≠ 110 → zup T 110 18 1 c = T c := fun c hc => zup_c hc
  have a0 : ∀ j : Int, j ≠ 7 → j ≠ 8 → zup S 0 7 1 0 j = A 0 j := fun j j7 j8 => by
    rw [zup_i j7]
    exact h1 0 j (by decide) (by decide) (by decide) (by decide) (by decide) (Or.inl (by decide)) (Or.inr j8)
  have t0 : ∀ j : Int, j ≠ 18 → j ≠ 0 → j ≠ 19 → j ≠ 22 → zup T 110 18 1 110 j = B 110 j := fun j j1 j2 j3 j4 => by
    rw [zup_i j1]
    exact h2 110 j (by decide) (by decide) (Or.inr ⟨j2, j3, j4⟩)
  have k : ∀ c : Nat, 110 < c → c < 118 → zup T 110 18 1 c = B c := fun c c1 c2 => by
    rw [t c (by omega)]
    exact funext fun j => h2 c j (by omega) c2 (Or.inl (by omega))
  refine ⟨⟨?_, ?_, ?_, ?_, ?_, ?_⟩, h6.1⟩
  · exact rLn_c (by rw [s 2 (by decide)]) (s 3 (by decide)) (s 4 (by decide)) (s 5 (by decide)) (s 6 (by decide)) (s 7 (by decide)) (s 8 (by decide)) (s 9 (by decide)) (zup_i (by decide)) (t 112 (by decide)) (t 113 (by decide)) (t 114 (by decide)) (t 115 (by decide)) (t 116 (by decide)) (t 117 (by decide)) L0
  · exact rBu_c (a0 1 (by decide) (by decide)) (a 1 (by decide) (by decide) (by decide) (by decide) (by decide) (by decide) (by decide)) (t0 1 (by decide) (by decide) (by decide) (by decide)) (k 111 (by decide) (by decide)) a2
  · exact rCo_c (by rw [s 10 (by decide)]) (by rw [s 10 (by decide)]) (by rw [s 10 (by decide)]) (zup_i (by decide)) (zup_i (by decide)) (zup_i (by decide)) C0
  · have b : ∀ c : Nat, (c = 4 ∨ c = 6 ∨ c = 9 ∨ (15 ≤ c ∧ c ≤ 21)) → zup S 0 7 1 c = A c := fun c hc => a c (by omega) (by omega) (by omega) (by omega) (by omega) (by omega) (by omega)
    exact rF_c (by rw [b 15 (by decide)]) (by rw [b 15 (by decide)]) (b _ (by decide)) (b _ (by decide)) (b _ (by decide)) (b _ (by decide)) (b 4 (by decide)) (b 6 (by decide)) (b 9 (by decide)) (by rw [t 118 (by decide)]; exact h3) (by rw [t 119 (by decide)]; exact h4) (fun i hi => by rw [t 120 (by decide)]; exact (h5 i (by omega)).1) (fun i hi => by rw [t 121 (by decide)]; exact (h5 i (by omega)).2.1) (fun i hi l2 hl2 => by rw [t 122 (by decide)]; exact (h5 i (by omega)).2.2 l2 hl2) N12 a4
  · have b : ∀ c : Nat, (c = 4 ∨ c = 6 ∨ (15 ≤ c ∧ c ≤ 23)) → zup S 0 7 1 c = A c := fun c hc => a c (by omega) (by omega) (by omega) (by omega) (by omega) (by omega) (by omega)
    have u : ∀ (i l2 : Nat), i < n → l2 < 12 → zup T 110 18 1 122 (12 * (40 * 0 + (i : Int)) + l2) = B 122 (12 * (40 * 0 + (i : Int)) + l2) := fun i l2 hi hl2 => by
      rw [t 122 (by decide)]
      exact (h5 i (by omega)).2.2 l2 hl2
    have e9 : zup T 110 18 1 119 0 = B 119 0 := by rw [t 119 (by decide)]; exact h4
    have ze : ∀ (i : Nat) (g : Int), i < n → ∀ M : Nat, M ≤ N → zme (zup T 110 18 1 122) (B 117) i g M = zme (B 122) (B 117) i g M := fun i g hi M => by
      induction M with
      | zero => intro _; rfl
      | succ M ih =>
        intro hM
        simp only [zme]
        rw [ih (by omega), u i M hi (by omega)]
    obtain ⟨m1, m2, m3, m4⟩ := a5
    unfold rM
    rw [b 16 (by decide), b 17 (by decide), b 19 (by decide), b 20 (by decide), b 22 (by decide), b 23 (by decide), b 4 (by decide), b 6 (by decide), e9, k 117 (by decide) (by decide)]
    refine ⟨m1, fun l hl q tt ht => ?_, fun i hi l hl q => ?_, fun i hi => ?_⟩
    · obtain ⟨i, hi, p1, p2⟩ := m2 l hl q tt ht
      exact ⟨i, hi, by rw [u i l hi hl]; exact p1, p2⟩
    · rw [u i l hi hl] at q ⊢
      exact m3 i hi l hl q
    · rw [ze i 0 hi N (Nat.le_refl _), ze i 1 hi N (Nat.le_refl _)]
      exact m4 i hi
  · refine ⟨⟨?_, Or.inr (zup_at _ _ _ _)⟩, ?_, ?_, fun _ => ⟨?_, ?_, fun g hg => ?_⟩⟩
    · rw [zup_at, zup_at]
    · rw [zup_i (by decide)]
      omega
    · rw [zup_i (by decide)]
      omega
    · rw [zup_i (by decide), zup_i (by decide)]
      exact h6.1
    · intro l hl
      rw [s 24 (by decide), t 123 (by decide)]
      exact h8 l hl
    · rw [zup_i (by decide)] at hg
      obtain ⟨kk, q1, -⟩ := h7 g hg
      rw [s _ (by omega), t 118 (by decide), q1.1.1, q1.1.2.1]
/-- what group asks -/
theorem p_gp (h : rR A B N n) : (∀ l : Nat, l ≤ N → zgp A limit l 2 0 = N) ∧ (∀ l : Nat, l ≤ N → zmgp B limit l 110 3 = N) ∧ (∀ l : Nat, l < N → zGl (zgp A limit l) limit l) ∧ ∀ l : Nat, l < N → zmGl (zmgp B limit l) limit l := by
  have N12 := h.1.1
  refine ⟨fun l hl => ?_, fun l hl => ?_, fun l hl => ?_, fun l hl => ?_⟩
  · exact (rGI_Ln (r_gp (limit := limit) h.1 h.2.2.1 l hl).1 h.1).1.1
  · exact (rGI_Ln (r_gp (limit := limit) h.1 h.2.2.1 l hl).1 h.1).1.2.1
  · exact ((r_gp (limit := limit) h.1 h.2.2.1 N (Nat.le_refl _)).2 l hl).1
  · exact ((r_gp (limit := limit) h.1 h.2.2.1 N (Nat.le_refl _)).2 l hl).2
end RGS
