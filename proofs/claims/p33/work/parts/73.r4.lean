section RKP
variable {A B A' B' : zStore} {N n m b : Nat} {f : Int} {line : Nat}
/-- the format behind a merge: A' has the class's cells of zaj, B' the model's of zmaj -/
theorem rF_merge (hL : rLn A B N) (hC : rCo A B) (hF : rF A B b f N n) (hb : 15 ≤ b) (hl : line < N) (hm : A 4 line = m) (h0 : zbit (B 119 f) line = 0) (hK : zK A b line n m ≤ 40)
    (hA0 : A' b 0 = zaj A b line n m b 0) (hA1 : A' b 1 = zaj A b line n m b 1) (hA : ∀ c j, b + 1 ≤ c → c ≤ b + 6 → A' c j = zaj A b line n m c j) (hA9 : A' 9 = A 9) (hA4 : A' 4 = A 4) (hA6 : A' 6 = A 6)
    (hB8 : B' 118 f = zmaj B f line n m 118 f) (hB9 : B' 119 f = zmaj B f line n m 119 f) (hB : ∀ c j, 120 ≤ c → c ≤ 122 → B' c j = zmaj B f line n m c j) : rF A' B' b f N (zK A b line n m) := by
  have rw_ := r_w hL hC hF hl hm
  have rP := r_P hL hC hF hl hm
  have rK := r_K hL hC hF hl hm
  have wy := r_Wy (I := A) (b := b) (l9 := (line : Int)) (n := n) (m := m)
  have hn := hF.1.1
  have ho : ∀ i : Nat, i < n → 0 ≤ A (b + 1) i ∧ A (b + 1) i < n := fun i hi => (hF.2.2.1 i hi).1
  have hin := hF.2.2.2
  have hml := (hL.2.1 line hl).2.1
  have N12 := hL.1.2.2
  have z1 := zor_eq (v := B 119 f) (l := line) ⟨hF.2.1.1, hF.2.1.2.1⟩ (by omega) h0
  have e9 : B' 119 f = zor (B 119 f) (zshl 1 line) := by rw [hB9, zmaj_119]
  have noline : ∀ i : Nat, i < n → B 122 (12 * (40 * f + (i : Int)) + line) = (-1) := fun i hi => by
    by_cases q : B 122 (12 * (40 * f + (i : Int)) + line) = (-1)
    · exact q
    · have := ((hF.2.2.1 i hi).2.2.2.2 line (by omega) q).1
      omega
  have sl : ∀ j : Nat, j < zK A b line n m → ∃ k : Nat, k < zK A b line n m ∧ j = zK A b line n m - 1 - k := fun j hj => ⟨zK A b line n m - 1 - j, by omega, by omega⟩
  have ord : ∀ k : Nat, k < zK A b line n m → A' (b + 1) ((zK A b line n m - 1 - k : Nat) : Int) = zid A b n (zw_ A b line n m) (zP_ A b line n m) k := fun k hk => by
    rw [hA _ _ (by omega) (by omega)]
    exact (zaj_sl hb hn ho hin hk).1
  refine ⟨⟨?_, ?_, hK⟩, ⟨?_, ?_, ?_, fun l hl2 hx => ?_⟩, fun j hj => ?_, fun i j hi hj he => ?_⟩
  · rw [hA0, zaj_0 hb hn]
  · rw [hB8, zmaj_118, rK]
  · rw [e9]; exact z1.1.1
  · rw [e9]; exact z1.1.2
  · rw [hA1, zaj_1 hb, e9, z1.2.1, hF.2.1.2.2.1]
  · rw [e9, z1.2.2 l] at hx
    by_cases q : l = line
    · omega
    · rw [if_neg q] at hx
      exact hF.2.1.2.2.2 l hl2 hx
  · obtain ⟨k, hk, rfl⟩ := sl j hj
    have s1 := zaj_sl hb hn ho hin hk
    have s2 := zmaj_sl (B := B) (f := f) (line := line) (n := n) (m := m) (k := k) (by rw [rK]; exact hk) (by rw [rK]; exact hK)
    rw [rK, rw_, rP] at s2
    have step := wy.2.2.2 k hk
    have pk := zWy_le wy (k := k) (by omega)
    have w3 := wy.1 k hk
    have oldi : zw_ A b line n m k ≠ 2 → (zP_ A b line n m (k + 1)).1 < n := fun q => by
      rw [if_neg q] at step
      omega
    have tok : zw_ A b line n m k ≠ 1 → ((zP_ A b line n m (k + 1)).2 : Int) < A 4 line := fun q => by
      rw [if_neg q] at step
      omega
    have zidv : zw_ A b line n m k ≠ 2 → zid A b n (zw_ A b line n m) (zP_ A b line n m) k = A (b + 1) (zP_ A b line n m (k + 1)).1 := fun q => by
      unfold zid
      rw [if_neg q]
    have zipv : zip_ line (zP_ A b line n m) k = (line : Int) * 30 + (zP_ A b line n m (k + 1)).2 := rfl
    have cm : (30 : Int) * (line : Int) = (line : Int) * 30 := Int.mul_comm _ _
    have zb_ := zid_lt wy ho hk
    have ordk := ord k hk
    generalize hd : zid A b n (zw_ A b line n m) (zP_ A b line n m) k = d at *
    have rpl : ∀ v, rPl A N v → rPl A' N v := fun v hv => by
      unfold rPl at *
      rw [hA4]
      exact hv
    refine ⟨?_, ?_, ?_, ?_, fun l hl2 hx => ?_⟩
    · rw [ordk]
      exact zb_
    · rw [ordk, hA _ _ (by omega) (by omega), hB _ _ (by omega) (by omega), s1.2.1, s2.1]
      unfold zn2
      rw [hd]
      by_cases h2 : zw_ A b line n m k = 2
      · rw [if_pos h2, if_pos h2, zipv, cm]
        have t1 := ((hL.2.1 line hl).2.2.2 _ (tok (by omega))).1
        exact ⟨t1.1, t1.2.1, t1.2.2⟩
      · rw [if_neg h2, if_neg h2]
        have t1 := (hF.2.2.1 _ (oldi h2)).2.1
        have e : d = A (b + 1) (zP_ A b line n m (k + 1)).1 := zidv h2
        rw [e]
        exact t1
    · rw [ordk, hA (b + 3) d (by omega) (by omega), hA (b + 2) d (by omega) (by omega), hB 121 _ (by decide) (by decide), s1.2.2.1, s1.2.1, s2.2.1, hA9, hA6]
      unfold zn3 zn2
      rw [hd]
      by_cases h2 : zw_ A b line n m k = 2
      · rw [if_pos h2, if_pos h2, if_pos h2, zipv, cm]
        exact Or.inr ⟨rpl _ (r_pl hL hl (tok (by omega))), rfl, rfl⟩
      · rw [if_neg h2, if_neg h2, if_neg h2]
        have e : d = A (b + 1) (zP_ A b line n m (k + 1)).1 := zidv h2
        have t1 := (hF.2.2.1 _ (oldi h2)).2.2.1
        rw [← e] at t1
        by_cases hw0 : zw_ A b line n m k = 0
        · rw [if_pos hw0, zipv, cm]
          have hp := r_pl hL hl (tok (by omega))
          rcases t1 with q | q
          · have v9 := rPl_9 hL hp
            have c1 : ¬ (zw_ A b line n m k = 0 ∧ B 121 (40 * f + (zP_ A b line n m (k + 1)).1) ≠ (-1) ∧ zmS (B 117) (B 116) (B 113) (B 121 (40 * f + (zP_ A b line n m (k + 1)).1)) ((line : Int) * 30 + (zP_ A b line n m (k + 1)).2) = false) := fun r => r.2.1 q.2
            rw [if_neg (show ¬ A (b + 3) d = A 9 ((line : Int) * 30 + (zP_ A b line n m (k + 1)).2) by omega), if_neg c1]
            exact Or.inl ⟨rfl, q.2⟩
          · have v0 := rPl_b hL q.1
            have ts := rTx_s hL q.1 hp
            rw [q.2.1]
            by_cases e9 : A 9 (B 121 (40 * f + (zP_ A b line n m (k + 1)).1)) = A 9 ((line : Int) * 30 + (zP_ A b line n m (k + 1)).2)
            · have c1 : ¬ (zw_ A b line n m k = 0 ∧ B 121 (40 * f + (zP_ A b line n m (k + 1)).1) ≠ (-1) ∧ zmS (B 117) (B 116) (B 113) (B 121 (40 * f + (zP_ A b line n m (k + 1)).1)) ((line : Int) * 30 + (zP_ A b line n m (k + 1)).2) = false) := fun r => by
                have := ts.mp e9
                rw [this] at r
                exact absurd r.2.2 (by decide)
              rw [if_pos e9, if_neg c1]
              exact Or.inr ⟨rpl _ q.1, rfl, q.2.2⟩
            · have c1 : zw_ A b line n m k = 0 ∧ B 121 (40 * f + (zP_ A b line n m (k + 1)).1) ≠ (-1) ∧ zmS (B 117) (B 116) (B 113) (B 121 (40 * f + (zP_ A b line n m (k + 1)).1)) ((line : Int) * 30 + (zP_ A b line n m (k + 1)).2) = false := ⟨hw0, by omega, Bool.eq_false_iff.mpr fun r => e9 (ts.mpr r)⟩
              rw [if_neg e9, if_pos c1]
              exact Or.inl ⟨rfl, rfl⟩
        · have c1 : ¬ (zw_ A b line n m k = 0 ∧ B 121 (40 * f + (zP_ A b line n m (k + 1)).1) ≠ (-1) ∧ zmS (B 117) (B 116) (B 113) (B 121 (40 * f + (zP_ A b line n m (k + 1)).1)) (30 * (line : Int) + (zP_ A b line n m (k + 1)).2) = false) := fun r => hw0 r.1
          rw [if_neg hw0, if_neg c1]
          rcases t1 with q | q
          · exact Or.inl q
          · exact Or.inr ⟨rpl _ q.1, q.2⟩
    · have hu : ∀ l : Nat, l < 12 → B' 122 (12 * (40 * f + ((zK A b line n m - 1 - k : Nat) : Int)) + l) = (if l = line ∧ zw_ A b line n m k ≠ 1 then ((zP_ A b line n m (k + 1)).2 : Int) else if zw_ A b line n m k = 2 then (-1) else B 122 (12 * (40 * f + (zP_ A b line n m (k + 1)).1) + l)) := fun l hl2 => by
        rw [hB _ _ (by omega) (by omega)]
        exact s2.2.2 l hl2
      rw [ordk, hA _ _ (by omega) (by omega), s1.2.2.2.2.2.1]
      unfold zn6
      rw [hd]
      by_cases h2 : zw_ A b line n m k = 2
      · rw [if_pos h2]
        have := zmu_1 (u := fun _ => (-1)) (u' := B' 122) (f := f) (s := 0) (f' := f) (s' := ((zK A b line n m - 1 - k : Nat) : Int)) (x := line) rfl (by rw [hu line (by omega), if_pos ⟨rfl, by omega⟩]; omega) N hl (fun l h1 h3 => by
          have c1 : ¬ (l = line ∧ zw_ A b line n m k ≠ 1) := fun r => h3 r.1
          rw [hu l (by omega), if_neg c1, if_pos h2])
        rw [this, zmu_0 N (fun _ _ => rfl)]
        rfl
      · rw [if_neg h2]
        have e : d = A (b + 1) (zP_ A b line n m (k + 1)).1 := zidv h2
        have t1 := (hF.2.2.1 _ (oldi h2)).2.2.2.1
        rw [← e] at t1
        by_cases hw0 : zw_ A b line n m k = 0
        · rw [if_pos hw0, t1]
          refine (zmu_1 (x := line) (noline _ (oldi h2)) ?_ N hl (fun l h1 h3 => ?_)).symm
          · rw [hu line (by omega), if_pos ⟨rfl, by omega⟩]
            omega
          · have c1 : ¬ (l = line ∧ zw_ A b line n m k ≠ 1) := fun r => h3 r.1
            rw [hu l (by omega), if_neg c1, if_neg h2]
        · rw [if_neg hw0, t1]
          refine zmu_c N fun l h1 => ?_
          have c1 : ¬ (l = line ∧ zw_ A b line n m k ≠ 1) := fun r => r.2 (by omega)
          rw [hu l (by omega), if_neg c1, if_neg h2]
    · rw [hB 122 _ (by decide) (by decide), s2.2.2 l hl2] at hx ⊢
      rw [e9, z1.2.2 l, hA4]
      by_cases c1 : l = line ∧ zw_ A b line n m k ≠ 1
      · rw [if_pos c1] at hx ⊢
        rw [if_pos c1.1]
        have := tok c1.2
        rw [c1.1]
        exact ⟨rfl, by omega, this⟩
      · rw [if_neg c1] at hx ⊢
        by_cases h2 : zw_ A b line n m k = 2
        · rw [if_pos h2] at hx
          exact absurd rfl hx
        · rw [if_neg h2] at hx ⊢
          have t1 := (hF.2.2.1 _ (oldi h2)).2.2.2.2 l hl2 hx
          refine ⟨?_, t1.2⟩
          split
          · rfl
          · exact t1.1
  · obtain ⟨k1, hk1, rfl⟩ := sl i hi
    obtain ⟨k2, hk2, rfl⟩ := sl j hj
    rw [ord k1 hk1, ord k2 hk2] at he
    have hq := zid_inj wy ho hin
    rcases Nat.lt_trichotomy k1 k2 with q | q | q
    · exact absurd he (hq k1 k2 q hk2)
    · rw [q]
    · exact absurd he.symm (hq k2 k1 q hk1)
/-- and what the learned format knows more -/
theorem rM_merge (hL : rLn A B N) (hC : rCo A B) (hF : rF A B 15 0 N n) (hM : rM A B N n) (hl : line < N) (hm : A 4 line = m) (h0 : zbit (B 119 0) line = 0) (hK : zK A 15 line n m ≤ 40)
    (hA : ∀ c j, 16 ≤ c → c ≤ 21 → A' c j = zaj A 15 line n m c j) (hA4 : A' 4 = A 4) (hA6 : A' 6 = A 6) (hA22 : ∀ l : Nat, A' 22 l = if l = line then 1 else A 22 l) (hA23 : ∀ l t : Nat, t < 30 → A' 23 ((l : Int) * 30 + t) = if l = line ∧ t < m then zaj A 15 line n m 13 t else A 23 ((l : Int) * 30 + t))
    (hB9 : B' 119 0 = zmaj B 0 line n m 119 0) (hB : ∀ c j, 120 ≤ c → c ≤ 122 → B' c j = zmaj B 0 line n m c j) (hB7 : B' 117 = B 117) : rM A' B' N (zK A 15 line n m) := by
  have rw_ := r_w hL hC hF hl hm
  have rP := r_P hL hC hF hl hm
  have rK := r_K hL hC hF hl hm
  have wy := r_Wy (I := A) (b := 15) (l9 := (line : Int)) (n := n) (m := m)
  have hn := hF.1.1
  have ho : ∀ i : Nat, i < n → 0 ≤ A (15 + 1) i ∧ A (15 + 1) i < n := fun i hi => (hF.2.2.1 i hi).1
  have hin := hF.2.2.2
  have hml := (hL.2.1 line hl).2.1
  have N12 := hL.1.2.2
  have z1 := zor_eq (v := B 119 0) (l := line) ⟨hF.2.1.1, hF.2.1.2.1⟩ (by omega) h0
  have e9 : B' 119 0 = zor (B 119 0) (zshl 1 line) := by rw [hB9, zmaj_119]
  have sl : ∀ j : Nat, j < zK A 15 line n m → ∃ k : Nat, k < zK A 15 line n m ∧ j = zK A 15 line n m - 1 - k := fun j hj => ⟨zK A 15 line n m - 1 - j, by omega, by omega⟩
  have ord : ∀ k : Nat, k < zK A 15 line n m → A' 16 ((zK A 15 line n m - 1 - k : Nat) : Int) = zid A 15 n (zw_ A 15 line n m) (zP_ A 15 line n m) k := fun k hk => by
    rw [hA _ _ (by omega) (by omega)]
    exact (zaj_sl (by decide) hn ho hin hk).1
  have hu : ∀ k : Nat, k < zK A 15 line n m → ∀ l : Nat, l < 12 → B' 122 (12 * (40 * 0 + ((zK A 15 line n m - 1 - k : Nat) : Int)) + l) = (if l = line ∧ zw_ A 15 line n m k ≠ 1 then ((zP_ A 15 line n m (k + 1)).2 : Int) else if zw_ A 15 line n m k = 2 then (-1) else B 122 (12 * (40 * 0 + ((zP_ A 15 line n m (k + 1)).1 : Int)) + l)) := fun k hk l hl2 => by
    have s2 := zmaj_sl (B := B) (f := 0) (line := line) (n := n) (m := m) (k := k) (by rw [rK]; exact hk) (by rw [rK]; exact hK)
    rw [rK, rw_, rP] at s2
    rw [hB _ _ (by omega) (by omega)]
    exact s2.2.2 l hl2
  have oldi : ∀ k : Nat, k < zK A 15 line n m → zw_ A 15 line n m k ≠ 2 → (zP_ A 15 line n m (k + 1)).1 < n := fun k hk q => by
    have step := wy.2.2.2 k hk
    have pk := zWy_le wy (k := k) (by omega)
    rw [if_neg q] at step
    omega
  have tok : ∀ k : Nat, k < zK A 15 line n m → zw_ A 15 line n m k ≠ 1 → (zP_ A 15 line n m (k + 1)).2 < m := fun k hk q => by
    have step := wy.2.2.2 k hk
    have pk := zWy_le wy (k := k) (by omega)
    rw [if_neg q] at step
    omega
  have zidv : ∀ k : Nat, zw_ A 15 line n m k ≠ 2 → zid A 15 n (zw_ A 15 line n m) (zP_ A 15 line n m) k = A 16 (zP_ A 15 line n m (k + 1)).1 := fun k q => by
    unfold zid
    rw [if_neg q]
  have noline : ∀ i : Nat, i < n → B 122 (12 * (40 * 0 + (i : Int)) + line) = (-1) := fun i hi => by
    by_cases q : B 122 (12 * (40 * 0 + (i : Int)) + line) = (-1)
    · exact q
    · have := ((hF.2.2.1 i hi).2.2.2.2 line (by omega) q).1
      omega
  obtain ⟨m1, m2, m3, m4⟩ := hM
  refine ⟨fun l hl2 => ?_, fun l hl2 hx t ht => ?_, fun j hj l hl2 hx => ?_, fun j hj => ?_⟩
  · rw [hA22, e9, z1.2.2 l]
    by_cases q : l = line
    · rw [if_pos q, if_pos q]
    · rw [if_neg q, if_neg q]
      exact m1 l hl2
  · rw [e9, z1.2.2 l] at hx
    rw [hA4] at ht
    by_cases q : l = line
    · subst q
      obtain ⟨k, hk, hw, ht2⟩ := zWy_t wy (t := t) (zK A 15 l n m) (Nat.le_refl _) (by rw [wy.2.1]; dsimp only; omega) (by rw [wy.2.2.1]; exact Nat.zero_le _)
      refine ⟨zK A 15 l n m - 1 - k, by omega, ?_, ?_⟩
      · rw [hu k hk l hl2, if_pos ⟨rfl, hw⟩, ht2]
      · rw [hA23 l t (by omega), if_pos ⟨rfl, by omega⟩, ord k hk, ← ht2]
        exact (zaj_sl (by decide) hn ho hin hk).2.2.2.2.2.2 hw
    · rw [if_neg q] at hx
      have hlN := hF.2.1.2.2.2 l hl2 hx
      have t30 := (hL.2.1 l hlN).2.1
      obtain ⟨i, hi, p1, p2⟩ := m2 l hl2 hx t ht
      obtain ⟨k, hk, hw, hi2⟩ := zWy_s wy (i := i) (zK A 15 line n m) (Nat.le_refl _) (by rw [wy.2.1]; exact hi) (by rw [wy.2.2.1]; exact Nat.zero_le _)
      have c1 : ¬ (l = line ∧ zw_ A 15 line n m k ≠ 1) := fun r => q r.1
      refine ⟨zK A 15 line n m - 1 - k, by omega, ?_, ?_⟩
      · rw [hu k hk l hl2, if_neg c1, if_neg hw, hi2]
        exact p1
      · have c2 : ¬ (l = line ∧ t < m) := fun r => q r.1
        rw [hA23 l t (by omega), if_neg c2, ord k hk, zidv k hw, hi2]
        exact p2
  · obtain ⟨k, hk, rfl⟩ := sl j hj
    rw [hu k hk l hl2] at hx ⊢
    rw [ord k hk]
    have s1 := zaj_sl (A := A) (b := 15) (line := line) (n := n) (m := m) (by decide) hn ho hin hk
    by_cases c1 : l = line ∧ zw_ A 15 line n m k ≠ 1
    · rw [if_pos c1]
      have tk := tok k hk c1.2
      have c2 : l = line ∧ (zP_ A 15 line n m (k + 1)).2 < m := ⟨c1.1, tk⟩
      refine ⟨?_, ?_⟩
      · rw [hA23 l _ (by omega), if_pos c2]
        exact s1.2.2.2.2.2.2 c1.2
      · rw [hA 17 _ (by omega) (by omega), s1.2.1, hA6]
        unfold zn2
        by_cases h2 : zw_ A 15 line n m k = 2
        · rw [if_pos h2, c1.1]
          rfl
        · rw [if_neg h2, zidv k h2]
          have w3 := wy.1 k hk
          have hp := zw_pair (I := A) (b := 15) (l9 := (line : Int)) (n := n) (m := m) (k := k) (by omega) hk
          unfold zq_ zpc at hp
          by_cases e : A 17 (A 16 (zP_ A 15 line n m (k + 1)).1) ≠ A 6 ((line : Int) * 30 + (zP_ A 15 line n m (k + 1)).2)
          · exact absurd (if_pos e) hp
          · have e2 := Decidable.not_not.mp e
            rw [c1.1]
            exact e2.symm
    · rw [if_neg c1] at hx ⊢
      by_cases h2 : zw_ A 15 line n m k = 2
      · rw [if_pos h2] at hx
        exact absurd rfl hx
      · rw [if_neg h2] at hx ⊢
        have oi := oldi k hk h2
        have hne : l ≠ line := fun r => hx (by rw [r]; exact noline _ oi)
        have t1 := m3 _ oi l hl2 hx
        have t2 := (hF.2.2.1 _ oi).2.2.2.2 l hl2 hx
        have hlN := hF.2.1.2.2.2 l hl2 t2.1
        have t30 := (hL.2.1 l hlN).2.1
        rw [zidv k h2, hA6]
        refine ⟨?_, ?_⟩
        · have h23 := hA23 l (B 122 (12 * (40 * 0 + ((zP_ A 15 line n m (k + 1)).1 : Int)) + l)).toNat (by omega)
          have c2 : ¬ (l = line ∧ (B 122 (12 * (40 * 0 + ((zP_ A 15 line n m (k + 1)).1 : Int)) + l)).toNat < m) := fun r => hne r.1
          rw [if_neg c2] at h23
          have e5 : (((B 122 (12 * (40 * 0 + ((zP_ A 15 line n m (k + 1)).1 : Int)) + l)).toNat : Nat) : Int) = B 122 (12 * (40 * 0 + ((zP_ A 15 line n m (k + 1)).1 : Int)) + l) := by omega
          rw [e5] at h23
          rw [h23]
          exact t1.1
        · have s12 := s1.2.1
          rw [zidv k h2] at s12
          rw [hA 17 _ (by omega) (by omega), s12, t1.2]
          unfold zn2
          rw [if_neg h2, zidv k h2]
  · obtain ⟨k, hk, rfl⟩ := sl j hj
    have s1 := zaj_sl (A := A) (b := 15) (line := line) (n := n) (m := m) (by decide) hn ho hin hk
    have huk := hu k hk
    have size : ∀ (i : Nat), i < n → ∀ l : Nat, l < N → B 122 (12 * (40 * 0 + (i : Int)) + l) ≠ (-1) → 1 ≤ B 117 (30 * l + B 122 (12 * (40 * 0 + (i : Int)) + l)) := fun i hi l hlN hx => by
      have t2 := (hF.2.2.1 i hi).2.2.2.2 l (by omega) hx
      have t3 := ((hL.2.1 l hlN).2.2.2 (B 122 (12 * (40 * 0 + (i : Int)) + l)).toNat (by omega)).2.2.1
      rw [show (((B 122 (12 * (40 * 0 + (i : Int)) + l)).toNat : Nat) : Int) = B 122 (12 * (40 * 0 + (i : Int)) + l) by omega] at t3
      rw [Int.mul_comm 30]
      omega
    have own : zw_ A 15 line n m k ≠ 1 → 1 ≤ A 8 (zip_ line (zP_ A 15 line n m) k) ∧ B 117 (30 * (line : Int) + (zP_ A 15 line n m (k + 1)).2) = A 8 (zip_ line (zP_ A 15 line n m) k) := fun q => by
      have tk := tok k hk q
      have t3 := ((hL.2.1 line hl).2.2.2 (zP_ A 15 line n m (k + 1)).2 (by omega)).2.2.1
      unfold zip_
      rw [Int.mul_comm 30]
      exact ⟨t3.1, t3.2.2.1⟩
    rw [ord k hk, hA 19 _ (by omega) (by omega), hA 20 _ (by omega) (by omega), s1.2.2.2.1, s1.2.2.2.2.1, hB7]
    unfold zn4 zn5
    simp only [Nat.reduceAdd]
    by_cases h2 : zw_ A 15 line n m k = 2
    · rw [if_pos h2, if_pos h2]
      have ow := own (by omega)
      have hx : ∀ l : Nat, l < N → B' 122 (12 * (40 * 0 + ((zK A 15 line n m - 1 - k : Nat) : Int)) + l) ≠ (-1) → l = line := fun l h1 h3 => by
        by_cases q : l = line
        · exact q
        · have c1 : ¬ (l = line ∧ zw_ A 15 line n m k ≠ 1) := fun r => q r.1
          rw [huk l (by omega), if_neg c1, if_pos h2] at h3
          exact absurd rfl h3
      have hv : B' 122 (12 * (40 * 0 + ((zK A 15 line n m - 1 - k : Nat) : Int)) + line) = (zP_ A 15 line n m (k + 1)).2 := by
        rw [huk line (by omega), if_pos ⟨rfl, by omega⟩]
      have sz : ∀ l : Nat, l < N → B' 122 (12 * (40 * 0 + ((zK A 15 line n m - 1 - k : Nat) : Int)) + l) ≠ (-1) → 1 ≤ B 117 (30 * l + B' 122 (12 * (40 * 0 + ((zK A 15 line n m - 1 - k : Nat) : Int)) + l)) := fun l h1 h3 => by
        have e := hx l h1 h3
        subst e
        rw [hv, ow.2]
        exact ow.1
      have P : ∀ g : Int, zmeP (B' 122) (B 117) ((zK A 15 line n m - 1 - k : Nat) : Int) g N (A 8 (zip_ line (zP_ A 15 line n m) k)) := fun g => by
        refine Or.inr ⟨⟨line, hl, by rw [hv]; omega, by rw [hv, ow.2]⟩, fun l h1 h3 => ?_⟩
        have e := hx l h1 h3
        subst e
        rw [hv, ow.2]
        exact ⟨fun _ => Int.le_refl _, fun _ => Int.le_refl _⟩
      exact ⟨ow.1, zmeP_u (P 0) (zme_P N sz), zmeP_u (P 1) (zme_P N sz)⟩
    · rw [if_neg h2, if_neg h2]
      have oi := oldi k hk h2
      have o4 := m4 _ oi
      have osz := size _ oi
      have oP0 := zme_P (u := B 122) (z := B 117) (slot := ((zP_ A 15 line n m (k + 1)).1 : Int)) (g := 0) N osz
      have oP1 := zme_P (u := B 122) (z := B 117) (slot := ((zP_ A 15 line n m (k + 1)).1 : Int)) (g := 1) N osz
      rw [← o4.2.1] at oP0
      rw [← o4.2.2] at oP1
      rw [zidv k h2]
      have nl := noline _ oi
      have old : ∀ l : Nat, l < N → l ≠ line → B' 122 (12 * (40 * 0 + ((zK A 15 line n m - 1 - k : Nat) : Int)) + l) = B 122 (12 * (40 * 0 + ((zP_ A 15 line n m (k + 1)).1 : Int)) + l) := fun l h1 h3 => by
        have c1 : ¬ (l = line ∧ zw_ A 15 line n m k ≠ 1) := fun r => h3 r.1
        rw [huk l (by omega), if_neg c1, if_neg h2]
      by_cases hw0 : zw_ A 15 line n m k = 0
      · rw [if_pos hw0, if_pos hw0]
        have ow := own (by omega)
        have hv : B' 122 (12 * (40 * 0 + ((zK A 15 line n m - 1 - k : Nat) : Int)) + line) = (zP_ A 15 line n m (k + 1)).2 := by
          rw [huk line (by omega), if_pos ⟨rfl, by omega⟩]
        have sz : ∀ l : Nat, l < N → B' 122 (12 * (40 * 0 + ((zK A 15 line n m - 1 - k : Nat) : Int)) + l) ≠ (-1) → 1 ≤ B 117 (30 * l + B' 122 (12 * (40 * 0 + ((zK A 15 line n m - 1 - k : Nat) : Int)) + l)) := fun l h1 h3 => by
          by_cases q : l = line
          · subst q
            rw [hv, ow.2]
            exact ow.1
          · rw [old l h1 q] at h3 ⊢
            exact osz l h1 h3
        have in_ : ∀ v : Int, (∃ l : Nat, l < N ∧ B 122 (12 * (40 * 0 + ((zP_ A 15 line n m (k + 1)).1 : Int)) + l) ≠ (-1) ∧ v = B 117 (30 * l + B 122 (12 * (40 * 0 + ((zP_ A 15 line n m (k + 1)).1 : Int)) + l))) → ∃ l : Nat, l < N ∧ B' 122 (12 * (40 * 0 + ((zK A 15 line n m - 1 - k : Nat) : Int)) + l) ≠ (-1) ∧ v = B 117 (30 * l + B' 122 (12 * (40 * 0 + ((zK A 15 line n m - 1 - k : Nat) : Int)) + l)) := fun v hv2 => by
          obtain ⟨l, a1, a2, a3⟩ := hv2
          have hne : l ≠ line := fun r => a2 (by rw [r]; exact nl)
          exact ⟨l, a1, by rw [old l a1 hne]; exact a2, by rw [old l a1 hne]; exact a3⟩
        have own_in : ∃ l : Nat, l < N ∧ B' 122 (12 * (40 * 0 + ((zK A 15 line n m - 1 - k : Nat) : Int)) + l) ≠ (-1) ∧ A 8 (zip_ line (zP_ A 15 line n m) k) = B 117 (30 * l + B' 122 (12 * (40 * 0 + ((zK A 15 line n m - 1 - k : Nat) : Int)) + l)) := ⟨line, hl, by rw [hv]; omega, by rw [hv, ow.2]⟩
        have h1le : 1 ≤ min (A 19 (A 16 (zP_ A 15 line n m (k + 1)).1)) (A 8 (zip_ line (zP_ A 15 line n m) k)) := by omega
        refine ⟨h1le, zmeP_u (g := 0) ?_ (zme_P N sz), zmeP_u (g := 1) ?_ (zme_P N sz)⟩
        · rcases oP0 with ⟨p, -⟩ | ⟨p, q⟩
          · omega
          · refine Or.inr ⟨?_, fun l a1 a2 => ⟨fun _ => ?_, fun r => absurd rfl r⟩⟩
            · rcases Int.le_total (A 19 (A 16 (zP_ A 15 line n m (k + 1)).1)) (A 8 (zip_ line (zP_ A 15 line n m) k)) with r | r
              · rw [Int.min_eq_left r]
                exact in_ _ p
              · rw [Int.min_eq_right r]
                exact own_in
            · by_cases e : l = line
              · subst e
                rw [hv, ow.2]
                omega
              · rw [old l a1 e] at a2 ⊢
                have := (q l a1 a2).1 rfl
                omega
        · rcases oP1 with ⟨p, q⟩ | ⟨p, q⟩
          · rcases oP0 with ⟨p0, -⟩ | ⟨⟨l, a1, a2, -⟩, -⟩
            · omega
            · exact absurd (q l a1) a2
          · refine Or.inr ⟨?_, fun l a1 a2 => ⟨fun r => absurd r (by decide), fun _ => ?_⟩⟩
            · rcases Int.le_total (A 20 (A 16 (zP_ A 15 line n m (k + 1)).1)) (A 8 (zip_ line (zP_ A 15 line n m) k)) with r | r
              · rw [Int.max_eq_right r]
                exact own_in
              · rw [Int.max_eq_left r]
                exact in_ _ p
            · by_cases e : l = line
              · subst e
                rw [hv, ow.2]
                omega
              · rw [old l a1 e] at a2 ⊢
                have := (q l a1 a2).2 (by decide)
                omega
      · rw [if_neg hw0, if_neg hw0]
        have same : ∀ l : Nat, l < N → B' 122 (12 * (40 * 0 + ((zK A 15 line n m - 1 - k : Nat) : Int)) + l) = B 122 (12 * (40 * 0 + ((zP_ A 15 line n m (k + 1)).1 : Int)) + l) := fun l h1 => by
          have c1 : ¬ (l = line ∧ zw_ A 15 line n m k ≠ 1) := fun r => by
            have := wy.1 k hk
            exact r.2 (by omega)
          rw [huk l (by omega), if_neg c1, if_neg h2]
        have sz : ∀ l : Nat, l < N → B' 122 (12 * (40 * 0 + ((zK A 15 line n m - 1 - k : Nat) : Int)) + l) ≠ (-1) → 1 ≤ B 117 (30 * l + B' 122 (12 * (40 * 0 + ((zK A 15 line n m - 1 - k : Nat) : Int)) + l)) := fun l h1 h3 => by
          rw [same l h1] at h3 ⊢
          exact osz l h1 h3
        have tr : ∀ (g v : Int), zmeP (B 122) (B 117) ((zP_ A 15 line n m (k + 1)).1 : Int) g N v → zmeP (B' 122) (B 117) ((zK A 15 line n m - 1 - k : Nat) : Int) g N v := fun g v h => by
          rcases h with ⟨p, q⟩ | ⟨⟨l, a1, a2, a3⟩, q⟩
          · exact Or.inl ⟨p, fun l h1 => by rw [same l h1]; exact q l h1⟩
          · refine Or.inr ⟨⟨l, a1, by rw [same l a1]; exact a2, by rw [same l a1]; exact a3⟩, fun l h1 h3 => ?_⟩
            rw [same l h1] at h3 ⊢
            exact q l h1 h3
        exact ⟨o4.1, zmeP_u (tr 0 _ oP0) (zme_P N sz), zmeP_u (tr 1 _ oP1) (zme_P N sz)⟩
end RKP

