/-! the step store -/
theorem zcnt_c {kd kd' : Nat → Int} : ∀ i : Nat, (∀ j : Nat, j < i → kd j = kd' j) → zcnt kd i = zcnt kd' i ∧ ∀ t : Nat, zkn kd i t = zkn kd' i t ∧ zsn kd i t = zsn kd' i t ∧ zzn kd i t = zzn kd' i t
  | 0, _ => ⟨rfl, fun _ => ⟨rfl, rfl, rfl⟩⟩
  | i + 1, h => by
    obtain ⟨h1, h2⟩ := zcnt_c i fun j hj => h j (by omega)
    have e : znew kd i = znew kd' i := by
      unfold znew
      rw [h i (by omega), h (i - 1) (by omega)]
    simp only [zcnt, zkn, zsn, zzn]
    rw [h1, e]
    refine ⟨rfl, fun t => ?_⟩
    rw [(h2 t).1, (h2 t).2.1, (h2 t).2.2, h i (by omega)]
    exact ⟨rfl, rfl, rfl⟩
/-- the tokens: the last ends where the bytes end; a token's bytes are of its kind -/
theorem ztok2 (kd : Nat → Int) : ∀ i t : Nat, t < zcnt kd i → (∃ s w : Nat, zsn kd i t = s ∧ zzn kd i t = w ∧ 1 ≤ w ∧ s + w ≤ i ∧ (t + 1 = zcnt kd i → s + w = i) ∧ ∀ k : Nat, k < w → kd (s + k) = zkn kd i t)
  | 0, t, h => absurd h (by simp [zcnt])
  | i + 1, t, h => by
    have ih := ztok2 kd i
    simp only [zcnt] at h ⊢
    simp only [zsn, zzn, zkn]
    by_cases hn : znew kd i = true
    · rw [if_pos hn] at h ⊢
      rw [if_pos hn]
      by_cases ht : t = zcnt kd i
      · rw [if_pos (And.intro hn ht), if_pos ht, if_pos (And.intro hn ht)]
        refine ⟨i, 1, rfl, rfl, by omega, by omega, fun _ => rfl, fun k hk => ?_⟩
        rw [show i + k = i by omega]
      · have c1 : ¬ (znew kd i = true ∧ t = zcnt kd i) := fun q => ht q.2
        rw [if_neg c1, if_neg ht, if_neg c1]
        obtain ⟨s, w, e1, e2, e3, e4, e5, e6⟩ := ih t (by omega)
        exact ⟨s, w, e1, e2, e3, by omega, fun q => absurd q (by omega), e6⟩
    · rw [if_neg hn] at h ⊢
      have c1 : ¬ (znew kd i = true ∧ t = zcnt kd i) := fun q => hn q.1
      rw [if_neg c1, if_neg hn, if_neg c1]
      obtain ⟨s, w, e1, e2, e3, e4, e5, e6⟩ := ih t (by omega)
      by_cases ht : t + 1 = zcnt kd i
      · rw [if_pos ht]
        have e5 := e5 ht
        refine ⟨s, w + 1, e1, by omega, by omega, by omega, fun _ => by omega, fun k hk => ?_⟩
        by_cases q : k = w
        · subst q
          have hkd : kd i = kd (i - 1) := by
            unfold znew at hn
            rw [decide_eq_true_iff] at hn
            by_cases r : kd i = kd (i - 1)
            · exact r
            · exact absurd (Or.inr (Or.inr r)) hn
          rw [e5, hkd, show i - 1 = s + (k - 1) by omega]
          exact e6 (k - 1) (by omega)
        · exact e6 k (by omega)
      · rw [if_neg ht]
        exact ⟨s, w, e1, e2, e3, by omega, fun q => absurd q (by omega), e6⟩
theorem zkd_1 {c : Int} (h : zkd c = 1) : 48 ≤ c ∧ c ≤ 57 := by
  unfold zkd at h
  split at h
  · exact absurd h (by decide)
  · split at h
    · assumption
    · split at h <;> exact absurd h (by decide)
theorem zseq_of {bt : Int → Int} {a b : Int} : ∀ n : Nat, (∀ k : Nat, k < n → bt (a + k) = bt (b + k)) → zseq bt a b n = true
  | 0, _ => rfl
  | n + 1, h => by
    simp only [zseq]
    rw [zseq_of n fun k hk => h k (by omega), h n (by omega)]
    simp
theorem zsm_iff {I : zStore} {a b : Int} : zsm I a b = true ↔ I 8 a = I 8 b ∧ ∀ k : Nat, (k : Int) < I 8 a → I 5 (I 7 a + k) = I 5 (I 7 b + k) := by
  unfold zsm
  rw [Bool.and_eq_true, beq_iff_eq]
  constructor
  · intro q
    exact ⟨q.1, fun k hk => zseq_t _ q.2 k (by omega)⟩
  · intro q
    exact ⟨q.1, zseq_of _ fun k hk => q.2 k (by omega)⟩
theorem zsm_r (I : zStore) (a : Int) : zsm I a a = true := zsm_iff.mpr ⟨rfl, fun _ _ => rfl⟩
theorem zsm_y {I : zStore} {a b : Int} (h : zsm I a b = true) : zsm I b a = true := by
  have h := zsm_iff.mp h
  exact zsm_iff.mpr ⟨h.1.symm, fun k hk => (h.2 k (by omega)).symm⟩
theorem zsm_t {I : zStore} {a b c : Int} (h : zsm I a b = true) (h2 : zsm I b c = true) : zsm I a c = true := by
  have h := zsm_iff.mp h
  have h2 := zsm_iff.mp h2
  exact zsm_iff.mpr ⟨h.1.trans h2.1, fun k hk => (h.2 k hk).trans (h2.2 k (by omega))⟩
/-- texts that are the least ones -/
theorem rTx_of {A : zStore} {N : Nat} (h : ∀ p : Int, rPl A N p → rPl A N (A 9 p) ∧ zsm A (A 9 p) p = true ∧ ∀ q : Int, rPl A N q → zsm A q p = true → A 9 p ≤ q) : rTx A N := fun p hp => by
  obtain ⟨h1, h2, h3⟩ := h p hp
  refine ⟨h1, h2, fun q hq => ⟨⟨fun e => ?_, fun e => ?_⟩, h3 q hq⟩⟩
  · obtain ⟨k1, k2, k3⟩ := h q hq
    rw [← e] at k2
    exact zsm_t (zsm_y h2) k2
  · obtain ⟨k1, k2, k3⟩ := h q hq
    have a := h3 _ k1 (zsm_t k2 (zsm_y e))
    have b := k3 _ h1 (zsm_t h2 e)
    omega
theorem zminN (P : Nat → Prop) (h : ∃ n, P n) : ∃ n, P n ∧ ∀ m : Nat, m < n → ¬ P m := by
  obtain ⟨n, hn⟩ := h
  induction n using Nat.strongRecOn with
  | ind n ih =>
    by_cases q : ∃ m : Nat, m < n ∧ P m
    · obtain ⟨m, h1, h2⟩ := q
      exact ih m h1 h2
    · exact ⟨n, hn, fun m h1 h2 => q ⟨m, h1, h2⟩⟩
theorem zfst_ex {I : zStore} {L t : Nat} (ht : (t : Int) < I 4 L) (h30 : ∀ l : Nat, l ≤ L → I 4 l ≤ 30) : ∃ v, zfst I L ((L : Int) * 30 + t) v := by
  obtain ⟨n, ⟨l0, t0, h1, h2, h3, h4⟩, hn⟩ := zminN (fun n => ∃ l0 t0 : Nat, l0 ≤ L ∧ (t0 : Int) < I 4 l0 ∧ n = l0 * 30 + t0 ∧ zsm I n ((L : Int) * 30 + t) = true) ⟨L * 30 + t, L, t, Nat.le_refl _, ht, rfl, by rw [show (((L * 30 + t : Nat)) : Int) = (L : Int) * 30 + t by omega]; exact zsm_r _ _⟩
  refine ⟨n, l0, t0, h1, h2, by omega, h4, fun l t2 a b => ?_⟩
  have h5 := h30 l (by omega)
  by_cases e : zsm I ((l : Int) * 30 + t2) ((L : Int) * 30 + t) = true
  · exfalso
    refine hn (l * 30 + t2) (by omega) ⟨l, t2, by omega, a, rfl, ?_⟩
    rw [show (((l * 30 + t2 : Nat)) : Int) = (l : Int) * 30 + t2 by omega]
    exact e
  · exact Bool.eq_false_iff.mpr e
/-- a line whose places are as they were -/
theorem rLine_c {A B A' B' : zStore} {l : Nat} (h3 : A' 3 l = A 3 l) (h4 : A' 4 l = A 4 l) (ha : ∀ (c : Nat) (j : Int), 5 ≤ c → c ≤ 8 → (l : Int) * 30 ≤ j → j < (l : Int) * 30 + 30 → A' c j = A c j) (k12 : B' 112 l = B 112 l) (k14 : B' 114 l = B 114 l) (hb : ∀ (c : Nat) (j : Int), (c = 113 ∨ c = 115 ∨ c = 116 ∨ c = 117) → (l : Int) * 30 ≤ j → j < (l : Int) * 30 + 30 → B' c j = B c j) (h : rLine A B l) : rLine A' B' l := by
  obtain ⟨p1, p2, p3, p4⟩ := h
  refine ⟨by rw [h3, k12]; exact p1, by rw [h4, k14]; exact p2, fun i i0 i1 => ?_, fun t ht => ?_⟩
  · rw [h3] at i1
    rw [ha 5 _ (by decide) (by decide) (by omega) (by omega), hb 113 _ (Or.inl rfl) (by omega) (by omega)]
    exact p3 i i0 i1
  · rw [h4] at ht
    have q := p4 t ht
    obtain ⟨q1, q2, q3, q4, q5⟩ := q
    have e6 := ha 6 ((l : Int) * 30 + t) (by decide) (by decide) (by omega) (by omega)
    have e7 := ha 7 ((l : Int) * 30 + t) (by decide) (by decide) (by omega) (by omega)
    have e8 := ha 8 ((l : Int) * 30 + t) (by decide) (by decide) (by omega) (by omega)
    have f5 := hb 115 ((l : Int) * 30 + t) (by decide) (by omega) (by omega)
    have f6 := hb 116 ((l : Int) * 30 + t) (by decide) (by omega) (by omega)
    have f7 := hb 117 ((l : Int) * 30 + t) (by decide) (by omega) (by omega)
    unfold rTok
    rw [e6, e7, e8, f5, f6, f7, h3]
    refine ⟨q1, q2, q3, ?_, fun k1 i i0 i1 => ?_⟩
    · rw [ha 5 _ (by decide) (by decide) (by omega) (by omega)]
      exact q4
    · rw [ha 5 _ (by decide) (by decide) (by omega) (by omega)]
      exact q5 k1 i i0 i1
section RSTO
variable {A B : zStore} {N n z : Nat} {V : Nat → Int}
theorem zsto_o {c : Nat} (h : c ≠ 0 ∧ c ≠ 2 ∧ c ≠ 9) : zsto A N z V c = zad2 A N z c := by
  funext j
  unfold zsto zad zad3
  rw [zup_k h.1, zup_k h.1, zup_k h.2.1, zfl_k h.2.2]
theorem zsto_0 {j : Int} (h : j ≠ 1 ∧ j ≠ 7) : zsto A N z V 0 j = A 0 j := by
  unfold zsto zad zad3
  rw [zup_i h.2, zup_i h.1, zup_k (by decide), zfl_k (by decide), zad2_o (by decide)]
theorem zsto_v : zsto A N z V 0 1 = 0 ∧ zsto A N z V 0 7 = 0 ∧ zsto A N z V 2 0 = ((N + 1 : Nat) : Int) := by
  unfold zsto zad
  rw [zup_i (by decide), zup_at, zup_at, zup_k (by decide), zup_k (by decide), zup_at]
  exact ⟨rfl, rfl, by omega⟩
theorem zsto_9 {j : Int} (h : j < (N : Int) * 30) : zsto A N z V 9 j = A 9 j := by
  unfold zsto zad zad3
  rw [zup_k (by decide), zup_k (by decide), zup_k (by decide), zfl_out (Or.inl h), zad2_o (by decide)]
theorem zsto_9n {t : Nat} (h : t < zcnt (zkb (zad1 A N z) N) z) : zsto A N z V 9 ((N : Int) * 30 + t) = V t := by
  unfold zsto zad zad3
  rw [zup_k (by decide), zup_k (by decide), zup_k (by decide), zfl_in h rfl]
theorem zsto_big {c : Nat} (h : 9 < c) : zsto A N z V c = A c := by
  rw [zsto_o (by omega)]
  funext j
  exact zad2_o (by omega)
theorem zad2_5n {i : Nat} (h : i < z) : zad2 A N z 5 ((N : Int) * 30 + i) = A 1 i := by
  unfold zad2
  rw [zup_k (by decide)]
  unfold zct
  rw [zfl_k (by decide), zfl_k (by decide), zfl_k (by decide)]
  unfold zad1
  rw [zup_k (by decide), zfl_in h rfl]
theorem zad2_3 {l : Int} : zad2 A N z 3 l = if l = N then (z : Int) else A 3 l := by
  unfold zad2
  rw [zup_k (by decide), zct_o (by decide) (by decide) (by decide)]
  unfold zad1
  by_cases e : l = N
  · rw [if_pos e, e, zup_at]
  · rw [if_neg e, zup_i e, zfl_k (by decide)]
theorem zkb_1 {i : Nat} (h : i < z) : zkb (zad1 A N z) N i = zkd (A 1 i) := by
  unfold zkb zad1
  rw [zup_k (by decide), zfl_in h rfl]
theorem zmsto_o {c : Nat} (h : c ≠ 110 ∧ (c < 112 ∨ 117 < c)) : zmsto B N z c = B c := by
  funext j
  unfold zmsto zmsU
  rw [zup_k h.1, zup_k h.1, zup_k h.1, zup_k (by omega), zmtk_o (by omega) (by omega) (by omega)]
  unfold zmsX
  rw [zfl_k (by omega), zup_k (by omega), zup_k h.1]
theorem zmsto_0 {j : Int} (h : j ≠ 0 ∧ j ≠ 1 ∧ j ≠ 3 ∧ j ≠ 18) : zmsto B N z 110 j = B 110 j := by
  unfold zmsto zmsU
  rw [zup_i h.2.2.2, zup_i h.2.2.1, zup_i h.2.1, zup_k (by decide), zmtk_o (by decide) (by decide) (by decide)]
  unfold zmsX
  rw [zfl_k (by decide), zup_k (by decide), zup_i h.1]
theorem zmsto_v : zmsto B N z 110 1 = 0 ∧ zmsto B N z 110 3 = ((N + 1 : Nat) : Int) ∧ zmsto B N z 110 18 = 0 := by
  unfold zmsto
  rw [zup_i (by decide), zup_i (by decide), zup_at, zup_i (by decide), zup_at, zup_at]
  exact ⟨rfl, by omega, rfl⟩
theorem zmsto_12 {l : Int} : zmsto B N z 112 l = if l = N then (z : Int) else B 112 l := by
  unfold zmsto zmsU
  rw [zup_k (by decide), zup_k (by decide), zup_k (by decide), zup_k (by decide), zmtk_o (by decide) (by decide) (by decide)]
  unfold zmsX
  rw [zfl_k (by decide)]
  by_cases e : l = N
  · rw [if_pos e, e, zup_at]
  · rw [if_neg e, zup_i e, zup_k (by decide)]
theorem zmsto_14 {l : Int} : zmsto B N z 114 l = if l = N then (zcnt (zmkd B) z : Int) else B 114 l := by
  unfold zmsto zmsU
  rw [zup_k (by decide), zup_k (by decide), zup_k (by decide)]
  by_cases e : l = N
  · rw [if_pos e, e, zup_at]
  · rw [if_neg e, zup_i e, zmtk_o (by decide) (by decide) (by decide)]
    unfold zmsX
    rw [zfl_k (by decide), zup_k (by decide), zup_k (by decide)]
theorem zmsto_13 {i : Nat} (h : i < z) : zmsto B N z 113 (30 * (N : Int) + i) = B 111 i := by
  unfold zmsto zmsU
  rw [zup_k (by decide), zup_k (by decide), zup_k (by decide), zup_k (by decide), zmtk_o (by decide) (by decide) (by decide)]
  unfold zmsX
  rw [zfl_in h rfl]
theorem zmsto_tk {t : Nat} (h : t < zcnt (zmkd B) z) : zmsto B N z 115 (30 * (N : Int) + t) = zkn (zmkd B) z t ∧ zmsto B N z 116 (30 * (N : Int) + t) = zsn (zmkd B) z t ∧ zmsto B N z 117 (30 * (N : Int) + t) = zzn (zmkd B) z t := by
  unfold zmsto zmsU
  rw [zup_k (by decide), zup_k (by decide), zup_k (by decide), zup_k (by decide), zup_k (by decide), zup_k (by decide), zup_k (by decide), zup_k (by decide), zup_k (by decide), zup_k (by decide), zup_k (by decide), zup_k (by decide)]
  unfold zmtk
  exact ⟨zm3_r1 h rfl, zm3_r2 h rfl, zm3_r3 h rfl⟩
theorem zmsto_old {c : Nat} {j : Int} (hc : c = 113 ∨ c = 115 ∨ c = 116 ∨ c = 117) (hj : j < 30 * (N : Int)) : zmsto B N z c j = B c j := by
  have e : zmsto B N z c j = zmtk (zmsX B N z z) (30 * N) (zmkd B) z c j := by
    unfold zmsto zmsU
    rw [zup_k (by omega), zup_k (by omega), zup_k (by omega), zup_k (by omega)]
  have e2 : zmtk (zmsX B N z z) (30 * N) (zmkd B) z c j = zmsX B N z z c j := by
    unfold zmtk
    rcases hc with rfl | rfl | rfl | rfl
    · exact zm3_o (by decide) (by decide) (by decide)
    · exact zm3_q1 (Or.inl hj)
    · exact zm3_q2 (Or.inl hj)
    · exact zm3_q3 (Or.inl hj)
  rw [e, e2]
  unfold zmsX
  by_cases e : c = 113
  · subst e
    rw [zfl_out (Or.inl hj), zup_k (by decide), zup_k (by decide)]
  · rw [zfl_k e, zup_k (by omega), zup_k (by omega)]
theorem r_kd (hB : rBu A B) (hz : A 0 1 = z) : ∀ i : Nat, i < z → zkb (zad1 A N z) N i = zmkd B i := fun i hi => by
  rw [zkb_1 hi]
  unfold zmkd
  rw [(hB.2 i (by omega) (by omega)).2]
/-- the new line -/
theorem r_new (hB : rBu A B) (hN : N < 12) (hz : A 0 1 = z) : rLine (zsto A N z V) (zmsto B N z) N := by
  have z30 := hB.1
  obtain ⟨ec, et⟩ := zcnt_c z (r_kd (N := N) hB hz)
  have cl := zcnt_le (zkb (zad1 A N z) N) z
  have e3 : zsto A N z V 3 N = z := by rw [zsto_o (by decide), zad2_3, if_pos rfl]
  have e4 : zsto A N z V 4 N = zcnt (zkb (zad1 A N z) N) z := by rw [zsto_o (by decide), zad2_4, if_pos rfl]
  have e5 : ∀ i : Nat, i < z → zsto A N z V 5 ((N : Int) * 30 + i) = A 1 i := fun i hi => by rw [zsto_o (by decide), zad2_5n hi]
  have b5 : ∀ i : Int, 0 ≤ i → i < z → zsto A N z V 5 ((N : Int) * 30 + i) = A 1 i ∧ zmsto B N z 113 (30 * (N : Int) + i) = B 111 i := fun i i0 i1 => by
    obtain ⟨k, rfl⟩ : ∃ k : Nat, i = k := ⟨i.toNat, by omega⟩
    exact ⟨e5 k (by omega), zmsto_13 (by omega)⟩
  unfold rLine
  rw [e3, e4, zmsto_12, if_pos rfl, zmsto_14, if_pos rfl, ← ec]
  refine ⟨by omega, by omega, fun i i0 i1 => ?_, fun t ht => ?_⟩
  · obtain ⟨q1, q2⟩ := b5 i i0 i1
    have := hB.2 i i0 (by omega)
    rw [q1, q2]
    exact this
  · have ht : t < zcnt (zkb (zad1 A N z) N) z := by omega
    obtain ⟨s, w, w1, w2, w3, w4, -, w6⟩ := ztok2 _ z t ht
    have m := zmsto_tk (B := B) (N := N) (z := z) (t := t) (by omega)
    have t6 : zsto A N z V 6 ((N : Int) * 30 + t) = zkn (zkb (zad1 A N z) N) z t := by rw [zsto_o (by decide), zad2_6 ht rfl]
    have t7 : zsto A N z V 7 ((N : Int) * 30 + t) = (N : Int) * 30 + zsn (zkb (zad1 A N z) N) z t := by rw [zsto_o (by decide), zad2_7 ht rfl]
    have t8 : zsto A N z V 8 ((N : Int) * 30 + t) = zzn (zkb (zad1 A N z) N) z t := by rw [zsto_o (by decide), zad2_8 ht rfl]
    have hk := zkn_bd (kd := zkb (zad1 A N z) N) (fun i => zkd_bd) z t
    have w0 := w6 0 (by omega)
    rw [Int.mul_comm 30, ← (et t).1, ← (et t).2.1, ← (et t).2.2, w1, w2] at m
    rw [w1] at t7
    rw [w2] at t8
    unfold rTok
    rw [t6, t7, t8, e3, m.1, m.2.1, m.2.2]
    refine ⟨by omega, by omega, by omega, ?_, fun k1 i i0 i1 => ?_⟩
    · rw [e5 s (by omega), ← w0, Nat.add_zero, zkb_1 (by omega)]
    · obtain ⟨k, rfl⟩ : ∃ k : Nat, i = k := ⟨i.toNat, by omega⟩
      have wk := w6 k (by omega)
      rw [k1, zkb_1 (by omega)] at wk
      have := e5 (s + k) (by omega)
      rw [show ((s + k : Nat) : Int) = (s : Int) + k by omega] at this wk
      rw [show (N : Int) * 30 + s + (k : Int) = (N : Int) * 30 + (s + k) by omega, this]
      exact zkd_1 wk
/-- the lines before, behind a store -/
theorem r_old (hL : rLn A B N) (z30 : z ≤ 30) {l : Nat} (hl : l < N) : rLine (zsto A N z V) (zmsto B N z) l := by
  refine rLine_c ?_ ?_ (fun c j c1 c2 j1 j2 => ?_) ?_ ?_ (fun c j hc j1 j2 => zmsto_old hc (by omega)) (hL.2.1 l hl)
  · rw [zsto_o (by decide), zad2_3, if_neg (by omega)]
  · rw [zsto_o (by decide), zad2_4, if_neg (by omega)]
  · rw [zsto_o (by omega), zad2_old z30 (by omega) (by omega)]
  · rw [zmsto_12, if_neg (by omega)]
  · rw [zmsto_14, if_neg (by omega)]
/-- the places behind a store -/
theorem r_pl2 {p : Int} : rPl (zsto A N z V) (N + 1) p ↔ rPl A N p ∨ ∃ t : Nat, t < zcnt (zkb (zad1 A N z) N) z ∧ p = (N : Int) * 30 + t := by
  have e4 : ∀ l : Nat, zsto A N z V 4 l = if (l : Int) = N then (zcnt (zkb (zad1 A N z) N) z : Int) else A 4 l := fun l => by rw [zsto_o (by decide), zad2_4]
  constructor
  · intro ⟨l, t, h1, h2, h3⟩
    rw [e4] at h2
    by_cases e : l = N
    · subst e
      rw [if_pos rfl] at h2
      exact Or.inr ⟨t, by omega, h3⟩
    · rw [if_neg (by omega)] at h2
      exact Or.inl ⟨l, t, by omega, h2, h3⟩
  · intro q
    rcases q with ⟨l, t, h1, h2, h3⟩ | ⟨t, h1, h2⟩
    · refine ⟨l, t, by omega, ?_, h3⟩
      rw [e4, if_neg (by omega)]
      exact h2
    · refine ⟨N, t, by omega, ?_, h2⟩
      rw [e4, if_pos rfl]
      omega
theorem zsm_c {I J : zStore} {a b : Int} (h5 : I 5 = J 5) (h7 : I 7 = J 7) (h8 : I 8 = J 8) : zsm I a b = zsm J a b := by
  unfold zsm
  rw [h5, h7, h8]
theorem rPl_lt (hL : rLn A B N) {p : Int} (h : rPl A N p) : 0 ≤ p ∧ p < (N : Int) * 30 ∧ 0 ≤ A 7 p ∧ A 7 p + A 8 p ≤ (N : Int) * 30 := by
  obtain ⟨l, t, h1, h2, rfl⟩ := h
  obtain ⟨p1, p2, p3, p4⟩ := hL.2.1 l h1
  obtain ⟨q1, q2, q3, -⟩ := p4 t h2
  omega
/-- texts of the lines before are what they were -/
theorem r_smo (hL : rLn A B N) (z30 : z ≤ 30) {p q : Int} (hp : rPl A N p) (hq : rPl A N q) : zsm (zsto A N z V) p q = zsm A p q := by
  have a := rPl_lt hL hp
  have b := rPl_lt hL hq
  have e : ∀ (c : Nat) (j : Int), 5 ≤ c → c ≤ 8 → j < (N : Int) * 30 → zsto A N z V c j = A c j := fun c j c1 c2 hj => by rw [zsto_o (by omega), zad2_old z30 (by omega) (by omega)]
  unfold zsm
  rw [e 8 p (by decide) (by decide) (by omega), e 8 q (by decide) (by decide) (by omega), e 7 p (by decide) (by decide) (by omega), e 7 q (by decide) (by decide) (by omega)]
  by_cases s : A 8 p = A 8 q
  · congr 1
    exact rseq_c _ fun k hk => ⟨e 5 _ (by decide) (by decide) (by omega), e 5 _ (by decide) (by decide) (by omega)⟩
  · rw [beq_false_of_ne s]
    rfl
theorem r_txs (hL : rLn A B N) (z30 : z ≤ 30) (hV : ∀ t : Nat, t < zcnt (zkb (zad1 A N z) N) z → zfst (zad2 A N z) N ((N : Int) * 30 + t) (V t)) : rTx (zsto A N z V) (N + 1) := by
  have e4 : ∀ l : Int, zsto A N z V 4 l = zad2 A N z 4 l := fun l => by rw [zsto_o (by decide)]
  have es : ∀ a b : Int, zsm (zad2 A N z) a b = zsm (zsto A N z V) a b := fun a b => zsm_c (zsto_o (by decide)).symm (zsto_o (by decide)).symm (zsto_o (by decide)).symm
  have c30 := zcnt_le (zkb (zad1 A N z) N) z
  refine rTx_of fun p hp => ?_
  rcases r_pl2.mp hp with o | ⟨t, ht, rfl⟩
  · have lo := rPl_lt hL o
    obtain ⟨t1, t2, t3⟩ := hL.2.2 p o
    have lo9 := rPl_lt hL t1
    rw [zsto_9 lo.2.1]
    refine ⟨r_pl2.mpr (Or.inl t1), by rw [r_smo hL z30 t1 o]; exact t2, fun q hq s => ?_⟩
    rcases r_pl2.mp hq with o2 | ⟨t, ht, rfl⟩
    · rw [r_smo hL z30 o2 o] at s
      exact (t3 q o2).2 s
    · omega
  · rw [zsto_9n ht]
    obtain ⟨l0, t0, h1, h2, h3, h4, h5⟩ := hV t ht
    rw [es] at h4
    refine ⟨⟨l0, t0, by omega, by rw [e4]; exact h2, h3⟩, h4, fun q hq s => ?_⟩
    by_cases lt : q < V t
    · exfalso
      obtain ⟨l, t2, k1, k2, k3⟩ := hq
      rw [e4] at k2
      have t30 : t2 < 30 ∧ t0 < 30 := by
        rw [zad2_4] at h2 k2
        have b0 : ∀ l : Nat, l ≤ N → (if (l : Int) = N then (zcnt (zkb (zad1 A N z) N) z : Int) else A 4 l) ≤ 30 := fun l hl => by
          by_cases e : l = N
          · rw [if_pos (by omega)]; omega
          · rw [if_neg (by omega)]
            exact (hL.2.1 l (by omega)).2.1.2.1
        have b1 := b0 l (by omega)
        have b2 := b0 l0 h1
        omega
      have := h5 l t2 k2 (by omega)
      rw [es, ← k3, s] at this
      exact absurd this (by decide)
    · omega
end RSTO

