/-! what the law asks of a line's tokens and slots -/
def ucnt (B : zStore) (l : Nat) : Nat → Nat
  | 0 => 0
  | s + 1 => ucnt B l s + if zU B s l = (-1) then 0 else 1
section CN
variable {I B : zStore} {N n l : Nat}
theorem zU_no (hR : rR I B N n) (hl : l < N) (h0 : zbit (B 119 0) l = 0) {s : Nat} (hs : s < n) : zU B s l = (-1) := by
  have hN := hR.1.1.2.2
  refine Decidable.byContradiction fun h => ?_
  have := ((r_sl hR hs).2.2.2.2 l (by omega) h).1
  omega
theorem ucnt_0 (h : ∀ s, s < n → zU B s l = (-1)) : ∀ s, s ≤ n → ucnt B l s = 0
  | 0, _ => rfl
  | s + 1, hs => by
    have := ucnt_0 h s (by omega)
    simp only [ucnt]
    rw [if_pos (h s (by omega)), this]
/-- the used tokens before a slot are those below the count -/
theorem ucnt_is (hR : rR I B N n) (hM : rMs I B N n) (hl : l < N) (h1 : zbit (B 119 0) l = 1) : ∀ s, s ≤ n → (∀ t : Nat, t < ucnt B l s → ∃ i : Nat, i < s ∧ zU B i l = t) ∧ (∀ i : Nat, i < s → zU B i l ≠ (-1) → zU B i l < ucnt B l s)
  | 0, _ => ⟨fun t ht => absurd ht (Nat.not_lt_zero t), fun i hi => absurd hi (Nat.not_lt_zero i)⟩
  | s + 1, hs => by
    have hN := hR.1.1.2.2
    obtain ⟨ih1, ih2⟩ := ucnt_is hR hM hl h1 s (by omega)
    simp only [ucnt]
    by_cases q : zU B s l = (-1)
    · rw [if_pos q]
      refine ⟨fun t ht => ?_, fun i hi hx => ?_⟩
      · obtain ⟨i, i1, i2⟩ := ih1 t ht
        exact ⟨i, by omega, i2⟩
      · by_cases e : i = s
        · subst e
          exact absurd q hx
        · exact ih2 i (by omega) hx
    · rw [if_neg q]
      obtain ⟨t0, e0, e1, -, -, -⟩ := r_use hR hl (show s < n by omega) q
      have e0 : zU B s l = t0 := e0
      have key : t0 = ucnt B l s := by
        have h2 : ¬ t0 < ucnt B l s := fun h => by
          obtain ⟨i, i1, i2⟩ := ih1 t0 h
          have := hM.2 i s i1 (by omega) l hl (by omega) q
          omega
        have h3 : ¬ ucnt B l s < t0 := fun h => by
          obtain ⟨i, i1, i2, -⟩ := hR.2.2.2.2.1.2.1 l (by omega) h1 (ucnt B l s) (by omega)
          have i2 : zU B i l = ucnt B l s := i2
          by_cases c1 : i < s
          · have := ih2 i c1 (by omega)
            omega
          · by_cases c2 : i = s
            · subst c2
              omega
            · have := hM.2 s i (by omega) i1 l hl q (by omega)
              omega
        omega
      refine ⟨fun t ht => ?_, fun i hi hx => ?_⟩
      · by_cases c : t < ucnt B l s
        · obtain ⟨i, i1, i2⟩ := ih1 t c
          exact ⟨i, by omega, i2⟩
        · exact ⟨s, by omega, by rw [e0]; omega⟩
      · by_cases e : i = s
        · subst e
          omega
        · have := ih2 i (by omega) hx
          omega
theorem ucnt_at (hR : rR I B N n) (hM : rMs I B N n) (hl : l < N) (h1 : zbit (B 119 0) l = 1) {s : Nat} (hs : s < n) (hu : zU B s l ≠ (-1)) : zU B s l = ucnt B l s := by
  obtain ⟨t0, e0, -⟩ := r_use hR hl hs hu
  have e0 : zU B s l = t0 := e0
  obtain ⟨-, h3⟩ := ucnt_is hR hM hl h1 (s + 1) (by omega)
  obtain ⟨h4, -⟩ := ucnt_is hR hM hl h1 s (by omega)
  have h5 := h3 s (by omega) hu
  simp only [ucnt] at h5
  rw [if_neg hu] at h5
  by_cases c : t0 < ucnt B l s
  · obtain ⟨i, i1, i2⟩ := h4 t0 c
    have := hM.2 i s i1 hs l hl (by omega) hu
    omega
  · omega
theorem ucnt_n (hR : rR I B N n) (hM : rMs I B N n) (hl : l < N) (h1 : zbit (B 119 0) l = 1) : (ucnt B l n : Int) = B 114 l := by
  have hN := hR.1.1.2.2
  have ht := (hR.1.2.1 l hl).2.1
  obtain ⟨h2, h3⟩ := ucnt_is hR hM hl h1 n (Nat.le_refl n)
  rw [ht.2.2]
  have a1 : (ucnt B l n : Int) ≤ I 4 l := by
    by_cases c : ucnt B l n = 0
    · omega
    · obtain ⟨i, i1, i2⟩ := h2 (ucnt B l n - 1) (by omega)
      have hu : zU B i l ≠ (-1) := by omega
      obtain ⟨t0, e0, e1, -⟩ := r_use hR hl i1 hu
      have e0 : zU B i l = t0 := e0
      omega
  have a2 : ¬ (ucnt B l n : Int) < I 4 l := fun c => by
    obtain ⟨i, i1, i2, -⟩ := hR.2.2.2.2.1.2.1 l (by omega) h1 (ucnt B l n) c
    have i2 : zU B i l = ucnt B l n := i2
    have := h3 i i1 (by omega)
    omega
  omega
theorem u_kind (hR : rR I B N n) (hl : l < N) {s : Nat} (hs : s < n) {t : Nat} (ht : zU B s l = t) : (t : Int) < B 114 l ∧ B 115 (30 * l + t) = B 120 (40 * 0 + s) := by
  obtain ⟨t0, e0, e1, e2, e3, e4⟩ := r_use hR hl hs (by show zU B s l ≠ -1; omega)
  have e0 : zU B s l = t0 := e0
  have hte : t0 = t := by omega
  subst hte
  have h4 := (hR.1.2.1 l hl).2.1.2.2
  refine ⟨by omega, ?_⟩
  rw [← (e_kind hR (line := l) (token := t0) (by omega) (by have := hR.1.1.1; omega) (by omega) e1).1, e4, (r_sl hR hs).2.1.2.2]
/-- a sum of bits -/
def zsum (v : Int) : Nat → Int
  | 0 => 0
  | l + 1 => zsum v l + zbit v l
theorem zbit_s (v : Int) (l : Nat) : zbit v (l + 1) = zbit (v / 2) l := by
  unfold zbit
  rw [show ((2 ^ (l + 1) : Nat) : Int) = 2 * ((2 ^ l : Nat) : Int) by rw [Nat.pow_succ]; push_cast; omega, Int.ediv_ediv_of_nonneg (by decide)]
theorem zsum_s (v : Int) : ∀ n : Nat, zsum v (n + 1) = v % 2 + zsum (v / 2) n
  | 0 => by
    simp only [zsum, zbit]
    simp
  | n + 1 => by
    have ih := zsum_s v n
    have e1 : zsum v (n + 1 + 1) = zsum v (n + 1) + zbit v (n + 1) := rfl
    have e2 : zsum (v / 2) (n + 1) = zsum (v / 2) n + zbit (v / 2) n := rfl
    rw [e1, e2, ih, zbit_s]
    omega
theorem zbcN_sum : ∀ (n : Nat) (v : Int), zbcN n v = zsum v n
  | 0, _ => rfl
  | n + 1, v => by
    rw [zsum_s, ← zbcN_sum n (v / 2)]
    rfl
theorem zsum_mono (v : Int) (a : Nat) : ∀ d : Nat, zsum v a ≤ zsum v (a + d)
  | 0 => Int.le_refl _
  | d + 1 => by
    have := zsum_mono v a d
    have h := zbit_01 v (a + d)
    have e : zsum v (a + (d + 1)) = zsum v (a + d) + zbit v (a + d) := rfl
    omega
theorem zmu_lt {u : Int → Int} {s : Int} {v : Int} (h : ∀ l : Nat, l < N → u (12 * (40 * 0 + s) + l) ≠ (-1) → zbit v l = 1) (hl : zbit v l = 1) (hu : u (12 * (40 * 0 + s) + l) = (-1)) : ∀ k : Nat, k ≤ N → zmu u 0 s k + (if l < k then 1 else 0) ≤ zsum v k
  | 0, _ => by simp [zmu, zsum]
  | k + 1, hk => by
    have ih := zmu_lt h hl hu k (by omega)
    have hb := zbit_01 v k
    have e1 : zmu u 0 s (k + 1) = zmu u 0 s k + if u (12 * (40 * 0 + s) + k) = (-1) then 0 else 1 := rfl
    have e2 : zsum v (k + 1) = zsum v k + zbit v k := rfl
    rw [e1, e2]
    by_cases c : l = k
    · subst c
      rw [if_neg (Nat.lt_irrefl l)] at ih
      rw [if_pos hu, if_pos (by omega), hl]
      omega
    · have e3 : (if l < k + 1 then (1 : Int) else 0) = if l < k then 1 else 0 := by
        by_cases d : l < k
        · rw [if_pos d, if_pos (by omega)]
        · rw [if_neg d, if_neg (by omega)]
      rw [e3]
      by_cases q : u (12 * (40 * 0 + s) + k) = (-1)
      · rw [if_pos q]
        omega
      · rw [if_neg q, h k (by omega) q]
        omega
theorem u_opt (hR : rR I B N n) (hl : l < N) (h1 : zbit (B 119 0) l = 1) {s : Nat} (hs : s < n) (hu : zU B s l = (-1)) : zmu (B 122) 0 s N < zbc (B 119 0) := by
  have hN := hR.1.1.2.2
  have h := zmu_lt (N := N) (l := l) (u := B 122) (s := s) (v := B 119 0) (fun k hk hx => ((r_sl hR hs).2.2.2.2 k (by omega) hx).1) h1 hu N (Nat.le_refl N)
  rw [if_pos hl] at h
  have h2 := zsum_mono (B 119 0) N (12 - N)
  rw [show N + (12 - N) = 12 by omega] at h2
  have h3 : zbc (B 119 0) = zsum (B 119 0) 12 := zbcN_sum 12 _
  omega
theorem zsum_all {v : Int} (h : ∀ l : Nat, l < N → zbit v l = 1) : ∀ k : Nat, k ≤ N → zsum v k = k
  | 0, _ => rfl
  | k + 1, hk => by
    have ih := zsum_all h k (by omega)
    have e : zsum v (k + 1) = zsum v k + zbit v k := rfl
    rw [e, ih, h k (by omega)]
    omega
theorem zsum_none {v : Int} {a : Nat} : ∀ d : Nat, (∀ l : Nat, a ≤ l → l < a + d → zbit v l = 0) → zsum v (a + d) = zsum v a
  | 0, _ => rfl
  | d + 1, h => by
    have ih := zsum_none d (fun l h1 h2 => h l h1 (by omega))
    have e : zsum v (a + (d + 1)) = zsum v (a + d) + zbit v (a + d) := rfl
    rw [e, ih, h (a + d) (by omega) (by omega)]
    omega
/-- all lines are merged: as many bits as lines -/
theorem all_merged (hR : rR I B N n) (h : ∀ l : Nat, l < N → zbit (B 119 0) l = 1) : zbc (B 119 0) = N := by
  have hN := hR.1.1.2.2
  have h3 : zbc (B 119 0) = zsum (B 119 0) 12 := zbcN_sum 12 _
  have h4 := zsum_none (v := B 119 0) (a := N) (12 - N) (fun l h1 h2 => by
    have := zbit_01 (B 119 0) l
    by_cases c : zbit (B 119 0) l = 1
    · have := hR.2.2.2.1.2.1.2.2.2 l (by omega) c
      omega
    · omega)
  rw [show N + (12 - N) = 12 by omega] at h4
  rw [h3, h4, zsum_all h N (Nat.le_refl N)]
end CN
