/-! bounds of the least cost -/
def zSs (s : Nat → Int) : Nat → Int
  | 0 => 0
  | i + 1 => zSs s i + s i
/-- the longest row of free pairs -/
def zLr (P : Nat → Nat) (e : Nat → Bool) : Nat → Nat
  | 0 => 0
  | t + 1 => max (P (t + 1)) (max (zLr P e t) (if e t then P t + 1 else 0))
def zLc (e : Nat → Nat → Bool) : Nat → Nat → Nat
  | 0 => fun _ => 0
  | i + 1 => zLr (zLc e i) (e i)
section DP
variable {s : Nat → Int} {f : Int} {q : Nat → Nat → Int} {e : Nat → Nat → Bool}
theorem zC_s0 (i : Nat) : zC s f q (i + 1) 0 = zC s f q i 0 + s i := rfl
theorem zC_s1 (i t : Nat) : zC s f q (i + 1) (t + 1) = if q i t = -1 then min (zC s f q i (t + 1) + s i) (zC s f q (i + 1) t + f) else min (min (zC s f q i (t + 1) + s i) (zC s f q (i + 1) t + f)) (zC s f q i t + q i t) := rfl
theorem mulN {f : Int} (hf : 0 ≤ f) (n : Nat) : 0 ≤ (f + 1) * (n : Int) := Int.mul_nonneg (by omega) (by omega)
theorem zC_up (hf : 0 ≤ f) (he : ∀ i t, e i t = true → q i t = 0 ∧ s i = 1) : ∀ i t : Nat, zC s f q i t + (f + 1) * (zLc e i t : Int) ≤ zSs s i + (t : Int) * f
  | 0, t => by
    show (t : Int) * f + (f + 1) * ((0 : Nat) : Int) ≤ 0 + (t : Int) * f
    simp
  | i + 1, 0 => by
    have ih := zC_up hf he i 0
    have h1 := mulN hf (zLc e i 0)
    rw [zC_s0]
    show zC s f q i 0 + s i + (f + 1) * ((0 : Nat) : Int) ≤ zSs s i + s i + ((0 : Nat) : Int) * f
    simp at ih ⊢
    omega
  | i + 1, t + 1 => by
    have i1 := zC_up hf he i (t + 1)
    have i2 := zC_up hf he (i + 1) t
    have i3 := zC_up hf he i t
    have hc := zC_s1 (s := s) (f := f) (q := q) i t
    have eS : zSs s (i + 1) = zSs s i + s i := rfl
    have eT : ((t + 1 : Nat) : Int) * f = (t : Int) * f + f := by push_cast; rw [Int.add_mul, Int.one_mul]
    rw [eS] at i2 ⊢
    rw [eT] at i1 ⊢
    have b1 : zC s f q (i + 1) (t + 1) ≤ zC s f q i (t + 1) + s i := by rw [hc]; split <;> omega
    have b2 : zC s f q (i + 1) (t + 1) ≤ zC s f q (i + 1) t + f := by rw [hc]; split <;> omega
    have eL : zLc e (i + 1) (t + 1) = max (zLc e i (t + 1)) (max (zLc e (i + 1) t) (if e i t then zLc e i t + 1 else 0)) := rfl
    have hor : zLc e (i + 1) (t + 1) = zLc e i (t + 1) ∨ zLc e (i + 1) (t + 1) = zLc e (i + 1) t ∨ zLc e (i + 1) (t + 1) = (if e i t then zLc e i t + 1 else 0) := by
      rw [eL]
      omega
    rcases hor with h | h | h
    · rw [h]
      omega
    · rw [h]
      omega
    · rw [h]
      by_cases c : e i t = true
      · rw [if_pos c]
        obtain ⟨c1, c2⟩ := he i t c
        have b3 : zC s f q (i + 1) (t + 1) ≤ zC s f q i t := by
          rw [hc, if_neg (by omega)]
          omega
        have e5 : (f + 1) * ((zLc e i t + 1 : Nat) : Int) = (f + 1) * (zLc e i t : Int) + (f + 1) := by push_cast; rw [Int.mul_add, Int.mul_one]
        rw [e5]
        omega
      · rw [if_neg c]
        have h1 := mulN hf (zLc e i (t + 1))
        have h0 : (f + 1) * ((0 : Nat) : Int) = 0 := by simp
        rw [h0]
        omega
/-- a common row of texts is a row of free pairs -/
theorem zLc_sub {X : Nat → Option (List Nat)} {Y : Nat → List Nat} : ∀ (i t : Nat), (∀ a b, a < i → b < t → X a = some (Y b) → e a b = true) → ∀ W : List (List Nat), List.Sublist W ((List.range i).filterMap X) → List.Sublist W ((List.range t).map Y) → W.length ≤ zLc e i t
  | 0, t, _, W, h1, _ => by
    have := h1.length_le
    exact this
  | i + 1, 0, _, W, _, h2 => by
    have := h2.length_le
    exact this
  | i + 1, t + 1, he, W, h1, h2 => by
    have i1 := zLc_sub i (t + 1) (fun a b ha hb => he a b (by omega) hb) W
    have i2 := zLc_sub (i + 1) t (fun a b ha hb => he a b ha (by omega)) W
    have eL : zLc e (i + 1) (t + 1) = max (zLc e i (t + 1)) (max (zLc e (i + 1) t) (if e i t then zLc e i t + 1 else 0)) := rfl
    have r1 : (List.range (i + 1)).filterMap X = (List.range i).filterMap X ++ (X i).toList := by
      rw [List.range_succ, List.filterMap_append]
      cases hx : X i <;> simp [hx]
    have r2 : (List.range (t + 1)).map Y = (List.range t).map Y ++ [Y t] := by
      rw [List.range_succ, List.map_append]
      rfl
    have h2' := h2
    have h1' := h1
    rw [r1, List.sublist_append_iff] at h1
    rw [r2, List.sublist_append_iff] at h2
    obtain ⟨a1, a2, ae, as1, as2⟩ := h1
    obtain ⟨b1, b2, be, bs1, bs2⟩ := h2
    by_cases ca : a2 = []
    · subst ca
      rw [List.append_nil] at ae
      subst ae
      have := i1 as1 h2'
      rw [eL]
      omega
    by_cases cb : b2 = []
    · subst cb
      rw [List.append_nil] at be
      subst be
      have := i2 h1' bs1
      rw [eL]
      omega
    obtain ⟨x, hx⟩ : ∃ x, X i = some x := by
      cases hx : X i with
      | none =>
        rw [hx] at as2
        exact absurd (List.sublist_nil.mp as2) ca
      | some x => exact ⟨x, rfl⟩
    rw [hx] at as2
    have a2e : a2 = [x] := by
      have h9 : List.Sublist a2 [x] := as2
      have h8 := h9.length_le
      have h7 : a2.length ≠ 0 := fun z => ca (List.eq_nil_of_length_eq_zero z)
      exact h9.eq_of_length (by show a2.length = 1; simp at h8; omega)
    have b2e : b2 = [Y t] := by
      have h8 := bs2.length_le
      have h7 : b2.length ≠ 0 := fun z => cb (List.eq_nil_of_length_eq_zero z)
      exact bs2.eq_of_length (by show b2.length = 1; simp at h8; omega)
    subst a2e
    subst b2e
    have hab : a1 ++ [x] = b1 ++ [Y t] := ae.symm.trans be
    obtain ⟨hab1, hab2⟩ := List.append_inj' hab rfl
    have hxy : x = Y t := List.cons.inj hab2 |>.1
    subst hab1
    have ht := he i t (by omega) (by omega) (by rw [hx, hxy])
    have i3 := zLc_sub i t (fun a b ha hb => he a b (by omega) (by omega)) a1 as1 bs1
    rw [eL, if_pos ht, ae, List.length_append]
    show a1.length + 1 ≤ _
    omega
/-- what a step costs -/
theorem zstep_cost {i t : Nat} (h0 : 0 < i + t) : (zstep s f q i t = 2 → zC s f q i t = zC s f q i (t - 1) + f) ∧ (zstep s f q i t = 1 → zC s f q i t = zC s f q (i - 1) t + s (i - 1)) ∧ (zstep s f q i t = 0 → q (i - 1) (t - 1) ≠ -1 ∧ zC s f q i t = zC s f q (i - 1) (t - 1) + q (i - 1) (t - 1)) := by
  match i, t with
  | 0, 0 => omega
  | 0, t + 1 =>
    have e : zstep s f q 0 (t + 1) = 2 := rfl
    rw [e]
    refine ⟨fun _ => ?_, fun h => absurd h (by decide), fun h => absurd h (by decide)⟩
    show ((t + 1 : Nat) : Int) * f = (t : Int) * f + f
    push_cast
    rw [Int.add_mul, Int.one_mul]
  | i + 1, 0 =>
    have e : zstep s f q (i + 1) 0 = 1 := rfl
    rw [e]
    exact ⟨fun h => absurd h (by decide), fun _ => rfl, fun h => absurd h (by decide)⟩
  | i + 1, t + 1 =>
    have e : zstep s f q (i + 1) (t + 1) = if q i t ≠ -1 ∧ zC s f q (i + 1) (t + 1) = zC s f q i t + q i t then 0 else if zC s f q (i + 1) (t + 1) = zC s f q i (t + 1) + s i then 1 else 2 := rfl
    have hc := zC_s1 (s := s) (f := f) (q := q) i t
    show (zstep s f q (i + 1) (t + 1) = 2 → zC s f q (i + 1) (t + 1) = zC s f q (i + 1) t + f) ∧ (zstep s f q (i + 1) (t + 1) = 1 → zC s f q (i + 1) (t + 1) = zC s f q i (t + 1) + s i) ∧ (zstep s f q (i + 1) (t + 1) = 0 → q i t ≠ -1 ∧ zC s f q (i + 1) (t + 1) = zC s f q i t + q i t)
    rw [e]
    by_cases c0 : q i t ≠ -1 ∧ zC s f q (i + 1) (t + 1) = zC s f q i t + q i t
    · rw [if_pos c0]
      exact ⟨fun h => absurd h (by decide), fun h => absurd h (by decide), fun _ => c0⟩
    · rw [if_neg c0]
      by_cases c1 : zC s f q (i + 1) (t + 1) = zC s f q i (t + 1) + s i
      · rw [if_pos c1]
        exact ⟨fun h => absurd h (by decide), fun _ => c1, fun h => absurd h (by decide)⟩
      · rw [if_neg c1]
        refine ⟨fun _ => ?_, fun h => absurd h (by decide), fun h => absurd h (by decide)⟩
        by_cases hq : q i t = -1
        · rw [if_pos hq] at hc
          omega
        · rw [if_neg hq] at hc
          have : ¬ zC s f q (i + 1) (t + 1) = zC s f q i t + q i t := fun z => c0 ⟨hq, z⟩
          omega
end DP
/-- pairs, and pairs with slots of which no says yes, of the first k steps -/
def zp0 (w : Nat → Int) : Nat → Nat
  | 0 => 0
  | k + 1 => zp0 w k + if w k = 0 then 1 else 0
def zpN (w : Nat → Int) (P : Nat → Nat × Nat) (no : Nat → Bool) : Nat → Nat
  | 0 => 0
  | k + 1 => zpN w P no k + if w k = 0 ∧ no (P (k + 1)).1 = true then 1 else 0
section WL
variable {w : Nat → Int} {P : Nat → Nat × Nat} {K n m : Nat} {no : Nat → Bool} {s : Nat → Int} {f : Int} {q : Nat → Nat → Int}
theorem zp0_m (h : zWy w P K n m) : ∀ k, k ≤ K → ((P k).2 : Int) + zfc w k + zp0 w k = m
  | 0, _ => by
    rw [h.2.1]
    simp [zfc, zp0]
  | k + 1, hk => by
    have ih := zp0_m h k (by omega)
    have h1 := (h.2.2.2 k (by omega)).2
    have h2 := h.1 k (by omega)
    simp only [zfc, zp0]
    push_cast
    rcases h2 with h2 | h2 | h2
    · rw [if_neg (by omega), if_pos h2]
      rw [if_neg (by omega)] at h1
      omega
    · rw [if_neg (by omega), if_neg (by omega)]
      rw [if_pos h2] at h1
      omega
    · rw [if_pos h2, if_neg (by omega)]
      rw [if_neg (by omega)] at h1
      omega
theorem zp0_mono (w : Nat → Int) (k : Nat) : ∀ d, zp0 w k ≤ zp0 w (k + d)
  | 0 => Nat.le_refl _
  | d + 1 => by
    have := zp0_mono w k d
    show zp0 w k ≤ zp0 w (k + d) + _
    omega
theorem zpN_le : ∀ k, zpN w P no k ≤ zp0 w k
  | 0 => Nat.le_refl _
  | k + 1 => by
    have := zpN_le k
    simp only [zpN, zp0]
    by_cases c : w k = 0
    · rw [if_pos c]
      split <;> omega
    · rw [if_neg c, if_neg (fun z => c z.1)]
      omega
theorem zpN_no {NA : Nat → Nat} (h : zWy w P K n m) (hNA : ∀ i, i < n → NA i + (if no i then 1 else 0) ≤ NA (i + 1)) : ∀ d k, k + d = K → zpN w P no K ≤ zpN w P no k + NA (P k).1
  | 0, k, hk => by
    have : k = K := by omega
    subst this
    omega
  | d + 1, k, hk => by
    have ih := zpN_no h hNA d (k + 1) (by omega)
    have h1 := (h.2.2.2 k (by omega)).1
    have h2 := h.1 k (by omega)
    have h3 := zWy_le h (k := k) (by omega)
    simp only [zpN] at ih
    by_cases c2 : w k = 2
    · rw [if_pos c2] at h1
      rw [if_neg (by omega)] at ih
      rw [h1]
      exact ih
    · rw [if_neg c2] at h1
      have h4 := hNA (P (k + 1)).1 (by omega)
      rw [h1]
      by_cases c0 : w k = 0 ∧ no (P (k + 1)).1 = true
      · rw [if_pos c0] at ih
        rw [if_pos c0.2] at h4
        omega
      · rw [if_neg c0] at ih
        have : NA (P (k + 1)).1 ≤ NA ((P (k + 1)).1 + 1) := by
          split at h4 <;> omega
        omega
end WL
/-- the way's cost, from below -/
theorem zC_low {I : zStore} {l : Int} {n m : Nat} {no : Nat → Bool} (hs : ∀ i, i < n → zs_ I 15 i ≤ 1 + (if no i then 6 else 0)) (hq : ∀ i t, -1 ≤ zq_ I 15 l i t) (hf : 0 ≤ I 10 3) : ∀ d k, k + d = zK I 15 l n m → zSs (zs_ I 15) (zP_ I 15 l n m k).1 + ((zP_ I 15 l n m k).2 : Int) * I 10 3 + (I 10 3 + 1) * (zp0 (zw_ I 15 l n m) k : Int) + 6 * (zpN (zw_ I 15 l n m) (zP_ I 15 l n m) no k : Int) ≤ zCC I 15 l (zP_ I 15 l n m k).1 (zP_ I 15 l n m k).2 + (I 10 3 + 1) * (zp0 (zw_ I 15 l n m) (zK I 15 l n m) : Int) + 6 * (zpN (zw_ I 15 l n m) (zP_ I 15 l n m) no (zK I 15 l n m) : Int)
  | 0, k, hk => by
    have hW := r_Wy (I := I) (b := 15) (l9 := l) (n := n) (m := m)
    have hkK : k = zK I 15 l n m := by omega
    rw [hkK, hW.2.2.1]
    show (0 : Int) + ((0 : Nat) : Int) * I 10 3 + _ + _ ≤ ((0 : Nat) : Int) * I 10 3 + _ + _
    omega
  | d + 1, k, hk => by
    have hW := r_Wy (I := I) (b := 15) (l9 := l) (n := n) (m := m)
    have ih := zC_low (l := l) (m := m) (no := no) hs hq hf d (k + 1) (by omega)
    have h1 := hW.2.2.2 k (by omega)
    have h2 := hW.1 k (by omega)
    have h3 := zWy_le hW (k := k) (by omega)
    have hp := zlen_pos (s := zs_ I 15) (f := I 10 3) (q := zq_ I 15 l) (n := n) (m := m) (k := k) (by show k < zK I 15 l n m; omega)
    have hst := zstep_cost (s := zs_ I 15) (f := I 10 3) (q := zq_ I 15 l) (i := (zP_ I 15 l n m k).1) (t := (zP_ I 15 l n m k).2) hp
    have hw : zw_ I 15 l n m k = zstep (zs_ I 15) (I 10 3) (zq_ I 15 l) (zP_ I 15 l n m k).1 (zP_ I 15 l n m k).2 := rfl
    rw [← hw] at hst
    have p0 : zp0 (zw_ I 15 l n m) (k + 1) = zp0 (zw_ I 15 l n m) k + if zw_ I 15 l n m k = 0 then 1 else 0 := rfl
    have pN : zpN (zw_ I 15 l n m) (zP_ I 15 l n m) no (k + 1) = zpN (zw_ I 15 l n m) (zP_ I 15 l n m) no k + if zw_ I 15 l n m k = 0 ∧ no (zP_ I 15 l n m (k + 1)).1 = true then 1 else 0 := rfl
    rw [p0, pN] at ih
    obtain ⟨i1, hi1⟩ : ∃ i1, i1 = (zP_ I 15 l n m (k + 1)).1 := ⟨_, rfl⟩
    obtain ⟨t1, ht1⟩ : ∃ t1, t1 = (zP_ I 15 l n m (k + 1)).2 := ⟨_, rfl⟩
    rw [← hi1, ← ht1] at ih h1
    have hCC : ∀ a b, zCC I 15 l a b = zC (zs_ I 15) (I 10 3) (zq_ I 15 l) a b := fun a b => rfl
    have eT : ((t1 + 1 : Nat) : Int) * I 10 3 = (t1 : Int) * I 10 3 + I 10 3 := by push_cast; rw [Int.add_mul, Int.one_mul]
    have eS : zSs (zs_ I 15) (i1 + 1) = zSs (zs_ I 15) i1 + zs_ I 15 i1 := rfl
    rcases h2 with h2 | h2 | h2
    · rw [if_neg (by omega)] at h1
      rw [if_neg (by omega)] at h1
      rw [if_pos h2] at ih
      obtain ⟨c1, c2⟩ := hst.2.2 h2
      rw [h1.1, h1.2, Nat.add_sub_cancel, Nat.add_sub_cancel] at c1 c2
      have hq1 := hq i1 t1
      rw [h1.1, h1.2, eS, eT, hCC, c2]
      rw [hCC] at ih
      have hs1 := hs i1 (by omega)
      have e1 : (I 10 3 + 1) * ((zp0 (zw_ I 15 l n m) k + 1 : Nat) : Int) = (I 10 3 + 1) * (zp0 (zw_ I 15 l n m) k : Int) + (I 10 3 + 1) := by push_cast; rw [Int.mul_add, Int.mul_one]
      rw [e1] at ih
      by_cases cn : no i1 = true
      · rw [if_pos cn] at hs1
        rw [if_pos ⟨h2, cn⟩] at ih
        push_cast at ih
        omega
      · rw [if_neg cn] at hs1
        rw [if_neg (fun z => cn z.2)] at ih
        omega
    · rw [if_neg (by omega)] at h1
      rw [if_pos h2] at h1
      rw [if_neg (by omega), if_neg (by omega)] at ih
      have c2 := hst.2.1 h2
      have h12 : (zP_ I 15 l n m k).2 = t1 := h1.2
      simp only [Nat.add_zero] at ih
      rw [h1.1, h12, Nat.add_sub_cancel] at c2
      rw [h1.1, h12, eS, hCC, c2]
      rw [hCC] at ih
      omega
    · rw [if_pos h2] at h1
      rw [if_neg (by omega)] at h1
      rw [if_neg (by omega), if_neg (by omega)] at ih
      have c2 := hst.1 h2
      have h11 : (zP_ I 15 l n m k).1 = i1 := h1.1
      simp only [Nat.add_zero] at ih
      rw [h11, h1.2, Nat.add_sub_cancel] at c2
      rw [h11, h1.2, eT, hCC, c2]
      rw [hCC] at ih
      omega
