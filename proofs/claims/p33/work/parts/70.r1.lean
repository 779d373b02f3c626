section ZJN
variable {J : zStore} {b : Nat} {line w slots tokens to x : Int}
theorem zjn_2 (hb : 15 ≤ b) : zjn J b line w slots tokens to (b + 2) x = if w = 2 ∧ x = J b 0 then J 6 (line * 30 + (tokens - 1)) else J (b + 2) x := by
  unfold zjn zja zju
  by_cases h2 : w = 2
  · rw [if_pos h2, zup_k (by omega), zup_k (by omega), zup_k (by omega), zup_k (by omega), zup_k (by omega), zup_k (by omega)]
    by_cases hi : x = J b 0
    · have c1 : w = 2 ∧ x = J b 0 := ⟨h2, hi⟩
      rw [if_pos c1, hi, zup_at]
    · have c1 : ¬ (w = 2 ∧ x = J b 0) := fun q => hi q.2
      rw [if_neg c1, zup_i hi, zup_k (by omega)]
  · have c1 : ¬ (w = 2 ∧ x = J b 0) := fun q => h2 q.1
    rw [if_neg h2, if_neg c1]
    by_cases h0 : w = 0
    · rw [if_pos h0, zup_k (by omega), zup_k (by omega), zup_k (by omega), zup_k (by omega), zup_k (by omega), zup_k (by omega)]
    · rw [if_neg h0, zup_k (by omega)]
theorem zjn_3 (hb : 15 ≤ b) : zjn J b line w slots tokens to (b + 3) x = if w = 2 then (if x = J b 0 then J 9 (line * 30 + (tokens - 1)) else J (b + 3) x) else if w = 0 ∧ x = J (b + 1) (slots + (-1)) then (if J (b + 3) x = J 9 (line * 30 + (tokens - 1)) then J (b + 3) x else (-1)) else J (b + 3) x := by
  unfold zjn zja zju
  by_cases h2 : w = 2
  · rw [if_pos h2, if_pos h2, zup_k (by omega), zup_k (by omega), zup_k (by omega), zup_k (by omega), zup_k (by omega)]
    by_cases hi : x = J b 0
    · rw [if_pos hi, hi, zup_at]
    · rw [if_neg hi, zup_i hi, zup_k (by omega), zup_k (by omega)]
  · rw [if_neg h2, if_neg h2]
    by_cases h0 : w = 0
    · rw [if_pos h0, zup_k (by omega), zup_k (by omega), zup_k (by omega), zup_k (by omega), zup_k (by omega)]
      by_cases hi : x = J (b + 1) (slots + (-1))
      · have c1 : w = 0 ∧ x = J (b + 1) (slots + (-1)) := ⟨h0, hi⟩
        rw [if_pos c1, hi, zup_at]
      · have c1 : ¬ (w = 0 ∧ x = J (b + 1) (slots + (-1))) := fun q => hi q.2
        rw [if_neg c1, zup_i hi]
    · have c1 : ¬ (w = 0 ∧ x = J (b + 1) (slots + (-1))) := fun q => h0 q.1
      rw [if_neg h0, if_neg c1, zup_k (by omega)]
theorem zjn_4 (hb : 15 ≤ b) : zjn J b line w slots tokens to (b + 4) x = if w = 2 then (if x = J b 0 then J 8 (line * 30 + (tokens - 1)) else J (b + 4) x) else if w = 0 ∧ x = J (b + 1) (slots + (-1)) then min (J (b + 4) x) (J 8 (line * 30 + (tokens - 1))) else J (b + 4) x := by
  unfold zjn zja zju
  by_cases h2 : w = 2
  · rw [if_pos h2, if_pos h2, zup_k (by omega), zup_k (by omega), zup_k (by omega), zup_k (by omega)]
    by_cases hi : x = J b 0
    · rw [if_pos hi, hi, zup_at]
    · rw [if_neg hi, zup_i hi, zup_k (by omega), zup_k (by omega), zup_k (by omega)]
  · rw [if_neg h2, if_neg h2]
    by_cases h0 : w = 0
    · rw [if_pos h0, zup_k (by omega), zup_k (by omega), zup_k (by omega), zup_k (by omega)]
      by_cases hi : x = J (b + 1) (slots + (-1))
      · have c1 : w = 0 ∧ x = J (b + 1) (slots + (-1)) := ⟨h0, hi⟩
        rw [if_pos c1, hi, zup_at]
      · have c1 : ¬ (w = 0 ∧ x = J (b + 1) (slots + (-1))) := fun q => hi q.2
        rw [if_neg c1, zup_i hi, zup_k (by omega)]
    · have c1 : ¬ (w = 0 ∧ x = J (b + 1) (slots + (-1))) := fun q => h0 q.1
      rw [if_neg h0, if_neg c1, zup_k (by omega)]
theorem zjn_5 (hb : 15 ≤ b) : zjn J b line w slots tokens to (b + 5) x = if w = 2 then (if x = J b 0 then J 8 (line * 30 + (tokens - 1)) else J (b + 5) x) else if w = 0 ∧ x = J (b + 1) (slots + (-1)) then max (J (b + 5) x) (J 8 (line * 30 + (tokens - 1))) else J (b + 5) x := by
  unfold zjn zja zju
  by_cases h2 : w = 2
  · rw [if_pos h2, if_pos h2, zup_k (by omega), zup_k (by omega), zup_k (by omega)]
    by_cases hi : x = J b 0
    · rw [if_pos hi, hi, zup_at]
    · rw [if_neg hi, zup_i hi, zup_k (by omega), zup_k (by omega), zup_k (by omega), zup_k (by omega)]
  · rw [if_neg h2, if_neg h2]
    by_cases h0 : w = 0
    · rw [if_pos h0, zup_k (by omega), zup_k (by omega), zup_k (by omega)]
      by_cases hi : x = J (b + 1) (slots + (-1))
      · have c1 : w = 0 ∧ x = J (b + 1) (slots + (-1)) := ⟨h0, hi⟩
        rw [if_pos c1, hi, zup_at]
      · have c1 : ¬ (w = 0 ∧ x = J (b + 1) (slots + (-1))) := fun q => hi q.2
        rw [if_neg c1, zup_i hi, zup_k (by omega), zup_k (by omega)]
    · have c1 : ¬ (w = 0 ∧ x = J (b + 1) (slots + (-1))) := fun q => h0 q.1
      rw [if_neg h0, if_neg c1, zup_k (by omega)]
theorem zjn_13 (hb : 15 ≤ b) : zjn J b line w slots tokens to 13 x = if w ≠ 1 ∧ (w = 2 ∨ w = 0) ∧ x = tokens + (-1) then zjid J b w slots else J 13 x := by
  unfold zjn zja zju zjid
  by_cases h2 : w = 2
  · rw [if_pos h2, if_pos h2, zup_k (by omega)]
    by_cases hi : x = tokens + (-1)
    · rw [if_pos ⟨by omega, Or.inl h2, hi⟩, hi, zup_at]
    · rw [if_neg (fun q => hi q.2.2), zup_i hi, zup_k (by omega), zup_k (by omega), zup_k (by omega), zup_k (by omega), zup_k (by omega), zup_k (by omega)]
  · rw [if_neg h2, if_neg h2]
    by_cases h0 : w = 0
    · rw [if_pos h0, zup_k (by omega)]
      by_cases hi : x = tokens + (-1)
      · have c1 : w ≠ 1 ∧ (w = 2 ∨ w = 0) ∧ x = tokens + (-1) := ⟨by omega, Or.inr h0, hi⟩
        rw [if_pos c1, hi, zup_at]
      · have c1 : ¬ (w ≠ 1 ∧ (w = 2 ∨ w = 0) ∧ x = tokens + (-1)) := fun q => hi q.2.2
        rw [if_neg c1, zup_i hi, zup_k (by omega), zup_k (by omega), zup_k (by omega), zup_k (by omega)]
    · rw [if_neg h0, if_neg (fun q => q.2.1.elim h2 h0), zup_k (by omega)]
end ZJN
/-- a way from the place (n, m) back to (0, 0) in K steps -/
def zWy (w : Nat → Int) (P : Nat → Nat × Nat) (K n m : Nat) : Prop := (∀ k : Nat, k < K → w k = 0 ∨ w k = 1 ∨ w k = 2) ∧ P 0 = (n, m) ∧ P K = (0, 0) ∧ ∀ k : Nat, k < K → (P k).1 = (P (k + 1)).1 + (if w k = 2 then 0 else 1) ∧ (P k).2 = (P (k + 1)).2 + (if w k = 1 then 0 else 1)
section ZWY
variable {w : Nat → Int} {P : Nat → Nat × Nat} {K n m : Nat}
theorem zWy_i (h : zWy w P K n m) : ∀ k : Nat, k ≤ K → ((P k).1 : Int) + k = n + zfc w k
  | 0, _ => by
    rw [h.2.1]
    simp [zfc]
  | k + 1, hk => by
    have ih := zWy_i h k (by omega)
    have h1 := (h.2.2.2 k (by omega)).1
    simp only [zfc]
    split at h1
    · rename_i q
      rw [if_pos q]
      omega
    · rename_i q
      rw [if_neg q]
      omega
theorem zWy_K (h : zWy w P K n m) : (K : Int) = n + zfc w K := by
  have h1 := zWy_i h K (Nat.le_refl _)
  rw [h.2.2.1] at h1
  dsimp only at h1
  omega
theorem zWy_mono (h : zWy w P K n m) (j : Nat) : ∀ d : Nat, j + d ≤ K → (P (j + d)).1 ≤ (P j).1 ∧ (P (j + d)).2 ≤ (P j).2
  | 0, _ => ⟨Nat.le_refl _, Nat.le_refl _⟩
  | d + 1, hd => by
    have ih := zWy_mono h j d (by omega)
    have h1 := h.2.2.2 (j + d) (by omega)
    rw [← Nat.add_assoc]
    omega
theorem zWy_le (h : zWy w P K n m) {k : Nat} (hk : k ≤ K) : (P k).1 ≤ n ∧ (P k).2 ≤ m := by
  have h1 := zWy_mono h 0 k (by omega)
  rw [h.2.1, Nat.zero_add] at h1
  exact h1
theorem zWy_lt (h : zWy w P K n m) {j k : Nat} (hjk : j < k) (hk : k ≤ K) : (w j ≠ 2 → (P k).1 < (P j).1) ∧ (w j ≠ 1 → (P k).2 < (P j).2) := by
  have h1 := h.2.2.2 j (by omega)
  have h2 := zWy_mono h (j + 1) (k - (j + 1)) (by omega)
  rw [show j + 1 + (k - (j + 1)) = k by omega] at h2
  constructor
  · intro q
    rw [if_neg q] at h1
    omega
  · intro q
    rw [if_neg q] at h1
    omega
theorem zWy_fc (h : zWy w P K n m) {j k : Nat} (hjk : j < k) (hk : k ≤ K) (hw : w j = 2) : zfc w j < zfc w k := by
  have h1 := zfc_mono w (j + 1) (k - (j + 1))
  rw [show j + 1 + (k - (j + 1)) = k by omega] at h1
  have h2 : zfc w (j + 1) = zfc w j + 1 := by simp only [zfc]; rw [if_pos hw]
  omega
end ZWY
/-- the slot's number at the step k, and what it has behind join -/
def zid (T : zStore) (b n : Nat) (w : Nat → Int) (P : Nat → Nat × Nat) (k : Nat) : Int := if w k = 2 then (n : Int) + zfc w k else T (b + 1) (P (k + 1)).1
def zip_ (line : Int) (P : Nat → Nat × Nat) (k : Nat) : Int := line * 30 + (P (k + 1)).2
section ZID
variable {T : zStore} {b n m K : Nat} {line : Int} {w : Nat → Int} {P : Nat → Nat × Nat}
theorem zid_inj (h : zWy w P K n m) (ho : ∀ i : Nat, i < n → 0 ≤ T (b + 1) i ∧ T (b + 1) i < n) (hi : ∀ i j : Nat, i < n → j < n → T (b + 1) i = T (b + 1) j → i = j) : ∀ j k : Nat, j < k → k < K → zid T b n w P j ≠ zid T b n w P k := by
  intro j k hjk hk e
  have hfj := zfc_bd w j
  have hfk := zfc_bd w k
  have pj := zWy_le h (k := j + 1) (by omega)
  have pk := zWy_le h (k := k + 1) (by omega)
  have sj := h.2.2.2 j (by omega)
  have sk := h.2.2.2 k hk
  have pj0 := zWy_le h (k := j) (by omega)
  have pk0 := zWy_le h (k := k) (by omega)
  unfold zid at e
  by_cases h1 : w j = 2
  · rw [if_pos h1] at e
    by_cases h2 : w k = 2
    · rw [if_pos h2] at e
      have := zWy_fc h hjk (by omega) h1
      omega
    · rw [if_neg h2] at e sk
      have := ho (P (k + 1)).1 (by omega)
      omega
  · rw [if_neg h1] at e sj
    by_cases h2 : w k = 2
    · rw [if_pos h2] at e
      have := ho (P (j + 1)).1 (by omega)
      omega
    · rw [if_neg h2] at e sk
      have h3 := hi _ _ (by omega) (by omega) e
      have h4 := (zWy_lt h (j := j) (k := k) hjk (by omega)).1 h1
      omega
theorem zid_lt (h : zWy w P K n m) (ho : ∀ i : Nat, i < n → 0 ≤ T (b + 1) i ∧ T (b + 1) i < n) {k : Nat} (hk : k < K) : 0 ≤ zid T b n w P k ∧ zid T b n w P k < K := by
  have hK := zWy_K h
  have hf := zfc_bd w k
  have hfK := zfc_bd w K
  have pk := zWy_le h (k := k) (by omega)
  have sk := h.2.2.2 k hk
  unfold zid
  split
  · rename_i q
    have := zWy_fc h hk (Nat.le_refl _) q
    omega
  · rename_i q
    rw [if_neg q] at sk
    have := ho (P (k + 1)).1 (by omega)
    omega
/-- what the slot of the step k has: kind, text, least, greatest size, uses -/
def zn2 (T : zStore) (b n : Nat) (line : Int) (w : Nat → Int) (P : Nat → Nat × Nat) (k : Nat) : Int := if w k = 2 then T 6 (zip_ line P k) else T (b + 2) (zid T b n w P k)
def zn3 (T : zStore) (b n : Nat) (line : Int) (w : Nat → Int) (P : Nat → Nat × Nat) (k : Nat) : Int := if w k = 2 then T 9 (zip_ line P k) else if w k = 0 then (if T (b + 3) (zid T b n w P k) = T 9 (zip_ line P k) then T (b + 3) (zid T b n w P k) else (-1)) else T (b + 3) (zid T b n w P k)
def zn4 (T : zStore) (b n : Nat) (line : Int) (w : Nat → Int) (P : Nat → Nat × Nat) (k : Nat) : Int := if w k = 2 then T 8 (zip_ line P k) else if w k = 0 then min (T (b + 4) (zid T b n w P k)) (T 8 (zip_ line P k)) else T (b + 4) (zid T b n w P k)
def zn5 (T : zStore) (b n : Nat) (line : Int) (w : Nat → Int) (P : Nat → Nat × Nat) (k : Nat) : Int := if w k = 2 then T 8 (zip_ line P k) else if w k = 0 then max (T (b + 5) (zid T b n w P k)) (T 8 (zip_ line P k)) else T (b + 5) (zid T b n w P k)
def zn6 (T : zStore) (b n : Nat) (w : Nat → Int) (P : Nat → Nat × Nat) (k : Nat) : Int := if w k = 2 then 1 else if w k = 0 then T (b + 6) (zid T b n w P k) + 1 else T (b + 6) (zid T b n w P k)
/-- one step more: what it reads is as it was at first -/
theorem zjJ_rd (hb : 15 ≤ b) (h : zWy w P K n m) (hn : T b 0 = n) {k : Nat} (hk : k < K) : zjid (zjJ T b line w P K k) b (w k) (P k).1 = zid T b n w P k ∧ (w k ≠ 1 → line * 30 + (((P k).2 : Int) - 1) = zip_ line P k ∧ ((P k).2 : Int) + (-1) = (P (k + 1)).2) := by
  have sk := h.2.2.2 k hk
  have hi := zWy_i h k (by omega)
  have hK := zWy_K h
  have hfk := zfc_mono w k (K - k)
  rw [show k + (K - k) = K by omega] at hfk
  constructor
  · unfold zjid zid
    by_cases h2 : w k = 2
    · rw [if_pos h2, if_pos h2, zjJ_0 hb, hn]
    · rw [if_neg h2, if_neg h2]
      rw [if_neg h2] at sk
      have e : (((P k).1 : Int) + (-1)) = (((P (k + 1)).1 : Nat) : Int) := by omega
      rw [e]
      exact zjJ_or hb k _ (by omega)
  · intro q
    rw [if_neg q] at sk
    unfold zip_
    constructor <;> omega
set_option maxHeartbeats 4000000 in
theorem zjJ_all (hb : 15 ≤ b) (h : zWy w P K n m) (hn : T b 0 = n) (ho : ∀ i : Nat, i < n → 0 ≤ T (b + 1) i ∧ T (b + 1) i < n) (hi : ∀ i j : Nat, i < n → j < n → T (b + 1) i = T (b + 1) j → i = j) : ∀ k : Nat, k ≤ K →
    (∀ x : Int, (∀ j : Nat, j < k → x ≠ zid T b n w P j) → zjJ T b line w P K k (b + 2) x = T (b + 2) x ∧ zjJ T b line w P K k (b + 3) x = T (b + 3) x ∧ zjJ T b line w P K k (b + 4) x = T (b + 4) x ∧ zjJ T b line w P K k (b + 5) x = T (b + 5) x ∧ zjJ T b line w P K k (b + 6) x = T (b + 6) x) ∧
    (∀ j : Nat, j < k → zjJ T b line w P K k (b + 2) (zid T b n w P j) = zn2 T b n line w P j ∧ zjJ T b line w P K k (b + 3) (zid T b n w P j) = zn3 T b n line w P j ∧ zjJ T b line w P K k (b + 4) (zid T b n w P j) = zn4 T b n line w P j ∧ zjJ T b line w P K k (b + 5) (zid T b n w P j) = zn5 T b n line w P j ∧ zjJ T b line w P K k (b + 6) (zid T b n w P j) = zn6 T b n w P j) ∧
    (∀ j : Nat, j < k → zjJ T b line w P K k (b + 1) ((K - 1 - j : Nat) : Int) = zid T b n w P j) ∧
    (∀ j : Nat, j < k → w j ≠ 1 → zjJ T b line w P K k 13 (P (j + 1)).2 = zid T b n w P j)
  | 0, _ => ⟨fun x _ => ⟨rfl, rfl, rfl, rfl, rfl⟩, fun j hj => absurd hj (by omega), fun j hj => absurd hj (by omega), fun j hj => absurd hj (by omega)⟩
  | k + 1, hk => by
    obtain ⟨i1, i2, i3, i4⟩ := zjJ_all hb h hn ho hi k (by omega)
    obtain ⟨r1, r2⟩ := zjJ_rd (line := line) hb h hn (k := k) (by omega)
    have hinj := zid_inj h ho hi
    have w3 := h.1 k (by omega)
    have e : zjJ T b line w P K (k + 1) = zjn (zjJ T b line w P K k) b line (w k) (P k).1 (P k).2 ((K : Int) - k) := rfl
    have o6 : ∀ x, zjJ T b line w P K k 6 x = T 6 x := fun x => zjJ_o (by omega) (by decide) k
    have o8 : ∀ x, zjJ T b line w P K k 8 x = T 8 x := fun x => zjJ_o (by omega) (by decide) k
    have o9 : ∀ x, zjJ T b line w P K k 9 x = T 9 x := fun x => zjJ_o (by omega) (by decide) k
    have idk := i1 (zid T b n w P k) (fun j hj q => hinj j k hj (by omega) q.symm)
    -- in the words of the step
    have d2 : w k = 2 → zjJ T b line w P K k b 0 = zid T b n w P k := fun q => by
      rw [← r1]
      unfold zjid
      rw [if_pos q]
    have d0 : w k ≠ 2 → zjJ T b line w P K k (b + 1) ((P k).1 + (-1)) = zid T b n w P k := fun q => by
      rw [← r1]
      unfold zjid
      rw [if_neg q]
    rw [e]
    refine ⟨fun x hx => ?_, fun j hj => ?_, fun j hj => ?_, fun j hj hw => ?_⟩
    · have hxk := hx k (by omega)
      have hx1 := i1 x fun j hj => hx j (by omega)
      rw [zjn_2 hb, zjn_3 hb, zjn_4 hb, zjn_5 hb, zjn_us hb]
      by_cases h2 : w k = 2
      · have c1 : ¬ (w k = 2 ∧ x = zid T b n w P k) := fun q => hxk q.2
        rw [d2 h2, if_neg c1, if_pos h2, if_neg hxk, if_pos h2, if_neg hxk, if_pos h2, if_neg hxk, if_pos h2, if_neg hxk]
        exact hx1
      · have c1 : ¬ (w k = 2 ∧ x = zjJ T b line w P K k b 0) := fun q => h2 q.1
        have c2 : ¬ (w k = 0 ∧ x = zid T b n w P k) := fun q => hxk q.2
        rw [d0 h2, if_neg c1, if_neg h2, if_neg c2, if_neg h2, if_neg c2, if_neg h2, if_neg c2, if_neg h2, if_neg c2]
        exact hx1
    · rw [zjn_2 hb, zjn_3 hb, zjn_4 hb, zjn_5 hb, zjn_us hb]
      by_cases hjk : j = k
      · subst hjk
        unfold zn2 zn3 zn4 zn5 zn6
        by_cases h2 : w j = 2
        · have p := (r2 (by omega)).1
          have c1 : w j = 2 ∧ zid T b n w P j = zid T b n w P j := ⟨h2, rfl⟩
          have c2 : zid T b n w P j = zid T b n w P j := rfl
          rw [d2 h2, if_pos c1, if_pos h2, if_pos c2, if_pos h2, if_pos c2, if_pos h2, if_pos c2, if_pos h2, if_pos c2, p, o6, o8, o9, if_pos h2, if_pos h2, if_pos h2, if_pos h2, if_pos h2]
          exact ⟨rfl, rfl, rfl, rfl, rfl⟩
        · have c1 : ¬ (w j = 2 ∧ zid T b n w P j = zjJ T b line w P K j b 0) := fun q => h2 q.1
          rw [d0 h2, if_neg c1, if_neg h2, if_neg h2, if_neg h2, if_neg h2, if_neg h2, if_neg h2, if_neg h2, if_neg h2, if_neg h2]
          by_cases h0 : w j = 0
          · have p := (r2 (by omega)).1
            have c2 : w j = 0 ∧ zid T b n w P j = zid T b n w P j := ⟨h0, rfl⟩
            rw [if_pos c2, if_pos c2, if_pos c2, if_pos c2, if_pos h0, if_pos h0, if_pos h0, if_pos h0, p, o8, o9, idk.1, idk.2.1, idk.2.2.1, idk.2.2.2.1, idk.2.2.2.2]
            exact ⟨rfl, rfl, rfl, rfl, rfl⟩
          · have c2 : ¬ (w j = 0 ∧ zid T b n w P j = zid T b n w P j) := fun q => h0 q.1
            rw [if_neg c2, if_neg c2, if_neg c2, if_neg c2, if_neg h0, if_neg h0, if_neg h0, if_neg h0, idk.1, idk.2.1, idk.2.2.1, idk.2.2.2.1, idk.2.2.2.2]
            exact ⟨rfl, rfl, rfl, rfl, rfl⟩
      · have hne := hinj j k (by omega) (by omega)
        have hj2 := i2 j (by omega)
        by_cases h2 : w k = 2
        · have c1 : ¬ (w k = 2 ∧ zid T b n w P j = zid T b n w P k) := fun q => hne q.2
          rw [d2 h2, if_neg c1, if_pos h2, if_neg hne, if_pos h2, if_neg hne, if_pos h2, if_neg hne, if_pos h2, if_neg hne]
          exact hj2
        · have c1 : ¬ (w k = 2 ∧ zid T b n w P j = zjJ T b line w P K k b 0) := fun q => h2 q.1
          have c2 : ¬ (w k = 0 ∧ zid T b n w P j = zid T b n w P k) := fun q => hne q.2
          rw [d0 h2, if_neg c1, if_neg h2, if_neg c2, if_neg h2, if_neg c2, if_neg h2, if_neg c2, if_neg h2, if_neg c2]
          exact hj2
    · rw [zjn_or hb]
      by_cases hjk : j = k
      · subst hjk
        rw [if_pos (by omega), r1]
      · rw [if_neg (by omega)]
        exact i3 j (by omega)
    · rw [zjn_13 hb]
      by_cases hjk : j = k
      · subst hjk
        rw [if_pos ⟨hw, by omega, (r2 hw).2.symm⟩, r1]
      · have h3 := (zWy_lt h (j := j + 1) (k := k + 1))
        by_cases hwk : w k = 1
        · rw [if_neg (fun q => q.1 hwk)]
          exact i4 j (by omega) hw
        · have h4 := (r2 hwk).2
          have h5 := zWy_mono h (j + 1) (k - (j + 1)) (by omega)
          rw [show j + 1 + (k - (j + 1)) = k by omega] at h5
          have h6 := (zWy_lt h (j := k) (k := k + 1) (by omega) (by omega)).2 hwk
          rw [if_neg (fun q => by have := q.2.2; omega)]
          exact i4 j (by omega) hw
end ZID

