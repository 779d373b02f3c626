/-! fills: the store with f's first n values from the place a on in the cell k -/
def zfl (I : zStore) (k : Nat) (a : Int) (n : Nat) (f : Nat → Int) : zStore := fun c j => if c = k ∧ a ≤ j ∧ j < a + n then f (j - a).toNat else I c j
theorem zfl_0 {I : zStore} {k : Nat} {a : Int} {f : Nat → Int} : zfl I k a 0 f = I := by
  funext c j
  unfold zfl
  rw [if_neg (by omega)]
theorem zfl_up {I : zStore} {k n : Nat} {a i v : Int} {f : Nat → Int} (hv : v = f n) (hi : i = a + n) : zup (zfl I k a n f) k i v = zfl I k a (n + 1) f := by
  funext c j
  unfold zup zfl
  subst hi
  by_cases h : c = k ∧ j = a + n
  · obtain ⟨h1, h2⟩ := h
    subst h1; subst h2
    rw [if_pos ⟨rfl, rfl⟩, if_pos (by omega), hv]
    congr 1
    omega
  · rw [if_neg h]
    by_cases h2 : c = k ∧ a ≤ j ∧ j < a + n
    · rw [if_pos h2, if_pos (by omega)]
    · rw [if_neg h2, if_neg (by omega)]
theorem zfl_k {I : zStore} {k c n : Nat} {a j : Int} {f : Nat → Int} (h : c ≠ k) : zfl I k a n f c j = I c j := by
  unfold zfl
  rw [if_neg (fun q => h q.1)]
theorem zfl_in {I : zStore} {k n m : Nat} {a j : Int} {f : Nat → Int} (h : m < n) (hj : j = a + m) : zfl I k a n f k j = f m := by
  unfold zfl
  rw [if_pos (by omega)]
  congr 1
  omega
theorem zfl_out {I : zStore} {k n : Nat} {a j : Int} {f : Nat → Int} (h : j < a ∨ a + n ≤ j) : zfl I k a n f k j = I k j := by
  unfold zfl
  rw [if_neg (by omega)]
theorem zRg_fl {I : zStore} {k n : Nat} {a : Int} {f : Nat → Int} (h : zRg I) (hf : ∀ m, m < n → -2147483648 ≤ f m ∧ f m < 2147483648) : zRg (zfl I k a n f) := by
  intro c j
  unfold zfl
  split
  · exact hf _ (by omega)
  · exact h c j
theorem zfl_congr {I : zStore} {k n : Nat} {a : Int} {f g : Nat → Int} (h : ∀ m, m < n → f m = g m) : zfl I k a n f = zfl I k a n g := by
  funext c j
  unfold zfl
  split
  · exact h _ (by omega)
  · rfl
/-! the table of least costs: s i the cost of a skip of slot i, f of a fresh slot, q i t of a pair of slot i and token t, -1 if there is none -/
def zrow (P : Nat → Int) (s f : Int) (q : Nat → Int) : Nat → Int
  | 0 => P 0 + s
  | t + 1 => if q t = -1 then min (P (t + 1) + s) (zrow P s f q t + f) else min (min (P (t + 1) + s) (zrow P s f q t + f)) (P t + q t)
def zC (s : Nat → Int) (f : Int) (q : Nat → Nat → Int) : Nat → Nat → Int
  | 0 => fun t => t * f
  | i + 1 => zrow (zC s f q i) (s i) f (q i)
theorem zrow_bd {P : Nat → Int} {s f : Int} {q : Nat → Int} {B : Int} (hP : ∀ t : Nat, 0 ≤ P t ∧ P t ≤ B + 20 * t) (hs : 0 ≤ s ∧ s ≤ 20) (hf : 0 ≤ f ∧ f ≤ 20) (hq : ∀ t, -1 ≤ q t) : ∀ t : Nat, 0 ≤ zrow P s f q t ∧ zrow P s f q t ≤ B + 20 + 20 * t
  | 0 => by
    have := hP 0
    simp only [zrow]
    omega
  | t + 1 => by
    have h1 := zrow_bd hP hs hf hq t
    have h2 := hP t
    have h3 := hP (t + 1)
    have h4 := hq t
    simp only [zrow]
    split <;> omega
theorem zC_bd {s : Nat → Int} {f : Int} {q : Nat → Nat → Int} (hs : ∀ i, 0 ≤ s i ∧ s i ≤ 20) (hf : 0 ≤ f ∧ f ≤ 20) (hq : ∀ i t, -1 ≤ q i t) : ∀ i t : Nat, 0 ≤ zC s f q i t ∧ zC s f q i t ≤ 20 * i + 20 * t
  | 0, t => by
    simp only [zC]
    have h1 : 0 ≤ (t : Int) * f := Int.mul_nonneg (by omega) hf.1
    have h2 : (t : Int) * f ≤ t * 20 := Int.mul_le_mul_of_nonneg_left hf.2 (by omega)
    omega
  | i + 1, t => by
    have h := zrow_bd (P := zC s f q i) (s := s i) (f := f) (q := q i) (B := 20 * i) (zC_bd hs hf hq i) (hs i) hf (hq i) t
    simp only [zC]
    omega
/-- the table's rows 0 to i, of m + 1 places each, in the cell k -/
def ztab (I : zStore) (k m i : Nat) (C : Nat → Nat → Int) : zStore := fun c j => if c = k ∧ 0 ≤ j ∧ j / 31 ≤ i ∧ j % 31 ≤ m then C (j / 31).toNat (j % 31).toNat else I c j
theorem ztab_0 {I : zStore} {k m : Nat} {C : Nat → Nat → Int} (hm : m ≤ 30) : zfl I k 0 (m + 1) (C 0) = ztab I k m 0 C := by
  funext c j
  unfold zfl ztab
  by_cases h : c = k ∧ 0 ≤ j ∧ j < 0 + ((m + 1 : Nat) : Int)
  · rw [if_pos h, if_pos (by omega)]
    have h1 : (j / 31).toNat = 0 := by omega
    have h2 : (j % 31).toNat = (j - 0).toNat := by omega
    rw [h1, h2]
  · rw [if_neg h, if_neg (by omega)]
theorem ztab_s {I : zStore} {k m i : Nat} {C : Nat → Nat → Int} {a : Int} (hm : m ≤ 30) (ha : a = 31 * i + 31) : zfl (ztab I k m i C) k a (m + 1) (C (i + 1)) = ztab I k m (i + 1) C := by
  subst ha
  funext c j
  unfold zfl ztab
  by_cases h : c = k ∧ 31 * (i : Int) + 31 ≤ j ∧ j < 31 * (i : Int) + 31 + ((m + 1 : Nat) : Int)
  · rw [if_pos h, if_pos (by omega)]
    have h1 : (j / 31).toNat = i + 1 := by omega
    have h2 : (j % 31).toNat = (j - (31 * (i : Int) + 31)).toNat := by omega
    rw [h1, h2]
  · rw [if_neg h]
    by_cases h2 : c = k ∧ 0 ≤ j ∧ j / 31 ≤ i ∧ j % 31 ≤ m
    · rw [if_pos h2, if_pos (by omega)]
    · rw [if_neg h2, if_neg (by omega)]
theorem ztab_in {I : zStore} {k m i r t : Nat} {C : Nat → Nat → Int} {j : Int} (hr : r ≤ i) (ht : t ≤ m) (hm : m ≤ 30) (hj : j = 31 * r + t) : ztab I k m i C k j = C r t := by
  unfold ztab
  rw [if_pos (by omega)]
  have h1 : (j / 31).toNat = r := by omega
  have h2 : (j % 31).toNat = t := by omega
  rw [h1, h2]
theorem ztab_k {I : zStore} {k c m i : Nat} {C : Nat → Nat → Int} {j : Int} (h : c ≠ k) : ztab I k m i C c j = I c j := by
  unfold ztab
  rw [if_neg (fun q => h q.1)]
theorem zRg_tab {I : zStore} {k m i : Nat} {C : Nat → Nat → Int} (h : zRg I) (hC : ∀ r t, r ≤ i → t ≤ m → -2147483648 ≤ C r t ∧ C r t < 2147483648) : zRg (ztab I k m i C) := by
  intro c j
  unfold ztab
  split
  · exact hC _ _ (by omega) (by omega)
  · exact h c j
/-! the steps back: the last step of i slots with t tokens -/
def zstep (s : Nat → Int) (f : Int) (q : Nat → Nat → Int) (i t : Nat) : Int :=
  if i = 0 then 2 else if t = 0 then 1 else if q (i - 1) (t - 1) ≠ -1 ∧ zC s f q i t = zC s f q (i - 1) (t - 1) + q (i - 1) (t - 1) then 0 else if zC s f q i t = zC s f q (i - 1) t + s (i - 1) then 1 else 2
/-- where one is after k steps back -/
def zpos (s : Nat → Int) (f : Int) (q : Nat → Nat → Int) (n m : Nat) : Nat → Nat × Nat
  | 0 => (n, m)
  | k + 1 => match zpos s f q n m k with
    | (i, t) => (if zstep s f q i t = 2 then i else i - 1, if zstep s f q i t = 1 then t else t - 1)
def zway (s : Nat → Int) (f : Int) (q : Nat → Nat → Int) (n m k : Nat) : Int := zstep s f q (zpos s f q n m k).1 (zpos s f q n m k).2
/-- what a pair of the slot id of the format at b with the token at the place p costs; -1 if there is none -/
def zpc (I : zStore) (b : Nat) (id p : Int) : Int := if I (b + 2) id ≠ I 6 p then (-1) else if I (b + 3) id = (-1) then 1 else if I (b + 3) id = I 9 p then 0 else I 10 1
def zsk (I : zStore) (b : Nat) (id : Int) : Int := if I (b + 6) id < I b 1 then 1 else I 10 2
theorem zpc_bd {I : zStore} {b : Nat} {id p : Int} (h : 0 ≤ I 10 1 ∧ I 10 1 ≤ 20) : -1 ≤ zpc I b id p ∧ zpc I b id p ≤ 20 := by
  unfold zpc
  repeat' split
  all_goals omega
theorem zsk_bd {I : zStore} {b : Nat} {id : Int} (h : 0 ≤ I 10 2 ∧ I 10 2 ≤ 20) : 0 ≤ zsk I b id ∧ zsk I b id ≤ 20 := by
  unfold zsk
  repeat' split
  all_goals omega
theorem zif_n {c : Prop} [Decidable c] (h : (if c then (1 : Int) else 0) = 0) : ¬ c := by
  intro q
  rw [if_pos q] at h
  omega
theorem zif_y {c : Prop} [Decidable c] (h : (if c then (1 : Int) else 0) ≠ 0) : c := by
  by_cases q : c
  · exact q
  · rw [if_neg q] at h
    omega
def fa_first (p : Nat → Bool) : Nat → Nat
  | 0 => 0
  | n + 1 => if fa_first p n < n then fa_first p n else if p n then n else n + 1
theorem fa_first_le (p : Nat → Bool) : ∀ n, fa_first p n ≤ n
  | 0 => Nat.le_refl 0
  | n + 1 => by
    have ih := fa_first_le p n
    unfold fa_first
    split
    · omega
    · split
      · omega
      · omega
theorem fa_first_no (p : Nat → Bool) : ∀ n k, k < fa_first p n → p k = false
  | 0, k, h => absurd h (Nat.not_lt_zero k)
  | n + 1, k, h => by
    have ih := fa_first_no p n
    have hl := fa_first_le p n
    unfold fa_first at h
    split at h
    · exact ih k h
    · rename_i h1
      split at h
      · exact ih k (by omega)
      · rename_i h2
        by_cases e : k = n
        · subst e
          exact Bool.eq_false_iff.mpr h2
        · exact ih k (by omega)
theorem fa_first_yes (p : Nat → Bool) : ∀ n, fa_first p n < n → p (fa_first p n) = true
  | 0, h => absurd h (Nat.not_lt_zero _)
  | n + 1, h => by
    have ih := fa_first_yes p n
    have hl := fa_first_le p n
    unfold fa_first at h ⊢
    split at h
    · rename_i h1
      rw [if_pos h1]
      exact ih h1
    · rename_i h1
      rw [if_neg h1]
      split at h
      · rename_i h2
        rw [if_pos h2]
        exact h2
      · omega
theorem zpos_s {s : Nat → Int} {f : Int} {q : Nat → Nat → Int} {n m k i t : Nat} (h : zpos s f q n m k = (i, t)) : zpos s f q n m (k + 1) = (if zstep s f q i t = 2 then i else i - 1, if zstep s f q i t = 1 then t else t - 1) := by
  simp only [zpos, h]
theorem zstep_2 {s : Nat → Int} {f : Int} {q : Nat → Nat → Int} {i t : Nat} (h0 : 0 < i + t) : (zstep s f q i t = 2 → 0 < t) ∧ (zstep s f q i t ≠ 2 → 0 < i) ∧ (zstep s f q i t ≠ 1 → 0 < t) ∧ (zstep s f q i t = 0 ∨ zstep s f q i t = 1 ∨ zstep s f q i t = 2) := by
  unfold zstep
  by_cases h1 : i = 0
  · rw [if_pos h1]; omega
  · rw [if_neg h1]
    by_cases h2 : t = 0
    · rw [if_pos h2]; omega
    · rw [if_neg h2]
      refine ⟨fun _ => by omega, fun _ => by omega, fun _ => by omega, ?_⟩
      split
      · exact Or.inl rfl
      · split
        · exact Or.inr (Or.inl rfl)
        · exact Or.inr (Or.inr rfl)
def zlen (s : Nat → Int) (f : Int) (q : Nat → Nat → Int) (n m : Nat) : Nat := fa_first (fun k => decide ((zpos s f q n m k).1 + (zpos s f q n m k).2 = 0)) (n + m)
theorem zlen_pos {s : Nat → Int} {f : Int} {q : Nat → Nat → Int} {n m k : Nat} (h : k < zlen s f q n m) : 0 < (zpos s f q n m k).1 + (zpos s f q n m k).2 := by
  have := fa_first_no _ _ k h
  have h2 := of_decide_eq_false this
  omega
theorem zpos_le {s : Nat → Int} {f : Int} {q : Nat → Nat → Int} {n m : Nat} : ∀ k, k ≤ zlen s f q n m → (zpos s f q n m k).1 + (zpos s f q n m k).2 + k ≤ n + m ∧ (zpos s f q n m k).1 ≤ n ∧ (zpos s f q n m k).2 ≤ m
  | 0, _ => by simp [zpos]
  | k + 1, h => by
    have ih := zpos_le (s := s) (f := f) (q := q) (n := n) (m := m) k (by omega)
    have hp := zlen_pos (k := k) (by omega : k < zlen s f q n m)
    rcases he : zpos s f q n m k with ⟨i, t⟩
    rw [he] at ih hp
    rw [zpos_s he]
    have h2 := zstep_2 (s := s) (f := f) (q := q) (i := i) (t := t) hp
    dsimp only at ih hp ⊢
    by_cases e2 : zstep s f q i t = 2
    · have h3 := h2.1 e2
      have e1 : ¬ zstep s f q i t = 1 := by omega
      rw [if_pos e2, if_neg e1]
      omega
    · have h3 := h2.2.1 e2
      rw [if_neg e2]
      split <;> omega
theorem zlen_end {s : Nat → Int} {f : Int} {q : Nat → Nat → Int} {n m : Nat} : zpos s f q n m (zlen s f q n m) = (0, 0) := by
  have h1 := fa_first_le (fun k => decide ((zpos s f q n m k).1 + (zpos s f q n m k).2 = 0)) (n + m)
  have h0 : (zpos s f q n m (zlen s f q n m)).1 + (zpos s f q n m (zlen s f q n m)).2 = 0 := by
    by_cases h : zlen s f q n m < n + m
    · have := fa_first_yes _ _ h
      exact of_decide_eq_true this
    · have h2 := zpos_le (s := s) (f := f) (q := q) (n := n) (m := m) (zlen s f q n m) (Nat.le_refl _)
      omega
  rcases he : zpos s f q n m (zlen s f q n m) with ⟨i, t⟩
  rw [he] at h0
  dsimp only at h0
  have : i = 0 ∧ t = 0 := by omega
  rw [this.1, this.2]
theorem zlen_le {s : Nat → Int} {f : Int} {q : Nat → Nat → Int} {n m : Nat} : zlen s f q n m ≤ n + m := fa_first_le _ _
def zfc (w : Nat → Int) : Nat → Int
  | 0 => 0
  | k + 1 => zfc w k + if w k = 2 then 1 else 0
theorem zfc_bd (w : Nat → Int) : ∀ k : Nat, 0 ≤ zfc w k ∧ zfc w k ≤ k
  | 0 => by simp [zfc]
  | k + 1 => by
    have := zfc_bd w k
    simp only [zfc]
    split <;> omega
theorem zup_comm {I : zStore} {k k' : Nat} {i i' v v' : Int} (h : k ≠ k') : zup (zup I k i v) k' i' v' = zup (zup I k' i' v') k i v := by
  funext a c
  unfold zup
  by_cases h1 : a = k ∧ c = i
  · rw [if_pos h1, if_neg (fun q => h (h1.1.symm.trans q.1))]
    try rw [if_pos h1]
  · rw [if_neg h1]
    try rw [if_neg h1]
theorem zup_comm_i {I : zStore} {k : Nat} {i i' v v' : Int} (h : i ≠ i') : zup (zup I k i v) k i' v' = zup (zup I k i' v') k i v := by
  funext a c
  unfold zup
  by_cases h1 : a = k ∧ c = i
  · rw [if_pos h1, if_neg (fun q => h (h1.2.symm.trans q.2))]
    try rw [if_pos h1]
  · rw [if_neg h1]
    try rw [if_neg h1]
theorem zup_zup {I : zStore} {k : Nat} {i v v' : Int} : zup (zup I k i v) k i v' = zup I k i v' := by
  funext a c
  unfold zup
  by_cases h1 : a = k ∧ c = i
  · rw [if_pos h1, if_pos h1]
  · rw [if_neg h1, if_neg h1, if_neg h1]
/-- whether the slot id of the format at b can take the token at p (1 or 0) -/
def ztk (I : zStore) (b : Nat) (id p : Int) : Int := if I (b + 3) id ≠ (-1) then (if I (b + 3) id = I 9 p then 1 else 0) else (if I (b + 2) id = I 6 p ∧ I (b + 4) id ≤ I 8 p ∧ I 8 p ≤ I (b + 5) id then 1 else 0)
theorem ztk_bd {I : zStore} {b : Nat} {id p : Int} : ztk I b id p = 0 ∨ ztk I b id p = 1 := by
  unfold ztk
  repeat' split
  all_goals first | exact Or.inl rfl | exact Or.inr rfl
theorem zfl_set {I : zStore} {k n t : Nat} {a i v : Int} {f : Nat → Int} (ht : t < n) (hi : i = a + t) : zup (zfl I k a n f) k i v = zfl I k a n (fun x => if x = t then v else f x) := by
  subst hi
  funext c j
  unfold zup zfl
  by_cases h : c = k ∧ j = a + t
  · obtain ⟨h1, h2⟩ := h
    subst h1; subst h2
    rw [if_pos ⟨rfl, rfl⟩, if_pos (by omega)]
    show v = if (a + (t : Int) - a).toNat = t then v else _
    rw [if_pos (by omega)]
  · rw [if_neg h]
    by_cases h2 : c = k ∧ a ≤ j ∧ j < a + n
    · rw [if_pos h2, if_pos h2]
      show _ = if (j - a).toNat = t then v else _
      rw [if_neg (by omega)]
    · rw [if_neg h2, if_neg h2]
/-! what lines a format matches: cm i whether slot i can miss, tk i t whether it can take token t -/
def zR (cm : Nat → Bool) (tk : Nat → Nat → Bool) : Nat → Nat → Bool
  | 0, t => t == 0
  | i + 1, 0 => cm i && zR cm tk i 0
  | i + 1, t + 1 => cm i && zR cm tk i (t + 1) || zR cm tk i t && tk i t
def zb (x : Bool) : Int := if x then 1 else 0
theorem zb_bd (x : Bool) : zb x = 0 ∨ zb x = 1 := by cases x <;> simp [zb]
/-! bytes and tokens -/
def zkd (c : Int) : Int := if (65 ≤ c ∧ c ≤ 90) ∨ (97 ≤ c ∧ c ≤ 122) then 0 else if 48 ≤ c ∧ c ≤ 57 then 1 else if c = 32 then 2 else 3
theorem zkd_bd {c : Int} : 0 ≤ zkd c ∧ zkd c ≤ 3 := by
  unfold zkd
  repeat' split
  all_goals omega
/-- a new token begins at byte i: kd the kinds of the bytes -/
def znew (kd : Nat → Int) (i : Nat) : Bool := decide (i = 0 ∨ kd i = 3 ∨ kd i ≠ kd (i - 1))
def zcnt (kd : Nat → Int) : Nat → Nat
  | 0 => 0
  | i + 1 => zcnt kd i + if znew kd i then 1 else 0
/-- kind, start and size of the tokens of the first i bytes -/
def zkn (kd : Nat → Int) : Nat → Nat → Int
  | 0, _ => 0
  | i + 1, t => if znew kd i = true ∧ t = zcnt kd i then kd i else zkn kd i t
def zsn (kd : Nat → Int) : Nat → Nat → Int
  | 0, _ => 0
  | i + 1, t => if znew kd i = true ∧ t = zcnt kd i then (i : Int) else zsn kd i t
def zzn (kd : Nat → Int) : Nat → Nat → Int
  | 0, _ => 0
  | i + 1, t => if znew kd i = true then (if t = zcnt kd i then 1 else zzn kd i t) else if t + 1 = zcnt kd i then zzn kd i t + 1 else zzn kd i t
theorem zcnt_le (kd : Nat → Int) : ∀ i, zcnt kd i ≤ i
  | 0 => Nat.le_refl 0
  | i + 1 => by
    have := zcnt_le kd i
    simp only [zcnt]
    split <;> omega
theorem zcnt_pos (kd : Nat → Int) : ∀ i, 0 < i → 0 < zcnt kd i
  | 1, _ => by simp [zcnt, znew]
  | i + 2, _ => by
    have := zcnt_pos kd (i + 1) (by omega)
    show 0 < zcnt kd (i + 1) + _
    omega
/-- whether two tokens have the same bytes: sz their sizes, st their starts, by the place; by the bytes -/
def zseq (bt : Int → Int) (a b : Int) : Nat → Bool
  | 0 => true
  | k + 1 => zseq bt a b k && (bt (a + k) == bt (b + k))
theorem zseq_f {bt : Int → Int} {a b : Int} {k : Nat} (h : bt (a + k) ≠ bt (b + k)) : ∀ n : Nat, k < n → zseq bt a b n = false
  | 0, hn => absurd hn (by omega)
  | n + 1, hn => by
    simp only [zseq]
    by_cases e : k = n
    · subst e
      rw [show (bt (a + k) == bt (b + k)) = false from beq_false_of_ne h, Bool.and_false]
    · rw [zseq_f h n (by omega), Bool.false_and]
/-- whether the tokens at the places a and b are the same texts, in the class's cells -/
def zsm (I : zStore) (a b : Int) : Bool := (I 8 a == I 8 b) && zseq (I 5) (I 7 a) (I 7 b) (I 8 a).toNat
/-- v is the first place, line by line, of a token of the lines 0 to last that is the same text as that at p -/
def zfst (I : zStore) (last : Nat) (p v : Int) : Prop := ∃ l0 t0 : Nat, l0 ≤ last ∧ (t0 : Int) < I 4 l0 ∧ v = l0 * 30 + t0 ∧ zsm I v p = true ∧ ∀ l t : Nat, (t : Int) < I 4 l → (l < l0 ∨ (l = l0 ∧ t < t0)) → zsm I (l * 30 + t) p = false
/-- the number that n bytes from j on tell, behind d -/
def znum (bt : Int → Int) (j : Int) : Nat → Int
  | 0 => 0
  | n + 1 => znum bt j n * 10 + (bt (j + n) - 48)
theorem zup_fl {I : zStore} {k k' n : Nat} {a i v : Int} {f : Nat → Int} (h : k' ≠ k) : zup (zfl I k a n f) k' i v = zfl (zup I k' i v) k a n f := by
  funext c j
  unfold zup zfl
  dsimp only
  by_cases h1 : c = k' ∧ j = i
  · rw [if_pos h1, if_neg (fun q => h (h1.1.symm.trans q.1)), if_pos h1]
  · rw [if_neg h1, if_neg h1]
