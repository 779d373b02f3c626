/-! eight bytes in a long -/
theorem zby_nat {x : Int64} {i : Nat} (hi : i ≤ 7) : zby x i = ((x.toBitVec.toNat / 2 ^ (56 - 8 * i) % 256 : Nat) : Int) := by
  have key : ∀ (k : Nat) (y : Int), ((zI y).toInt64.toUInt64 &&& Int64.toUInt64 63).toNat = k → k < 64 → zand (zl2i (zushr x y)) 255 = ((x.toBitVec.toNat / 2 ^ k % 256 : Nat) : Int) := by
    intro k y hk hk2
    unfold zand zl2i zushr
    rw [zI_of]
    have e1 := pk_and (x.toUInt64 >>> ((zI y).toInt64.toUInt64 &&& Int64.toUInt64 63)).toInt64.toInt32 (m := zI 255) 8 (by decide)
    rw [e1]
    have e2 : (x.toUInt64 >>> ((zI y).toInt64.toUInt64 &&& Int64.toUInt64 63)).toInt64.toInt32.toBitVec.toNat = (x.toBitVec.toNat / 2 ^ k) % 2 ^ 32 := by
      rw [Int64.toBitVec_toInt32]
      rw [show ∀ v : BitVec 64, (BitVec.signExtend 32 v).toNat = v.toNat % 2 ^ 32 from fun v => by first | (rw [BitVec.signExtend_eq_setWidth_of_le _ (by decide), BitVec.toNat_setWidth]) | (rw [BitVec.signExtend_eq_setWidth_of_lt _ (by decide), BitVec.toNat_setWidth]) | (rw [BitVec.signExtend_eq_setWidth_of_ge _ (by decide), BitVec.toNat_setWidth])]
      have e3 : (x.toUInt64 >>> ((zI y).toInt64.toUInt64 &&& Int64.toUInt64 63)).toInt64.toBitVec.toNat = (x.toUInt64 >>> ((zI y).toInt64.toUInt64 &&& Int64.toUInt64 63)).toNat := rfl
      rw [e3, UInt64.toNat_shiftRight, hk, Nat.mod_eq_of_lt hk2, Nat.shiftRight_eq_div_pow]
      rfl
    rw [e2]
    have e4 : x.toBitVec.toNat / 2 ^ k % 2 ^ 32 % 2 ^ 8 = x.toBitVec.toNat / 2 ^ k % 256 := by omega
    rw [e4, nI_toInt (by omega)]
  unfold zby
  have h8 : i = 0 ∨ i = 1 ∨ i = 2 ∨ i = 3 ∨ i = 4 ∨ i = 5 ∨ i = 6 ∨ i = 7 := by omega
  rcases h8 with rfl | rfl | rfl | rfl | rfl | rfl | rfl | rfl
  · exact key 56 _ (by decide) (by decide)
  · exact key 48 _ (by decide) (by decide)
  · exact key 40 _ (by decide) (by decide)
  · exact key 32 _ (by decide) (by decide)
  · exact key 24 _ (by decide) (by decide)
  · exact key 16 _ (by decide) (by decide)
  · exact key 8 _ (by decide) (by decide)
  · exact key 0 _ (by decide) (by decide)
theorem zsh8 {x : Int64} {c : Nat} (hc : c < 128) : ((x <<< ((8 : Int32).toInt64 &&& 63)) ||| (nI c).toInt64).toBitVec.toNat = x.toBitVec.toNat * 256 % 2 ^ 64 + c := by
  have e1 : ((8 : Int32).toInt64 &&& 63) = (8 : Int64) := by decide
  have e2 : (nI c).toInt64.toBitVec.toNat = c := by
    rw [nI_l (by omega)]
    show (BitVec.ofNat 64 c).toNat = c
    rw [BitVec.toNat_ofNat]
    omega
  have e3 : (x <<< (8 : Int64)).toBitVec.toNat = x.toBitVec.toNat * 256 % 2 ^ 64 := by
    rw [Int64.toBitVec_shiftLeft]
    have : ((8 : Int64).toBitVec.smod 64) = 8#64 := by decide
    rw [this]
    show (x.toBitVec <<< (8#64).toNat).toNat = _
    rw [BitVec.toNat_shiftLeft, Nat.shiftLeft_eq]
    rfl
  rw [e1, Int64.toBitVec_or, BitVec.toNat_or, e2, e3]
  have e4 : x.toBitVec.toNat * 256 % 2 ^ 64 = (x.toBitVec.toNat % 2 ^ 56) <<< 8 := by
    rw [Nat.shiftLeft_eq]
    omega
  rw [e4, ← Nat.shiftLeft_add_eq_or_of_lt (show c < 2 ^ 8 by omega)]
/-- the value behind j letters -/
def zpv (bs : List Nat) (f : Nat) : Nat → Nat
  | 0 => 0
  | j + 1 => zpv bs f j * 256 % 2 ^ 64 + bs.getD (f + j) 0
theorem zpv_by {bs : List Nat} {f : Nat} (hb : ∀ j, bs.getD j 0 < 128) : ∀ m : Nat, m ≤ 8 → zpv bs f m < 2 ^ 64 ∧ ∀ i, i ≤ 7 → zpv bs f m / 2 ^ (56 - 8 * i) % 256 = if i < 8 - m then 0 else bs.getD (f + (i - (8 - m))) 0
  | 0, _ => ⟨by show 0 < 2 ^ 64; decide, fun i hi => by rw [if_pos (by omega)]; simp [zpv]⟩
  | m + 1, h => by
    obtain ⟨h1, h2⟩ := zpv_by hb m (by omega)
    have hc := hb (f + m)
    have e0 : zpv bs f (m + 1) = zpv bs f m * 256 % 2 ^ 64 + bs.getD (f + m) 0 := rfl
    obtain ⟨V, hV⟩ : ∃ V, V = zpv bs f m := ⟨_, rfl⟩
    obtain ⟨c, hcc⟩ : ∃ c, c = bs.getD (f + m) 0 := ⟨_, rfl⟩
    rw [← hcc] at hc e0
    rw [← hV] at h1 h2 e0
    refine ⟨by rw [e0]; omega, fun i hi => ?_⟩
    rw [e0]
    by_cases h7 : i = 7
    · subst h7
      rw [if_neg (by omega), show f + (7 - (8 - (m + 1))) = f + m by omega]
      rw [← hcc]
      simp only [Nat.reduceMul, Nat.reduceSub, Nat.reducePow]
      omega
    · have h3 := h2 (i + 1) (by omega)
      have e1 : (V * 256 % 2 ^ 64 + c) / 2 ^ (56 - 8 * i) % 256 = V / 2 ^ (56 - 8 * (i + 1)) % 256 := by
        have h8 : i = 0 ∨ i = 1 ∨ i = 2 ∨ i = 3 ∨ i = 4 ∨ i = 5 ∨ i = 6 := by omega
        rcases h8 with rfl | rfl | rfl | rfl | rfl | rfl | rfl <;> simp only [Nat.reduceMul, Nat.reduceSub, Nat.reduceAdd, Nat.reducePow] <;> omega
      rw [e1, h3]
      by_cases hq : i < 8 - (m + 1)
      · rw [if_pos hq, if_pos (by omega)]
      · rw [if_neg hq, if_neg (by omega)]
        congr 1
        omega
/-- the store behind the feeding of the first z letters -/
def zFd (I I' : zStore) (bs : List Nat) (z : Nat) : Prop := (∀ (c : Nat) (j : Int), c ≠ 1 ∧ (c ≠ 0 ∨ j ≠ 1) → I' c j = I c j) ∧ I' 0 1 = z ∧ ∀ i : Nat, i < z → I' 1 i = bs.getD i 0
theorem getD_lt {bs : List Nat} (hb : ∀ b ∈ bs, 32 ≤ b ∧ b < 127) (j : Nat) : bs.getD j 0 < 128 ∧ (j < bs.length → 32 ≤ bs.getD j 0 ∧ bs.getD j 0 < 127) := by
  rw [List.getD_eq_getElem?_getD]
  by_cases hj : j < bs.length
  · rw [List.getElem?_eq_getElem hj]
    have := hb _ (List.getElem_mem hj)
    exact ⟨by show bs[j] < 128; omega, fun _ => this⟩
  · rw [List.getElem?_eq_none (by omega)]
    exact ⟨by decide, fun h => absurd h hj⟩
theorem zFd_step {I I' : zStore} {bs : List Nat} {f m : Nat} {X : Int64} (hb : ∀ b ∈ bs, 32 ≤ b ∧ b < 127) (hm : m ≤ 8) (hf : f + m ≤ bs.length) (hX : X.toBitVec.toNat = zpv bs f m) (h : zFd I I' bs f) : zcb X 8 = m ∧ zFd I (zfd I' X 8) bs (f + m) := by
  have hz := (zpv_by (f := f) (fun j => (getD_lt hb j).1) m hm).2
  have key : ∀ i : Nat, i ≤ 8 → zcb X i = ((i - (8 - m) : Nat) : Int) ∧ zFd I (zfd I' X i) bs (f + (i - (8 - m))) := by
    intro i
    induction i with
    | zero =>
      intro _
      rw [show 0 - (8 - m) = 0 by omega]
      exact ⟨rfl, h⟩
    | succ i ih =>
      intro hi
      obtain ⟨i1, i2⟩ := ih (by omega)
      have hy : zby X i = ((if i < 8 - m then 0 else bs.getD (f + (i - (8 - m))) 0 : Nat) : Int) := by
        rw [zby_nat (by omega), hX, hz i (by omega)]
      have hs : zcb X (i + 1) = if zcb X i = (-1) then (-1) else if zby X i = 0 then zcb X i else if 32 ≤ zby X i ∧ zby X i ≤ 126 then zcb X i + 1 else (-1) := rfl
      rw [if_neg (by omega)] at hs
      by_cases q : i < 8 - m
      · rw [if_pos q] at hy
        have e0 : zby X i = 0 := hy
        rw [if_pos e0] at hs
        rw [hs, i1, show i + 1 - (8 - m) = i - (8 - m) by omega]
        refine ⟨rfl, ?_⟩
        simp only [zfd]
        rw [if_pos e0]
        exact i2
      · rw [if_neg q] at hy
        have hbd := (getD_lt hb (f + (i - (8 - m)))).2 (by omega)
        obtain ⟨b, hbe⟩ : ∃ b, b = bs.getD (f + (i - (8 - m))) 0 := ⟨_, rfl⟩
        rw [← hbe] at hy hbd
        rw [if_neg (by omega), if_pos (by omega), i1] at hs
        rw [hs, show i + 1 - (8 - m) = i - (8 - m) + 1 by omega]
        refine ⟨by omega, ?_⟩
        obtain ⟨g1, g2, g3⟩ := i2
        simp only [zfd]
        rw [if_neg (by omega)]
        refine ⟨fun c j hc => ?_, ?_, fun j hj => ?_⟩
        · have e1 : ∀ v : Int, zup (zup (zfd I' X i) 1 (zfd I' X i 0 1) (zby X i)) 0 1 v c j = zup (zfd I' X i) 1 (zfd I' X i 0 1) (zby X i) c j := fun v => by
            by_cases hc0 : c = 0
            · subst hc0
              exact zup_i (by omega)
            · exact zup_k hc0
          rw [e1, zup_k hc.1]
          exact g1 c j hc
        · rw [zup_at, g2]
          omega
        · rw [zup_k (by decide), g2]
          by_cases hje : j = f + (i - (8 - m))
          · subst hje
            rw [zup_at, hy, hbe]
          · rw [zup_i (by omega)]
            exact g3 j (by omega)
  have := key 8 (Nat.le_refl 8)
  rw [show 8 - (8 - m) = m by omega] at this
  exact this
/-! a stored line, by its bytes -/
def zKd (bs : List Nat) (i : Nat) : Int := zkd (bs.getD i 0)
def lnOK (I : zStore) (l : Nat) (bs : List Nat) : Prop := I 3 l = bs.length ∧ (∀ i : Nat, i < bs.length → I 5 ((l : Int) * 30 + i) = bs.getD i 0) ∧ I 4 l = zcnt (zKd bs) bs.length ∧ ∀ t : Nat, t < zcnt (zKd bs) bs.length → I 6 ((l : Int) * 30 + t) = zkn (zKd bs) bs.length t ∧ I 7 ((l : Int) * 30 + t) = (l : Int) * 30 + zsn (zKd bs) bs.length t ∧ I 8 ((l : Int) * 30 + t) = zzn (zKd bs) bs.length t
theorem lnOK_c {I I' : zStore} {l : Nat} {bs : List Nat} (hb : bs.length ≤ 30) (h3 : I' 3 l = I 3 l) (h4 : I' 4 l = I 4 l) (h5 : ∀ (c : Nat) (j : Int), 5 ≤ c → c ≤ 8 → (l : Int) * 30 ≤ j → j < (l : Int) * 30 + 30 → I' c j = I c j) (h : lnOK I l bs) : lnOK I' l bs := by
  obtain ⟨a1, a2, a3, a4⟩ := h
  have hc := zcnt_le (zKd bs) bs.length
  refine ⟨h3.trans a1, fun i hi => (h5 5 _ (by decide) (by decide) (by omega) (by omega)).trans (a2 i hi), h4.trans a3, fun t ht => ?_⟩
  obtain ⟨b1, b2, b3⟩ := a4 t ht
  exact ⟨(h5 6 _ (by decide) (by decide) (by omega) (by omega)).trans b1, (h5 7 _ (by decide) (by decide) (by omega) (by omega)).trans b2, (h5 8 _ (by decide) (by decide) (by omega) (by omega)).trans b3⟩
/-- what law and build hold on to -/
def LSt (I B : zStore) (N n : Nat) : Prop := zRg I ∧ rR I B N n ∧ I 0 1 = 0 ∧ (I 10 1 ≤ 7 ∧ I 10 2 ≤ 7 ∧ I 10 3 ≤ 7) ∧ ∀ l : Nat, l < N → ∃ bs, zPline bs ∧ lnOK I l bs
theorem zsto_new {A : zStore} {N z : Nat} {V : Nat → Int} {bs : List Nat} (hz : z = bs.length) (hb : ∀ i : Nat, i < bs.length → A 1 i = bs.getD i 0) : lnOK (zsto A N z V) N bs := by
  subst hz
  have hk : ∀ i, i < bs.length → zkb (zad1 A N bs.length) N i = zKd bs i := fun i hi => by
    unfold zkb zKd zad1
    rw [zup_k (by decide), zfl_in hi rfl, hb i hi]
  obtain ⟨hcn, hall⟩ := zcnt_c bs.length hk
  refine ⟨?_, fun i hi => ?_, ?_, fun t ht => ?_⟩
  · rw [zsto_o (by decide)]
    unfold zad2
    rw [zup_k (by decide), zct_o (by decide) (by decide) (by decide)]
    unfold zad1
    rw [zup_at]
  · rw [zsto_o (by decide)]
    unfold zad2
    rw [zup_k (by decide), zct_o (by decide) (by decide) (by decide)]
    unfold zad1
    rw [zup_k (by decide), zfl_in hi rfl, hb i hi]
  · rw [zsto_o (by decide), zad2_4, if_pos rfl, hcn]
  · obtain ⟨e1, e2, e3⟩ := hall t
    have ht' : t < zcnt (zkb (zad1 A N bs.length) N) bs.length := by rw [hcn]; exact ht
    refine ⟨?_, ?_, ?_⟩
    · rw [zsto_o (by decide)]
      unfold zad2
      rw [zup_k (by decide)]
      unfold zct
      rw [zfl_k (by decide), zfl_k (by decide), zfl_in ht' rfl, e1]
    · rw [zsto_o (by decide)]
      unfold zad2
      rw [zup_k (by decide)]
      unfold zct
      rw [zfl_k (by decide), zfl_in ht' rfl, e2]
    · rw [zsto_o (by decide)]
      unfold zad2
      rw [zup_k (by decide)]
      unfold zct
      rw [zfl_in ht' rfl, e3]
theorem zsto_old {A : zStore} {N z l : Nat} {V : Nat → Int} {bs : List Nat} (hz : z ≤ 30) (hl : l < N) (hb : bs.length ≤ 30) (h : lnOK A l bs) : lnOK (zsto A N z V) l bs := by
  have hc := zcnt_le (zkb (zad1 A N z) N) z
  refine lnOK_c hb ?_ ?_ (fun c j h1 h2 h3 h4 => ?_) h
  · rw [zsto_o (by decide)]
    unfold zad2
    rw [zup_k (by decide), zct_o (by decide) (by decide) (by decide)]
    unfold zad1
    rw [zup_i (by omega), zfl_k (by decide)]
  · rw [zsto_o (by decide), zad2_4, if_neg (by omega)]
  · rw [zsto_o (by omega)]
    unfold zad2
    rw [zup_k (by omega)]
    have hlt : j < (N : Int) * 30 := by omega
    by_cases c5 : c = 5
    · subst c5
      rw [zct_o (by decide) (by decide) (by decide)]
      unfold zad1
      rw [zup_k (by decide), zfl_out (Or.inl hlt)]
    · have c678 : c = 6 ∨ c = 7 ∨ c = 8 := by omega
      unfold zct
      rcases c678 with rfl | rfl | rfl
      · rw [zfl_k (by decide), zfl_k (by decide), zfl_out (Or.inl hlt)]
        unfold zad1
        rw [zup_k (by decide), zfl_k (by decide)]
      · rw [zfl_k (by decide), zfl_out (Or.inl hlt), zfl_k (by decide)]
        unfold zad1
        rw [zup_k (by decide), zfl_k (by decide)]
      · rw [zfl_out (Or.inl hlt), zfl_k (by decide), zfl_k (by decide)]
        unfold zad1
        rw [zup_k (by decide), zfl_k (by decide)]
