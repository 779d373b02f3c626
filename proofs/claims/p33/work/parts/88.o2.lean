/-! the meaning of a merge -/
theorem zcnt12 {bs : List Nat} (h : zPline bs) : zcnt (zKd bs) bs.length ≤ 12 := by
  rw [← tTx_len]
  exact (line_facts h).1
theorem zseq_all {bt : Int → Int} {a b : Int} : ∀ n : Nat, (∀ j : Nat, j < n → bt (a + j) = bt (b + j)) → zseq bt a b n = true
  | 0, _ => rfl
  | n + 1, h => by
    simp only [zseq]
    rw [zseq_all n (fun j hj => h j (by omega)), h n (by omega)]
    simp
/-- tokens with one text are the same texts -/
theorem same_text {I : zStore} {k l a b : Nat} {A B x : List Nat} (hA : lnOK I k A) (hB : lnOK I l B) (ha : (tTx A)[a]? = some x) (hb : (tTx B)[b]? = some x) : zsm I ((k : Int) * 30 + a) ((l : Int) * 30 + b) = true := by
  have la : a < zcnt (zKd A) A.length := by
    rw [← tTx_len]
    exact (List.getElem?_eq_some_iff.mp ha).1
  have lb : b < zcnt (zKd B) B.length := by
    rw [← tTx_len]
    exact (List.getElem?_eq_some_iff.mp hb).1
  obtain ⟨a0, x1, a1, a2, a3, a4, a5⟩ := tTx_at la
  obtain ⟨b0, x2, b1, b2, b3, b4, b5⟩ := tTx_at lb
  have e1 : x1 = x := Option.some.inj (a1.symm.trans ha)
  have e2 : x2 = x := Option.some.inj (b1.symm.trans hb)
  subst e1
  subst e2
  obtain ⟨-, pA, -, tA⟩ := hA
  obtain ⟨-, pB, -, tB⟩ := hB
  obtain ⟨-, sA, zA⟩ := tA a la
  obtain ⟨-, sB, zB⟩ := tB b lb
  unfold zsm
  rw [sA, sB, zA, zB, a2, a3, b2, b3]
  rw [Bool.and_eq_true]
  refine ⟨by simp, zseq_all _ (fun j hj => ?_)⟩
  have hj : j < x2.length := by omega
  rw [show (k : Int) * 30 + (a0 : Int) + (j : Int) = (k : Int) * 30 + ((a0 + j : Nat) : Int) by push_cast; omega, show (l : Int) * 30 + (b0 : Int) + (j : Int) = (l : Int) * 30 + ((b0 + j : Nat) : Int) by push_cast; omega, pA (a0 + j) (by omega), pB (b0 + j) (by omega), ← a5 j hj, ← b5 j hj]
theorem zmu_le {u : Int → Int} {s : Int} {v : Int} {N : Nat} (h : ∀ l : Nat, l < N → u (12 * (40 * 0 + s) + l) ≠ (-1) → zbit v l = 1) : ∀ k : Nat, k ≤ N → zmu u 0 s k ≤ zsum v k
  | 0, _ => Int.le_refl _
  | k + 1, hk => by
    have ih := zmu_le h k (by omega)
    have hb := zbit_01 v k
    have e1 : zmu u 0 s (k + 1) = zmu u 0 s k + if u (12 * (40 * 0 + s) + k) = (-1) then 0 else 1 := rfl
    have e2 : zsum v (k + 1) = zsum v k + zbit v k := rfl
    rw [e1, e2]
    by_cases q : u (12 * (40 * 0 + s) + k) = (-1)
    · rw [if_pos q]
      omega
    · rw [if_neg q, h k (by omega) q]
      omega
theorem range_getD (l : List (List Nat)) : (List.range l.length).map (fun t => l.getD t []) = l := by
  apply List.ext_getElem?
  intro i
  rw [List.getElem?_map]
  by_cases h : i < l.length
  · rw [List.getElem?_range h, List.getElem?_eq_getElem h]
    show some (l.getD i []) = _
    rw [List.getD_eq_getElem?_getD, List.getElem?_eq_getElem h]
    rfl
  · rw [List.getElem?_eq_none (by rw [List.length_range]; omega), List.getElem?_eq_none (by omega)]
    rfl
/-- of a row of A's texts, all but those of its pairs lie on its new slots -/
theorem drop_pairs {w : Nat → Int} {P : Nat → Nat × Nat} {K n m : Nat} {T : List (List Nat)} (h : zWy w P K n m) (hT : T.length = m) : ∀ i, i ≤ K → ∀ W : List (List Nat), List.Sublist W (T.take (P (K - i)).2) → ∃ W', List.Sublist W' W ∧ List.Sublist W' ((List.range i).filterMap (fun i => if w (K - 1 - i) = 2 then T[(P (K - i)).2]? else none)) ∧ W.length ≤ W'.length + (zp0 w K - zp0 w (K - i))
  | 0, _, W, hW => by
    rw [Nat.sub_zero, h.2.2.1] at hW
    have : W = [] := List.sublist_nil.mp hW
    subst this
    exact ⟨[], List.Sublist.refl _, List.nil_sublist _, Nat.zero_le _⟩
  | i + 1, hi, W, hW => by
    obtain ⟨j, hj⟩ : ∃ j, j = K - 1 - i := ⟨_, rfl⟩
    have e1 : K - (i + 1) = j := by omega
    have e2 : K - i = j + 1 := by omega
    have h1 := (h.2.2.2 j (by omega)).2
    have h2 := h.1 j (by omega)
    have h3 := zWy_le h (k := j) (by omega)
    have hz : zp0 w (j + 1) = zp0 w j + if w j = 0 then 1 else 0 := rfl
    have hmo := zp0_mono w (j + 1) (K - (j + 1))
    rw [show j + 1 + (K - (j + 1)) = K by omega] at hmo
    have rr : (List.range (i + 1)).filterMap (fun i => if w (K - 1 - i) = 2 then T[(P (K - i)).2]? else none) = (List.range i).filterMap (fun i => if w (K - 1 - i) = 2 then T[(P (K - i)).2]? else none) ++ (if w j = 2 then T[(P (j + 1)).2]? else none).toList := by
      rw [List.range_succ, List.filterMap_append]
      congr 1
      have e3 : (fun i => if w (K - 1 - i) = 2 then T[(P (K - i)).2]? else none) i = (if w j = 2 then T[(P (j + 1)).2]? else none) := by
        show (if w (K - 1 - i) = 2 then T[(P (K - i)).2]? else none) = _
        rw [← hj, e2]
      rw [← e3]
      cases hx : (fun i => if w (K - 1 - i) = 2 then T[(P (K - i)).2]? else none) i <;> simp only [List.filterMap_cons, hx, List.filterMap_nil, Option.toList]
    rw [e1] at hW ⊢
    have ih := drop_pairs h hT i (by omega)
    rw [e2] at ih
    by_cases c1 : w j = 1
    · rw [if_pos c1] at h1
      have h1' : (P j).2 = (P (j + 1)).2 := h1
      rw [h1'] at hW
      obtain ⟨W', s1, s2, s3⟩ := ih W hW
      refine ⟨W', s1, ?_, ?_⟩
      · rw [rr]
        exact s2.trans (List.sublist_append_left _ _)
      · rw [if_neg (by omega)] at hz
        omega
    · rw [if_neg c1] at h1
      have hlt : (P (j + 1)).2 < T.length := by omega
      have htk : T.take (P j).2 = T.take (P (j + 1)).2 ++ [T[(P (j + 1)).2]] := by
        rw [h1, List.take_succ, List.getElem?_eq_getElem hlt]
        rfl
      rw [htk, List.sublist_append_iff] at hW
      obtain ⟨W1, W2, we, w1, w2⟩ := hW
      have hl2 := w2.length_le
      obtain ⟨W', s1, s2, s3⟩ := ih W1 w1
      by_cases c2 : w j = 2
      · refine ⟨W' ++ W2, ?_, ?_, ?_⟩
        · rw [we]
          exact s1.append (List.Sublist.refl _)
        · rw [rr, if_pos c2, List.getElem?_eq_getElem hlt]
          exact s2.append w2
        · rw [if_neg (by omega)] at hz
          rw [we, List.length_append, List.length_append]
          omega
      · refine ⟨W', ?_, ?_, ?_⟩
        · rw [we]
          exact s1.trans (List.sublist_append_left _ _)
        · rw [rr]
          exact s2.trans (List.sublist_append_left _ _)
        · rw [if_pos (by omega)] at hz
          rw [we, List.length_append]
          have : W2.length ≤ 1 := hl2
          omega
section SEM
variable {I B : zStore} {N n k m : Nat}
theorem LSt.tok (hS : LSt I B N n) (hk : k < N) (hm : I 4 k = m) : m ≤ 12 := by
  obtain ⟨h1, h2, h3, h4, h5⟩ := hS
  obtain ⟨bs, b1, b2⟩ := h5 k hk
  have := zcnt12 b1
  have := b2.2.2.1
  omega
/-- the new slots of a merge, from the way's end on: the slot of the step j -/
theorem mg_slot (hR : rR I B N n) (hk : k < N) (hm : I 4 k = m) (hK : zK I 15 k n m ≤ 40) {j : Nat} (hj : j < zK I 15 k n m) : zmg I k n m 16 ((zK I 15 k n m - 1 - j : Nat) : Int) = zid I 15 n (zw_ I 15 k n m) (zP_ I 15 k n m) j ∧ zmg I k n m 18 (zid I 15 n (zw_ I 15 k n m) (zP_ I 15 k n m) j) = zn3 I 15 n k (zw_ I 15 k n m) (zP_ I 15 k n m) j ∧ zmg I k n m 21 (zid I 15 n (zw_ I 15 k n m) (zP_ I 15 k n m) j) = zn6 I 15 n (zw_ I 15 k n m) (zP_ I 15 k n m) j ∧ zmg I k n m 17 (zid I 15 n (zw_ I 15 k n m) (zP_ I 15 k n m) j) = zn2 I 15 n k (zw_ I 15 k n m) (zP_ I 15 k n m) j ∧ ∀ l : Nat, l < 12 → zU (zmaj B 0 k n m) (zK I 15 k n m - 1 - j) l = if l = k ∧ zw_ I 15 k n m j ≠ 1 then ((zP_ I 15 k n m (j + 1)).2 : Int) else if zw_ I 15 k n m j = 2 then (-1) else zU B (zP_ I 15 k n m (j + 1)).1 l := by
  have hn : I 15 0 = n := hR.2.2.2.1.1.1
  have hn2 := hR.2.2.2.1.1.2.2
  have hF := p_Fo hR
  have hq := zaj_sl (A := I) (b := 15) (line := k) (n := n) (m := m) (by decide) hn hF.1 hR.2.2.2.1.2.2.2 hj
  have eK := r_K hR.1 hR.2.2.1 hR.2.2.2.1 hk hm
  have ew := r_w hR.1 hR.2.2.1 hR.2.2.2.1 hk hm
  have eP := r_P hR.1 hR.2.2.1 hR.2.2.2.1 hk hm
  have hs := (zmaj_sl (B := B) (f := 0) (line := k) (n := n) (m := m) (k := j) (by rw [eK]; exact hj) (by rw [eK]; exact hK)).2.2
  rw [eK, ew, eP] at hs
  refine ⟨?_, ?_, ?_, ?_, fun l hl => hs l hl⟩
  · rw [zmg_o (by decide) (by decide)]; exact hq.1
  · rw [zmg_o (by decide) (by decide)]; exact hq.2.2.1
  · rw [zmg_o (by decide) (by decide)]; exact hq.2.2.2.2.2.1
  · rw [zmg_o (by decide) (by decide)]; exact hq.2.1
theorem rMs.merge (hS : LSt I B N n) (hM : rMs I B N n) (hk : k < N) (hm : I 4 k = m) (h0 : I 22 k = 0) (hK : zK I 15 k n m ≤ 40) : rMs (zmg I k n m) (zmaj B 0 k n m) N (zK I 15 k n m) := by
  have hR := hS.2.1
  have hN := hR.1.1.2.2
  have hW := r_Wy (I := I) (b := 15) (l9 := k) (n := n) (m := m)
  have hz : zbit (B 119 0) k = 0 := by rw [← hR.2.2.2.2.1.1 k (by omega)]; exact h0
  have h9 : zmg I k n m 9 = I 9 := funext fun j => by
    rw [zmg_o (by decide) (by decide), zaj_o (by decide) (by decide) (by decide) (by decide) (by decide)]
  have hle : ∀ j, j < zK I 15 k n m → zw_ I 15 k n m j ≠ 2 → (zP_ I 15 k n m (j + 1)).1 < n := fun j hj hw => by
    have h1 := hW.2.2.2 j hj
    rw [if_neg hw] at h1
    have h2 := zWy_le hW (k := j) (by omega)
    omega
  refine ⟨fun i hi l hl hu => ?_, fun i j hij hj l hl hu hv => ?_⟩
  · obtain ⟨a, ha, rfl⟩ : ∃ a, a < zK I 15 k n m ∧ i = zK I 15 k n m - 1 - a := ⟨zK I 15 k n m - 1 - i, by omega, by omega⟩
    obtain ⟨s1, s2, -, -, s5⟩ := mg_slot hR hk hm hK ha
    have s5 := s5 l (by omega)
    rw [s1, s2, h9]
    unfold zn3 zip_
    have hw := hW.1 a ha
    by_cases w2 : zw_ I 15 k n m a = 2
    · rw [if_pos w2]
      by_cases e : l = k
      · subst e
        rw [if_pos ⟨rfl, by omega⟩] at s5
        rw [s5]
        exact Or.inr rfl
      · rw [if_neg (fun q => e q.1), if_pos w2] at s5
        exact absurd s5 hu
    · rw [if_neg w2]
      have hid : zid I 15 n (zw_ I 15 k n m) (zP_ I 15 k n m) a = I 16 (zP_ I 15 k n m (a + 1)).1 := by
        unfold zid
        rw [if_neg w2]
      have hlt := hle a ha w2
      have hold := hM.1 _ hlt l hl
      rw [hid]
      show (if zw_ I 15 k n m a = 0 then (if I 18 (I 16 (zP_ I 15 k n m (a + 1)).1) = I 9 ((k : Int) * 30 + (zP_ I 15 k n m (a + 1)).2) then I 18 (I 16 (zP_ I 15 k n m (a + 1)).1) else (-1)) else I 18 (I 16 (zP_ I 15 k n m (a + 1)).1)) = (-1) ∨ _ = _
      by_cases w0 : zw_ I 15 k n m a = 0
      · rw [if_pos w0]
        by_cases ht : I 18 (I 16 (zP_ I 15 k n m (a + 1)).1) = I 9 ((k : Int) * 30 + (zP_ I 15 k n m (a + 1)).2)
        · rw [if_pos ht]
          by_cases e : l = k
          · subst e
            rw [if_pos ⟨rfl, by omega⟩] at s5
            rw [s5]
            exact Or.inr ht
          · rw [if_neg (fun q => e q.1), if_neg w2] at s5
            rw [s5] at hu ⊢
            exact hold hu
        · rw [if_neg ht]
          exact Or.inl rfl
      · rw [if_neg w0]
        by_cases e : l = k
        · subst e
          rw [if_neg (fun q => q.2 (by omega)), if_neg w2] at s5
          rw [s5] at hu
          exact absurd (zU_no hR hk hz hlt) hu
        · rw [if_neg (fun q => e q.1), if_neg w2] at s5
          rw [s5] at hu ⊢
          exact hold hu
  · obtain ⟨a, ha, rfl⟩ : ∃ a, a < zK I 15 k n m ∧ i = zK I 15 k n m - 1 - a := ⟨zK I 15 k n m - 1 - i, by omega, by omega⟩
    obtain ⟨b, hb, rfl⟩ : ∃ b, b < zK I 15 k n m ∧ j = zK I 15 k n m - 1 - b := ⟨zK I 15 k n m - 1 - j, by omega, by omega⟩
    have hba : b < a := by omega
    have sa := (mg_slot hR hk hm hK ha).2.2.2.2 l (by omega)
    have sb := (mg_slot hR hk hm hK hb).2.2.2.2 l (by omega)
    have hma := zWy_mono hW (b + 1) (a - (b + 1)) (by omega)
    rw [show b + 1 + (a - (b + 1)) = a by omega] at hma
    have hsa := hW.2.2.2 a ha
    have hwa := hW.1 a ha
    have hwb := hW.1 b hb
    by_cases e : l = k
    · subst e
      have none : ∀ s, s < n → zU B s l = (-1) := fun s hs => zU_no hR hk hz hs
      have wa : zw_ I 15 l n m a ≠ 1 := fun q => by
        rw [if_neg (fun z => z.2 q), if_neg (by omega)] at sa
        rw [none _ (hle a ha (by omega))] at sa
        exact hu sa
      have wb : zw_ I 15 l n m b ≠ 1 := fun q => by
        rw [if_neg (fun z => z.2 q), if_neg (by omega)] at sb
        rw [none _ (hle b hb (by omega))] at sb
        exact hv sb
      rw [if_pos ⟨rfl, wa⟩] at sa
      rw [if_pos ⟨rfl, wb⟩] at sb
      rw [sa, sb]
      rw [if_neg wa] at hsa
      have := hma.2
      omega
    · rw [if_neg (fun q => e q.1)] at sa sb
      have wa : zw_ I 15 k n m a ≠ 2 := fun q => by
        rw [if_pos q] at sa
        exact hu sa
      have wb : zw_ I 15 k n m b ≠ 2 := fun q => by
        rw [if_pos q] at sb
        exact hv sb
      rw [if_neg wa] at sa
      rw [if_neg wb] at sb
      rw [sa] at hu ⊢
      rw [sb] at hv ⊢
      rw [if_neg wa] at hsa
      have := hma.1
      exact hM.2 _ _ (by omega) (hle b hb wb) l hl hu hv
/-- the new slots: which are skipped at what cost, which are free for a text -/
theorem mg_skip (hS : LSt I B N n) (hn : 0 < n) (hk : k < N) (hm : I 4 k = m) (h0 : I 22 k = 0) (hK : zK I 15 k n m ≤ 40) {j : Nat} (hj : j < zK I 15 k n m) : (zw_ I 15 k n m j ≠ 0 → zs_ (zmg I k n m) 15 (zK I 15 k n m - 1 - j) = 1) ∧ zs_ (zmg I k n m) 15 (zK I 15 k n m - 1 - j) ≤ 7 := by
  have hR := hS.2.1
  have hN := hR.1.1.2.2
  have hS' := hS.merge hk hm h0 hK
  have hW := r_Wy (I := I) (b := 15) (l9 := k) (n := n) (m := m)
  obtain ⟨s1, -, s3, -, -⟩ := mg_slot hR hk hm hK hj
  have hco := hS'.2.2.2.1.2.1
  have hj1 : I 15 1 = zbc (B 119 0) := hR.2.2.2.1.2.1.2.2.1
  have hb := zbcN_sum 12 (B 119 0)
  have hb : zbc (B 119 0) = zsum (B 119 0) 12 := hb
  have h151 : zmg I k n m 15 1 = I 15 1 + 1 := by
    rw [zmg_o (by decide) (by decide), zaj_1 (by decide)]
  have hle : ∀ i, i < n → I 21 (I 16 i) ≤ I 15 1 := fun i hi => by
    have hsl := r_sl hR hi
    have h1 := zmu_le (N := N) (u := B 122) (s := i) (v := B 119 0) (fun l hl hx => (hsl.2.2.2.2 l (by omega) hx).1) N (Nat.le_refl N)
    have h2 := zsum_mono (B 119 0) N (12 - N)
    rw [show N + (12 - N) = 12 by omega] at h2
    rw [hsl.2.2.2.1, hj1, hb]
    omega
  have hJ : 1 ≤ I 15 1 := by
    obtain ⟨g1, g2, -⟩ := hR.2.2.2.2.1.2.2.2 0 hn
    have hpos : ∀ l : Nat, l < N → B 122 (12 * (40 * 0 + ((0 : Nat) : Int)) + l) ≠ (-1) → 1 ≤ B 117 (30 * l + B 122 (12 * (40 * 0 + ((0 : Nat) : Int)) + l)) := fun l hl hx => by
      obtain ⟨t2, f0, f1, -⟩ := r_use hR hl hn hx
      have hT := ((hR.1.2.1 l hl).2.2.2 t2 f1).2.2.1
      rw [f0, show (30 * (l : Int) + (t2 : Int)) = (l : Int) * 30 + t2 by omega, hT.2.2.1]
      exact hT.1
    rcases zme_P (u := B 122) (z := B 117) (slot := ((0 : Nat) : Int)) (g := 0) N hpos with ⟨z, -⟩ | ⟨⟨l, hl, hx, -⟩, -⟩
    · omega
    · have hbit := ((r_sl hR hn).2.2.2.2 l (by omega) hx).1
      have h1 := zsum_mono (B 119 0) 0 l
      have h2 := zsum_mono (B 119 0) (l + 1) (12 - (l + 1))
      rw [show l + 1 + (12 - (l + 1)) = 12 by omega] at h2
      have h3 : zsum (B 119 0) (l + 1) = zsum (B 119 0) l + zbit (B 119 0) l := rfl
      have h4 : zsum (B 119 0) 0 = 0 := rfl
      rw [Nat.zero_add] at h1
      omega
  have hv : zs_ (zmg I k n m) 15 (zK I 15 k n m - 1 - j) = if zn6 I 15 n (zw_ I 15 k n m) (zP_ I 15 k n m) j < I 15 1 + 1 then 1 else zmg I k n m 10 2 := by
    show (if zmg I k n m 21 (zmg I k n m 16 ((zK I 15 k n m - 1 - j : Nat) : Int)) < zmg I k n m 15 1 then (1 : Int) else zmg I k n m 10 2) = _
    rw [s1, s3, h151]
  refine ⟨fun h => ?_, ?_⟩
  · rw [hv]
    have h1 := hW.1 j hj
    have h6 : zn6 I 15 n (zw_ I 15 k n m) (zP_ I 15 k n m) j < I 15 1 + 1 := by
      unfold zn6
      rcases h1 with h1 | h1 | h1
      · exact absurd h1 h
      · rw [if_neg (by omega), if_neg (by omega)]
        unfold zid
        rw [if_neg (by omega)]
        have h2 := (hW.2.2.2 j hj).1
        rw [if_neg (by omega)] at h2
        have h3 := zWy_le hW (k := j) (by omega)
        have := hle (zP_ I 15 k n m (j + 1)).1 (by omega)
        show I 21 (I 16 (zP_ I 15 k n m (j + 1)).1) < _
        omega
      · rw [if_pos h1]
        omega
    rw [if_pos h6]
  · rw [hv]
    split
    · decide
    · exact hco
theorem mul_le {F : Int} (hF : 1 ≤ F) {a b c : Nat} (h : F * (a : Int) ≤ F * (b : Int) + 6 * (c : Int)) : a ≤ b + 6 * c := by
  by_cases q : a ≤ b
  · omega
  · have e : F * (a : Int) = F * (b : Int) + F * ((a - b : Nat) : Int) := by
      rw [← Int.mul_add]
      congr 1
      omega
    have h1 : (1 : Int) * ((a - b : Nat) : Int) ≤ F * ((a - b : Nat) : Int) := Int.mul_le_mul_of_nonneg_right hF (by omega)
    rw [Int.one_mul] at h1
    omega
theorem OVp.merge (hS : LSt I B N n) (hn : n ≤ 20) (hk : k < N) (hm : I 4 k = m) (h0 : I 22 k = 0) (hK : zK I 15 k n m ≤ 40) : OVp (zmg I k n m) N (zK I 15 k n m) := by
  by_cases q28 : zK I 15 k n m ≤ 28
  · exact Or.inl q28
  refine Or.inr fun l m2 hl hm2 h22 => ?_
  have hR := hS.2.1
  have hN := hR.1.1.2.2
  have hS' := hS.merge hk hm h0 hK
  have m12 := hS.tok hk hm
  have m212 := hS'.tok hl hm2
  have hKm : zK I 15 k n m ≤ n + m := zlen_le
  have hn0 : 0 < n := by omega
  have hW := r_Wy (I := I) (b := 15) (l9 := k) (n := n) (m := m)
  have hW2 := r_Wy (I := zmg I k n m) (b := 15) (l9 := l) (n := zK I 15 k n m) (m := m2)
  obtain ⟨K, hKe⟩ : ∃ K, K = zK I 15 k n m := ⟨_, rfl⟩
  obtain ⟨I', hI'⟩ : ∃ I', I' = zmg I k n m := ⟨_, rfl⟩
  obtain ⟨K2, hK2⟩ : ∃ K2, K2 = zK I' 15 l K m2 := ⟨_, rfl⟩
  have hskip : ∀ j, j < K → (zw_ I 15 k n m j ≠ 0 → zs_ I' 15 (K - 1 - j) = 1) ∧ zs_ I' 15 (K - 1 - j) ≤ 7 := fun j hj => by
    rw [hKe] at hj
    have := mg_skip hS hn0 hk hm h0 hK hj
    rw [hI', hKe]
    exact this
  have hslot : ∀ j, j < K → zw_ I 15 k n m j = 2 → I' 17 (I' 16 ((K - 1 - j : Nat) : Int)) = I 6 ((k : Int) * 30 + (zP_ I 15 k n m (j + 1)).2) ∧ I' 18 (I' 16 ((K - 1 - j : Nat) : Int)) = I 9 ((k : Int) * 30 + (zP_ I 15 k n m (j + 1)).2) := fun j hj h2 => by
    rw [hKe] at hj
    obtain ⟨s1, s2, -, s4, -⟩ := mg_slot hR hk hm hK hj
    rw [hI', hKe, s1, s2, s4]
    unfold zn2 zn3 zip_
    rw [if_pos h2, if_pos h2]
    exact ⟨rfl, rfl⟩
  have h6 : ∀ j : Int, I' 6 j = I 6 j := fun j => by
    rw [hI', zmg_o (by decide) (by decide), zaj_o (by decide) (by decide) (by decide) (by decide) (by decide)]
  have h9 : ∀ j : Int, I' 9 j = I 9 j := fun j => by
    rw [hI', zmg_o (by decide) (by decide), zaj_o (by decide) (by decide) (by decide) (by decide) (by decide)]
  have h4 : ∀ j : Int, I' 4 j = I 4 j := fun j => by
    rw [hI', zmg_o (by decide) (by decide), zaj_o (by decide) (by decide) (by decide) (by decide) (by decide)]
  have hf0 : 0 ≤ I' 10 3 := by rw [hI']; exact hS'.2.1.2.2.1.2.2.1
  have hco1 : 0 ≤ I' 10 1 ∧ I' 10 1 ≤ 20 := by rw [hI']; exact ⟨hS'.2.1.2.2.1.1.1, hS'.2.1.2.2.1.1.2.1⟩
  rw [← hI', ← hKe] at hW2
  rw [← hI'] at hm2
  rw [← hKe] at q28 hKm hW hK
  rw [← hI', ← hKe, ← hK2]
  rw [← hK2] at hW2
  -- counts
  have c1 := zp0_m hW K (Nat.le_refl K)
  rw [hW.2.2.1] at c1
  have c2 := zWy_K hW
  have d1 := zp0_m hW2 K2 (Nat.le_refl K2)
  rw [hW2.2.2.1] at d1
  have d2 := zWy_K hW2
  obtain ⟨p1, hp1⟩ : ∃ p1, p1 = zp0 (zw_ I 15 k n m) K := ⟨_, rfl⟩
  obtain ⟨p2, hp2⟩ : ∃ p2, p2 = zp0 (zw_ I' 15 l K m2) K2 := ⟨_, rfl⟩
  rw [← hp1] at c1
  rw [← hp2] at d1
  have c1 : ((0 : Nat) : Int) + zfc (zw_ I 15 k n m) K + p1 = m := c1
  have d1 : ((0 : Nat) : Int) + zfc (zw_ I' 15 l K m2) K2 + p2 = m2 := d1
  -- the lines
  obtain ⟨A, plA, okA⟩ := hS.2.2.2.2 k hk
  obtain ⟨Bb, plB, okB⟩ := hS.2.2.2.2 l hl
  have lenA : (tTx A).length = m := by
    have := okA.2.2.1
    rw [tTx_len]
    omega
  have lenB : (tTx Bb).length = m2 := by
    have := okB.2.2.1
    have := h4 l
    rw [tTx_len]
    omega
  obtain ⟨-, fA9, fA11, fA12⟩ := line_facts plA
  obtain ⟨-, fB9, fB11, fB12⟩ := line_facts plB
  rw [lenA] at fA9 fA11 fA12
  rw [lenB] at fB9 fB11 fB12
  -- free pairs
  obtain ⟨e, he⟩ : ∃ e : Nat → Nat → Bool, e = fun i t => decide (zq_ I' 15 l i t = 0 ∧ zs_ I' 15 i = 1) := ⟨_, rfl⟩
  have hup := zC_up (s := zs_ I' 15) (f := I' 10 3) (q := zq_ I' 15 l) (e := e) hf0 (fun i t h => by rw [he] at h; exact of_decide_eq_true h) K m2
  have hlow := zC_low (I := I') (l := l) (n := K) (m := m2) (no := fun i => decide (zw_ I 15 k n m (K - 1 - i) = 0)) (fun i hi => by
    have h1 := hskip (K - 1 - i) (by omega)
    rw [show K - 1 - (K - 1 - i) = i by omega] at h1
    by_cases c : zw_ I 15 k n m (K - 1 - i) = 0
    · rw [if_pos (decide_eq_true c)]
      have := h1.2
      omega
    · rw [if_neg (fun z => c (of_decide_eq_true z)), h1.1 c]
      decide) (fun i t => (zpc_bd hco1).1) hf0 K2 0 (by omega)
  rw [← hK2, ← hp2, hW2.2.1] at hlow
  have hnp := zpN_no (w := zw_ I' 15 l K m2) (P := zP_ I' 15 l K m2) (no := fun i => decide (zw_ I 15 k n m (K - 1 - i) = 0)) (NA := fun i => zp0 (zw_ I 15 k n m) K - zp0 (zw_ I 15 k n m) (K - i)) hW2 (fun i hi => by
    have hz : zp0 (zw_ I 15 k n m) (K - 1 - i + 1) = zp0 (zw_ I 15 k n m) (K - 1 - i) + if zw_ I 15 k n m (K - 1 - i) = 0 then 1 else 0 := rfl
    have hmo := zp0_mono (zw_ I 15 k n m) (K - 1 - i + 1) i
    rw [show K - 1 - i + 1 + i = K by omega] at hmo
    rw [show K - 1 - i + 1 = K - i by omega] at hz hmo
    show zp0 (zw_ I 15 k n m) K - zp0 (zw_ I 15 k n m) (K - i) + _ ≤ zp0 (zw_ I 15 k n m) K - zp0 (zw_ I 15 k n m) (K - (i + 1))
    rw [show K - (i + 1) = K - 1 - i by omega]
    by_cases c : zw_ I 15 k n m (K - 1 - i) = 0
    · rw [if_pos (decide_eq_true c)]
      rw [if_pos c] at hz
      omega
    · rw [if_neg (fun z => c (of_decide_eq_true z))]
      rw [if_neg c] at hz
      omega) K2 0 (by omega)
  rw [hW2.2.1] at hnp
  have hnp2 := zpN_le (w := zw_ I' 15 l K m2) (P := zP_ I' 15 l K m2) (no := fun i => decide (zw_ I 15 k n m (K - 1 - i) = 0)) K2
  rw [← hp2] at hnp2
  obtain ⟨np, hnpe⟩ : ∃ np, np = zpN (zw_ I' 15 l K m2) (zP_ I' 15 l K m2) (fun i => decide (zw_ I 15 k n m (K - 1 - i) = 0)) K2 := ⟨_, rfl⟩
  rw [← hnpe] at hnp hnp2 hlow
  have hnp : np ≤ 0 + (zp0 (zw_ I 15 k n m) K - zp0 (zw_ I 15 k n m) (K - K)) := hnp
  have hlow : zSs (zs_ I' 15) K + (m2 : Int) * I' 10 3 + (I' 10 3 + 1) * ((0 : Nat) : Int) + 6 * ((0 : Nat) : Int) ≤ zCC I' 15 l K m2 + (I' 10 3 + 1) * (p2 : Int) + 6 * (np : Int) := hlow
  have hCC : zCC I' 15 l K m2 = zC (zs_ I' 15) (I' 10 3) (zq_ I' 15 l) K m2 := rfl
  have hz0 : (I' 10 3 + 1) * ((0 : Nat) : Int) = 0 := by simp
  rw [hz0, hCC] at hlow
  have hfin := mul_le (F := I' 10 3 + 1) (by omega) (a := zLc e K m2) (b := p2) (c := np) (by omega)
  -- a common row of texts
  have main : ∀ W : List (List Nat), List.Sublist W (tTx A) → List.Sublist W (tTx Bb) → W.length ≤ p1 + p2 + 6 * np := fun W w1 w2 => by
    have hW0 : (zP_ I 15 k n m (K - K)).2 = m := by
      rw [Nat.sub_self, hW.2.1]
    obtain ⟨W', s1, s2, s3⟩ := drop_pairs hW lenA K (Nat.le_refl K) W (by rw [hW0, ← lenA, List.take_length]; exact w1)
    have s3 : W.length ≤ W'.length + (zp0 (zw_ I 15 k n m) K - zp0 (zw_ I 15 k n m) (K - K)) := s3
    have hsub := zLc_sub (e := e) (X := fun i => if zw_ I 15 k n m (K - 1 - i) = 2 then (tTx A)[(zP_ I 15 k n m (K - i)).2]? else none) (Y := fun t => (tTx Bb).getD t []) K m2 (fun a b ha hb hx => ?_) W' s2 (by rw [← lenB, range_getD]; exact s1.trans w2)
    · omega
    · have hx : (if zw_ I 15 k n m (K - 1 - a) = 2 then (tTx A)[(zP_ I 15 k n m (K - a)).2]? else none) = some ((tTx Bb).getD b []) := hx
      by_cases c : zw_ I 15 k n m (K - 1 - a) = 2
      · rw [if_pos c] at hx
        have hsk := (hskip (K - 1 - a) (by omega)).1 (by omega)
        have hsl := hslot (K - 1 - a) (by omega) c
        rw [show K - 1 - (K - 1 - a) = a by omega] at hsk hsl
        rw [show K - 1 - a + 1 = K - a by omega] at hsl
        obtain ⟨a0, ha0⟩ : ∃ a0, a0 = (zP_ I 15 k n m (K - a)).2 := ⟨_, rfl⟩
        rw [← ha0] at hx hsl
        have hbt : (tTx Bb)[b]? = some ((tTx Bb).getD b []) := by
          rw [List.getD_eq_getElem?_getD, List.getElem?_eq_getElem (by omega)]
          rfl
        have hsm := same_text okA okB hx hbt
        have la : a0 < m := by
          have := (List.getElem?_eq_some_iff.mp hx).1
          omega
        have pA : rPl I N ((k : Int) * 30 + a0) := ⟨k, a0, hk, by omega, rfl⟩
        have pB : rPl I N ((l : Int) * 30 + b) := ⟨l, b, hl, by have := h4 l; omega, rfl⟩
        have hk6 := (e_knd hR pA pB hsm).1
        have ht9 := ((hR.1.2.2 _ pA).2.2 _ pB).1.mpr hsm
        have hge := rPl_9 hR.1 pA
        rw [he]
        refine decide_eq_true ⟨?_, hsk⟩
        show (if I' 17 (I' 16 (a : Int)) ≠ I' 6 ((l : Int) * 30 + b) then (-1 : Int) else if I' 18 (I' 16 (a : Int)) = (-1) then 1 else if I' 18 (I' 16 (a : Int)) = I' 9 ((l : Int) * 30 + b) then 0 else I' 10 1) = 0
        rw [hsl.1, hsl.2, h6, h9, if_neg (fun z => z hk6), if_neg (by omega), if_pos ht9]
      · rw [if_neg c] at hx
        cases hx
  rw [Nat.sub_self] at hnp
  have hp10 : zp0 (zw_ I 15 k n m) 0 = 0 := rfl
  rw [hp10, ← hp1] at hnp
  by_cases q40 : K2 ≤ 40
  · exact q40
  · by_cases e3 : m = 12 ∧ m2 = 12
    · have := main W11 (fA12 (by omega)) (fB12 (by omega))
      have h11 : W11.length = 11 := rfl
      omega
    · by_cases e2 : 11 ≤ m ∧ 11 ≤ m2
      · have := main W9 (fA11 (by omega)) (fB11 (by omega))
        have h11 : W9.length = 9 := rfl
        omega
      · have := main [[49], [49]] (fA9 (by omega)) (fB9 (by omega))
        have h11 : [[49], [49]].length = 2 := rfl
        omega
theorem ztk_one {I : zStore} {id p : Int} (h : (I 18 id ≠ (-1) ∧ I 18 id = I 9 p) ∨ (I 18 id = (-1) ∧ I 17 id = I 6 p ∧ I 19 id ≤ I 8 p ∧ I 8 p ≤ I 20 id)) : ztk I 15 id p ≠ 0 := by
  unfold ztk
  show (if I 18 id ≠ (-1) then (if I 18 id = I 9 p then (1 : Int) else 0) else (if I 17 id = I 6 p ∧ I 19 id ≤ I 8 p ∧ I 8 p ≤ I 20 id then 1 else 0)) ≠ 0
  rcases h with ⟨h1, h2⟩ | ⟨h1, h2⟩
  · rw [if_pos h1, if_pos h2]
    decide
  · rw [if_neg (fun q => q h1), if_pos h2]
    decide
theorem fits_of (hS : LSt I B N n) (hM : rMs I B N n) (hk : k < N) (h1 : zbit (B 119 0) k = 1) (hm : I 4 k = m) : zRR I 15 k n m = true := by
  have hR := hS.2.1
  have hN := hR.1.1.2.2
  have key : ∀ s, s ≤ n → zRR I 15 k s (ucnt B k s) = true := by
    intro s
    induction s with
    | zero => intro _; rfl
    | succ s ih =>
      intro hs
      have ih := ih (by omega)
      have hsl := r_sl hR (show s < n by omega)
      by_cases hu : zU B s k = (-1)
      · have e : ucnt B k (s + 1) = ucnt B k s := by
          simp only [ucnt]
          rw [if_pos hu]
          omega
        have hop := u_opt hR hk h1 (show s < n by omega) hu
        have hcm : zcm I 15 s = true := by
          unfold zcm
          have hj : I 15 1 = zbc (B 119 0) := hR.2.2.2.1.2.1.2.2.1
          refine decide_eq_true ?_
          show I 21 (I 16 s) < I 15 1
          rw [hsl.2.2.2.1, hj]
          exact hop
        rw [e]
        unfold zRR at ih ⊢
        cases hc : ucnt B k s with
        | zero =>
          rw [hc] at ih
          simp only [zR, hcm, ih, Bool.and_self]
        | succ t =>
          rw [hc] at ih
          simp only [zR, hcm, ih, Bool.and_self, Bool.true_or]
      · have e : ucnt B k (s + 1) = ucnt B k s + 1 := by
          simp only [ucnt]
          rw [if_neg hu]
        have hat := ucnt_at hR hM hk h1 (show s < n by omega) hu
        obtain ⟨t, e0, e1, e2, e3, e4⟩ := r_use hR hk (show s < n by omega) hu
        have e0 : zU B s k = t := e0
        have htu : ucnt B k s = t := by omega
        have htk : ztkB I 15 k s t = true := by
          have hne : ztk I 15 (I 16 s) ((k : Int) * 30 + t) ≠ 0 := by
            refine ztk_one ?_
            by_cases ht : I 18 (I 16 s) = (-1)
            · obtain ⟨g1, g2, g3⟩ := hR.2.2.2.2.1.2.2.2 s (show s < n by omega)
              have hpos : ∀ l : Nat, l < N → B 122 (12 * (40 * 0 + (s : Int)) + l) ≠ (-1) → 1 ≤ B 117 (30 * l + B 122 (12 * (40 * 0 + (s : Int)) + l)) := fun l hl hx => by
                obtain ⟨t2, f0, f1, -⟩ := r_use hR hl (show s < n by omega) hx
                have hT := ((hR.1.2.1 l hl).2.2.2 t2 f1).2.2.1
                rw [f0, show (30 * (l : Int) + (t2 : Int)) = (l : Int) * 30 + t2 by omega, hT.2.2.1]
                exact hT.1
              have z0 := zme_P (u := B 122) (z := B 117) (slot := s) (g := 0) N hpos
              have z1 := zme_P (u := B 122) (z := B 117) (slot := s) (g := 1) N hpos
              have h8 : B 117 (30 * (k : Int) + B 122 (12 * (40 * 0 + (s : Int)) + k)) = I 8 ((k : Int) * 30 + t) := by
                have hT := ((hR.1.2.1 k hk).2.2.2 t e1).2.2.1
                have e0' : B 122 (12 * (40 * 0 + (s : Int)) + k) = t := e0
                rw [e0', show (30 * (k : Int) + (t : Int)) = (k : Int) * 30 + t by omega]
                exact hT.2.2.1
              refine Or.inr ⟨ht, e4.symm, ?_, ?_⟩
              · rw [g2]
                rcases z0 with ⟨-, z0⟩ | ⟨-, z0⟩
                · exact absurd (z0 k hk) hu
                · have := (z0 k hk hu).1 rfl
                  rw [h8] at this
                  exact this
              · rw [g3]
                rcases z1 with ⟨-, z1⟩ | ⟨-, z1⟩
                · exact absurd (z1 k hk) hu
                · have := (z1 k hk hu).2 (by decide)
                  rw [h8] at this
                  exact this
            · rcases hM.1 s (show s < n by omega) k hk hu with h | h
              · exact absurd h ht
              · rw [e0] at h
                exact Or.inl ⟨ht, h⟩
          unfold ztkB
          exact bne_iff_ne.mpr hne
        rw [e, htu]
        rw [htu] at ih
        unfold zRR at ih ⊢
        simp only [zR, ih, htk, Bool.and_self, Bool.or_true]
  have h2 := key n (Nat.le_refl n)
  have h3 := ucnt_n hR hM hk h1
  have h4 := (hR.1.2.1 k hk).2.1.2.2
  have : ucnt B k n = m := by omega
  rw [this] at h2
  exact h2
end SEM
/-! the bits of the merged lines -/
theorem bit_get {m l : Nat} (hm : m < 256) (hl : l < 8) : (nI m >>> (nI l &&& 31)) &&& 1 = nI (if m.testBit l then 1 else 0) := (show ∀ (m : Fin 256) (l : Fin 8), (nI m.val >>> (nI l.val &&& 31)) &&& 1 = nI (if m.val.testBit l.val then 1 else 0) by decide +kernel) ⟨m, hm⟩ ⟨l, hl⟩
theorem bit_set {m l : Nat} (hm : m < 256) (hl : l < 8) : nI m ||| ((1 : Int32) <<< (nI l &&& 31)) = nI (m ||| 2 ^ l) ∧ m ||| 2 ^ l < 256 := (show ∀ (m : Fin 256) (l : Fin 8), nI m.val ||| ((1 : Int32) <<< (nI l.val &&& 31)) = nI (m.val ||| 2 ^ l.val) ∧ m.val ||| 2 ^ l.val < 256 by decide +kernel) ⟨m, hm⟩ ⟨l, hl⟩
def bOK (m : Nat) (B : zStore) : Prop := m < 256 ∧ ∀ l : Nat, l < 8 → m.testBit l = decide (zbit (B 119 0) l = 1)
theorem bOK.set {m k n t : Nat} {I B : zStore} {N : Nat} (h : bOK m B) (hR : rR I B N n) (hN : N ≤ 8) (hk : k < N) (h0 : zbit (B 119 0) k = 0) : bOK (m ||| 2 ^ k) (zmaj B 0 k n t) ∧ ∀ l : Nat, zbit (zmaj B 0 k n t 119 0) l = if l = k then 1 else zbit (B 119 0) l := by
  have e : zmaj B 0 k n t 119 0 = zor (B 119 0) (zshl 1 k) := zmaj_119
  have hz := (zor_eq (p_mk hR) (show k < 12 by omega) h0).2.2
  have hall : ∀ l : Nat, zbit (zmaj B 0 k n t 119 0) l = if l = k then 1 else zbit (B 119 0) l := fun l => by rw [e]; exact hz l
  refine ⟨⟨(bit_set h.1 (by omega)).2, fun l hl => ?_⟩, hall⟩
  rw [hall, Nat.testBit_or, h.2 l hl, Nat.testBit_two_pow]
  by_cases q : l = k
  · subst q
    simp
  · have : ¬ k = l := fun e => q e.symm
    simp [q, this]
