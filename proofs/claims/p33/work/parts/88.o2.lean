/-! the meaning of a merge -/
theorem zcnt12 {bs : List Nat} (h : zPline bs) : zcnt (zKd bs) bs.length ≤ 12 := by
  sorry
section SEM
variable {I B : zStore} {N n k m : Nat}
theorem LSt.tok (hS : LSt I B N n) (hk : k < N) (hm : I 4 k = m) : m ≤ 12 := by
  obtain ⟨h1, h2, h3, h4, h5⟩ := hS
  obtain ⟨bs, b1, b2⟩ := h5 k hk
  have := zcnt12 b1
  have := b2.2.2.1
  omega
/-- the new slots of a merge, from the way's end on: the slot of the step j -/
theorem mg_slot (hR : rR I B N n) (hk : k < N) (hm : I 4 k = m) (hK : zK I 15 k n m ≤ 40) {j : Nat} (hj : j < zK I 15 k n m) : zmg I k n m 16 ((zK I 15 k n m - 1 - j : Nat) : Int) = zid I 15 n (zw_ I 15 k n m) (zP_ I 15 k n m) j ∧ zmg I k n m 18 (zid I 15 n (zw_ I 15 k n m) (zP_ I 15 k n m) j) = zn3 I 15 n k (zw_ I 15 k n m) (zP_ I 15 k n m) j ∧ zmg I k n m 21 (zid I 15 n (zw_ I 15 k n m) (zP_ I 15 k n m) j) = zn6 I 15 n (zw_ I 15 k n m) (zP_ I 15 k n m) j ∧ zmg I k n m 17 (zid I 15 n (zw_ I 15 k n m) (zP_ I 15 k n m) j) = zn2 I 15 n k (zw_ I 15 k n m) (zP_ I 15 k n m) j ∧ ∀ l : Nat, l < 12 → zU (zmaj B 0 k n m) (zK I 15 k n m - 1 - j) l = if l = k ∧ zw_ I 15 k n m j ≠ 1 then ((zP_ I 15 k n m (j + 1)).2 : Int) else if zw_ I 15 k n m j = 2 then (-1) else zU B (zP_ I 15 k n m (j + 1)).1 l := by
  have hn : I 15 0 = n := hR.2.2.2.1.1.1
  have hn2 := hR.2.2.2.1.1.2.2
  have hF := p_Fo hR
  have hq := zaj_sl (A := I) (b := 15) (line := k) (n := n) (m := m) (by decide) hn hF.1 hR.2.2.2.1.2.2.2 hj
  have eK := r_K hR.1 hR.2.2.1 hR.2.2.2.1 hk hm
  have ew := r_w hR.1 hR.2.2.1 hR.2.2.2.1 hk hm
  have eP := r_P hR.1 hR.2.2.1 hR.2.2.2.1 hk hm
  have hs := (zmaj_sl (B := B) (f := 0) (line := k) (n := n) (m := m) (k := j) (by rw [eK]; exact hj) (by rw [eK]; exact hK)).2.2
  rw [eK, ew, eP] at hs
  refine ⟨?_, ?_, ?_, ?_, fun l hl => hs l hl⟩
  · rw [zmg_o (by decide) (by decide)]; exact hq.1
  · rw [zmg_o (by decide) (by decide)]; exact hq.2.2.1
  · rw [zmg_o (by decide) (by decide)]; exact hq.2.2.2.2.2.1
  · rw [zmg_o (by decide) (by decide)]; exact hq.2.1
theorem rMs.merge (hS : LSt I B N n) (hM : rMs I B N n) (hk : k < N) (hm : I 4 k = m) (h0 : I 22 k = 0) (hK : zK I 15 k n m ≤ 40) : rMs (zmg I k n m) (zmaj B 0 k n m) N (zK I 15 k n m) := by
  have hR := hS.2.1
  have hN := hR.1.1.2.2
  have hW := r_Wy (I := I) (b := 15) (l9 := k) (n := n) (m := m)
  have hz : zbit (B 119 0) k = 0 := by rw [← hR.2.2.2.2.1.1 k (by omega)]; exact h0
  have h9 : zmg I k n m 9 = I 9 := funext fun j => by
    rw [zmg_o (by decide) (by decide), zaj_o (by decide) (by decide) (by decide) (by decide) (by decide)]
  have hle : ∀ j, j < zK I 15 k n m → zw_ I 15 k n m j ≠ 2 → (zP_ I 15 k n m (j + 1)).1 < n := fun j hj hw => by
    have h1 := hW.2.2.2 j hj
    rw [if_neg hw] at h1
    have h2 := zWy_le hW (k := j) (by omega)
    omega
  refine ⟨fun i hi l hl hu => ?_, fun i j hij hj l hl hu hv => ?_⟩
  · obtain ⟨a, ha, rfl⟩ : ∃ a, a < zK I 15 k n m ∧ i = zK I 15 k n m - 1 - a := ⟨zK I 15 k n m - 1 - i, by omega, by omega⟩
    obtain ⟨s1, s2, -, -, s5⟩ := mg_slot hR hk hm hK ha
    have s5 := s5 l (by omega)
    rw [s1, s2, h9]
    unfold zn3 zip_
    have hw := hW.1 a ha
    by_cases w2 : zw_ I 15 k n m a = 2
    · rw [if_pos w2]
      by_cases e : l = k
      · subst e
        rw [if_pos ⟨rfl, by omega⟩] at s5
        rw [s5]
        exact Or.inr rfl
      · rw [if_neg (fun q => e q.1), if_pos w2] at s5
        exact absurd s5 hu
    · rw [if_neg w2]
      have hid : zid I 15 n (zw_ I 15 k n m) (zP_ I 15 k n m) a = I 16 (zP_ I 15 k n m (a + 1)).1 := by
        unfold zid
        rw [if_neg w2]
      have hlt := hle a ha w2
      have hold := hM.1 _ hlt l hl
      rw [hid]
      show (if zw_ I 15 k n m a = 0 then (if I 18 (I 16 (zP_ I 15 k n m (a + 1)).1) = I 9 ((k : Int) * 30 + (zP_ I 15 k n m (a + 1)).2) then I 18 (I 16 (zP_ I 15 k n m (a + 1)).1) else (-1)) else I 18 (I 16 (zP_ I 15 k n m (a + 1)).1)) = (-1) ∨ _ = _
      by_cases w0 : zw_ I 15 k n m a = 0
      · rw [if_pos w0]
        by_cases ht : I 18 (I 16 (zP_ I 15 k n m (a + 1)).1) = I 9 ((k : Int) * 30 + (zP_ I 15 k n m (a + 1)).2)
        · rw [if_pos ht]
          by_cases e : l = k
          · subst e
            rw [if_pos ⟨rfl, by omega⟩] at s5
            rw [s5]
            exact Or.inr ht
          · rw [if_neg (fun q => e q.1), if_neg w2] at s5
            rw [s5] at hu ⊢
            exact hold hu
        · rw [if_neg ht]
          exact Or.inl rfl
      · rw [if_neg w0]
        by_cases e : l = k
        · subst e
          rw [if_neg (fun q => q.2 (by omega)), if_neg w2] at s5
          rw [s5] at hu
          exact absurd (zU_no hR hk hz hlt) hu
        · rw [if_neg (fun q => e q.1), if_neg w2] at s5
          rw [s5] at hu ⊢
          exact hold hu
  · obtain ⟨a, ha, rfl⟩ : ∃ a, a < zK I 15 k n m ∧ i = zK I 15 k n m - 1 - a := ⟨zK I 15 k n m - 1 - i, by omega, by omega⟩
    obtain ⟨b, hb, rfl⟩ : ∃ b, b < zK I 15 k n m ∧ j = zK I 15 k n m - 1 - b := ⟨zK I 15 k n m - 1 - j, by omega, by omega⟩
    have hba : b < a := by omega
    have sa := (mg_slot hR hk hm hK ha).2.2.2.2 l (by omega)
    have sb := (mg_slot hR hk hm hK hb).2.2.2.2 l (by omega)
    have hma := zWy_mono hW (b + 1) (a - (b + 1)) (by omega)
    rw [show b + 1 + (a - (b + 1)) = a by omega] at hma
    have hsa := hW.2.2.2 a ha
    have hwa := hW.1 a ha
    have hwb := hW.1 b hb
    by_cases e : l = k
    · subst e
      have none : ∀ s, s < n → zU B s l = (-1) := fun s hs => zU_no hR hk hz hs
      have wa : zw_ I 15 l n m a ≠ 1 := fun q => by
        rw [if_neg (fun z => z.2 q), if_neg (by omega)] at sa
        rw [none _ (hle a ha (by omega))] at sa
        exact hu sa
      have wb : zw_ I 15 l n m b ≠ 1 := fun q => by
        rw [if_neg (fun z => z.2 q), if_neg (by omega)] at sb
        rw [none _ (hle b hb (by omega))] at sb
        exact hv sb
      rw [if_pos ⟨rfl, wa⟩] at sa
      rw [if_pos ⟨rfl, wb⟩] at sb
      rw [sa, sb]
      rw [if_neg wa] at hsa
      have := hma.2
      omega
    · rw [if_neg (fun q => e q.1)] at sa sb
      have wa : zw_ I 15 k n m a ≠ 2 := fun q => by
        rw [if_pos q] at sa
        exact hu sa
      have wb : zw_ I 15 k n m b ≠ 2 := fun q => by
        rw [if_pos q] at sb
        exact hv sb
      rw [if_neg wa] at sa
      rw [if_neg wb] at sb
      rw [sa] at hu ⊢
      rw [sb] at hv ⊢
      rw [if_neg wa] at hsa
      have := hma.1
      exact hM.2 _ _ (by omega) (hle b hb wb) l hl hu hv
theorem OVp.merge (hS : LSt I B N n) (hn : n ≤ 20) (hk : k < N) (hm : I 4 k = m) (h0 : I 22 k = 0) (hK : zK I 15 k n m ≤ 40) : OVp (zmg I k n m) N (zK I 15 k n m) := by
  sorry
theorem ztk_one {I : zStore} {id p : Int} (h : (I 18 id ≠ (-1) ∧ I 18 id = I 9 p) ∨ (I 18 id = (-1) ∧ I 17 id = I 6 p ∧ I 19 id ≤ I 8 p ∧ I 8 p ≤ I 20 id)) : ztk I 15 id p ≠ 0 := by
  unfold ztk
  show (if I 18 id ≠ (-1) then (if I 18 id = I 9 p then (1 : Int) else 0) else (if I 17 id = I 6 p ∧ I 19 id ≤ I 8 p ∧ I 8 p ≤ I 20 id then 1 else 0)) ≠ 0
  rcases h with ⟨h1, h2⟩ | ⟨h1, h2⟩
  · rw [if_pos h1, if_pos h2]
    decide
  · rw [if_neg (fun q => q h1), if_pos h2]
    decide
theorem fits_of (hS : LSt I B N n) (hM : rMs I B N n) (hk : k < N) (h1 : zbit (B 119 0) k = 1) (hm : I 4 k = m) : zRR I 15 k n m = true := by
  have hR := hS.2.1
  have hN := hR.1.1.2.2
  have key : ∀ s, s ≤ n → zRR I 15 k s (ucnt B k s) = true := by
    intro s
    induction s with
    | zero => intro _; rfl
    | succ s ih =>
      intro hs
      have ih := ih (by omega)
      have hsl := r_sl hR (show s < n by omega)
      by_cases hu : zU B s k = (-1)
      · have e : ucnt B k (s + 1) = ucnt B k s := by
          simp only [ucnt]
          rw [if_pos hu]
          omega
        have hop := u_opt hR hk h1 (show s < n by omega) hu
        have hcm : zcm I 15 s = true := by
          unfold zcm
          have hj : I 15 1 = zbc (B 119 0) := hR.2.2.2.1.2.1.2.2.1
          refine decide_eq_true ?_
          show I 21 (I 16 s) < I 15 1
          rw [hsl.2.2.2.1, hj]
          exact hop
        rw [e]
        unfold zRR at ih ⊢
        cases hc : ucnt B k s with
        | zero =>
          rw [hc] at ih
          simp only [zR, hcm, ih, Bool.and_self]
        | succ t =>
          rw [hc] at ih
          simp only [zR, hcm, ih, Bool.and_self, Bool.true_or]
      · have e : ucnt B k (s + 1) = ucnt B k s + 1 := by
          simp only [ucnt]
          rw [if_neg hu]
        have hat := ucnt_at hR hM hk h1 (show s < n by omega) hu
        obtain ⟨t, e0, e1, e2, e3, e4⟩ := r_use hR hk (show s < n by omega) hu
        have e0 : zU B s k = t := e0
        have htu : ucnt B k s = t := by omega
        have htk : ztkB I 15 k s t = true := by
          have hne : ztk I 15 (I 16 s) ((k : Int) * 30 + t) ≠ 0 := by
            refine ztk_one ?_
            by_cases ht : I 18 (I 16 s) = (-1)
            · obtain ⟨g1, g2, g3⟩ := hR.2.2.2.2.1.2.2.2 s (show s < n by omega)
              have hpos : ∀ l : Nat, l < N → B 122 (12 * (40 * 0 + (s : Int)) + l) ≠ (-1) → 1 ≤ B 117 (30 * l + B 122 (12 * (40 * 0 + (s : Int)) + l)) := fun l hl hx => by
                obtain ⟨t2, f0, f1, -⟩ := r_use hR hl (show s < n by omega) hx
                have hT := ((hR.1.2.1 l hl).2.2.2 t2 f1).2.2.1
                rw [f0, show (30 * (l : Int) + (t2 : Int)) = (l : Int) * 30 + t2 by omega, hT.2.2.1]
                exact hT.1
              have z0 := zme_P (u := B 122) (z := B 117) (slot := s) (g := 0) N hpos
              have z1 := zme_P (u := B 122) (z := B 117) (slot := s) (g := 1) N hpos
              have h8 : B 117 (30 * (k : Int) + B 122 (12 * (40 * 0 + (s : Int)) + k)) = I 8 ((k : Int) * 30 + t) := by
                have hT := ((hR.1.2.1 k hk).2.2.2 t e1).2.2.1
                have e0' : B 122 (12 * (40 * 0 + (s : Int)) + k) = t := e0
                rw [e0', show (30 * (k : Int) + (t : Int)) = (k : Int) * 30 + t by omega]
                exact hT.2.2.1
              refine Or.inr ⟨ht, e4.symm, ?_, ?_⟩
              · rw [g2]
                rcases z0 with ⟨-, z0⟩ | ⟨-, z0⟩
                · exact absurd (z0 k hk) hu
                · have := (z0 k hk hu).1 rfl
                  rw [h8] at this
                  exact this
              · rw [g3]
                rcases z1 with ⟨-, z1⟩ | ⟨-, z1⟩
                · exact absurd (z1 k hk) hu
                · have := (z1 k hk hu).2 (by decide)
                  rw [h8] at this
                  exact this
            · rcases hM.1 s (show s < n by omega) k hk hu with h | h
              · exact absurd h ht
              · rw [e0] at h
                exact Or.inl ⟨ht, h⟩
          unfold ztkB
          exact bne_iff_ne.mpr hne
        rw [e, htu]
        rw [htu] at ih
        unfold zRR at ih ⊢
        simp only [zR, ih, htk, Bool.and_self, Bool.or_true]
  have h2 := key n (Nat.le_refl n)
  have h3 := ucnt_n hR hM hk h1
  have h4 := (hR.1.2.1 k hk).2.1.2.2
  have : ucnt B k n = m := by omega
  rw [this] at h2
  exact h2
end SEM
/-! the bits of the merged lines -/
theorem bit_get {m l : Nat} (hm : m < 256) (hl : l < 8) : (nI m >>> (nI l &&& 31)) &&& 1 = nI (if m.testBit l then 1 else 0) := (show ∀ (m : Fin 256) (l : Fin 8), (nI m.val >>> (nI l.val &&& 31)) &&& 1 = nI (if m.val.testBit l.val then 1 else 0) by decide +kernel) ⟨m, hm⟩ ⟨l, hl⟩
theorem bit_set {m l : Nat} (hm : m < 256) (hl : l < 8) : nI m ||| ((1 : Int32) <<< (nI l &&& 31)) = nI (m ||| 2 ^ l) ∧ m ||| 2 ^ l < 256 := (show ∀ (m : Fin 256) (l : Fin 8), nI m.val ||| ((1 : Int32) <<< (nI l.val &&& 31)) = nI (m.val ||| 2 ^ l.val) ∧ m.val ||| 2 ^ l.val < 256 by decide +kernel) ⟨m, hm⟩ ⟨l, hl⟩
def bOK (m : Nat) (B : zStore) : Prop := m < 256 ∧ ∀ l : Nat, l < 8 → m.testBit l = decide (zbit (B 119 0) l = 1)
theorem bOK.set {m k n t : Nat} {I B : zStore} {N : Nat} (h : bOK m B) (hR : rR I B N n) (hN : N ≤ 8) (hk : k < N) (h0 : zbit (B 119 0) k = 0) : bOK (m ||| 2 ^ k) (zmaj B 0 k n t) ∧ ∀ l : Nat, zbit (zmaj B 0 k n t 119 0) l = if l = k then 1 else zbit (B 119 0) l := by
  have e : zmaj B 0 k n t 119 0 = zor (B 119 0) (zshl 1 k) := zmaj_119
  have hz := (zor_eq (p_mk hR) (show k < 12 by omega) h0).2.2
  have hall : ∀ l : Nat, zbit (zmaj B 0 k n t 119 0) l = if l = k then 1 else zbit (B 119 0) l := fun l => by rw [e]; exact hz l
  refine ⟨⟨(bit_set h.1 (by omega)).2, fun l hl => ?_⟩, hall⟩
  rw [hall, Nat.testBit_or, h.2 l hl, Nat.testBit_two_pow]
  by_cases q : l = k
  · subst q
    simp
  · have : ¬ k = l := fun e => q e.symm
    simp [q, this]
