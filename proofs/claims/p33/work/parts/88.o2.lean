/-! the meaning of a merge -/
theorem zcnt12 {bs : List Nat} (h : zPline bs) : zcnt (zKd bs) bs.length ≤ 12 := by
  sorry
section SEM
variable {I B : zStore} {N n k m : Nat}
theorem LSt.tok (hS : LSt I B N n) (hk : k < N) (hm : I 4 k = m) : m ≤ 12 := by
  obtain ⟨h1, h2, h3, h4, h5⟩ := hS
  obtain ⟨bs, b1, b2⟩ := h5 k hk
  have := zcnt12 b1
  have := b2.2.2.1
  omega
theorem rMs.merge (hS : LSt I B N n) (hM : rMs I B N n) (hk : k < N) (hm : I 4 k = m) (h0 : I 22 k = 0) (hK : zK I 15 k n m ≤ 40) : rMs (zmg I k n m) (zmaj B 0 k n m) N (zK I 15 k n m) := by
  sorry
theorem OVp.merge (hS : LSt I B N n) (hn : n ≤ 20) (hk : k < N) (hm : I 4 k = m) (h0 : I 22 k = 0) (hK : zK I 15 k n m ≤ 40) : OVp (zmg I k n m) N (zK I 15 k n m) := by
  sorry
theorem fits_of (hS : LSt I B N n) (hM : rMs I B N n) (hk : k < N) (h1 : zbit (B 119 0) k = 1) (hm : I 4 k = m) : zRR I 15 k n m = true := by
  sorry
end SEM
/-! the bits of the merged lines -/
theorem bit_get {m l : Nat} (hm : m < 256) (hl : l < 8) : (nI m >>> (nI l &&& 31)) &&& 1 = nI (if m.testBit l then 1 else 0) := (show ∀ (m : Fin 256) (l : Fin 8), (nI m.val >>> (nI l.val &&& 31)) &&& 1 = nI (if m.val.testBit l.val then 1 else 0) by decide +kernel) ⟨m, hm⟩ ⟨l, hl⟩
theorem bit_set {m l : Nat} (hm : m < 256) (hl : l < 8) : nI m ||| ((1 : Int32) <<< (nI l &&& 31)) = nI (m ||| 2 ^ l) ∧ m ||| 2 ^ l < 256 := (show ∀ (m : Fin 256) (l : Fin 8), nI m.val ||| ((1 : Int32) <<< (nI l.val &&& 31)) = nI (m.val ||| 2 ^ l.val) ∧ m.val ||| 2 ^ l.val < 256 by decide +kernel) ⟨m, hm⟩ ⟨l, hl⟩
def bOK (m : Nat) (B : zStore) : Prop := m < 256 ∧ ∀ l : Nat, l < 8 → m.testBit l = decide (zbit (B 119 0) l = 1)
theorem bOK.set {m k n t : Nat} {I B : zStore} {N : Nat} (h : bOK m B) (hR : rR I B N n) (hN : N ≤ 8) (hk : k < N) (h0 : zbit (B 119 0) k = 0) : bOK (m ||| 2 ^ k) (zmaj B 0 k n t) ∧ ∀ l : Nat, zbit (zmaj B 0 k n t 119 0) l = if l = k then 1 else zbit (B 119 0) l := by
  have e : zmaj B 0 k n t 119 0 = zor (B 119 0) (zshl 1 k) := zmaj_119
  have hz := (zor_eq (p_mk hR) (show k < 12 by omega) h0).2.2
  have hall : ∀ l : Nat, zbit (zmaj B 0 k n t 119 0) l = if l = k then 1 else zbit (B 119 0) l := fun l => by rw [e]; exact hz l
  refine ⟨⟨(bit_set h.1 (by omega)).2, fun l hl => ?_⟩, hall⟩
  rw [hall, Nat.testBit_or, h.2 l hl, Nat.testBit_two_pow]
  by_cases q : l = k
  · subst q
    simp
  · have : ¬ k = l := fun e => q e.symm
    simp [q, this]
