/-! what build and law hold on to besides -/
def zU (B : zStore) (i l : Nat) : Int := B 122 (12 * (40 * 0 + (i : Int)) + l)
/-- a slot with a text has it of all its tokens; the tokens of a line stand in their order -/
def rMs (I B : zStore) (N n : Nat) : Prop := (∀ i : Nat, i < n → ∀ l : Nat, l < N → zU B i l ≠ (-1) → I 18 (I 16 i) = (-1) ∨ I 18 (I 16 i) = I 9 ((l : Int) * 30 + zU B i l)) ∧ ∀ i j : Nat, i < j → j < n → ∀ l : Nat, l < N → zU B i l ≠ (-1) → zU B j l ≠ (-1) → zU B i l < zU B j l
/-- the lines that aren't merged yet can be -/
def OVp (I : zStore) (N n : Nat) : Prop := n ≤ 28 ∨ ∀ l m : Nat, l < N → I 4 l = m → I 22 l = 0 → zK I 15 l n m ≤ 40
section EA
variable {I I' B : zStore} {N n : Nat}
theorem zs_ea (h : rEA I I') : zs_ I' 15 = zs_ I 15 := by
  funext i
  unfold zs_ zsk
  rw [h.c (c := 15) (by decide) (by decide) (by decide), h.c (c := 15 + 1) (by decide) (by decide) (by decide), h.c (c := 15 + 6) (by decide) (by decide) (by decide), h 10 2 (by decide) (by decide) (by decide) (by decide) (by decide) (Or.inr (by decide))]
theorem zq_ea (h : rEA I I') {l : Int} : zq_ I' 15 l = zq_ I 15 l := by
  funext i t
  unfold zq_ zpc
  rw [h.c (c := 15 + 1) (by decide) (by decide) (by decide), h.c (c := 15 + 2) (by decide) (by decide) (by decide), h.c (c := 15 + 3) (by decide) (by decide) (by decide), h.c (c := 6) (by decide) (by decide) (by decide), h.c (c := 9) (by decide) (by decide) (by decide), h 10 1 (by decide) (by decide) (by decide) (by decide) (by decide) (Or.inr (by decide))]
theorem zf_ea (h : rEA I I') : I' 10 3 = I 10 3 := h 10 3 (by decide) (by decide) (by decide) (by decide) (by decide) (Or.inr (by decide))
theorem zCC_ea (h : rEA I I') {l : Int} : zCC I' 15 l = zCC I 15 l := by
  unfold zCC
  rw [zs_ea h, zq_ea h, zf_ea h]
theorem zK_ea (h : rEA I I') {l : Int} {m : Nat} : zK I' 15 l n m = zK I 15 l n m := by
  unfold zK
  rw [zs_ea h, zq_ea h, zf_ea h]
theorem zRR_ea (h : rEA I I') {l : Int} : zRR I' 15 l = zRR I 15 l := by
  unfold zRR
  have e1 : zcm I' 15 = zcm I 15 := by
    funext i
    unfold zcm
    rw [h.c (c := 15) (by decide) (by decide) (by decide), h.c (c := 15 + 1) (by decide) (by decide) (by decide), h.c (c := 15 + 6) (by decide) (by decide) (by decide)]
  have e2 : ztkB I' 15 l = ztkB I 15 l := by
    funext i t
    unfold ztkB ztk
    rw [h.c (c := 15 + 1) (by decide) (by decide) (by decide), h.c (c := 15 + 2) (by decide) (by decide) (by decide), h.c (c := 15 + 3) (by decide) (by decide) (by decide), h.c (c := 15 + 4) (by decide) (by decide) (by decide), h.c (c := 15 + 5) (by decide) (by decide) (by decide), h.c (c := 6) (by decide) (by decide) (by decide), h.c (c := 8) (by decide) (by decide) (by decide), h.c (c := 9) (by decide) (by decide) (by decide)]
  rw [e1, e2]
theorem lnOK_ea (h : rEA I I') {l : Nat} {bs : List Nat} (hl : lnOK I l bs) : lnOK I' l bs := by
  unfold lnOK at *
  rw [h.c (c := 3) (by decide) (by decide) (by decide), h.c (c := 4) (by decide) (by decide) (by decide), h.c (c := 5) (by decide) (by decide) (by decide), h.c (c := 6) (by decide) (by decide) (by decide), h.c (c := 7) (by decide) (by decide) (by decide), h.c (c := 8) (by decide) (by decide) (by decide)]
  exact hl
theorem LSt.ea (hS : LSt I B N n) (h : rEA I I') (hr : zRg I') : LSt I' B N n := by
  obtain ⟨h1, h2, h3, h4, h5⟩ := hS
  refine ⟨hr, rR_c h rEB.rfl h2, ?_, ?_, fun l hl => ?_⟩
  · rw [h.c (c := 0) (by decide) (by decide) (by decide)]
    exact h3
  · rw [h 10 1 (by decide) (by decide) (by decide) (by decide) (by decide) (Or.inr (by decide)), h 10 2 (by decide) (by decide) (by decide) (by decide) (by decide) (Or.inr (by decide)), zf_ea h]
    exact h4
  · obtain ⟨bs, b1, b2⟩ := h5 l hl
    exact ⟨bs, b1, lnOK_ea h b2⟩
theorem rMs.ea (hS : rMs I B N n) (h : rEA I I') : rMs I' B N n := by
  unfold rMs at *
  rw [h.c (c := 18) (by decide) (by decide) (by decide), h.c (c := 16) (by decide) (by decide) (by decide), h.c (c := 9) (by decide) (by decide) (by decide)]
  exact hS
theorem OVp.ea (hS : OVp I N n) (h : rEA I I') : OVp I' N n := by
  refine hS.imp id (fun k l m hl hm h0 => ?_)
  rw [zK_ea h]
  rw [h.c (c := 4) (by decide) (by decide) (by decide)] at hm
  rw [h.c (c := 22) (by decide) (by decide) (by decide)] at h0
  exact k l m hl hm h0
theorem rEA.tab {m n : Nat} {C : Nat → Nat → Int} : rEA I (ztab I 11 m n C) := fun c j _ h11 _ _ _ _ => ztab_k h11
theorem rEA.row {l : Int} {m n : Nat} : rEA I (zM I 15 l m n) := fun c j _ _ _ _ h14 _ => by
  unfold zM
  exact zfl_k h14
theorem rEA.eq11 (h : zEq 11 I I') : rEA I I' := fun c j _ h11 _ _ _ _ => h c j h11
end EA
section CO
variable {I B : zStore} {N n : Nat}
theorem LSt.cost (hS : LSt I B N n) {a b c : Nat} (ha : a ≤ 7) (hb : b ≤ 7) (hc : c ≤ 7) : LSt (zcoA I a b c) (zcoB B a b c) N n ∧ zcoB B a b c 119 = B 119 ∧ zcoB B a b c 122 = B 122 := by
  obtain ⟨h1, h2, h3, h4, h5⟩ := hS
  refine ⟨⟨zRg_up (zRg_up (zRg_up (zRg_up h1 (by decide)) (by omega)) (by omega)) (by omega), r_cost h2 (by omega) (by omega) (by omega), ?_, ?_, fun l hl => ?_⟩, zcoB_o (by decide), zcoB_o (by decide)⟩
  · unfold zcoA
    rw [zup_k (by decide), zup_k (by decide), zup_k (by decide), zup_i (by decide)]
    exact h3
  · unfold zcoA
    refine ⟨?_, ?_, ?_⟩
    · rw [zup_i (by decide), zup_i (by decide), zup_at]; omega
    · rw [zup_i (by decide), zup_at]; omega
    · rw [zup_at]; omega
  · obtain ⟨bs, b1, b2⟩ := h5 l hl
    refine ⟨bs, b1, ?_⟩
    unfold lnOK at *
    rw [zcoA_o (c := 3) (by decide), zcoA_o (c := 4) (by decide), zcoA_o (c := 5) (by decide), zcoA_o (c := 6) (by decide), zcoA_o (c := 7) (by decide), zcoA_o (c := 8) (by decide)]
    exact b2
theorem zRg_mg {k m : Nat} (hS : LSt I B N n) (hk : k < N) (hm : I 4 k = m) (hK : zK I 15 k n m ≤ 40) : zRg (zmg I k n m) := by
  obtain ⟨h1, h2, h3, h4, h5⟩ := hS
  have hA : zAl I 15 k n m := r_Al h2.1 h2.2.2.1 h2.2.2.2.1 hk hm
  have hr := zRg_aj (by decide) h1 hA (p_Fo h2) hK
  exact zRg_up (zRg_fl hr fun t _ => hr _ _) (by decide)
theorem LSt.merge {k m : Nat} (hS : LSt I B N n) (hk : k < N) (hm : I 4 k = m) (h0 : I 22 k = 0) (hK : zK I 15 k n m ≤ 40) : LSt (zmg I k n m) (zmaj B 0 k n m) N (zK I 15 k n m) := by
  have hr := zRg_mg hS hk hm hK
  obtain ⟨h1, h2, h3, h4, h5⟩ := hS
  have hN := h2.1.1
  have hb : zbit (B 119 0) k = 0 := by rw [← h2.2.2.2.2.1.1 k (by omega)]; exact h0
  have o : ∀ (c : Nat) (j : Int), c < 10 → zmg I k n m c j = I c j := fun c j hc => by
    rw [zmg_o (by omega) (by omega), zaj_o (by omega) (by omega) (by omega) (by omega) (by omega)]
  have o10 : ∀ j : Int, j ≠ 6 → j ≠ 7 → zmg I k n m 10 j = I 10 j := fun j a b => by
    rw [zmg_o (by decide) (by decide), zaj_10 (by decide) a b]
  refine ⟨hr, r_merge h2 hk hm hb hK, ?_, ?_, fun l hl => ?_⟩
  · rw [o 0 1 (by decide)]
    exact h3
  · rw [o10 1 (by decide) (by decide), o10 2 (by decide) (by decide), o10 3 (by decide) (by decide)]
    exact h4
  · obtain ⟨bs, b1, b2⟩ := h5 l hl
    refine ⟨bs, b1, ?_⟩
    have e : ∀ c, c < 10 → zmg I k n m c = I c := fun c hc => funext fun j => o c j hc
    unfold lnOK at *
    rw [e 3 (by decide), e 4 (by decide), e 5 (by decide), e 6 (by decide), e 7 (by decide), e 8 (by decide)]
    exact b2
end CO
