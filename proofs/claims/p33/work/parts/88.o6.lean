section LX
variable {Z : zCx} {F : zFr} {I B : zStore} {bl b N n m k c s : Nat} {rmG : Room}
theorem zsg_pos {C : Nat → Int} : ∀ N : Nat, 1 ≤ N → (∀ i, i < N → 0 ≤ C i) → 0 ≤ (zsg C N).1 ∧ 0 ≤ (zsg C N).2
  | 1, _, h => by
    have := h 0 (by omega)
    have e : zsg C 1 = if C 0 ≤ (zsg C 0).2 then zsg C 0 else (((0 : Nat) : Int), C 0) := rfl
    rw [e, if_neg (show ¬ C 0 ≤ (zsg C 0).2 from (show ¬ C 0 ≤ -1 by omega))]
    exact ⟨Int.le_refl _, this⟩
  | N + 2, _, h => by
    have ih := zsg_pos (C := C) (N + 1) (by omega) (fun i hi => h i (by omega))
    have h1 := h (N + 1) (by omega)
    have e : zsg C (N + 2) = if C (N + 1) ≤ (zsg C (N + 1)).2 then zsg C (N + 1) else (((N + 1 : Nat) : Int), C (N + 1)) := rfl
    rw [e]
    split
    · exact ih
    · exact ⟨by show (0 : Int) ≤ ((N + 1 : Nat) : Int); omega, h1⟩
theorem zclr_o {c : Nat} {j : Int} (h : c ≠ 15) (h2 : c ≠ 22) : zclr I c j = I c j := by
  unfold zclr
  rw [zfl_k h2, zup_k h, zup_k h]
theorem zRg_clr (hr : zRg I) : zRg (zclr I) := zRg_fl (zRg_up (zRg_up hr (by decide)) (by decide)) fun _ _ => by decide
theorem zInt_lt {c : Int} (h : 0 ≤ c) (h2 : c < 2147483648) : ¬ zI c < 0 := fun q => by
  have := (zI_lt (a := c) (b := 0) (by omega) (by omega)).mp q
  omega
theorem s_law_349 (hZ : zOK Z "LineLearnerLaw" cL_law 10) (hR : zRoom Z rmG) (hcR : 600130 ≤ rmG.cells) (hsR : 7301080 ≤ rmG.slots) (hfR : 14 ≤ rmG.frames) (hlR : 558 ≤ rmG.locals) (hL : zLay F) (kret : ∀ (I : zStore) (lv : zLv) (pc : Nat), decode cL_law pc = .ok (.ireturn, 1) → nW (nZ Z) (zInv Z F I) 600130 7301080 lv [.int 1] pc) (hS : LSt I B N n) (hN : 1 ≤ N ∧ N ≤ 8) (hall : ∀ l : Nat, l < N → zbit (B 119 0) l = 1) (hc : c ≤ 600130) (hs : s ≤ 7301080) :
    nW (nZ Z) (zInv Z F I) c s [(5, .int (nI k)), (4, .int (nI n)), (3, .int (nI m)), (0, .ref b), (1, .ref (F.1 0)), (2, .ref bl)] [] 349 := by
  have hG := zN_ok hZ
  have hRn := zN_rm hR
  have hrc := zRg_clr (I := I) hS.1
  have h20 : zclr I 2 0 = N := by rw [zclr_o (by decide) (by decide)]; exact hS.2.1.1.1.1
  have hA : ∀ line : Nat, line < N → zAl (zclr I) 15 line 0 ((fun l : Nat => (I 4 l).toNat) line) := fun l hl => by
    have ht := hS.2.1.1.2.1 l hl
    refine ⟨by omega, ?_, by omega, ?_, ?_, fun i hi => absurd hi (Nat.not_lt_zero i), ?_⟩
    · unfold zclr
      rw [zfl_k (by decide), zup_i (by decide), zup_at]
      rfl
    · rw [zclr_o (by decide) (by decide)]
      show I 4 l = ((I 4 l).toNat : Int)
      have := ht.2.1.1
      omega
    · have := ht.2.1
      show (I 4 l).toNat ≤ 30
      omega
    · have hco := hS.2.1.2.2.1
      rw [zclr_o (by decide) (by decide), zclr_o (by decide) (by decide), zclr_o (by decide) (by decide)]
      exact ⟨⟨hco.1.1, hco.1.2.1⟩, ⟨hco.2.1.1, hco.2.1.2.1⟩, hco.2.2.1, hco.2.2.2.1⟩
  have hC : ∀ i, i < N → 0 ≤ (fun line : Nat => zCC (zclr I) 15 line 0 ((fun l : Nat => (I 4 l).toNat) line)) i := fun i hi => (zCC_bd (hA i hi) 0 _).1
  have hp := zsg_pos N hN.1 hC
  have hb := (zsg_bd (C := fun line : Nat => zCC (zclr I) 15 line 0 ((fun l : Nat => (I 4 l).toNat) line)) (b := 600) (by decide) N (fun i hi => ⟨Int.le_trans (by decide) (hC i hi), by
    have h1 := (zCC_bd (hA i hi) 0 ((fun l : Nat => (I 4 l).toNat) i)).2
    have h2 := (hA i hi).2.2.2.2.1
    show zCC (zclr I) 15 i 0 ((fun l : Nat => (I 4 l).toNat) i) ≤ 600
    omega⟩)).1
  refine n_aload_n 4 hG dL_law_349 rfl rfl ?_
  refine w_clear hZ hR hL hS.1 hS.2.1 (Nat.le_trans (by decide) hfR) (Nat.le_trans (by decide) hlR) (Nat.le_trans (show c + 0 ≤ 600130 by omega) hcR) (Nat.le_trans (show s + 0 ≤ 7301080 by omega) hsR) (Nat.le_of_ble_eq_true rfl) dL_law_350 ?_
  rw [all_merged hS.2.1 hall, zI_nat]
  show nW (nZ Z) (zInv Z F (zclr I)) (c + 0) (s + 0) [(5, .int (nI k)), (4, .int (nI n)), (3, .int (nI m)), (0, .ref b), (1, .ref (F.1 0)), (2, .ref bl)] [.int (nI N)] 353
  refine n_aload_n 4 hG dL_law_353 rfl rfl ?_
  refine nz_M [] hZ hR hL (c_X3_lineCount hL hrc) hd_X3_lineCount kv187 kw194 kw195 (Nat.le_trans (by decide) hfR) (Nat.le_trans (by decide) hlR) (Nat.le_trans (show c + 0 + 0 ≤ 600130 by omega) hcR) (Nat.le_trans (show s + 0 + 0 ≤ 7301080 by omega) hsR) rfl rfl (Nat.le_of_ble_eq_true rfl) dL_law_354 (fun r I1 hp1 => ?_)
  obtain ⟨rfl, rfl⟩ := hp1
  rw [h20, zI_nat]
  show nW (nZ Z) (zInv Z F (zclr I)) (c + 0 + 0) (s + 0 + 0) [(5, .int (nI k)), (4, .int (nI n)), (3, .int (nI m)), (0, .ref b), (1, .ref (F.1 0)), (2, .ref bl)] [.int (nI N), .int (nI N)] 357
  refine n_icmp_ne (tgt := 371) hG dL_law_357 (by decide) (fun q9 => absurd q9 (fun h9 => h9 rfl)) (fun _ => ?_)
  refine n_aload_n 4 hG dL_law_360 rfl rfl ?_
  refine nz_M [] hZ hR hL (c_X3_strangest hL hrc h20 (by omega) hA) hd_X3_strangest kw205 kw206 kw207 (Nat.le_trans (by decide) hfR) (Nat.le_trans (by decide) hlR) (Nat.le_trans (show c + 0 + 0 + 0 ≤ 600130 by omega) hcR) (Nat.le_trans (show s + 0 + 0 + 0 ≤ 7301080 by omega) hsR) rfl rfl (Nat.le_of_ble_eq_true rfl) dL_law_361 (fun r I1 hp1 => ?_)
  obtain ⟨rfl, -, -⟩ := hp1
  show nW (nZ Z) (zInv Z F I1) (c + 0 + 0 + 0) (s + 0 + 0 + 0) [(5, .int (nI k)), (4, .int (nI n)), (3, .int (nI m)), (0, .ref b), (1, .ref (F.1 0)), (2, .ref bl)] [.int (zI (zsg (fun line : Nat => zCC (zclr I) 15 line 0 ((fun l : Nat => (I 4 l).toNat) line)) N).1)] 364
  refine n_if_lt (tgt := 371) hG dL_law_364 (by decide) (fun q9 => absurd q9 (zInt_lt hp.1 (by omega))) (fun _ => ?_)
  refine n_iconst 1 hG dL_law_367 (by decide) ?_
  refine n_goto (tgt := 372) hG dL_law_368 (by decide) ?_
  exact z_widen' hR (by omega) (by omega) hcR hsR (kret _ _ _ dL_law_372)
theorem s_law_298 {j : Nat} {y : Int32} (hZ : zOK Z "LineLearnerLaw" cL_law 10) (hR : zRoom Z rmG) (hcR : 600130 ≤ rmG.cells) (hsR : 7301080 ≤ rmG.slots) (hfR : 14 ≤ rmG.frames) (hlR : 558 ≤ rmG.locals) (hL : zLay F) (hS : LSt I B N n) (hM : rMs I B N n) (hj : j < N) (hN : N ≤ 8) (hb : bOK m B) (hc : c + 1 ≤ 600130) (hs : s + 6 ≤ 7301080)
    (kk : ∀ I' : zStore, LSt I' B N n → rMs I' B N n → nW (nZ Z) (zInv Z F I') (c + 1) (s + 6) [(7, .int (nI (j + 1))), (6, .int y), (5, .int (nI k)), (4, .int (nI n)), (3, .int (nI m)), (0, .ref b), (1, .ref (F.1 0)), (2, .ref bl)] [] 298) : nW (nZ Z) (zInv Z F I) c s [(7, .int (nI j)), (6, .int y), (5, .int (nI k)), (4, .int (nI n)), (3, .int (nI m)), (0, .ref b), (1, .ref (F.1 0)), (2, .ref bl)] [] 298 := by
  have hG := zN_ok hZ
  have hRn := zN_rm hR
  have ht := hS.2.1.1.2.1 j hj
  obtain ⟨t, hm4⟩ : ∃ t : Nat, I 4 j = t := ⟨(I 4 j).toNat, by have := ht.2.1.1; omega⟩
  have hfit : zbit (B 119 0) j = 1 → zRR I 15 j n t = true := fun h => fits_of hS hM hj h hm4
  have hea : rEA I (zM I 15 j t n) := rEA.row
  have hS2 : LSt (zM I 15 j t n) B N n := hS.ea hea (zRg_M hS.1)
  have hbit := hb.2 j (by omega)
  have hbt : nI (if m.testBit j then 1 else 0) = nI 1 → zbit (B 119 0) j = 1 := fun h => by
    by_cases q : m.testBit j = true
    · rw [hbit] at q
      exact of_decide_eq_true q
    · rw [if_neg q] at h
      exact absurd h (by decide)
  refine n_iload 0 hG dL_law_298 rfl ?_
  refine n_aload_n 6 hG dL_law_300 rfl rfl ?_
  refine w_lineCount hZ hR hL hS.1 hS.2.1 (Nat.le_trans (by decide) hfR) (Nat.le_trans (by decide) hlR) (Nat.le_trans (show c + 0 ≤ 600130 by omega) hcR) (Nat.le_trans (show s + 0 ≤ 7301080 by omega) hsR) (Nat.le_of_ble_eq_true rfl) dL_law_301 ?_
  show nW (nZ Z) (zInv Z F I) (c + 0) (s + 0) [(7, .int (nI j)), (6, .int y), (5, .int (nI k)), (4, .int (nI n)), (3, .int (nI m)), (0, .ref b), (1, .ref (F.1 0)), (2, .ref bl)] [.int (nI N), .int (nI j)] 304
  refine n_icmp_ge (tgt := 334) hG dL_law_304 (by decide) (fun q9 => absurd q9 (nI_ge hj (by omega))) (fun _ => ?_)
  refine n_iload_n 4 hG dL_law_307 rfl rfl ?_
  refine n_iload 0 hG dL_law_308 rfl ?_
  refine n_ishr (z := (nI m >>> (nI j &&& 31))) hG dL_law_310 rfl ?_
  refine n_iconst 1 hG dL_law_311 (by decide) ?_
  refine n_iand (z := nI (if m.testBit j then 1 else 0)) hG dL_law_312 (bit_get hb.1 (by omega)) ?_
  refine n_iconst (nI 1) hG dL_law_313 (by decide) ?_
  refine n_icmp_ne (tgt := 328) hG dL_law_314 (by decide) (fun q314 => ?_) (fun q314 => ?_)
  · refine n_iinc (lv' := [(7, .int (nI (j + 1))), (6, .int y), (5, .int (nI k)), (4, .int (nI n)), (3, .int (nI m)), (0, .ref b), (1, .ref (F.1 0)), (2, .ref bl)]) (v := nI (j + 1)) 0 hG dL_law_328 rfl (nI_1 j) (by decide) rfl ?_
    refine n_goto (tgt := 298) hG dL_law_331 (by decide) ?_
    exact z_widen' hR (by omega) (by omega) (by omega) (by omega) (kk I hS hM)
  · refine n_aload_n 6 hG dL_law_317 rfl rfl ?_
    refine n_iload 0 hG dL_law_318 rfl ?_
    refine w_fits hZ hR hL hS.1 hS.2.1 hj hm4 (Nat.le_trans (by decide) hfR) (Nat.le_trans (by decide) hlR) (Nat.le_trans (show c + 1 ≤ 600130 by omega) hcR) (Nat.le_trans (show s + 6 ≤ 7301080 by omega) hsR) (Nat.le_of_ble_eq_true rfl) dL_law_320 ?_
    rw [hfit (hbt q314)]
    show nW _ _ _ _ _ [Value.int (zI 1)] _
    show nW (nZ Z) (zInv Z F (zM I 15 j t n)) (c + 1) (s + 6) [(7, .int (nI j)), (6, .int y), (5, .int (nI k)), (4, .int (nI n)), (3, .int (nI m)), (0, .ref b), (1, .ref (F.1 0)), (2, .ref bl)] [.int (zI 1)] 323
    refine n_if_ne (tgt := 328) hG dL_law_323 (by decide) (fun _ => ?_) (fun q9 => absurd q9 (by decide))
    refine n_iinc (lv' := [(7, .int (nI (j + 1))), (6, .int y), (5, .int (nI k)), (4, .int (nI n)), (3, .int (nI m)), (0, .ref b), (1, .ref (F.1 0)), (2, .ref bl)]) (v := nI (j + 1)) 0 hG dL_law_328 rfl (nI_1 j) (by decide) rfl ?_
    refine n_goto (tgt := 298) hG dL_law_331 (by decide) ?_
    exact kk _ hS2 (hM.ea hea)
theorem s_law_298n {y : Int32} (hZ : zOK Z "LineLearnerLaw" cL_law 10) (hR : zRoom Z rmG) (hcR : 600130 ≤ rmG.cells) (hsR : 7301080 ≤ rmG.slots) (hfR : 14 ≤ rmG.frames) (hlR : 558 ≤ rmG.locals) (hL : zLay F) (kret : ∀ (I : zStore) (lv : zLv) (pc : Nat), decode cL_law pc = .ok (.ireturn, 1) → nW (nZ Z) (zInv Z F I) 600130 7301080 lv [.int 1] pc) (hS : LSt I B N n) (hM : rMs I B N n) (hN : N ≤ 8) (hb : bOK m B) (hc : c + 20 ≤ 600130) (hs : s + 200 ≤ 7301080)
    (kk : ∀ I' : zStore, LSt I' B N n → rMs I' B N n → n ≤ 28 → nW (nZ Z) (zInv Z F I') (c + 8) (s + 48) [(5, .int (nI (k + 1))), (4, .int (nI n)), (3, .int (nI m)), (0, .ref b), (1, .ref (F.1 0)), (2, .ref bl)] [] 200) : nW (nZ Z) (zInv Z F I) c s [(7, .int (nI 0)), (6, .int y), (5, .int (nI k)), (4, .int (nI n)), (3, .int (nI m)), (0, .ref b), (1, .ref (F.1 0)), (2, .ref bl)] [] 298 := by
  have fin : ∀ (I' : zStore) (c1 s1 : Nat), LSt I' B N n → rMs I' B N n → c1 ≤ c + 8 → s1 ≤ s + 48 → nW (nZ Z) (zInv Z F I') c1 s1 [(7, .int (nI N)), (6, .int y), (5, .int (nI k)), (4, .int (nI n)), (3, .int (nI m)), (0, .ref b), (1, .ref (F.1 0)), (2, .ref bl)] [] 298 := fun I' c1 s1 g1 g2 hc1 hs1 => by
    have hn40 := g1.2.1.2.2.2.1.1.2.2
    have hG := zN_ok hZ
    have hRn := zN_rm hR
    refine n_iload 0 hG dL_law_298 rfl ?_
    refine n_aload_n 6 hG dL_law_300 rfl rfl ?_
    refine w_lineCount hZ hR hL g1.1 g1.2.1 (Nat.le_trans (by decide) hfR) (Nat.le_trans (by decide) hlR) (Nat.le_trans (show c1 + 0 ≤ 600130 by omega) hcR) (Nat.le_trans (show s1 + 0 ≤ 7301080 by omega) hsR) (Nat.le_of_ble_eq_true rfl) dL_law_301 ?_
    show nW (nZ Z) (zInv Z F I') (c1 + 0) (s1 + 0) [(7, .int (nI N)), (6, .int y), (5, .int (nI k)), (4, .int (nI n)), (3, .int (nI m)), (0, .ref b), (1, .ref (F.1 0)), (2, .ref bl)] [.int (nI N), .int (nI N)] 304
    refine n_icmp_ge (tgt := 334) hG dL_law_304 (by decide) (fun _ => ?_) (fun q9 => absurd (nI_le (Nat.le_refl _) (by omega)) q9)
    refine n_iload 3 hG dL_law_334 rfl ?_
    refine n_bipush (nI 28) hG dL_law_336 (by decide) ?_
    refine n_icmp_le (tgt := 343) hG dL_law_338 (by decide) (fun q338 => ?_) (fun q338 => ?_)
    · refine n_iinc (lv' := [(5, .int (nI (k + 1))), (7, .int (nI N)), (6, .int y), (4, .int (nI n)), (3, .int (nI m)), (0, .ref b), (1, .ref (F.1 0)), (2, .ref bl)]) (v := nI (k + 1)) 2 hG dL_law_343 rfl (nI_1 k) (by decide) rfl ?_
      refine n_goto (tgt := 200) hG dL_law_346 (by decide) ?_
      refine n_perm (lv' := [(5, .int (nI (k + 1))), (4, .int (nI n)), (3, .int (nI m)), (0, .ref b), (1, .ref (F.1 0)), (2, .ref bl)]) [0, 3, 4, 5, 6, 7] rfl ?_
      exact z_widen' hR (by omega) (by omega) (by omega) (by omega) (kk I' g1 g2 ((nI_leI (by omega) (by decide)).mp q338))
    · refine n_iconst 1 hG dL_law_341 (by decide) ?_
      exact z_widen' hR (by omega) (by omega) hcR hsR (kret _ _ _ dL_law_342)
  have key : ∀ (d j c1 s1 : Nat) (I' : zStore), j + d = N → LSt I' B N n → rMs I' B N n → c1 + d ≤ c + 8 → s1 + 6 * d ≤ s + 48 → nW (nZ Z) (zInv Z F I') c1 s1 [(7, .int (nI j)), (6, .int y), (5, .int (nI k)), (4, .int (nI n)), (3, .int (nI m)), (0, .ref b), (1, .ref (F.1 0)), (2, .ref bl)] [] 298 := by
    intro d
    induction d with
    | zero =>
      intro j c1 s1 I' hj g1 g2 hc1 hs1
      have : j = N := by omega
      subst this
      exact fin I' c1 s1 g1 g2 (by omega) (by omega)
    | succ d ih =>
      intro j c1 s1 I' hj g1 g2 hc1 hs1
      exact s_law_298 hZ hR hcR hsR hfR hlR hL g1 g2 (by omega) hN hb (by omega) (by omega) (fun I2 h1 h2 => ih (j + 1) (c1 + 1) (s1 + 6) I2 (by omega) h1 h2 (by omega) (by omega))
  exact key N 0 c s I (by omega) hS hM (by omega) (by omega)
theorem s_law_222 (hZ : zOK Z "LineLearnerLaw" cL_law 10) (hR : zRoom Z rmG) (hcR : 600130 ≤ rmG.cells) (hsR : 7301080 ≤ rmG.slots) (hfR : 14 ≤ rmG.frames) (hlR : 558 ≤ rmG.locals) (hL : zLay F) (kret : ∀ (I : zStore) (lv : zLv) (pc : Nat), decode cL_law pc = .ok (.ireturn, 1) → nW (nZ Z) (zInv Z F I) 600130 7301080 lv [.int 1] pc) (hS : LSt I B N n) (hM : rMs I B N n) (hO : OVp I N n) (hk : k < N) (hN : N ≤ 8) (hb : bOK m B) (h0 : zbit (B 119 0) k = 0) (hc : c + 40 ≤ 600130) (hs : s + 300 ≤ 7301080)
    (kk : ∀ (I' B' : zStore) (n' : Nat), LSt I' B' N n' → rMs I' B' N n' → OVp I' N n' → bOK (m ||| 2 ^ k) B' → (∀ l : Nat, zbit (B' 119 0) l = if l = k then 1 else zbit (B 119 0) l) → nW (nZ Z) (zInv Z F I') (c + 13) (s + 78) [(5, .int (nI (k + 1))), (4, .int (nI n')), (3, .int (nI (m ||| 2 ^ k))), (0, .ref b), (1, .ref (F.1 0)), (2, .ref bl)] [] 200) : nW (nZ Z) (zInv Z F I) c s [(5, .int (nI k)), (4, .int (nI n)), (3, .int (nI m)), (0, .ref b), (1, .ref (F.1 0)), (2, .ref bl)] [] 222 := by
  have hG := zN_ok hZ
  have hRn := zN_rm hR
  have ht := hS.2.1.1.2.1 k hk
  obtain ⟨t, hm4⟩ : ∃ t : Nat, I 4 k = t := ⟨(I 4 k).toNat, by have := ht.2.1.1; omega⟩
  have t12 := hS.tok hk hm4
  have hn40 := hS.2.1.2.2.2.1.1.2.2
  have hAl : zAl I 15 k n t := r_Al hS.2.1.1 hS.2.1.2.2.1 hS.2.1.2.2.2.1 hk hm4
  have hbd := zCC_bd hAl n t
  have hea : rEA I (ztab I 11 t n (zCC I 15 k)) := rEA.tab
  have hS1 := hS.ea hea (zRg_tabCC hAl hS.1 (by omega))
  have hM1 := hM.ea hea
  have hm41 : ztab I 11 t n (zCC I 15 k) 4 k = t := by rw [hea.c (c := 4) (by decide) (by decide) (by decide)]; exact hm4
  have h22 : I 22 k = 0 := by rw [hS.2.1.2.2.2.2.1.1 k (by omega)]; exact h0
  have h01 : ztab I 11 t n (zCC I 15 k) 22 k = 0 := by rw [hea.c (c := 22) (by decide) (by decide) (by decide)]; exact h22
  have hKl : zK I 15 k n t ≤ n + t := zlen_le
  have hKn := zK_n (I := I) (b := 15) (line := k) (n := n) (m := t)
  have hz := zfc_bd (zw_ I 15 k n t) (zK I 15 k n t)
  have hK0 : zK I 15 k n t ≤ 40 := by
    rcases hO with h | h
    · omega
    · exact h k t hk hm4 h22
  have hK1 : zK (ztab I 11 t n (zCC I 15 k)) 15 k n t ≤ 40 := by rw [zK_ea hea]; exact hK0
  have hset := hb.set (t := t) hS1.2.1 hN hk h0
  have hS2 := hS1.merge hk hm41 h01 hK1
  have hM2 := rMs.merge hS1 hM1 hk hm41 h01 hK1
  have hbit := bit_set (l := k) hb.1 (by omega)
  have hbk := hset.2 k
  rw [if_pos rfl] at hbk
  have hKe : zK (ztab I 11 t n (zCC I 15 k)) 15 k n t = zK I 15 k n t := zK_ea hea
  have hm42 : zmg (ztab I 11 t n (zCC I 15 k)) k n t 4 k = t := by
    rw [zmg_o (by decide) (by decide), zaj_o (by decide) (by decide) (by decide) (by decide) (by decide)]
    exact hm41
  rw [hKe] at hS2 hM2
  obtain ⟨n2, hn2⟩ : ∃ n2, n2 = zK I 15 k n t := ⟨_, rfl⟩
  rw [← hn2] at hS2 hM2 hKl hKn hz hK0
  obtain ⟨I2, hI2⟩ : ∃ I2, I2 = zmg (ztab I 11 t n (zCC I 15 k)) k n t := ⟨_, rfl⟩
  obtain ⟨B2, hB2⟩ : ∃ B2, B2 = zmaj B 0 k n t := ⟨_, rfl⟩
  rw [← hI2] at hS2 hM2 hm42
  rw [← hB2] at hS2 hM2 hset hbk
  have hB14 : B2 114 k = t := ((hS2.2.1.1.2.1 k hk).2.1.2.2).trans hm42
  have hfit := fits_of hS2 hM2 hk hbk hm42
  have hS3 : LSt (zM I2 15 k t n2) B2 N n2 := hS2.ea rEA.row (zRg_M hS2.1)
  have hM3 := hM2.ea (rEA.row (I := I2) (l := k) (m := t) (n := n2))
  refine n_aload_n 4 hG dL_law_222 rfl rfl ?_
  refine n_iload 0 hG dL_law_223 rfl ?_
  refine w_costWith hZ hR hL hS.1 hS.2.1 hk hm4 (Nat.le_trans (by decide) hfR) (Nat.le_trans (by decide) hlR) (Nat.le_trans (show c + 1 ≤ 600130 by omega) hcR) (Nat.le_trans (show s + 6 ≤ 7301080 by omega) hsR) (Nat.le_of_ble_eq_true rfl) dL_law_225 ?_
  show nW (nZ Z) (zInv Z F (ztab I 11 t n (zCC I 15 k))) (c + 1) (s + 6) [(5, .int (nI k)), (4, .int (nI n)), (3, .int (nI m)), (0, .ref b), (1, .ref (F.1 0)), (2, .ref bl)] [.int (zI (zCC I 15 k n t))] 228
  refine n_istore (lv' := [(6, .int (zI (zCC I 15 k n t))), (5, .int (nI k)), (4, .int (nI n)), (3, .int (nI m)), (0, .ref b), (1, .ref (F.1 0)), (2, .ref bl)]) hG dL_law_228 (by decide) rfl ?_
  refine n_iload 0 hG dL_law_230 rfl ?_
  refine n_if_lt (tgt := 280) hG dL_law_232 (by decide) (fun q9 => absurd q9 (zInt_lt hbd.1 (by omega))) (fun _ => ?_)
  refine n_aload_n 5 hG dL_law_235 rfl rfl ?_
  refine n_iload 1 hG dL_law_236 rfl ?_
  refine w_merge hZ hR hL hS1.1 hS1.2.1 hk hm41 h01 hK1 (Nat.le_trans (by decide) hfR) (Nat.le_trans (by decide) hlR) (Nat.le_trans (show c + 1 + 2 ≤ 600130 by omega) hcR) (Nat.le_trans (show s + 6 + 12 ≤ 7301080 by omega) hsR) (Nat.le_of_ble_eq_true rfl) dL_law_238 ?_
  rw [zCC_ea hea]
  rw [← hI2]
  show nW (nZ Z) (zInv Z F I2) (c + 1 + 2) (s + 6 + 12) [(6, .int (zI (zCC I 15 k n t))), (5, .int (nI k)), (4, .int (nI n)), (3, .int (nI m)), (0, .ref b), (1, .ref (F.1 0)), (2, .ref bl)] [.int (zI (zCC I 15 k n t))] 241
  refine n_iload 0 hG dL_law_241 rfl ?_
  refine n_icmp_ne (tgt := 280) hG dL_law_243 (by decide) (fun q9 => absurd q9 (fun h9 => h9 rfl)) (fun _ => ?_)
  refine n_aload_n 5 hG dL_law_246 rfl rfl ?_
  refine w_slotCount hZ hR hL hS2.1 hS2.2.1 (Nat.le_trans (by decide) hfR) (Nat.le_trans (by decide) hlR) (Nat.le_trans (show c + 1 + 2 + 0 ≤ 600130 by omega) hcR) (Nat.le_trans (show s + 6 + 12 + 0 ≤ 7301080 by omega) hsR) (Nat.le_of_ble_eq_true rfl) dL_law_247 ?_
  show nW (nZ Z) (zInv Z F I2) (c + 1 + 2 + 0) (s + 6 + 12 + 0) [(6, .int (zI (zCC I 15 k n t))), (5, .int (nI k)), (4, .int (nI n)), (3, .int (nI m)), (0, .ref b), (1, .ref (F.1 0)), (2, .ref bl)] [.int (nI n2)] 250
  refine n_iload 2 hG dL_law_250 rfl ?_
  refine n_icmp_lt (tgt := 280) hG dL_law_252 (by decide) (fun q9 => absurd q9 (nI_nlt (by omega) (by omega))) (fun _ => ?_)
  refine n_aload_n 5 hG dL_law_255 rfl rfl ?_
  refine w_slotCount hZ hR hL hS2.1 hS2.2.1 (Nat.le_trans (by decide) hfR) (Nat.le_trans (by decide) hlR) (Nat.le_trans (show c + 1 + 2 + 0 + 0 ≤ 600130 by omega) hcR) (Nat.le_trans (show s + 6 + 12 + 0 + 0 ≤ 7301080 by omega) hsR) (Nat.le_of_ble_eq_true rfl) dL_law_256 ?_
  show nW (nZ Z) (zInv Z F I2) (c + 1 + 2 + 0 + 0) (s + 6 + 12 + 0 + 0) [(6, .int (zI (zCC I 15 k n t))), (5, .int (nI k)), (4, .int (nI n)), (3, .int (nI m)), (0, .ref b), (1, .ref (F.1 0)), (2, .ref bl)] [.int (nI n2)] 259
  refine n_iload 2 hG dL_law_259 rfl ?_
  refine n_aload_n 5 hG dL_law_261 rfl rfl ?_
  refine n_iload 1 hG dL_law_262 rfl ?_
  refine w_tokenCount hZ hR hL hS2.1 hS2.2.1 hk (Nat.le_trans (by decide) hfR) (Nat.le_trans (by decide) hlR) (Nat.le_trans (show c + 1 + 2 + 0 + 0 + 1 ≤ 600130 by omega) hcR) (Nat.le_trans (show s + 6 + 12 + 0 + 0 + 6 ≤ 7301080 by omega) hsR) (Nat.le_of_ble_eq_true rfl) dL_law_264 ?_
  rw [hB14, zI_nat]
  show nW (nZ Z) (zInv Z F I2) (c + 1 + 2 + 0 + 0 + 1) (s + 6 + 12 + 0 + 0 + 6) [(6, .int (zI (zCC I 15 k n t))), (5, .int (nI k)), (4, .int (nI n)), (3, .int (nI m)), (0, .ref b), (1, .ref (F.1 0)), (2, .ref bl)] [.int (nI t), .int (nI n), .int (nI n2)] 267
  refine n_iadd (z := nI (n + t)) hG dL_law_267 (nI_add _ _) ?_
  refine n_icmp_gt (tgt := 280) hG dL_law_268 (by decide) (fun q9 => absurd q9 (nI_nlt (by omega) (by omega))) (fun _ => ?_)
  refine n_aload_n 5 hG dL_law_271 rfl rfl ?_
  refine n_iload 1 hG dL_law_272 rfl ?_
  refine w_fits hZ hR hL hS2.1 hS2.2.1 hk hm42 (Nat.le_trans (by decide) hfR) (Nat.le_trans (by decide) hlR) (Nat.le_trans (show c + 1 + 2 + 0 + 0 + 1 + 1 ≤ 600130 by omega) hcR) (Nat.le_trans (show s + 6 + 12 + 0 + 0 + 6 + 6 ≤ 7301080 by omega) hsR) (Nat.le_of_ble_eq_true rfl) dL_law_274 ?_
  rw [hfit]
  show nW _ _ _ _ _ [Value.int (zI 1)] _
  show nW (nZ Z) (zInv Z F (zM I2 15 k t n2)) (c + 1 + 2 + 0 + 0 + 1 + 1) (s + 6 + 12 + 0 + 0 + 6 + 6) [(6, .int (zI (zCC I 15 k n t))), (5, .int (nI k)), (4, .int (nI n)), (3, .int (nI m)), (0, .ref b), (1, .ref (F.1 0)), (2, .ref bl)] [.int (zI 1)] 277
  refine n_if_ne (tgt := 282) hG dL_law_277 (by decide) (fun _ => ?_) (fun q9 => absurd q9 (by decide))
  refine n_aload_n 5 hG dL_law_282 rfl rfl ?_
  refine w_slotCount hZ hR hL hS3.1 hS3.2.1 (Nat.le_trans (by decide) hfR) (Nat.le_trans (by decide) hlR) (Nat.le_trans (show c + 1 + 2 + 0 + 0 + 1 + 1 + 0 ≤ 600130 by omega) hcR) (Nat.le_trans (show s + 6 + 12 + 0 + 0 + 6 + 6 + 0 ≤ 7301080 by omega) hsR) (Nat.le_of_ble_eq_true rfl) dL_law_283 ?_
  show nW (nZ Z) (zInv Z F (zM I2 15 k t n2)) (c + 1 + 2 + 0 + 0 + 1 + 1 + 0) (s + 6 + 12 + 0 + 0 + 6 + 6 + 0) [(6, .int (zI (zCC I 15 k n t))), (5, .int (nI k)), (4, .int (nI n)), (3, .int (nI m)), (0, .ref b), (1, .ref (F.1 0)), (2, .ref bl)] [.int (nI n2)] 286
  refine n_istore (lv' := [(4, .int (nI n2)), (6, .int (zI (zCC I 15 k n t))), (5, .int (nI k)), (3, .int (nI m)), (0, .ref b), (1, .ref (F.1 0)), (2, .ref bl)]) hG dL_law_286 (by decide) rfl ?_
  refine n_iload_n 3 hG dL_law_288 rfl rfl ?_
  refine n_iconst 1 hG dL_law_289 (by decide) ?_
  refine n_iload 2 hG dL_law_290 rfl ?_
  refine n_ishl (z := ((1 : Int32) <<< (nI k &&& 31))) hG dL_law_292 rfl ?_
  refine n_ior (z := nI (m ||| 2 ^ k)) hG dL_law_293 hbit.1 ?_
  refine n_istore_n (lv' := [(3, .int (nI (m ||| 2 ^ k))), (4, .int (nI n2)), (6, .int (zI (zCC I 15 k n t))), (5, .int (nI k)), (0, .ref b), (1, .ref (F.1 0)), (2, .ref bl)]) hG dL_law_294 rfl (by decide) rfl ?_
  refine n_iconst (nI 0) hG dL_law_295 (by decide) ?_
  refine n_istore (lv' := [(7, .int (nI 0)), (3, .int (nI (m ||| 2 ^ k))), (4, .int (nI n2)), (6, .int (zI (zCC I 15 k n t))), (5, .int (nI k)), (0, .ref b), (1, .ref (F.1 0)), (2, .ref bl)]) hG dL_law_296 (by decide) rfl ?_
  refine n_perm (lv' := [(7, .int (nI 0)), (6, .int (zI (zCC I 15 k n t))), (5, .int (nI k)), (4, .int (nI n2)), (3, .int (nI (m ||| 2 ^ k))), (0, .ref b), (1, .ref (F.1 0)), (2, .ref bl)]) [0, 3, 4, 2, 1, 5, 6, 7] rfl ?_
  exact s_law_298n (c := c + 1 + 2 + 0 + 0 + 1 + 1 + 0) (s := s + 6 + 12 + 0 + 0 + 6 + 6 + 0) hZ hR hcR hsR hfR hlR hL kret hS3 hM3 hN hset.1 (by omega) (by omega) (fun I4 g1 g2 g3 => z_widen' hR (by omega) (by omega) (by omega) (by omega) (kk I4 B2 n2 g1 g2 (Or.inl g3) hset.1 hset.2))
theorem s_law_200 (hZ : zOK Z "LineLearnerLaw" cL_law 10) (hR : zRoom Z rmG) (hcR : 600130 ≤ rmG.cells) (hsR : 7301080 ≤ rmG.slots) (hfR : 14 ≤ rmG.frames) (hlR : 558 ≤ rmG.locals) (hL : zLay F) (kret : ∀ (I : zStore) (lv : zLv) (pc : Nat), decode cL_law pc = .ok (.ireturn, 1) → nW (nZ Z) (zInv Z F I) 600130 7301080 lv [.int 1] pc) (hN : 1 ≤ N ∧ N ≤ 8) : ∀ (d k n m c s : Nat) (I B : zStore), k + d = N → LSt I B N n → rMs I B N n → OVp I N n → bOK m B → (∀ l : Nat, l < k → zbit (B 119 0) l = 1) → c + 13 * d + 100 ≤ 600130 → s + 78 * d + 1000 ≤ 7301080 → nW (nZ Z) (zInv Z F I) c s [(5, .int (nI k)), (4, .int (nI n)), (3, .int (nI m)), (0, .ref b), (1, .ref (F.1 0)), (2, .ref bl)] [] 200 := by
  intro d
  induction d with
  | zero =>
    intro k n m c s I B hkd hS hM hO hb hal hc hs
    have hkN : k = N := by omega
    subst hkN
    have hG := zN_ok hZ
    have hRn := zN_rm hR
    refine n_iload 0 hG dL_law_200 rfl ?_
    refine n_aload_n 4 hG dL_law_202 rfl rfl ?_
    refine w_lineCount hZ hR hL hS.1 hS.2.1 (Nat.le_trans (by decide) hfR) (Nat.le_trans (by decide) hlR) (Nat.le_trans (show c + 0 ≤ 600130 by omega) hcR) (Nat.le_trans (show s + 0 ≤ 7301080 by omega) hsR) (Nat.le_of_ble_eq_true rfl) dL_law_203 ?_
    show nW (nZ Z) (zInv Z F I) (c + 0) (s + 0) [(5, .int (nI k)), (4, .int (nI n)), (3, .int (nI m)), (0, .ref b), (1, .ref (F.1 0)), (2, .ref bl)] [.int (nI k), .int (nI k)] 206
    refine n_icmp_ge (tgt := 349) hG dL_law_206 (by decide) (fun _ => ?_) (fun q9 => absurd (nI_le (Nat.le_refl _) (by omega)) q9)
    exact s_law_349 hZ hR hcR hsR hfR hlR hL kret hS hN hal (by omega) (by omega)
  | succ d ih =>
    intro k n m c s I B hkd hS hM hO hb hal hc hs
    have hG := zN_ok hZ
    have hRn := zN_rm hR
    have hbit := hb.2 k (by omega)
    have h01 := zbit_01 (B 119 0) k
    have hmer : nI (if m.testBit k then 1 else 0) = nI 1 → zbit (B 119 0) k = 1 := fun h => by
      by_cases q : m.testBit k = true
      · rw [hbit] at q
        exact of_decide_eq_true q
      · rw [if_neg q] at h
        exact absurd h (by decide)
    have hunm : ¬ nI (if m.testBit k then 1 else 0) = nI 1 → zbit (B 119 0) k = 0 := fun h => by
      by_cases q : m.testBit k = true
      · rw [if_pos q] at h
        exact absurd rfl h
      · rw [hbit] at q
        have : ¬ zbit (B 119 0) k = 1 := fun e => q (decide_eq_true e)
        omega
    refine n_iload 0 hG dL_law_200 rfl ?_
    refine n_aload_n 4 hG dL_law_202 rfl rfl ?_
    refine w_lineCount hZ hR hL hS.1 hS.2.1 (Nat.le_trans (by decide) hfR) (Nat.le_trans (by decide) hlR) (Nat.le_trans (show c + 0 ≤ 600130 by omega) hcR) (Nat.le_trans (show s + 0 ≤ 7301080 by omega) hsR) (Nat.le_of_ble_eq_true rfl) dL_law_203 ?_
    show nW (nZ Z) (zInv Z F I) (c + 0) (s + 0) [(5, .int (nI k)), (4, .int (nI n)), (3, .int (nI m)), (0, .ref b), (1, .ref (F.1 0)), (2, .ref bl)] [.int (nI N), .int (nI k)] 206
    refine n_icmp_ge (tgt := 349) hG dL_law_206 (by decide) (fun q9 => absurd q9 (nI_ge (by omega) (by omega))) (fun _ => ?_)
    refine n_iload_n 2 hG dL_law_209 rfl rfl ?_
    refine n_iload 0 hG dL_law_210 rfl ?_
    refine n_ishr (z := (nI m >>> (nI k &&& 31))) hG dL_law_212 rfl ?_
    refine n_iconst 1 hG dL_law_213 (by decide) ?_
    refine n_iand (z := nI (if m.testBit k then 1 else 0)) hG dL_law_214 (bit_get hb.1 (by omega)) ?_
    refine n_iconst (nI 1) hG dL_law_215 (by decide) ?_
    refine n_icmp_ne (tgt := 222) hG dL_law_216 (by decide) (fun q216 => ?_) (fun q216 => ?_)
    · exact s_law_222 (c := c + 0) (s := s + 0) hZ hR hcR hsR hfR hlR hL kret hS hM hO (by omega) hN.2 hb (hunm q216) (by omega) (by omega) (fun I' B' n' g1 g2 g3 g4 g5 => ih (k + 1) n' _ _ _ I' B' (by omega) g1 g2 g3 g4 (fun l hl => by
        rw [g5]
        by_cases e : l = k
        · rw [if_pos e]
        · rw [if_neg e]
          exact hal l (by omega)) (by omega) (by omega))
    · refine n_goto (tgt := 343) hG dL_law_219 (by decide) ?_
      refine n_iinc (lv' := [(5, .int (nI (k + 1))), (4, .int (nI n)), (3, .int (nI m)), (0, .ref b), (1, .ref (F.1 0)), (2, .ref bl)]) (v := nI (k + 1)) 0 hG dL_law_343 rfl (nI_1 k) (by decide) rfl ?_
      refine n_goto (tgt := 200) hG dL_law_346 (by decide) ?_
      exact ih (k + 1) n m _ _ I B (by omega) hS hM hO hb (fun l hl => by
        by_cases e : l = k
        · rw [e]
          exact hmer q216
        · exact hal l (by omega)) (by omega) (by omega)
end LX
