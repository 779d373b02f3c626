section LW
variable {Z : zCx} {F : zFr} {I B : zStore} {bl b N n m k c s : Nat} {rmG : Room}
theorem zRg_M {l : Int} {t : Nat} (hr : zRg I) : zRg (zM I 15 l t n) := zRg_fl hr fun j _ => by
  unfold zb
  split <;> decide
/-- a slot without a token of the line -/
theorem s_law_96a {t w : Nat} (hZ : zOK Z "LineLearnerLaw" cL_law 10) (hR : zRoom Z rmG) (hcR : 600130 ≤ rmG.cells) (hsR : 7301080 ≤ rmG.slots) (hfR : 14 ≤ rmG.frames) (hlR : 558 ≤ rmG.locals) (hL : zLay F) (hS : LSt I B N n) (hM : rMs I B N n) (hk : k < N) (hN : N ≤ 8) (hn : n ≤ 40) (ht : t < n) (hw : zbit (B 119 0) k = w) (hv : zU B t k = (-1)) (hc : c + 6 ≤ 600130) (hs : s + 36 ≤ 7301080)
    (kk : nW (nZ Z) (zInv Z F I) (c + 6) (s + 36) [(8, .int (nI (t + 1))), (7, .int (nI (ucnt B k (t + 1)))), (6, .int (nI w)), (5, .int (nI k)), (4, .int (nI n)), (3, .int (nI m)), (0, .ref b), (1, .ref (F.1 0)), (2, .ref bl)] [] 96) : nW (nZ Z) (zInv Z F I) c s [(8, .int (nI t)), (7, .int (nI (ucnt B k t))), (6, .int (nI w)), (5, .int (nI k)), (4, .int (nI n)), (3, .int (nI m)), (0, .ref b), (1, .ref (F.1 0)), (2, .ref bl)] [] 96 := by
  have hG := zN_ok hZ
  have hRn := zN_rm hR
  have hu : ucnt B k (t + 1) = ucnt B k t := by
    simp only [ucnt]
    rw [if_pos hv]
    omega
  rw [hu] at kk
  have h01 := zbit_01 (B 119 0) k
  refine n_iload 0 hG dL_law_96 rfl ?_
  refine n_iload 4 hG dL_law_98 rfl ?_
  refine n_icmp_ge (tgt := 169) hG dL_law_100 (by decide) (fun q9 => absurd q9 (nI_ge ht (by omega))) (fun _ => ?_)
  refine n_aload_n 7 hG dL_law_103 rfl rfl ?_
  refine n_iload 3 hG dL_law_104 rfl ?_
  refine n_iload 0 hG dL_law_106 rfl ?_
  refine w_tokenAt hZ hR hL hS.1 hS.2.1 hk ht (Nat.le_trans (by decide) hfR) (Nat.le_trans (by decide) hlR) (Nat.le_trans (show c + 2 ≤ 600130 by omega) hcR) (Nat.le_trans (show s + 12 ≤ 7301080 by omega) hsR) (Nat.le_of_ble_eq_true rfl) dL_law_108 ?_
  rw [show B 122 (12 * (40 * 0 + (t : Int)) + (k : Nat)) = (-1) from hv]
  show nW (nZ Z) (zInv Z F I) (c + 2) (s + 12) [(8, .int (nI t)), (7, .int (nI (ucnt B k t))), (6, .int (nI w)), (5, .int (nI k)), (4, .int (nI n)), (3, .int (nI m)), (0, .ref b), (1, .ref (F.1 0)), (2, .ref bl)] [.int (zI (-1))] 111
  refine n_istore (lv' := [(9, .int (zI (-1))), (8, .int (nI t)), (7, .int (nI (ucnt B k t))), (6, .int (nI w)), (5, .int (nI k)), (4, .int (nI n)), (3, .int (nI m)), (0, .ref b), (1, .ref (F.1 0)), (2, .ref bl)]) hG dL_law_111 (by decide) rfl ?_
  refine n_iload 0 hG dL_law_113 rfl ?_
  refine n_if_ge (tgt := 134) hG dL_law_115 (by decide) (fun q9 => absurd q9 (by decide)) (fun _ => ?_)
  refine n_iload 3 hG dL_law_118 rfl ?_
  refine n_if_eq (tgt := 163) hG dL_law_120 (by decide) (fun q120 => ?_) (fun q120 => ?_)
  · refine n_iinc (lv' := [(8, .int (nI (t + 1))), (9, .int (zI (-1))), (7, .int (nI (ucnt B k t))), (6, .int (nI w)), (5, .int (nI k)), (4, .int (nI n)), (3, .int (nI m)), (0, .ref b), (1, .ref (F.1 0)), (2, .ref bl)]) (v := nI (t + 1)) 1 hG dL_law_163 rfl (nI_1 t) (by decide) rfl ?_
    refine n_goto (tgt := 96) hG dL_law_166 (by decide) ?_
    refine n_perm (lv' := [(8, .int (nI (t + 1))), (7, .int (nI (ucnt B k t))), (6, .int (nI w)), (5, .int (nI k)), (4, .int (nI n)), (3, .int (nI m)), (0, .ref b), (1, .ref (F.1 0)), (2, .ref bl)]) [0, 2, 3, 4, 5, 6, 7, 8, 9] rfl ?_
    exact z_widen' hR (by omega) (by omega) (by omega) (by omega) kk
  · have hopt := u_opt hS.2.1 hk (by rw [hw]; by_cases q : w = 0; exact absurd (by rw [q]; rfl) q120; omega) ht hv
    refine n_aload_n 8 hG dL_law_123 rfl rfl ?_
    refine n_iload 1 hG dL_law_124 rfl ?_
    refine w_isOptional hZ hR hL hS.1 hS.2.1 ht (Nat.le_trans (by decide) hfR) (Nat.le_trans (by decide) hlR) (Nat.le_trans (show c + 2 + 1 ≤ 600130 by omega) hcR) (Nat.le_trans (show s + 12 + 6 ≤ 7301080 by omega) hsR) (Nat.le_of_ble_eq_true rfl) dL_law_126 ?_
    rw [if_pos hopt]
    show nW (nZ Z) (zInv Z F I) (c + 2 + 1) (s + 12 + 6) [(9, .int (zI (-1))), (8, .int (nI t)), (7, .int (nI (ucnt B k t))), (6, .int (nI w)), (5, .int (nI k)), (4, .int (nI n)), (3, .int (nI m)), (0, .ref b), (1, .ref (F.1 0)), (2, .ref bl)] [.int (zI 1)] 129
    refine n_if_ne (tgt := 163) hG dL_law_129 (by decide) (fun _ => ?_) (fun q9 => absurd q9 (by decide))
    refine n_iinc (lv' := [(8, .int (nI (t + 1))), (9, .int (zI (-1))), (7, .int (nI (ucnt B k t))), (6, .int (nI w)), (5, .int (nI k)), (4, .int (nI n)), (3, .int (nI m)), (0, .ref b), (1, .ref (F.1 0)), (2, .ref bl)]) (v := nI (t + 1)) 1 hG dL_law_163 rfl (nI_1 t) (by decide) rfl ?_
    refine n_goto (tgt := 96) hG dL_law_166 (by decide) ?_
    refine n_perm (lv' := [(8, .int (nI (t + 1))), (7, .int (nI (ucnt B k t))), (6, .int (nI w)), (5, .int (nI k)), (4, .int (nI n)), (3, .int (nI m)), (0, .ref b), (1, .ref (F.1 0)), (2, .ref bl)]) [0, 2, 3, 4, 5, 6, 7, 8, 9] rfl ?_
    exact z_widen' hR (by omega) (by omega) (by omega) (by omega) kk
theorem s_law_96b {t w v : Nat} (hZ : zOK Z "LineLearnerLaw" cL_law 10) (hR : zRoom Z rmG) (hcR : 600130 ≤ rmG.cells) (hsR : 7301080 ≤ rmG.slots) (hfR : 14 ≤ rmG.frames) (hlR : 558 ≤ rmG.locals) (hL : zLay F) (hS : LSt I B N n) (hM : rMs I B N n) (hk : k < N) (hN : N ≤ 8) (hn : n ≤ 40) (ht : t < n) (hv : zU B t k = v) (h1 : zbit (B 119 0) k = 1) (hc : c + 6 ≤ 600130) (hs : s + 36 ≤ 7301080)
    (kk : nW (nZ Z) (zInv Z F I) (c + 6) (s + 36) [(8, .int (nI (t + 1))), (7, .int (nI (ucnt B k (t + 1)))), (6, .int (nI w)), (5, .int (nI k)), (4, .int (nI n)), (3, .int (nI m)), (0, .ref b), (1, .ref (F.1 0)), (2, .ref bl)] [] 96) : nW (nZ Z) (zInv Z F I) c s [(8, .int (nI t)), (7, .int (nI (ucnt B k t))), (6, .int (nI w)), (5, .int (nI k)), (4, .int (nI n)), (3, .int (nI m)), (0, .ref b), (1, .ref (F.1 0)), (2, .ref bl)] [] 96 := by
  have hG := zN_ok hZ
  have hRn := zN_rm hR
  have hvn : zU B t k ≠ (-1) := by omega
  have hu : ucnt B k (t + 1) = ucnt B k t + 1 := by
    simp only [ucnt]
    rw [if_neg hvn]
  rw [hu] at kk
  have hat := ucnt_at hS.2.1 hM hk h1 ht hvn
  have hvu : v = ucnt B k t := by omega
  have huk := u_kind hS.2.1 hk ht hv
  have ht2 := (hS.2.1.1.2.1 k hk).2.1
  have hv30 : v < 30 := by omega
  refine n_iload 0 hG dL_law_96 rfl ?_
  refine n_iload 4 hG dL_law_98 rfl ?_
  refine n_icmp_ge (tgt := 169) hG dL_law_100 (by decide) (fun q9 => absurd q9 (nI_ge ht (by omega))) (fun _ => ?_)
  refine n_aload_n 7 hG dL_law_103 rfl rfl ?_
  refine n_iload 3 hG dL_law_104 rfl ?_
  refine n_iload 0 hG dL_law_106 rfl ?_
  refine w_tokenAt hZ hR hL hS.1 hS.2.1 hk ht (Nat.le_trans (by decide) hfR) (Nat.le_trans (by decide) hlR) (Nat.le_trans (show c + 2 ≤ 600130 by omega) hcR) (Nat.le_trans (show s + 12 ≤ 7301080 by omega) hsR) (Nat.le_of_ble_eq_true rfl) dL_law_108 ?_
  rw [show B 122 (12 * (40 * 0 + (t : Int)) + (k : Nat)) = (v : Int) from hv, zI_nat]
  show nW (nZ Z) (zInv Z F I) (c + 2) (s + 12) [(8, .int (nI t)), (7, .int (nI (ucnt B k t))), (6, .int (nI w)), (5, .int (nI k)), (4, .int (nI n)), (3, .int (nI m)), (0, .ref b), (1, .ref (F.1 0)), (2, .ref bl)] [.int (nI v)] 111
  refine n_istore (lv' := [(9, .int (nI v)), (8, .int (nI t)), (7, .int (nI (ucnt B k t))), (6, .int (nI w)), (5, .int (nI k)), (4, .int (nI n)), (3, .int (nI m)), (0, .ref b), (1, .ref (F.1 0)), (2, .ref bl)]) hG dL_law_111 (by decide) rfl ?_
  refine n_iload 0 hG dL_law_113 rfl ?_
  refine n_if_ge (tgt := 134) hG dL_law_115 (by decide) (fun _ => ?_) (fun q9 => absurd (nI_pos' (by omega)) q9)
  refine n_iload 0 hG dL_law_134 rfl ?_
  refine n_iload 2 hG dL_law_136 rfl ?_
  refine n_icmp_ne (tgt := 158) hG dL_law_138 (by decide) (fun q9 => absurd q9 (fun h9 => h9 (by rw [hvu]))) (fun _ => ?_)
  refine n_aload_n 8 hG dL_law_141 rfl rfl ?_
  refine n_iload 4 hG dL_law_142 rfl ?_
  refine n_iload 0 hG dL_law_144 rfl ?_
  refine w_tokenKind hZ hR hL hS.1 hS.2.1 hk huk.1 (Nat.le_trans (by decide) hfR) (Nat.le_trans (by decide) hlR) (Nat.le_trans (show c + 2 + 2 ≤ 600130 by omega) hcR) (Nat.le_trans (show s + 12 + 12 ≤ 7301080 by omega) hsR) (Nat.le_of_ble_eq_true rfl) dL_law_146 ?_
  show nW (nZ Z) (zInv Z F I) (c + 2 + 2) (s + 12 + 12) [(9, .int (nI v)), (8, .int (nI t)), (7, .int (nI (ucnt B k t))), (6, .int (nI w)), (5, .int (nI k)), (4, .int (nI n)), (3, .int (nI m)), (0, .ref b), (1, .ref (F.1 0)), (2, .ref bl)] [.int (zI (B 115 (30 * k + v)))] 149
  refine n_aload_n 8 hG dL_law_149 rfl rfl ?_
  refine n_iload 1 hG dL_law_150 rfl ?_
  refine w_slotKind hZ hR hL hS.1 hS.2.1 ht (Nat.le_trans (by decide) hfR) (Nat.le_trans (by decide) hlR) (Nat.le_trans (show c + 2 + 2 + 1 ≤ 600130 by omega) hcR) (Nat.le_trans (show s + 12 + 12 + 6 ≤ 7301080 by omega) hsR) (Nat.le_of_ble_eq_true rfl) dL_law_152 ?_
  show nW (nZ Z) (zInv Z F I) (c + 2 + 2 + 1) (s + 12 + 12 + 6) [(9, .int (nI v)), (8, .int (nI t)), (7, .int (nI (ucnt B k t))), (6, .int (nI w)), (5, .int (nI k)), (4, .int (nI n)), (3, .int (nI m)), (0, .ref b), (1, .ref (F.1 0)), (2, .ref bl)] [.int (zI (B 120 (40 * 0 + t))), .int (zI (B 115 (30 * k + v)))] 155
  refine n_icmp_eq (tgt := 160) hG dL_law_155 (by decide) (fun _ => ?_) (fun q9 => absurd (by rw [huk.2]) q9)
  refine n_iinc (lv' := [(7, .int (nI (ucnt B k t + 1))), (9, .int (nI v)), (8, .int (nI t)), (6, .int (nI w)), (5, .int (nI k)), (4, .int (nI n)), (3, .int (nI m)), (0, .ref b), (1, .ref (F.1 0)), (2, .ref bl)]) (v := nI (ucnt B k t + 1)) 2 hG dL_law_160 rfl (nI_1 _) (by decide) rfl ?_
  refine n_iinc (lv' := [(8, .int (nI (t + 1))), (7, .int (nI (ucnt B k t + 1))), (9, .int (nI v)), (6, .int (nI w)), (5, .int (nI k)), (4, .int (nI n)), (3, .int (nI m)), (0, .ref b), (1, .ref (F.1 0)), (2, .ref bl)]) (v := nI (t + 1)) 2 hG dL_law_163 rfl (nI_1 t) (by decide) rfl ?_
  refine n_goto (tgt := 96) hG dL_law_166 (by decide) ?_
  refine n_perm (lv' := [(8, .int (nI (t + 1))), (7, .int (nI (ucnt B k t + 1))), (6, .int (nI w)), (5, .int (nI k)), (4, .int (nI n)), (3, .int (nI m)), (0, .ref b), (1, .ref (F.1 0)), (2, .ref bl)]) [0, 1, 3, 4, 5, 6, 7, 8, 9] rfl ?_
  exact z_widen' hR (by omega) (by omega) (by omega) (by omega) kk
theorem s_law_96e {w : Nat} (hZ : zOK Z "LineLearnerLaw" cL_law 10) (hR : zRoom Z rmG) (hcR : 600130 ≤ rmG.cells) (hsR : 7301080 ≤ rmG.slots) (hfR : 14 ≤ rmG.frames) (hlR : 558 ≤ rmG.locals) (hL : zLay F) (hS : LSt I B N n) (hM : rMs I B N n) (hk : k < N) (hN : N ≤ 8) (hn : n ≤ 40) (hw : zbit (B 119 0) k = w) (hc : c + 1 ≤ 600130) (hs : s + 6 ≤ 7301080)
    (kk : nW (nZ Z) (zInv Z F I) (c + 1) (s + 6) [(5, .int (nI (k + 1))), (4, .int (nI n)), (3, .int (nI m)), (0, .ref b), (1, .ref (F.1 0)), (2, .ref bl)] [] 37) : nW (nZ Z) (zInv Z F I) c s [(8, .int (nI n)), (7, .int (nI (ucnt B k n))), (6, .int (nI w)), (5, .int (nI k)), (4, .int (nI n)), (3, .int (nI m)), (0, .ref b), (1, .ref (F.1 0)), (2, .ref bl)] [] 96 := by
  have hG := zN_ok hZ
  have hRn := zN_rm hR
  have h01 := zbit_01 (B 119 0) k
  have e0 : nI w = 0 → ucnt B k n = 0 := fun h => by
    have hw0 : w = 0 := by
      by_cases q : w = 0
      · exact q
      · have : w = 1 := by omega
        rw [this] at h
        exact absurd h (by decide)
    exact ucnt_0 (n := n) (fun s hs => zU_no hS.2.1 hk (by omega) hs) n (Nat.le_refl n)
  have e1 : ¬ nI w = 0 → zI (B 114 k) = nI (ucnt B k n) := fun h => by
    have hw1 : w = 1 := by
      by_cases q : w = 0
      · exact absurd (by rw [q]; rfl) h
      · omega
    rw [← ucnt_n hS.2.1 hM hk (by omega), zI_nat]
  refine n_iload 0 hG dL_law_96 rfl ?_
  refine n_iload 4 hG dL_law_98 rfl ?_
  refine n_icmp_ge (tgt := 169) hG dL_law_100 (by decide) (fun _ => ?_) (fun q9 => absurd (nI_le (Nat.le_refl _) (by omega)) q9)
  refine n_iload 1 hG dL_law_169 rfl ?_
  refine n_iload 2 hG dL_law_171 rfl ?_
  refine n_if_eq (tgt := 185) hG dL_law_173 (by decide) (fun q173 => ?_) (fun q173 => ?_)
  · refine n_iconst 0 hG dL_law_185 (by decide) ?_
    refine n_icmp_eq (tgt := 191) hG dL_law_186 (by decide) (fun _ => ?_) (fun q9 => absurd (by rw [e0 q173]; rfl) q9)
    refine n_iinc (lv' := [(5, .int (nI (k + 1))), (8, .int (nI n)), (7, .int (nI (ucnt B k n))), (6, .int (nI w)), (4, .int (nI n)), (3, .int (nI m)), (0, .ref b), (1, .ref (F.1 0)), (2, .ref bl)]) (v := nI (k + 1)) 3 hG dL_law_191 rfl (nI_1 k) (by decide) rfl ?_
    refine n_goto (tgt := 37) hG dL_law_194 (by decide) ?_
    refine n_perm (lv' := [(5, .int (nI (k + 1))), (4, .int (nI n)), (3, .int (nI m)), (0, .ref b), (1, .ref (F.1 0)), (2, .ref bl)]) [0, 4, 5, 6, 7, 8] rfl ?_
    exact z_widen' hR (by omega) (by omega) (by omega) (by omega) kk
  · refine n_aload_n 7 hG dL_law_176 rfl rfl ?_
    refine n_iload 3 hG dL_law_177 rfl ?_
    refine w_tokenCount hZ hR hL hS.1 hS.2.1 hk (Nat.le_trans (by decide) hfR) (Nat.le_trans (by decide) hlR) (Nat.le_trans (show c + 1 ≤ 600130 by omega) hcR) (Nat.le_trans (show s + 6 ≤ 7301080 by omega) hsR) (Nat.le_of_ble_eq_true rfl) dL_law_179 ?_
    show nW (nZ Z) (zInv Z F I) (c + 1) (s + 6) [(8, .int (nI n)), (7, .int (nI (ucnt B k n))), (6, .int (nI w)), (5, .int (nI k)), (4, .int (nI n)), (3, .int (nI m)), (0, .ref b), (1, .ref (F.1 0)), (2, .ref bl)] [.int (zI (B 114 k)), .int (nI (ucnt B k n))] 182
    refine n_goto (tgt := 186) hG dL_law_182 (by decide) ?_
    refine n_icmp_eq (tgt := 191) hG dL_law_186 (by decide) (fun _ => ?_) (fun q9 => absurd (e1 q173).symm q9)
    refine n_iinc (lv' := [(5, .int (nI (k + 1))), (8, .int (nI n)), (7, .int (nI (ucnt B k n))), (6, .int (nI w)), (4, .int (nI n)), (3, .int (nI m)), (0, .ref b), (1, .ref (F.1 0)), (2, .ref bl)]) (v := nI (k + 1)) 3 hG dL_law_191 rfl (nI_1 k) (by decide) rfl ?_
    refine n_goto (tgt := 37) hG dL_law_194 (by decide) ?_
    refine n_perm (lv' := [(5, .int (nI (k + 1))), (4, .int (nI n)), (3, .int (nI m)), (0, .ref b), (1, .ref (F.1 0)), (2, .ref bl)]) [0, 4, 5, 6, 7, 8] rfl ?_
    exact z_widen' hR (by omega) (by omega) (by omega) (by omega) kk
theorem s_law_96 {w : Nat} (hZ : zOK Z "LineLearnerLaw" cL_law 10) (hR : zRoom Z rmG) (hcR : 600130 ≤ rmG.cells) (hsR : 7301080 ≤ rmG.slots) (hfR : 14 ≤ rmG.frames) (hlR : 558 ≤ rmG.locals) (hL : zLay F) (hS : LSt I B N n) (hM : rMs I B N n) (hk : k < N) (hN : N ≤ 8) (hn : n ≤ 40) (hw : zbit (B 119 0) k = w) (hc : c + 300 ≤ 600130) (hs : s + 2000 ≤ 7301080)
    (kk : nW (nZ Z) (zInv Z F I) (c + 241) (s + 1446) [(5, .int (nI (k + 1))), (4, .int (nI n)), (3, .int (nI m)), (0, .ref b), (1, .ref (F.1 0)), (2, .ref bl)] [] 37) : nW (nZ Z) (zInv Z F I) c s [(8, .int (nI 0)), (7, .int (nI 0)), (6, .int (nI w)), (5, .int (nI k)), (4, .int (nI n)), (3, .int (nI m)), (0, .ref b), (1, .ref (F.1 0)), (2, .ref bl)] [] 96 := by
  have h01 := zbit_01 (B 119 0) k
  have key : ∀ (d t c1 s1 : Nat), t + d = n → c1 + 6 * d ≤ c + 240 → s1 + 36 * d ≤ s + 1440 → nW (nZ Z) (zInv Z F I) c1 s1 [(8, .int (nI t)), (7, .int (nI (ucnt B k t))), (6, .int (nI w)), (5, .int (nI k)), (4, .int (nI n)), (3, .int (nI m)), (0, .ref b), (1, .ref (F.1 0)), (2, .ref bl)] [] 96 := by
    intro d
    induction d with
    | zero =>
      intro t c1 s1 ht hc1 hs1
      have htn : t = n := by omega
      subst htn
      exact z_widen' hR (by omega) (by omega) (by omega) (by omega) (s_law_96e (c := c + 240) (s := s + 1440) hZ hR hcR hsR hfR hlR hL hS hM hk hN hn hw (by omega) (by omega) kk)
    | succ d ih =>
      intro t c1 s1 ht hc1 hs1
      by_cases hv : zU B t k = (-1)
      · exact s_law_96a hZ hR hcR hsR hfR hlR hL hS hM hk hN hn (by omega) hw hv (by omega) (by omega) (ih (t + 1) (c1 + 6) (s1 + 36) (by omega) (by omega) (by omega))
      · obtain ⟨v, hv2, -⟩ := r_use hS.2.1 hk (show t < n by omega) hv
        have hun := zU_no (l := k) hS.2.1 hk
        have h1 : zbit (B 119 0) k = 1 := by
          rcases h01 with h | h
          · exact absurd (hun h (show t < n by omega)) hv
          · exact h
        exact s_law_96b hZ hR hcR hsR hfR hlR hL hS hM hk hN hn (by omega) hv2 h1 (by omega) (by omega) (ih (t + 1) (c1 + 6) (s1 + 36) (by omega) (by omega) (by omega))
  exact key n 0 c s (by omega) (by omega) (by omega)
theorem s_law_37e (hZ : zOK Z "LineLearnerLaw" cL_law 10) (hR : zRoom Z rmG) (hcR : 600130 ≤ rmG.cells) (hsR : 7301080 ≤ rmG.slots) (hfR : 14 ≤ rmG.frames) (hlR : 558 ≤ rmG.locals) (hL : zLay F) (hS : LSt I B N n) (hM : rMs I B N n) (hN : N ≤ 8) (hn : n ≤ 40) (hN1 : 1 ≤ N) (hc : c ≤ 600130) (hs : s ≤ 7301080) (hkN : k = N)
    (kk : nW (nZ Z) (zInv Z F I) c s [(5, .int (nI k)), (4, .int (nI n)), (3, .int (nI m)), (0, .ref b), (1, .ref (F.1 0)), (2, .ref bl)] [] 197) : nW (nZ Z) (zInv Z F I) c s [(5, .int (nI k)), (4, .int (nI n)), (3, .int (nI m)), (0, .ref b), (1, .ref (F.1 0)), (2, .ref bl)] [] 37 := by
  have hG := zN_ok hZ
  have hRn := zN_rm hR
  refine n_iload 0 hG dL_law_37 rfl ?_
  refine n_aload_n 4 hG dL_law_39 rfl rfl ?_
  refine w_lineCount hZ hR hL hS.1 hS.2.1 (Nat.le_trans (by decide) hfR) (Nat.le_trans (by decide) hlR) (Nat.le_trans (show c + 0 ≤ 600130 by omega) hcR) (Nat.le_trans (show s + 0 ≤ 7301080 by omega) hsR) (Nat.le_of_ble_eq_true rfl) dL_law_40 ?_
  show nW (nZ Z) (zInv Z F I) (c + 0) (s + 0) [(5, .int (nI k)), (4, .int (nI n)), (3, .int (nI m)), (0, .ref b), (1, .ref (F.1 0)), (2, .ref bl)] [.int (nI N), .int (nI k)] 43
  refine n_icmp_ge (tgt := 197) hG dL_law_43 (by decide) (fun _ => ?_) (fun q9 => absurd (nI_le (by omega) (by omega)) q9)
  exact kk
theorem s_law_37 (hZ : zOK Z "LineLearnerLaw" cL_law 10) (hR : zRoom Z rmG) (hcR : 600130 ≤ rmG.cells) (hsR : 7301080 ≤ rmG.slots) (hfR : 14 ≤ rmG.frames) (hlR : 558 ≤ rmG.locals) (hL : zLay F) (hS : LSt I B N n) (hM : rMs I B N n) (hk : k < N) (hN : N ≤ 8) (hn : n ≤ 40) (hb : bOK m B) (hc : c + 303 ≤ 600130) (hs : s + 2012 ≤ 7301080)
    (kk : ∀ I' : zStore, LSt I' B N n → rMs I' B N n → (OVp I N n → OVp I' N n) → nW (nZ Z) (zInv Z F I') (c + 243) (s + 1458) [(5, .int (nI (k + 1))), (4, .int (nI n)), (3, .int (nI m)), (0, .ref b), (1, .ref (F.1 0)), (2, .ref bl)] [] 37) : nW (nZ Z) (zInv Z F I) c s [(5, .int (nI k)), (4, .int (nI n)), (3, .int (nI m)), (0, .ref b), (1, .ref (F.1 0)), (2, .ref bl)] [] 37 := by
  have hG := zN_ok hZ
  have hRn := zN_rm hR
  obtain ⟨w, hw⟩ : ∃ w : Nat, zbit (B 119 0) k = w := ⟨(zbit (B 119 0) k).toNat, by have := zbit_01 (B 119 0) k; omega⟩
  have h01 := zbit_01 (B 119 0) k
  have hbk : nI (if m.testBit k then 1 else 0) = nI w := by
    rw [hb.2 k (by omega), hw]
    have hw2 : w = 0 ∨ w = 1 := by omega
    rcases hw2 with rfl | rfl <;> rfl
  have ht := hS.2.1.1.2.1 k hk
  obtain ⟨t, hm4⟩ : ∃ t : Nat, I 4 k = t := ⟨(I 4 k).toNat, by have := ht.2.1.1; omega⟩
  have hfit : w = 1 → zRR I 15 k n t = true := fun h => fits_of hS hM hk (by omega) hm4
  have hea : rEA I (zM I 15 k t n) := rEA.row
  have hS2 : LSt (zM I 15 k t n) B N n := hS.ea hea (zRg_M hS.1)
  have main : ∀ (I' : zStore) (c1 s1 : Nat), LSt I' B N n → rMs I' B N n → (OVp I N n → OVp I' N n) → c1 ≤ c + 2 → s1 ≤ s + 12 → nW (nZ Z) (zInv Z F I') c1 s1 [(6, .int (nI w)), (5, .int (nI k)), (4, .int (nI n)), (3, .int (nI m)), (0, .ref b), (1, .ref (F.1 0)), (2, .ref bl)] [] 90 := fun I' c1 s1 g1 g2 g3 hc1 hs1 => by
    have go := s_law_96 (c := c + 2) (s := s + 12) hZ hR hcR hsR hfR hlR hL g1 g2 hk hN hn hw (by omega) (by omega) (kk I' g1 g2 g3)
    refine n_iconst (nI 0) hG dL_law_90 (by decide) ?_
    refine n_istore (lv' := [(7, .int (nI 0)), (6, .int (nI w)), (5, .int (nI k)), (4, .int (nI n)), (3, .int (nI m)), (0, .ref b), (1, .ref (F.1 0)), (2, .ref bl)]) hG dL_law_91 (by decide) rfl ?_
    refine n_iconst (nI 0) hG dL_law_93 (by decide) ?_
    refine n_istore (lv' := [(8, .int (nI 0)), (7, .int (nI 0)), (6, .int (nI w)), (5, .int (nI k)), (4, .int (nI n)), (3, .int (nI m)), (0, .ref b), (1, .ref (F.1 0)), (2, .ref bl)]) hG dL_law_94 (by decide) rfl ?_
    exact z_widen' hR (by omega) (by omega) (by omega) (by omega) go
  have mid : nW (nZ Z) (zInv Z F I) c s [(5, .int (nI k)), (4, .int (nI n)), (3, .int (nI m)), (0, .ref b), (1, .ref (F.1 0)), (2, .ref bl)] [.int (nI w)] 61 := by
    refine n_istore (lv' := [(6, .int (nI w)), (5, .int (nI k)), (4, .int (nI n)), (3, .int (nI m)), (0, .ref b), (1, .ref (F.1 0)), (2, .ref bl)]) hG dL_law_61 (by decide) rfl ?_
    refine n_aload_n 5 hG dL_law_63 rfl rfl ?_
    refine n_iload 1 hG dL_law_64 rfl ?_
    refine w_isMerged hZ hR hL hS.1 hS.2.1 hk (Nat.le_trans (by decide) hfR) (Nat.le_trans (by decide) hlR) (Nat.le_trans (show c + 0 + 1 ≤ 600130 by omega) hcR) (Nat.le_trans (show s + 0 + 6 ≤ 7301080 by omega) hsR) (Nat.le_of_ble_eq_true rfl) dL_law_66 ?_
    rw [hw, zI_nat]
    show nW (nZ Z) (zInv Z F I) (c + 0 + 1) (s + 0 + 6) [(6, .int (nI w)), (5, .int (nI k)), (4, .int (nI n)), (3, .int (nI m)), (0, .ref b), (1, .ref (F.1 0)), (2, .ref bl)] [.int (nI w)] 69
    refine n_iload 0 hG dL_law_69 rfl ?_
    refine n_icmp_ne (tgt := 88) hG dL_law_71 (by decide) (fun q9 => absurd q9 (fun h9 => h9 rfl)) (fun _ => ?_)
    refine n_iload 0 hG dL_law_74 rfl ?_
    refine n_if_eq (tgt := 90) hG dL_law_76 (by decide) (fun q76 => ?_) (fun q76 => ?_)
    · exact main I _ _ hS hM id (by omega) (by omega)
    · refine n_aload_n 5 hG dL_law_79 rfl rfl ?_
      refine n_iload 1 hG dL_law_80 rfl ?_
      refine w_fits hZ hR hL hS.1 hS.2.1 hk hm4 (Nat.le_trans (by decide) hfR) (Nat.le_trans (by decide) hlR) (Nat.le_trans (show c + 1 + 1 ≤ 600130 by omega) hcR) (Nat.le_trans (show s + 6 + 6 ≤ 7301080 by omega) hsR) (Nat.le_of_ble_eq_true rfl) dL_law_82 ?_
      rw [hfit (by by_cases q : w = 0; exact absurd (by rw [q]; rfl) q76; omega)]
      show nW _ _ _ _ _ [Value.int (zI 1)] _
      show nW (nZ Z) (zInv Z F (zM I 15 k t n)) (c + 1 + 1) (s + 6 + 6) [(6, .int (nI w)), (5, .int (nI k)), (4, .int (nI n)), (3, .int (nI m)), (0, .ref b), (1, .ref (F.1 0)), (2, .ref bl)] [.int (zI 1)] 85
      refine n_if_ne (tgt := 90) hG dL_law_85 (by decide) (fun _ => ?_) (fun q9 => absurd q9 (by decide))
      exact main _ _ _ hS2 (hM.ea hea) (fun h => h.ea hea) (by omega) (by omega)
  refine n_iload 0 hG dL_law_37 rfl ?_
  refine n_aload_n 4 hG dL_law_39 rfl rfl ?_
  refine w_lineCount hZ hR hL hS.1 hS.2.1 (Nat.le_trans (by decide) hfR) (Nat.le_trans (by decide) hlR) (Nat.le_trans (show c + 0 ≤ 600130 by omega) hcR) (Nat.le_trans (show s + 0 ≤ 7301080 by omega) hsR) (Nat.le_of_ble_eq_true rfl) dL_law_40 ?_
  show nW (nZ Z) (zInv Z F I) (c + 0) (s + 0) [(5, .int (nI k)), (4, .int (nI n)), (3, .int (nI m)), (0, .ref b), (1, .ref (F.1 0)), (2, .ref bl)] [.int (nI N), .int (nI k)] 43
  refine n_icmp_ge (tgt := 197) hG dL_law_43 (by decide) (fun q9 => absurd q9 (nI_ge hk (by omega))) (fun _ => ?_)
  refine n_iload_n 2 hG dL_law_46 rfl rfl ?_
  refine n_iload 0 hG dL_law_47 rfl ?_
  refine n_ishr (z := (nI m >>> (nI k &&& 31))) hG dL_law_49 rfl ?_
  refine n_iconst 1 hG dL_law_50 (by decide) ?_
  refine n_iand (z := nI (if m.testBit k then 1 else 0)) hG dL_law_51 (bit_get hb.1 (by omega)) ?_
  refine n_iconst (nI 1) hG dL_law_52 (by decide) ?_
  refine n_icmp_ne (tgt := 60) hG dL_law_53 (by decide) (fun q53 => ?_) (fun q53 => ?_)
  · refine n_iconst 0 hG dL_law_60 (by decide) ?_
    have hw0 : nI w = 0 := by
      have h9 : nI w ≠ nI 1 := fun e => q53 (hbk.trans e)
      have hw2 : w = 0 ∨ w = 1 := by omega
      rcases hw2 with rfl | rfl
      · rfl
      · exact absurd rfl h9
    rw [hw0] at mid
    exact mid
  · refine n_iconst 1 hG dL_law_56 (by decide) ?_
    refine n_goto (tgt := 61) hG dL_law_57 (by decide) ?_
    have hw1 : nI w = 1 := hbk.symm.trans q53
    rw [hw1] at mid
    exact mid
end LW
