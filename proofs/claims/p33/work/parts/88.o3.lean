section BV
variable {Z : zCx} {F : zFr} {I B : zStore} {bl b L : Nat} {cS : ClassId} {xs : Nat → Int32}
theorem zInv_scr (hB : bG Z F bl b L cS xs) : ∀ H locs, zInv Z F I H locs → va_X b L xs (nS (nZ Z)) H := by
  obtain ⟨p, l, e, R, s, m, args, below, meth, c, Q, A, n, D, cs⟩ := Z
  obtain ⟨b1, b2, b3, b4, b5, b6, b7⟩ := hB
  intro H locs hJ
  exact b5.kept (hJ.2.2.2.1 b b6 b7)
theorem s_build_79 {N c s : Nat} (hZ : zOK Z "LineLearnerLaw" cL_build 11) (hR : zRoom Z rm_L_build) (hL : zLay F) (hB : bG Z F bl b L cS xs) (hLL : L < 2 ^ 31) (hN : 1 ≤ N ∧ N ≤ 8) (hS : LSt I B N 0) (hB0 : B 119 0 = 0) (hc : c + 1 ≤ 420) (hs : s + 6 ≤ 39000)
    (kk : ∀ (I' B' : zStore) (f : Nat) (x : Int32) (c' s' : Nat), f < N → LSt I' B' N 0 → B' 119 0 = 0 → c' ≤ c + 1 → s' ≤ s + 6 → nW (nZ Z) (zInv Z F I') c' s' [(8, .int (nI 0)), (5, .int (nI 0)), (7, .int (nI f)), (6, .int x), (4, .int (nI N)), (0, .ref (F.1 0)), (1, .ref b), (2, .int (nI 0)), (3, .ref bl)] [] 146) : nW (nZ Z) (zInv Z F I) c s [(4, .int (nI N)), (5, .int (nI 0)), (0, .ref (F.1 0)), (1, .ref b), (2, .int (nI 0)), (3, .ref bl)] [] 79 := by
  have hG := zN_ok hZ
  have hRn := zN_rm hR
  have hce0 : c ≤ rm_L_build.cells := by show c ≤ 420; omega
  have hsl0 : s ≤ rm_L_build.slots := by show s ≤ 39000; omega
  have hce1 : c + rm_X3_setCosts.cells ≤ rm_L_build.cells := by show c + 1 ≤ 420; omega
  have hsl1 : s + rm_X3_setCosts.slots ≤ rm_L_build.slots := by show s + 6 ≤ 39000; omega
  have rest : ∀ (I' B' : zStore) (x : Int32) (c s : Nat), c ≤ rm_L_build.cells → s ≤ rm_L_build.slots → LSt I' B' N 0 → B' 119 0 = 0 → (∀ f, f < N → nW (nZ Z) (zInv Z F I') c s [(8, .int (nI 0)), (5, .int (nI 0)), (7, .int (nI f)), (6, .int x), (4, .int (nI N)), (0, .ref (F.1 0)), (1, .ref b), (2, .int (nI 0)), (3, .ref bl)] [] 146) → nW (nZ Z) (zInv Z F I') c s [(6, .int x), (4, .int (nI N)), (5, .int (nI 0)), (0, .ref (F.1 0)), (1, .ref b), (2, .int (nI 0)), (3, .ref bl)] [] 131 := fun I' B' x c s hce0 hsl0 hS' hB' k => by
    refine n_iload 0 hG dL_build_131 rfl ?_
    refine n_bipush 10 hG dL_build_133 (by decide) ?_
    refine n_ishr (z := (x >>> ((10 : Int32) &&& 31))) hG dL_build_135 rfl ?_
    refine n_iload 1 hG dL_build_136 rfl ?_
    refine n_below (N := N) hG hRn (zInv_ext hZ) kv417 (by omega) (by omega) (by decide) (by decide) (Nat.le_of_ble_eq_true rfl) dL_build_138 hce0 hsl0 (fun f hf => ?_)
    show nW (nZ Z) (zInv Z F I') c s [(6, .int x), (4, .int (nI N)), (5, .int (nI 0)), (0, .ref (F.1 0)), (1, .ref b), (2, .int (nI 0)), (3, .ref bl)] [.int (nI f)] 141
    refine n_istore (lv' := [(7, .int (nI f)), (6, .int x), (4, .int (nI N)), (5, .int (nI 0)), (0, .ref (F.1 0)), (1, .ref b), (2, .int (nI 0)), (3, .ref bl)]) hG dL_build_141 (by decide) rfl ?_
    refine n_iconst (nI 0) hG dL_build_143 (by decide) ?_
    refine n_istore (lv' := [(8, .int (nI 0)), (7, .int (nI f)), (6, .int x), (4, .int (nI N)), (5, .int (nI 0)), (0, .ref (F.1 0)), (1, .ref b), (2, .int (nI 0)), (3, .ref bl)]) hG dL_build_144 (by decide) rfl ?_
    refine n_perm (lv' := [(8, .int (nI 0)), (5, .int (nI 0)), (7, .int (nI f)), (6, .int x), (4, .int (nI N)), (0, .ref (F.1 0)), (1, .ref b), (2, .int (nI 0)), (3, .ref bl)]) [0, 4, 1, 2, 3, 5, 6, 7, 8] rfl ?_
    exact k f hf
  refine n_aload_n 3 hG dL_build_79 rfl rfl ?_
  refine n_iload_n 4 hG dL_build_80 rfl rfl ?_
  refine n_bipush (nI 7) hG dL_build_81 (by decide) ?_
  refine n_iadd (z := nI 7) hG dL_build_83 (nI_add 0 7) ?_
  refine n_cell hG hRn (zInv_ext hZ) (zInv_scr hB) kv413 hLL (by decide) (by decide) (by decide) (Nat.le_of_ble_eq_true rfl) dL_build_84 hce0 hsl0 (fun x => ?_)
  show nW (nZ Z) (zInv Z F I) c s [(4, .int (nI N)), (5, .int (nI 0)), (0, .ref (F.1 0)), (1, .ref b), (2, .int (nI 0)), (3, .ref bl)] [.int x] 87
  refine n_istore (lv' := [(6, .int x), (4, .int (nI N)), (5, .int (nI 0)), (0, .ref (F.1 0)), (1, .ref b), (2, .int (nI 0)), (3, .ref bl)]) hG dL_build_87 (by decide) rfl ?_
  refine n_iload 0 hG dL_build_89 rfl ?_
  refine n_iconst (nI 2) hG dL_build_91 (by decide) ?_
  refine n_below (N := 2) hG hRn (zInv_ext hZ) kv417 (by decide) (by decide) (by decide) (by decide) (Nat.le_of_ble_eq_true rfl) dL_build_92 hce0 hsl0 (fun v hv => ?_)
  show nW (nZ Z) (zInv Z F I) c s [(6, .int x), (4, .int (nI N)), (5, .int (nI 0)), (0, .ref (F.1 0)), (1, .ref b), (2, .int (nI 0)), (3, .ref bl)] [.int (nI v)] 95
  refine n_if_ne (tgt := 131) hG dL_build_95 (by decide) (fun q95 => ?_) (fun q95 => ?_)
  · exact rest I B x c s hce0 hsl0 hS hB0 (fun f hf => kk I B f x c s hf hS hB0 (by omega) (by omega))
  · refine n_aload_n 3 hG dL_build_98 rfl rfl ?_
    refine n_iload 0 hG dL_build_99 rfl ?_
    refine n_iconst 1 hG dL_build_101 (by decide) ?_
    refine n_ishr (z := (x >>> ((1 : Int32) &&& 31))) hG dL_build_102 rfl ?_
    refine n_bipush (nI 8) hG dL_build_103 (by decide) ?_
    refine n_below (N := 8) hG hRn (zInv_ext hZ) kv417 (by decide) (by decide) (by decide) (by decide) (Nat.le_of_ble_eq_true rfl) dL_build_105 hce0 hsl0 (fun p hp => ?_)
    show nW (nZ Z) (zInv Z F I) c s [(6, .int x), (4, .int (nI N)), (5, .int (nI 0)), (0, .ref (F.1 0)), (1, .ref b), (2, .int (nI 0)), (3, .ref bl)] [.int (nI p), .ref (F.1 0)] 108
    refine n_iload 0 hG dL_build_108 rfl ?_
    refine n_iconst 4 hG dL_build_110 (by decide) ?_
    refine n_ishr (z := (x >>> ((4 : Int32) &&& 31))) hG dL_build_111 rfl ?_
    refine n_bipush (nI 8) hG dL_build_112 (by decide) ?_
    refine n_below (N := 8) hG hRn (zInv_ext hZ) kv417 (by decide) (by decide) (by decide) (by decide) (Nat.le_of_ble_eq_true rfl) dL_build_114 hce0 hsl0 (fun q hq => ?_)
    show nW (nZ Z) (zInv Z F I) c s [(6, .int x), (4, .int (nI N)), (5, .int (nI 0)), (0, .ref (F.1 0)), (1, .ref b), (2, .int (nI 0)), (3, .ref bl)] [.int (nI q), .int (nI p), .ref (F.1 0)] 117
    refine n_iload 0 hG dL_build_117 rfl ?_
    refine n_bipush 7 hG dL_build_119 (by decide) ?_
    refine n_ishr (z := (x >>> ((7 : Int32) &&& 31))) hG dL_build_121 rfl ?_
    refine n_bipush (nI 8) hG dL_build_122 (by decide) ?_
    refine n_below (N := 8) hG hRn (zInv_ext hZ) kv417 (by decide) (by decide) (by decide) (by decide) (Nat.le_of_ble_eq_true rfl) dL_build_124 hce0 hsl0 (fun r hr => ?_)
    show nW (nZ Z) (zInv Z F I) c s [(6, .int x), (4, .int (nI N)), (5, .int (nI 0)), (0, .ref (F.1 0)), (1, .ref b), (2, .int (nI 0)), (3, .ref bl)] [.int (nI r), .int (nI q), .int (nI p), .ref (F.1 0)] 127
    refine w_setCosts hZ hR hL hS.1 hS.2.1 (by omega) (by omega) (by omega) (by decide) (by decide) hce1 hsl1 (Nat.le_of_ble_eq_true rfl) dL_build_127 (fun y => ?_)
    show nW (nZ Z) (zInv Z F (zcoA I p q r)) (c + rm_X3_setCosts.cells) (s + rm_X3_setCosts.slots) [(6, .int x), (4, .int (nI N)), (5, .int (nI 0)), (0, .ref (F.1 0)), (1, .ref b), (2, .int (nI 0)), (3, .ref bl)] [.int y] 130
    refine n_pop hG dL_build_130 rfl ?_
    exact rest _ _ x _ _ hce1 hsl1 (LSt.cost hS (by omega) (by omega) (by omega)).1 (by rw [(LSt.cost hS (a := p) (b := q) (c := r) (by omega) (by omega) (by omega)).2.1]; exact hB0) (fun f hf => kk _ _ f x _ _ hf (LSt.cost hS (by omega) (by omega) (by omega)).1 (by rw [(LSt.cost hS (a := p) (b := q) (c := r) (by omega) (by omega) (by omega)).2.1]; exact hB0) (Nat.le_refl _) (Nat.le_refl _))
theorem s_build_146 {N n k m f c s : Nat} {x : Int32} (hZ : zOK Z "LineLearnerLaw" cL_build 11) (hR : zRoom Z rm_L_build) (hL : zLay F) (hB : bG Z F bl b L cS xs) (hLL : L < 2 ^ 31) (hN : 1 ≤ N ∧ N ≤ 8) (hk : k < N) (hf : f < N) (hS : LSt I B N n) (hM : rMs I B N n) (hO : OVp I N n) (hbk : bOK m B) (hun : zbit (B 119 0) ((f + k) % N) = 0) (hc : c + 3 ≤ 420) (hs : s + 18 ≤ 39000)
    (k1 : nW (nZ Z) (zInv Z F I) c s [(8, .int (nI (k + 1))), (5, .int (nI m)), (7, .int (nI f)), (6, .int x), (4, .int (nI N)), (0, .ref (F.1 0)), (1, .ref b), (2, .int (nI 0)), (3, .ref bl)] [] 146)
    (k2 : ∀ (I' B' : zStore) (n' : Nat), LSt I' B' N n' → rMs I' B' N n' → OVp I' N n' → bOK (m ||| 2 ^ ((f + k) % N)) B' → (∀ l : Nat, zbit (B' 119 0) l = if l = (f + k) % N then 1 else zbit (B 119 0) l) → nW (nZ Z) (zInv Z F I') (c + 3) (s + 18) [(8, .int (nI (k + 1))), (5, .int (nI (m ||| 2 ^ ((f + k) % N)))), (7, .int (nI f)), (6, .int x), (4, .int (nI N)), (0, .ref (F.1 0)), (1, .ref b), (2, .int (nI 0)), (3, .ref bl)] [] 146) : nW (nZ Z) (zInv Z F I) c s [(8, .int (nI k)), (5, .int (nI m)), (7, .int (nI f)), (6, .int x), (4, .int (nI N)), (0, .ref (F.1 0)), (1, .ref b), (2, .int (nI 0)), (3, .ref bl)] [] 146 := by
  have hG := zN_ok hZ
  have hRn := zN_rm hR
  have hce0 : c ≤ rm_L_build.cells := by show c ≤ 420; omega
  have hsl0 : s ≤ rm_L_build.slots := by show s ≤ 39000; omega
  have hce1 : c + 1 ≤ rm_L_build.cells := by show c + 1 ≤ 420; omega
  have hsl1 : s + 6 ≤ rm_L_build.slots := by show s + 6 ≤ 39000; omega
  have hce2 : c + 1 + 2 ≤ rm_L_build.cells := by show c + 1 + 2 ≤ 420; omega
  have hsl2 : s + 6 + 12 ≤ rm_L_build.slots := by show s + 6 + 12 ≤ 39000; omega
  have skip : nW (nZ Z) (zInv Z F I) c s [(9, .int (nI ((f + k) % N))), (8, .int (nI k)), (5, .int (nI m)), (7, .int (nI f)), (6, .int x), (4, .int (nI N)), (0, .ref (F.1 0)), (1, .ref b), (2, .int (nI 0)), (3, .ref bl)] [] 220 := by
    refine n_iinc (lv' := [(8, .int (nI (k + 1))), (9, .int (nI ((f + k) % N))), (5, .int (nI m)), (7, .int (nI f)), (6, .int x), (4, .int (nI N)), (0, .ref (F.1 0)), (1, .ref b), (2, .int (nI 0)), (3, .ref bl)]) (v := nI (k + 1)) 1 hG dL_build_220 rfl (nI_1 k) (by decide) rfl ?_
    refine n_goto (tgt := 146) hG dL_build_223 (by decide) ?_
    refine n_perm (lv' := [(8, .int (nI (k + 1))), (5, .int (nI m)), (7, .int (nI f)), (6, .int x), (4, .int (nI N)), (0, .ref (F.1 0)), (1, .ref b), (2, .int (nI 0)), (3, .ref bl)]) [0, 2, 3, 4, 5, 6, 7, 8, 9] rfl ?_
    exact k1
  have go : n ≤ 20 → nW (nZ Z) (zInv Z F I) c s [(9, .int (nI ((f + k) % N))), (8, .int (nI k)), (5, .int (nI m)), (7, .int (nI f)), (6, .int x), (4, .int (nI N)), (0, .ref (F.1 0)), (1, .ref b), (2, .int (nI 0)), (3, .ref bl)] [] 190 := fun hn => by
    obtain ⟨k1, hk1⟩ : ∃ k1, k1 = (f + k) % N := ⟨_, rfl⟩
    have hkN : k1 < N := by rw [hk1]; exact Nat.mod_lt _ (by omega)
    rw [← hk1] at hun k2 ⊢
    have ht := hS.2.1.1.2.1 k1 hkN
    obtain ⟨t, hm4⟩ : ∃ t : Nat, I 4 k1 = t := ⟨(I 4 k1).toNat, by have := ht.2.1.1; omega⟩
    have t12 := hS.tok hkN hm4
    have hAl : zAl I 15 k1 n t := r_Al hS.2.1.1 hS.2.1.2.2.1 hS.2.1.2.2.2.1 hkN hm4
    have hea : rEA I (ztab I 11 t n (zCC I 15 k1)) := rEA.tab
    have hS1 := hS.ea hea (zRg_tabCC hAl hS.1 (by omega))
    have hM1 := hM.ea hea
    have hm41 : ztab I 11 t n (zCC I 15 k1) 4 k1 = t := by rw [hea.c (c := 4) (by decide) (by decide) (by decide)]; exact hm4
    have h22 : I 22 k1 = 0 := by rw [hS.2.1.2.2.2.2.1.1 k1 (by omega)]; exact hun
    have h01 : ztab I 11 t n (zCC I 15 k1) 22 k1 = 0 := by rw [hea.c (c := 22) (by decide) (by decide) (by decide)]; exact h22
    have hKl : zK I 15 k1 n t ≤ n + t := zlen_le
    have hK1 : zK (ztab I 11 t n (zCC I 15 k1)) 15 k1 n t ≤ 40 := by rw [zK_ea hea]; omega
    have hbit := bit_set (l := k1) hbk.1 (by omega)
    have hset := hbk.set (t := t) hS1.2.1 hN.2 hkN hun
    have hfin := k2 _ _ _ (hS1.merge hkN hm41 h01 hK1) (rMs.merge hS1 hM1 hkN hm41 h01 hK1) (OVp.merge hS1 hn hkN hm41 h01 hK1) hset.1 hset.2
    refine n_aload_n 6 hG dL_build_190 rfl rfl ?_
    refine n_iload 0 hG dL_build_191 rfl ?_
    refine w_costWith hZ hR hL hS.1 hS.2.1 hkN hm4 (by decide) (by decide) hce1 hsl1 (Nat.le_of_ble_eq_true rfl) dL_build_193 ?_
    show nW (nZ Z) (zInv Z F (ztab I 11 t n (zCC I 15 k1))) (c + 1) (s + 6) [(9, .int (nI k1)), (8, .int (nI k)), (5, .int (nI m)), (7, .int (nI f)), (6, .int x), (4, .int (nI N)), (0, .ref (F.1 0)), (1, .ref b), (2, .int (nI 0)), (3, .ref bl)] [.int (zI (zCC I 15 k1 n t))] 196
    refine n_istore (lv' := [(10, .int (zI (zCC I 15 k1 n t))), (9, .int (nI k1)), (8, .int (nI k)), (5, .int (nI m)), (7, .int (nI f)), (6, .int x), (4, .int (nI N)), (0, .ref (F.1 0)), (1, .ref b), (2, .int (nI 0)), (3, .ref bl)]) hG dL_build_196 (by decide) rfl ?_
    refine n_aload_n 7 hG dL_build_198 rfl rfl ?_
    refine n_iload 1 hG dL_build_199 rfl ?_
    refine w_merge hZ hR hL hS1.1 hS1.2.1 hkN hm41 h01 hK1 (by decide) (by decide) hce2 hsl2 (Nat.le_of_ble_eq_true rfl) dL_build_201 ?_
    rw [zCC_ea hea]
    show nW (nZ Z) (zInv Z F (zmg (ztab I 11 t n (zCC I 15 k1)) k1 n t)) (c + 1 + 2) (s + 6 + 12) [(10, .int (zI (zCC I 15 k1 n t))), (9, .int (nI k1)), (8, .int (nI k)), (5, .int (nI m)), (7, .int (nI f)), (6, .int x), (4, .int (nI N)), (0, .ref (F.1 0)), (1, .ref b), (2, .int (nI 0)), (3, .ref bl)] [.int (zI (zCC I 15 k1 n t))] 204
    refine n_iload 0 hG dL_build_204 rfl ?_
    refine n_icmp_eq (tgt := 211) hG dL_build_206 (by decide) (fun _ => ?_) (fun q9 => absurd rfl q9)
    refine n_iload 3 hG dL_build_211 rfl ?_
    refine n_iconst 1 hG dL_build_213 (by decide) ?_
    refine n_iload 1 hG dL_build_214 rfl ?_
    refine n_ishl (z := ((1 : Int32) <<< (nI k1 &&& 31))) hG dL_build_216 rfl ?_
    refine n_ior (z := nI (m ||| 2 ^ k1)) hG dL_build_217 hbit.1 ?_
    refine n_istore (lv' := [(5, .int (nI (m ||| 2 ^ k1))), (10, .int (zI (zCC I 15 k1 n t))), (9, .int (nI k1)), (8, .int (nI k)), (7, .int (nI f)), (6, .int x), (4, .int (nI N)), (0, .ref (F.1 0)), (1, .ref b), (2, .int (nI 0)), (3, .ref bl)]) hG dL_build_218 (by decide) rfl ?_
    refine n_iinc (lv' := [(8, .int (nI (k + 1))), (5, .int (nI (m ||| 2 ^ k1))), (10, .int (zI (zCC I 15 k1 n t))), (9, .int (nI k1)), (7, .int (nI f)), (6, .int x), (4, .int (nI N)), (0, .ref (F.1 0)), (1, .ref b), (2, .int (nI 0)), (3, .ref bl)]) (v := nI (k + 1)) 3 hG dL_build_220 rfl (nI_1 k) (by decide) rfl ?_
    refine n_goto (tgt := 146) hG dL_build_223 (by decide) ?_
    refine n_perm (lv' := [(8, .int (nI (k + 1))), (5, .int (nI (m ||| 2 ^ k1))), (7, .int (nI f)), (6, .int x), (4, .int (nI N)), (0, .ref (F.1 0)), (1, .ref b), (2, .int (nI 0)), (3, .ref bl)]) [0, 1, 4, 5, 6, 7, 8, 9, 10] rfl ?_
    exact hfin
  refine n_iload 0 hG dL_build_146 rfl ?_
  refine n_iload 4 hG dL_build_148 rfl ?_
  refine n_icmp_ge (tgt := 226) hG dL_build_150 (by decide) (fun q9 => absurd q9 (nI_ge (by omega) (by omega))) (fun _ => ?_)
  refine n_iload 2 hG dL_build_153 rfl ?_
  refine n_iload 0 hG dL_build_155 rfl ?_
  refine n_iadd (z := nI (f + k)) hG dL_build_157 (nI_add _ _) ?_
  refine n_iload 4 hG dL_build_158 rfl ?_
  refine n_irem (z := nI ((f + k) % N)) hG dL_build_160 (nI_ne0 (by omega) (by omega)) (pk_rem (by omega) (by omega) (by omega)) ?_
  refine n_istore (lv' := [(9, .int (nI ((f + k) % N))), (8, .int (nI k)), (5, .int (nI m)), (7, .int (nI f)), (6, .int x), (4, .int (nI N)), (0, .ref (F.1 0)), (1, .ref b), (2, .int (nI 0)), (3, .ref bl)]) hG dL_build_161 (by decide) rfl ?_
  refine n_iload 4 hG dL_build_163 rfl ?_
  refine n_bipush (nI 13) hG dL_build_165 (by decide) ?_
  refine n_iload 1 hG dL_build_167 rfl ?_
  refine n_iadd (z := nI (13 + k)) hG dL_build_169 (nI_add _ _) ?_
  refine n_ishr (z := (x >>> (nI (13 + k) &&& 31))) hG dL_build_170 rfl ?_
  refine n_iconst (nI 4) hG dL_build_171 (by decide) ?_
  refine n_below (N := 4) hG hRn (zInv_ext hZ) kv417 (by decide) (by decide) (by decide) (by decide) (Nat.le_of_ble_eq_true rfl) dL_build_172 hce0 hsl0 (fun v hv => ?_)
  show nW (nZ Z) (zInv Z F I) c s [(9, .int (nI ((f + k) % N))), (8, .int (nI k)), (5, .int (nI m)), (7, .int (nI f)), (6, .int x), (4, .int (nI N)), (0, .ref (F.1 0)), (1, .ref b), (2, .int (nI 0)), (3, .ref bl)] [.int (nI v)] 175
  refine n_if_eq (tgt := 220) hG dL_build_175 (by decide) (fun q175 => ?_) (fun q175 => ?_)
  · exact skip
  · refine n_aload_n 6 hG dL_build_178 rfl rfl ?_
    refine w_slotCount hZ hR hL hS.1 hS.2.1 (by decide) (by decide) hce0 hsl0 (Nat.le_of_ble_eq_true rfl) dL_build_179 ?_
    show nW (nZ Z) (zInv Z F I) (c + rm_X3_slotCount.cells) (s + rm_X3_slotCount.slots) [(9, .int (nI ((f + k) % N))), (8, .int (nI k)), (5, .int (nI m)), (7, .int (nI f)), (6, .int x), (4, .int (nI N)), (0, .ref (F.1 0)), (1, .ref b), (2, .int (nI 0)), (3, .ref bl)] [.int (nI n)] 182
    refine n_bipush (nI 20) hG dL_build_182 (by decide) ?_
    refine n_icmp_le (tgt := 190) hG dL_build_184 (by decide) (fun q184 => ?_) (fun q184 => ?_)
    · exact go ((nI_leI (by have := hS.2.1.2.2.2.1.1.2.2; omega) (by decide)).mp q184)
    · refine n_goto (tgt := 220) hG dL_build_187 (by decide) ?_
      exact skip
end BV
