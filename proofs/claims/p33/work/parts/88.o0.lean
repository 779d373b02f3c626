theorem hd_L_build : zHead yL_build cL_build 11 4 (some .int) := ⟨kv412, kw0, by decide +kernel, by decide +kernel, by decide +kernel⟩
section BU
variable {Z : zCx} {F : zFr} {I B : zStore} {bl b L : Nat} {cS : ClassId} {xs : Nat → Int32} {pf : (Nat → Option Nat) → Prop}
abbrev rm_L_build : Room := { frames := 12, cells := 420, slots := 39000, locals := 470 }
theorem s_build_20 {k m c s : Nat} (hZ : zOK Z "LineLearnerLaw" cL_build 11) (hR : zRoom Z rm_L_build) (hL : zLay F) (hB : bG Z F bl b L cS xs) (hLL : L < 2 ^ 31) (hk : k < m) (hm : m ≤ 8) (hS : LSt I B k 0) (hc : c + 47 ≤ 420) (hs : s + 4827 ≤ 39000)
    (kk : ∀ (I' B' : zStore) (p : (Nat → Option Nat) → Prop), LSt I' B' (k + 1) 0 → B' 119 0 = B 119 0 → nW (nZ Z) (bInv Z F I' bl cS p []) (c + 47) (s + 4827) [(6, .int (nI (k + 1))), (4, .int (nI m)), (5, .int (nI 0)), (0, .ref (F.1 0)), (1, .ref b), (2, .int (nI 0)), (3, .ref bl)] [] 20) : nW (nZ Z) (bInv Z F I bl cS pf []) c s [(6, .int (nI k)), (4, .int (nI m)), (5, .int (nI 0)), (0, .ref (F.1 0)), (1, .ref b), (2, .int (nI 0)), (3, .ref bl)] [] 20 := by
  have hG := zN_ok hZ
  have hRn := zN_rm hR
  have hce0 : c ≤ rm_L_build.cells := by show c ≤ 420; omega
  have hsl0 : s ≤ rm_L_build.slots := by show s ≤ 39000; omega
  have hce1 : c + 43 ≤ rm_L_build.cells := by show c + 43 ≤ 420; omega
  have hsl1 : s + 4803 ≤ rm_L_build.slots := by show s + 4803 ≤ 39000; omega
  have hce2 : c + 43 + 4 ≤ rm_L_build.cells := by show c + 43 + 4 ≤ 420; omega
  have hsl2 : s + 4803 + 24 ≤ rm_L_build.slots := by show s + 4803 + 24 ≤ 39000; omega
  refine n_iload 0 hG dL_build_20 rfl ?_
  refine n_iload 1 hG dL_build_22 rfl ?_
  refine n_icmp_ge (tgt := 79) hG dL_build_24 (by decide) (fun q9 => absurd q9 (nI_ge (by omega) (by omega))) (fun _ => ?_)
  refine n_aload_n 6 hG dL_build_27 rfl rfl ?_
  refine n_iload 0 hG dL_build_28 rfl ?_
  refine n_aload_n 4 hG dL_build_30 rfl rfl ?_
  refine n_iload_n 5 hG dL_build_31 rfl rfl ?_
  refine n_iconst (nI 1) hG dL_build_32 (by decide) ?_
  refine n_iadd (z := nI 1) hG dL_build_33 (nI_add 0 1) ?_
  refine n_iload 0 hG dL_build_34 rfl ?_
  refine n_bipush (nI 6) hG dL_build_36 (by decide) ?_
  refine n_irem (z := nI (k % 6)) hG dL_build_38 (nI_ne0 (by decide) (by decide)) (pk_rem (by omega) (by decide) (by decide)) ?_
  refine n_iadd (z := nI (1 + k % 6)) hG dL_build_39 (nI_add _ _) ?_
  refine n_cell hG hRn (bInv_ext hZ) (bInv_scr hB) kv413 hLL (by omega) (by decide) (by decide) (Nat.le_of_ble_eq_true rfl) dL_build_40 hce0 hsl0 (fun x => ?_)
  show nW (nZ Z) (bInv Z F I bl cS pf []) c s [(6, .int (nI k)), (4, .int (nI m)), (5, .int (nI 0)), (0, .ref (F.1 0)), (1, .ref b), (2, .int (nI 0)), (3, .ref bl)] [.int x, .int (nI k), .ref bl] 43
  refine n_iload 0 hG dL_build_43 rfl ?_
  refine n_bipush (nI 6) hG dL_build_45 (by decide) ?_
  refine n_idiv (z := nI (k / 6)) hG dL_build_47 (nI_ne0 (by decide) (by decide)) (pk_div (by omega) (by decide) (by decide)) ?_
  refine n_ldc hG kv421 dL_build_48 ?_
  refine n_imul (z := (nI (k / 6) * 40503)) hG dL_build_50 rfl ?_
  refine n_ixor (z := (x ^^^ (nI (k / 6) * 40503))) hG dL_build_51 rfl ?_
  refine n_bipush (nI 24) hG dL_build_52 (by decide) ?_
  refine b_line hZ hR hB kv422 kv423 kv596 kv454 kw68 (by decide) (by decide) hce1 hsl1 (Nat.le_of_ble_eq_true rfl) dL_build_54 (fun o ho => ?_)
  show nW (nZ Z) (bInv Z F I bl cS pf [o]) (c + 43) (s + 4803) [(6, .int (nI k)), (4, .int (nI m)), (5, .int (nI 0)), (0, .ref (F.1 0)), (1, .ref b), (2, .int (nI 0)), (3, .ref bl)] [.ref o.1, .int (nI k), .ref bl] 57
  refine b_put hZ dL_build_57 hB (by omega) (List.mem_singleton.mpr rfl) ?_
  show nW (nZ Z) (bInv Z F I bl cS (fun f => f k = some o.1) [o]) (c + 43) (s + 4803) [(6, .int (nI k)), (4, .int (nI m)), (5, .int (nI 0)), (0, .ref (F.1 0)), (1, .ref b), (2, .int (nI 0)), (3, .ref bl)] [] 58
  refine n_aload_n 3 hG dL_build_58 rfl rfl ?_
  refine n_aload_n 6 hG dL_build_59 rfl rfl ?_
  refine n_iload 0 hG dL_build_60 rfl ?_
  refine b_get (a := o.1) hZ dL_build_62 hB (by omega) (fun f h => h) ?_
  show nW (nZ Z) (bInv Z F I bl cS (fun f => f k = some o.1) [o]) (c + 43) (s + 4803) [(6, .int (nI k)), (4, .int (nI m)), (5, .int (nI 0)), (0, .ref (F.1 0)), (1, .ref b), (2, .int (nI 0)), (3, .ref bl)] [.ref o.1, .ref (F.1 0)] 63
  refine n_iload 0 hG dL_build_63 rfl ?_
  refine b_store hZ hR hL hB hS (by omega) ho kv651 kv652 (by decide) (by decide) hce2 hsl2 (Nat.le_of_ble_eq_true rfl) dL_build_65 (fun I' B' h1 h2 => ?_)
  show nW (nZ Z) (bInv Z F I' bl cS (fun f => f k = some o.1) []) (c + 43 + 4) (s + 4803 + 24) [(6, .int (nI k)), (4, .int (nI m)), (5, .int (nI 0)), (0, .ref (F.1 0)), (1, .ref b), (2, .int (nI 0)), (3, .ref bl)] [.int 1] 68
  refine n_if_ne (tgt := 73) hG dL_build_68 (by decide) (fun _ => ?_) (fun q9 => absurd q9 (by decide))
  refine n_iinc (lv' := [(6, .int (nI (k + 1))), (4, .int (nI m)), (5, .int (nI 0)), (0, .ref (F.1 0)), (1, .ref b), (2, .int (nI 0)), (3, .ref bl)]) (v := nI (k + 1)) 0 hG dL_build_73 rfl (nI_1 k) (by decide) rfl ?_
  refine n_goto (tgt := 20) hG dL_build_76 (by decide) ?_
  exact kk I' B' _ h1 h2
set_option maxRecDepth 100000 in
theorem s_build_0 (hZ : zOK Z "LineLearnerLaw" cL_build 11) (hR : zRoom Z rm_L_build) (hL : zLay F) (hB : bG Z F bl b L cS xs) (hLL : L < 2 ^ 31) (hS : LSt I B 0 0) (h0 : B 119 0 = 0)
    (kk : ∀ (m c s : Nat) (I' B' : zStore), 1 ≤ m → m ≤ 8 → LSt I' B' m 0 → B' 119 0 = 0 → c ≤ 376 → s ≤ 38616 → nW (nZ Z) (zInv Z F I') c s [(4, .int (nI m)), (5, .int (nI 0)), (0, .ref (F.1 0)), (1, .ref b), (2, .int (nI 0)), (3, .ref bl)] [] 79) : nW (nZ Z) (bInv Z F I bl cS pf []) 0 0 [(0, .ref (F.1 0)), (1, .ref b), (2, .int (nI 0)), (3, .ref bl)] [] 0 := by
  have hG := zN_ok hZ
  have hRn := zN_rm hR
  have loop : ∀ (m d k c s : Nat) (I' B' : zStore) (p : (Nat → Option Nat) → Prop), 1 ≤ m → m ≤ 8 → k + d = m → LSt I' B' k 0 → B' 119 0 = 0 → c + 47 * d ≤ 376 → s + 4827 * d ≤ 38616 → nW (nZ Z) (bInv Z F I' bl cS p []) c s [(6, .int (nI k)), (4, .int (nI m)), (5, .int (nI 0)), (0, .ref (F.1 0)), (1, .ref b), (2, .int (nI 0)), (3, .ref bl)] [] 20 := by
    intro m d
    induction d with
    | zero =>
      intro k c s I' B' p hm1 hm hk hS hB0 hc hs
      have hkm : k = m := by omega
      subst hkm
      refine n_iload 0 hG dL_build_20 rfl ?_
      refine n_iload 1 hG dL_build_22 rfl ?_
      refine n_icmp_ge (tgt := 79) hG dL_build_24 (by decide) (fun _ => ?_) (fun q9 => absurd (nI_le (by omega) (by omega)) q9)
      refine n_perm (lv' := [(4, .int (nI k)), (5, .int (nI 0)), (0, .ref (F.1 0)), (1, .ref b), (2, .int (nI 0)), (3, .ref bl)]) [1, 2, 3, 4, 5, 6] rfl ?_
      exact b_end (kk k c s I' B' hm1 hm hS hB0 (by omega) (by omega))
    | succ d ih =>
      intro k c s I' B' p hm1 hm hk hS hB0 hc hs
      exact s_build_20 hZ hR hL hB hLL (by omega) hm hS (by omega) (by omega) (fun I2 B2 p2 h1 h2 => ih (k + 1) (c + 47) (s + 4827) I2 B2 p2 hm1 hm (by omega) h1 (h2.trans hB0) (by omega) (by omega))
  refine n_iconst (nI 1) hG dL_build_0 (by decide) ?_
  refine n_aload_n 1 hG dL_build_1 rfl rfl ?_
  refine n_iload_n 2 hG dL_build_2 rfl rfl ?_
  refine n_cell hG hRn (bInv_ext hZ) (bInv_scr hB) kv413 hLL (by decide) (by decide) (by decide) (Nat.le_of_ble_eq_true rfl) dL_build_3 (Nat.zero_le _) (Nat.zero_le _) (fun x => ?_)
  show nW (nZ Z) (bInv Z F I bl cS pf []) 0 0 [(0, .ref (F.1 0)), (1, .ref b), (2, .int (nI 0)), (3, .ref bl)] [.int x, .int (nI 1)] 6
  refine n_aload_n 3 hG dL_build_6 rfl rfl ?_
  refine b_len hZ dL_build_7 hB ?_
  show nW (nZ Z) (bInv Z F I bl cS pf []) 0 0 [(0, .ref (F.1 0)), (1, .ref b), (2, .int (nI 0)), (3, .ref bl)] [.int (nI 8), .int x, .int (nI 1)] 8
  refine n_below (N := 8) hG hRn (bInv_ext hZ) kv417 (by decide) (by decide) (by decide) (by decide) (Nat.le_of_ble_eq_true rfl) dL_build_8 (Nat.zero_le _) (Nat.zero_le _) (fun v hv => ?_)
  show nW (nZ Z) (bInv Z F I bl cS pf []) 0 0 [(0, .ref (F.1 0)), (1, .ref b), (2, .int (nI 0)), (3, .ref bl)] [.int (nI v), .int (nI 1)] 11
  refine n_iadd (z := nI (1 + v)) hG dL_build_11 (nI_add _ _) ?_
  refine n_istore (lv' := [(4, .int (nI (1 + v))), (0, .ref (F.1 0)), (1, .ref b), (2, .int (nI 0)), (3, .ref bl)]) hG dL_build_12 (by decide) rfl ?_
  refine n_iconst (nI 0) hG dL_build_14 (by decide) ?_
  refine n_istore (lv' := [(5, .int (nI 0)), (4, .int (nI (1 + v))), (0, .ref (F.1 0)), (1, .ref b), (2, .int (nI 0)), (3, .ref bl)]) hG dL_build_15 (by decide) rfl ?_
  refine n_iconst (nI 0) hG dL_build_17 (by decide) ?_
  refine n_istore (lv' := [(6, .int (nI 0)), (5, .int (nI 0)), (4, .int (nI (1 + v))), (0, .ref (F.1 0)), (1, .ref b), (2, .int (nI 0)), (3, .ref bl)]) hG dL_build_18 (by decide) rfl ?_
  refine n_perm (lv' := [(6, .int (nI 0)), (4, .int (nI (1 + v))), (5, .int (nI 0)), (0, .ref (F.1 0)), (1, .ref b), (2, .int (nI 0)), (3, .ref bl)]) [0, 2, 1, 3, 4, 5, 6] rfl ?_
  exact loop (1 + v) (1 + v) 0 0 0 I B pf (by omega) (by omega) (by omega) hS h0 (by omega) (by omega)
end BU
