/-! the law's loop -/
theorem zand_31 (x : Int) : 0 ≤ zand x 31 ∧ zand x 31 ≤ 31 := by
  have h : ∀ y : BitVec 32, 0 ≤ (y &&& 31#32).toInt ∧ (y &&& 31#32).toInt ≤ 31 := fun y => by
    have e : (y &&& 31#32).toNat ≤ 31 := by
      rw [BitVec.toNat_and]
      exact Nat.and_le_right
    rw [BitVec.toInt_eq_toNat_of_lt (by omega)]
    omega
  exact h (zI x).toBitVec
set_option maxRecDepth 100000 in
set_option maxHeartbeats 8000000 in
theorem w_loop {G : zCx} {F : zFr} {b L c9 s9 : Nat} {xs : Nat → Int32} {rmG : Room} (hG : zOK G "LineLearnerLaw" cL_law 9) (hS0 : zScr G b L xs) (hR : zRoom G rmG) (hfr : 12 ≤ rmG.frames) (hlo : 428 ≤ rmG.locals) (hc9 : c9 + 4 ≤ rmG.cells) (hs9 : s9 + 1400 ≤ rmG.slots) (hL : zLayL F) (hL2 : L ≤ 2048) (hWf : zWf F)
    (kend : ∀ (I : zStore) (i : Int), zW G F c9 s9 I [(4, .int (zI i)), (3, .ref (F.1 129)), (2, .ref (F.1 110)), (1, .ref (F.1 0)), (0, .ref b)] [] 1765) :
    ∀ (d : Nat) (i : Int) (I : zStore) (c s N n : Nat), (L : Int) ≤ i + 4 * d + 3 → 0 ≤ i → i ≤ 2052 → c + 4 * d ≤ c9 → s + 1400 * d ≤ s9 → zRg I → rR I I N n → zW G F c s I [(4, .int (zI i)), (3, .ref (F.1 129)), (2, .ref (F.1 110)), (1, .ref (F.1 0)), (0, .ref b)] [] 23 := by
  intro d
  induction d with
  | zero =>
    intro i I c s N n h1 h2 h3 hc hs hr h
    refine z_iload 0 hG dL_law_23 rfl ?_
    refine z_aload_n 4 hG dL_law_25 rfl rfl ?_
    refine z_slen hG hS0 dL_law_26 ?_
    refine z_iconst 4 hG dL_law_27 ?_
    refine z_isub hG dL_law_28 ?_
    refine z_icmp_gt (tgt := 1765) hG dL_law_29 (by decide) (by omega) (by omega) (fun _ => ?_) (fun q => absurd q (by omega))
    exact z_widen (by omega) (by omega) hR (by omega) (by omega) (kend I i)
  | succ d ih =>
    intro i I c s N n h1 h2 h3 hc hs hr h
    refine z_iload 0 hG dL_law_23 rfl ?_
    refine z_aload_n 4 hG dL_law_25 rfl rfl ?_
    refine z_slen hG hS0 dL_law_26 ?_
    refine z_iconst 4 hG dL_law_27 ?_
    refine z_isub hG dL_law_28 ?_
    refine z_icmp_gt (tgt := 1765) hG dL_law_29 (by decide) (by omega) (by omega) (fun _ => z_widen (by omega) (by omega) hR (by omega) (by omega) (kend I i)) (fun q => ?_)
    have hi : 0 ≤ i ∧ i + 4 ≤ L := by omega
    have kk : ∀ K, zInv K → zRg K → zW G F (c + 4) (s + 1400) K [(4, .int (zI i)), (3, .ref (F.1 129)), (2, .ref (F.1 110)), (1, .ref (F.1 0)), (0, .ref b)] [] 1759 := fun K hK hrK => by
      obtain ⟨N2, n2, hK⟩ := hK
      refine z_iinc (lv' := [(4, .int (zI (i + 4))), (3, .ref (F.1 129)), (2, .ref (F.1 110)), (1, .ref (F.1 0)), (0, .ref b)]) 0 hG dL_law_1759 rfl (by decide) rfl ?_
      refine z_goto (tgt := 23) hG dL_law_1762 (by decide) ?_
      exact ih (i + 4) K (c + 4) (s + 1400) N2 n2 (by omega) (by omega) (by omega) (by omega) (by omega) hrK hK
    refine z_aload_n 4 hG dL_law_32 rfl rfl ?_
    refine z_iload 0 hG dL_law_33 rfl ?_
    refine z_sal hG hS0 hL2 (by omega) dL_law_35 ?_
    refine z_bipush 31 hG dL_law_36 (by decide) ?_
    refine z_iand hG dL_law_38 ?_
    have hx := zand_31 (zsc xs i)
    generalize zand (zsc xs i) 31 = x at *
    have kw : zW G F c s I [(4, .int (zI i)), (3, .ref (F.1 129)), (2, .ref (F.1 110)), (1, .ref (F.1 0)), (0, .ref b)] [] 1759 := z_widen (by omega) (by omega) hR (by omega) (by omega) (kk I ⟨N, n, h⟩ hr)
    by_cases hbig : 29 < x
    · exact z_tabOut (tgt := 1759) hG dL_law_39 (by omega) (Or.inr hbig) (by decide) kw
    · obtain ⟨k, rfl⟩ : ∃ k : Nat, x = k := ⟨x.toNat, by omega⟩
      have hk : k < 30 := by omega
      clear hbig hx
      match k, hk with
      | 0, _ => exact z_tabIn (tgt := 172) (off := 133) hG dL_law_39 (by decide) (by decide) (by decide) rfl (by decide) (st_feed hG hS0 hR hfr hlo (by omega) (by omega) hL hL2 hi hWf hr h kk)
      | 1, _ => exact z_tabIn (tgt := 260) (off := 221) hG dL_law_39 (by decide) (by decide) (by decide) rfl (by decide) (st_store hG hS0 hR hfr hlo (by omega) (by omega) hL hL2 hi hWf hr h kk)
      | 2, _ => exact z_tabIn (tgt := 304) (off := 265) hG dL_law_39 (by decide) (by decide) (by decide) rfl (by decide) (st_lineCount hG hS0 hR hfr hlo (by omega) (by omega) hL hL2 hi hWf hr h kk)
      | 3, _ => exact z_tabIn (tgt := 317) (off := 278) hG dL_law_39 (by decide) (by decide) (by decide) rfl (by decide) (st_tokenCount hG hS0 hR hfr hlo (by omega) (by omega) hL hL2 hi hWf hr h kk)
      | 4, _ => exact z_tabIn (tgt := 373) (off := 334) hG dL_law_39 (by decide) (by decide) (by decide) rfl (by decide) (st_tokenKind hG hS0 hR hfr hlo (by omega) (by omega) hL hL2 hi hWf hr h kk)
      | 5, _ => exact z_tabIn (tgt := 441) (off := 402) hG dL_law_39 (by decide) (by decide) (by decide) rfl (by decide) (st_tokenStart hG hS0 hR hfr hlo (by omega) (by omega) hL hL2 hi hWf hr h kk)
      | 6, _ => exact z_tabIn (tgt := 509) (off := 470) hG dL_law_39 (by decide) (by decide) (by decide) rfl (by decide) (st_sameAtFront hG hS0 hR hfr hlo (by omega) (by omega) hL hL2 hi hWf hr h kk)
      | 7, _ => exact z_tabIn (tgt := 577) (off := 538) hG dL_law_39 (by decide) (by decide) (by decide) rfl (by decide) (st_setCosts hG hS0 hR hfr hlo (by omega) (by omega) hL hL2 hi hWf hr h kk)
      | 8, _ => exact z_tabIn (tgt := 664) (off := 625) hG dL_law_39 (by decide) (by decide) (by decide) rfl (by decide) (st_merge hG hS0 hR hfr hlo (by omega) (by omega) hL hL2 hi hWf hr h kk)
      | 9, _ => exact z_tabIn (tgt := 720) (off := 681) hG dL_law_39 (by decide) (by decide) (by decide) rfl (by decide) (st_clear hG hS0 hR hfr hlo (by omega) (by omega) hL hL2 hi hWf hr h kk)
      | 10, _ => exact z_tabIn (tgt := 733) (off := 694) hG dL_law_39 (by decide) (by decide) (by decide) rfl (by decide) (st_isMerged hG hS0 hR hfr hlo (by omega) (by omega) hL hL2 hi hWf hr h kk)
      | 11, _ => exact z_tabIn (tgt := 796) (off := 757) hG dL_law_39 (by decide) (by decide) (by decide) rfl (by decide) (st_costWith hG hS0 hR hfr hlo (by omega) (by omega) hL hL2 hi hWf hr h kk)
      | 12, _ => exact z_tabIn (tgt := 852) (off := 813) hG dL_law_39 (by decide) (by decide) (by decide) rfl (by decide) (st_fits hG hS0 hR hfr hlo (by omega) (by omega) hL hL2 hi hWf hr h kk)
      | 13, _ => exact z_tabIn (tgt := 915) (off := 876) hG dL_law_39 (by decide) (by decide) (by decide) rfl (by decide) (st_strangest hG hS0 hR hfr hlo (by omega) (by omega) hL hL2 hi hWf hr h kk)
      | 14, _ => exact z_tabIn (tgt := 928) (off := 889) hG dL_law_39 (by decide) (by decide) (by decide) rfl (by decide) (st_slotCount hG hS0 hR hfr hlo (by omega) (by omega) hL hL2 hi hWf hr h kk)
      | 15, _ => exact z_tabIn (tgt := 941) (off := 902) hG dL_law_39 (by decide) (by decide) (by decide) rfl (by decide) (st_slotKind hG hS0 hR hfr hlo (by omega) (by omega) hL hL2 hi hWf hr h kk)
      | 16, _ => exact z_tabIn (tgt := 997) (off := 958) hG dL_law_39 (by decide) (by decide) (by decide) rfl (by decide) (st_textByte hG hS0 hR hfr hlo (by omega) (by omega) hL hL2 hi hWf hr h kk)
      | 17, _ => exact z_tabIn (tgt := 1065) (off := 1026) hG dL_law_39 (by decide) (by decide) (by decide) rfl (by decide) (st_sizeOf hG hS0 hR hfr hlo (by omega) (by omega) hL hL2 hi hWf hr h kk)
      | 18, _ => exact z_tabIn (tgt := 1149) (off := 1110) hG dL_law_39 (by decide) (by decide) (by decide) rfl (by decide) (st_uses hG hS0 hR hfr hlo (by omega) (by omega) hL hL2 hi hWf hr h kk)
      | 19, _ => exact z_tabIn (tgt := 1205) (off := 1166) hG dL_law_39 (by decide) (by decide) (by decide) rfl (by decide) (st_isOptional hG hS0 hR hfr hlo (by omega) (by omega) hL hL2 hi hWf hr h kk)
      | 20, _ => exact z_tabIn (tgt := 1268) (off := 1229) hG dL_law_39 (by decide) (by decide) (by decide) rfl (by decide) (st_tokenAt hG hS0 hR hfr hlo (by omega) (by omega) hL hL2 hi hWf hr h kk)
      | 21, _ => exact z_tabIn (tgt := 1336) (off := 1297) hG dL_law_39 (by decide) (by decide) (by decide) rfl (by decide) (st_numberAt hG hS0 hR hfr hlo (by omega) (by omega) hL hL2 hi hWf hr h kk)
      | 22, _ => exact z_tabIn (tgt := 1404) (off := 1365) hG dL_law_39 (by decide) (by decide) (by decide) rfl (by decide) (st_distinct hG hS0 hR hfr hlo (by omega) (by omega) hL hL2 hi hWf hr h kk)
      | 23, _ => exact z_tabIn (tgt := 1460) (off := 1421) hG dL_law_39 (by decide) (by decide) (by decide) rfl (by decide) (st_isRising hG hS0 hR hfr hlo (by omega) (by omega) hL hL2 hi hWf hr h kk)
      | 24, _ => exact z_tabIn (tgt := 1523) (off := 1484) hG dL_law_39 (by decide) (by decide) (by decide) rfl (by decide) (st_bits hG hS0 hR hfr hlo (by omega) (by omega) hL hL2 hi hWf hr h kk)
      | 25, _ => exact z_tabIn (tgt := 1536) (off := 1497) hG dL_law_39 (by decide) (by decide) (by decide) rfl (by decide) (st_saving hG hS0 hR hfr hlo (by omega) (by omega) hL hL2 hi hWf hr h kk)
      | 26, _ => exact z_tabIn (tgt := 1577) (off := 1538) hG dL_law_39 (by decide) (by decide) (by decide) rfl (by decide) (st_group hG hS0 hR hfr hlo (by omega) (by omega) hL hL2 hi hWf hr h kk)
      | 27, _ => exact z_tabIn (tgt := 1633) (off := 1594) hG dL_law_39 (by decide) (by decide) (by decide) rfl (by decide) (st_groupOf hG hS0 hR hfr hlo (by omega) (by omega) hL hL2 hi hWf hr h kk)
      | 28, _ => exact z_tabIn (tgt := 1689) (off := 1650) hG dL_law_39 (by decide) (by decide) (by decide) rfl (by decide) (st_groupSlots hG hS0 hR hfr hlo (by omega) (by omega) hL hL2 hi hWf hr h kk)
      | 29, _ => exact z_tabIn (tgt := 1745) (off := 1706) hG dL_law_39 (by decide) (by decide) (by decide) rfl (by decide) (st_digest hG hS0 hR hfr hlo (by omega) (by omega) hL hL2 hi hWf hr h kk)
      | j + 30, hk => exact absurd hk (by omega)
