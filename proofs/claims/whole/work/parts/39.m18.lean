theorem zs_55_228 : zSite "java/lang/IllegalArgumentException" "the limit is not 0 to 200" ["java/lang/RuntimeException", "java/lang/Exception"] 55 228 59 := ⟨by decide +kernel, by decide +kernel, kw298, kw9, by decide +kernel, (show ∀ w ∈ vx_atS "LineLearner" 59 "java/lang/IllegalArgumentException" ["java/lang/RuntimeException", "java/lang/Exception"], w ∈ lw_tbl ∧ zst w = true by decide +kernel), by decide +kernel⟩
abbrev rm_X3_group : Room := { frames := 6, cells := 1, slots := 6, locals := 151 }
set_option maxRecDepth 100000 in
set_option maxHeartbeats 4000000 in
theorem s_X3_group_0 {G : zCx} {F : zFr} {I : zStore} {post : Option Value → zStore → Prop} {px : String → zStore → Prop}{b : Nat} {limit : Int} (hG : zOK G "LineLearner" cX3_group 4) (hR : zRoom G rm_X3_group) (hE : zRetI G F cX3_group 1 6 post) (hT : zThr G F cX3_group 1 6 px) (hL : zLay F) (hr : zRg I) (hf_b : zFm F b) (hl : -2147483648 ≤ limit ∧ limit < 2147483648)
    (k1 : (limit < 0) → px "java/lang/IllegalArgumentException" I)
    (k2 : (0 ≤ limit) → (limit ≤ 200) → zW G F 0 0 (zup I 0 8 0) [(0, .ref (F.1 0)), (1, .int (zI limit)), (2, .int (zI 0))] [] 28)
    (k3 : (0 ≤ limit) → (200 < limit) → px "java/lang/IllegalArgumentException" I) :
    zW G F 0 0 I [(0, .ref (F.1 0)), (1, .int (zI limit))] [] 0 := by
  have hfb_b := hf_b.1
  refine z_iload_n 1 hG dX3_group_0 rfl rfl ?_
  refine z_if_lt (tgt := 11) hG dX3_group_1 (by decide) (by omega) (fun c1 => ?_) (fun c1 => ?_)
  · skip
    exact hT.1 _ _ _ _ _ _ _ _ _ _ _ _ _ zs_55_228 dX3_group_11 dX3_group_14 dX3_group_15 dX3_group_17 dX3_group_20 hR (by decide) (Nat.le_of_ble_eq_true rfl) (by decide) (by decide) (by decide) (by decide) (k1 c1)
  · skip
    refine z_iload_n 1 hG dX3_group_4 rfl rfl ?_
    refine z_sipush 200 hG dX3_group_5 (by decide) ?_
    refine z_icmp_le (tgt := 21) hG dX3_group_8 (by decide) (by omega) (by decide) (fun c8 => ?_) (fun c8 => ?_)
    · skip
      refine z_aload_n 0 hG dX3_group_21 rfl rfl ?_
      refine z_iconst 0 hG dX3_group_22 ?_
      refine z_putI hG zcl3 (zlt hL (by decide)) (zl0 hL) 8 (by decide) (ki := 8) rfl rfl kw167 rfl rfl dX3_group_23 ?_
      refine z_iconst 0 hG dX3_group_26 ?_
      refine z_istore_n (lv' := [(2, .int (zI 0)), (0, .ref (F.1 0)), (1, .int (zI limit))]) hG dX3_group_27 rfl (by decide) rfl ?_
      refine z_perm (lv' := [(0, .ref (F.1 0)), (1, .int (zI limit)), (2, .int (zI 0))]) [1, 2, 0] rfl ?_
      exact k2 c1 c8
    · skip
      exact hT.1 _ _ _ _ _ _ _ _ _ _ _ _ _ zs_55_228 dX3_group_11 dX3_group_14 dX3_group_15 dX3_group_17 dX3_group_20 hR (by decide) (Nat.le_of_ble_eq_true rfl) (by decide) (by decide) (by decide) (by decide) (k3 c1 c8)

set_option maxRecDepth 100000 in
set_option maxHeartbeats 4000000 in
theorem s_X3_group_28 {G : zCx} {F : zFr} {I : zStore} {post : Option Value → zStore → Prop} {px : String → zStore → Prop}{b : Nat} {limit line : Int} {J42 : zStore} {v42 : Int} (hG : zOK G "LineLearner" cX3_group 4) (hR : zRoom G rm_X3_group) (hE : zRetI G F cX3_group 1 6 post) (hT : zThr G F cX3_group 1 6 px) (hL : zLay F) (hr : zRg I) (hf_b : zFm F b) (h1 : 0 ≤ line ∧ line ≤ 12 ∧ I 2 0 ≤ 12) (hm : 0 ≤ limit ∧ limit ≤ 200) (hc : ∀ _u : Unit, line < I 2 0 → v42 = (-1) → (0 ≤ J42 0 8 ∧ J42 0 8 < 12) ∧ b = 26 + 7 * (J42 0 8).toNat)
    (k1 : ((I 2 0) ≤ line) → post (some (.int (zI ((zup I 0 7 1) 0 8)))) (zup I 0 7 1))
    (kc42 : (line < (I 2 0)) → ∀ (l : Launch) (D : va_G) (cs : Nat → ClassId), l.stackTraces = false → zMt l yX3_nearestGroup cX3_nearestGroup 7 (some .int) rm_X3_nearestGroup D cs F I [.ref (F.1 0), .int (zI line), .int (zI limit)] (fun r I' => r = some (.int (zI v42)) ∧ I' = J42))
    (hrJ42 : zRg J42)
    (hv42 : -2147483648 ≤ v42 ∧ v42 < 2147483648)
    (k5 : (line < (I 2 0)) → (v42 ≠ (-1)) → zW G F 0 0 J42 [(0, .ref (F.1 0)), (1, .int (zI limit)), (2, .int (zI line)), (3, .int (zI v42))] [] 75)
    (k6 : (line < (I 2 0)) → (v42 = (-1)) → zW G F 0 0 (zup (zup (zup J42 b 0 0) b 1 0) 0 8 ((J42 0 8) + 1)) [(0, .ref (F.1 0)), (1, .int (zI limit)), (2, .int (zI line)), (3, .int (zI (J42 0 8)))] [] 75) :
    zW G F 0 0 I [(0, .ref (F.1 0)), (1, .int (zI limit)), (2, .int (zI line))] [] 28 := by
  have hfb_b := hf_b.1
  refine z_iload_n 2 hG dX3_group_28 rfl rfl ?_
  refine z_aload_n 0 hG dX3_group_29 rfl rfl ?_
  refine z_getR (t := 2) hG zcl3 (zlt hL (by decide)) (zl0 hL) 2 (by decide) rfl kw161 dX3_group_30 ?_
  refine z_getIN (v := I 2 0) hG zcl2 (zlt hL (by decide)) (zl2 hL) 0 (by decide) rfl rfl rfl kw29 dX3_group_33 ?_
  refine z_icmp_ge (tgt := 117) hG dX3_group_36 (by decide) (by omega) (hr _ _) (fun c36 => ?_) (fun c36 => ?_)
  · skip
    refine z_aload_n 0 hG dX3_group_117 rfl rfl ?_
    refine z_iconst 1 hG dX3_group_118 ?_
    refine z_putZ hG zcl3 (zlt hL (by decide)) (zl0 hL) 7 (by decide) (ki := 7) rfl rfl kw166 rfl rfl (by decide) dX3_group_119 ?_
    refine z_aload_n 0 hG dX3_group_122 rfl rfl ?_
    refine z_getI (v := (zup I 0 7 1) 0 8) hG zcl3 (zlt hL (by decide)) (zl0 hL) 8 (by decide) rfl rfl rfl kw167 dX3_group_123 ?_
    refine z_widen (k := 1) (n := 6) (by decide) (by decide) hR (by decide) (by decide) ?_
    exact hE _ _ _ _ dX3_group_126 (k1 c36)
  · skip
    refine z_aload_n 0 hG dX3_group_39 rfl rfl ?_
    refine z_iload_n 2 hG dX3_group_40 rfl rfl ?_
    refine z_iload_n 1 hG dX3_group_41 rfl rfl ?_
    refine z_callV [.int (zI line), .int (zI limit)] hG hR (kc42 c36) hd_X3_nearestGroup kw647 kw649 kp21 rfl (zlt hL (by decide)) (zl0 hL) (by decide) (by decide) (by decide) (by decide) rfl rfl (Nat.le_of_ble_eq_true rfl) dX3_group_42 (fun r I' hp => ?_)
    rw [hp.1, hp.2]
    show zW G F 0 0 J42 [(0, .ref (F.1 0)), (1, .int (zI limit)), (2, .int (zI line))] [.int (zI v42)] 45
    refine z_istore_n (lv' := [(3, .int (zI v42)), (0, .ref (F.1 0)), (1, .int (zI limit)), (2, .int (zI line))]) hG dX3_group_45 rfl (by decide) rfl ?_
    refine z_iload_n 0 hG dX3_group_46 rfl rfl ?_
    refine z_iconst (-1) hG dX3_group_47 ?_
    refine z_icmp_ne (tgt := 75) hG dX3_group_48 (by decide) (by omega) (by decide) (fun c48 => ?_) (fun c48 => ?_)
    · skip
      refine z_perm (lv' := [(0, .ref (F.1 0)), (1, .int (zI limit)), (2, .int (zI line)), (3, .int (zI v42))]) [1, 2, 3, 0] rfl ?_
      exact k5 c36 c48
    · skip
      have hb8 := hc () c36 c48
      have hb9 := hb8.2
      refine z_aload_n 1 hG dX3_group_51 rfl rfl ?_
      refine z_getI (v := J42 0 8) hG zcl3 (zlt hL (by decide)) (zl0 hL) 8 (by decide) rfl rfl rfl kw167 dX3_group_52 ?_
      refine z_istore_n (lv' := [(3, .int (zI (J42 0 8))), (0, .ref (F.1 0)), (1, .int (zI limit)), (2, .int (zI line))]) hG dX3_group_55 rfl (by decide) rfl ?_
      refine z_aload_n 1 hG dX3_group_56 rfl rfl ?_
      refine z_getR (t := 25) hG zcl3 (zlt hL (by decide)) (zl0 hL) 10 (by decide) rfl kw169 dX3_group_57 ?_
      refine z_iload_n 0 hG dX3_group_60 rfl rfl ?_
      refine z_aald (t := b) (j := (J42 0 8).toNat) hG (zlt hL (by decide)) (zl25 hL) (by decide) (by omega) (by rw [hb9]; exact zgf (F := F) (by omega)) dX3_group_61 ?_
      refine z_callV [] hG hR (c_X1_makeEmpty hrJ42 hf_b) hd_X1_makeEmpty kw201 kw202 kw203 rfl (zfN0 hf_b) (zf0 hf_b) (by decide) (by decide) (by decide) (by decide) rfl rfl (Nat.le_of_ble_eq_true rfl) dX3_group_62 (fun r I' hp => ?_)
      rw [hp.1, hp.2]
      show zW G F 0 0 (zup (zup J42 b 0 0) b 1 0) [(3, .int (zI (J42 0 8))), (0, .ref (F.1 0)), (1, .int (zI limit)), (2, .int (zI line))] [] 65
      refine z_aload_n 1 hG dX3_group_65 rfl rfl ?_
      refine z_dup hG dX3_group_66 rfl ?_
      refine z_getI (v := J42 0 8) hG zcl3 (zlt hL (by decide)) (zl0 hL) 8 (by decide) rfl rfl ((zup_k (by omega)).trans (zup_k (by omega))) kw167 dX3_group_67 ?_
      refine z_iconst 1 hG dX3_group_70 ?_
      refine z_iadd hG dX3_group_71 ?_
      refine z_putI hG zcl3 (zlt hL (by decide)) (zl0 hL) 8 (by decide) (ki := 8) rfl rfl kw167 rfl rfl dX3_group_72 ?_
      refine z_perm (lv' := [(0, .ref (F.1 0)), (1, .int (zI limit)), (2, .int (zI line)), (3, .int (zI (J42 0 8)))]) [1, 2, 3, 0] rfl ?_
      exact k6 c36 c48

set_option maxRecDepth 100000 in
set_option maxHeartbeats 4000000 in
theorem s_X3_group_75 {G : zCx} {F : zFr} {I : zStore} {post : Option Value → zStore → Prop} {px : String → zStore → Prop}{b : Nat} {limit line ch : Int} {J86 : zStore} {v86 : Int} {J101 : zStore} (hG : zOK G "LineLearner" cX3_group 4) (hR : zRoom G rm_X3_group) (hE : zRetI G F cX3_group 1 6 post) (hT : zThr G F cX3_group 1 6 px) (hL : zLay F) (hr : zRg I) (hf_b : zFm F b) (h1 : 0 ≤ line ∧ line < 12) (hm : 0 ≤ limit ∧ limit ≤ 200) (h3 : 0 ≤ ch ∧ ch < 12) (hb9 : b = 26 + 7 * ch.toNat)
    (kc86 : ∀ (l : Launch) (D : va_G) (cs : Nat → ClassId), l.stackTraces = false → zMt l yX0_align cX0_align 8 (some .int) rm_X0_align D cs F I [.ref (F.1 10), .ref (F.1 b), .int (zI line)] (fun r I' => r = some (.int (zI v86)) ∧ I' = J86))
    (hrJ86 : zRg J86)
    (hv86 : -2147483648 ≤ v86 ∧ v86 < 2147483648)
    (kc101 : ∀ (l : Launch) (D : va_G) (cs : Nat → ClassId), l.stackTraces = false → zMt l yX0_join cX0_join 8 none rm_X0_join D cs F J86 [.ref (F.1 10), .ref (F.1 b), .int (zI line)] (fun r I' => r = none ∧ I' = J101))
    (hrJ101 : zRg J101)
    (k6 : zW G F 0 0 (zup J101 24 line ch) [(0, .ref (F.1 0)), (1, .int (zI limit)), (2, .int (zI (line + 1)))] [] 28) :
    zW G F 0 0 I [(0, .ref (F.1 0)), (1, .int (zI limit)), (2, .int (zI line)), (3, .int (zI ch))] [] 75 := by
  have hfb_b := hf_b.1
  refine z_aload_n 0 hG dX3_group_75 rfl rfl ?_
  refine z_getR (t := 10) hG zcl3 (zlt hL (by decide)) (zl0 hL) 3 (by decide) rfl kw162 dX3_group_76 ?_
  refine z_aload_n 0 hG dX3_group_79 rfl rfl ?_
  refine z_getR (t := 25) hG zcl3 (zlt hL (by decide)) (zl0 hL) 10 (by decide) rfl kw169 dX3_group_80 ?_
  refine z_iload_n 3 hG dX3_group_83 rfl rfl ?_
  refine z_aald (t := b) (j := (ch).toNat) hG (zlt hL (by decide)) (zl25 hL) (by decide) (by omega) (by rw [hb9]; exact zgf (F := F) (by omega)) dX3_group_84 ?_
  refine z_iload_n 2 hG dX3_group_85 rfl rfl ?_
  refine z_callV [.ref (F.1 b), .int (zI line)] hG hR (kc86 ) hd_X0_align kw492 kw493 kw494 rfl (zlt hL (by decide)) (zl10 hL) (by decide) (by decide) (by decide) (by decide) rfl rfl (Nat.le_of_ble_eq_true rfl) dX3_group_86 (fun r I' hp => ?_)
  rw [hp.1, hp.2]
  show zW G F 0 0 J86 [(0, .ref (F.1 0)), (1, .int (zI limit)), (2, .int (zI line)), (3, .int (zI ch))] [.int (zI v86)] 89
  refine z_pop hG dX3_group_89 rfl ?_
  refine z_aload_n 0 hG dX3_group_90 rfl rfl ?_
  refine z_getR (t := 10) hG zcl3 (zlt hL (by decide)) (zl0 hL) 3 (by decide) rfl kw162 dX3_group_91 ?_
  refine z_aload_n 0 hG dX3_group_94 rfl rfl ?_
  refine z_getR (t := 25) hG zcl3 (zlt hL (by decide)) (zl0 hL) 10 (by decide) rfl kw169 dX3_group_95 ?_
  refine z_iload_n 3 hG dX3_group_98 rfl rfl ?_
  refine z_aald (t := b) (j := (ch).toNat) hG (zlt hL (by decide)) (zl25 hL) (by decide) (by omega) (by rw [hb9]; exact zgf (F := F) (by omega)) dX3_group_99 ?_
  refine z_iload_n 2 hG dX3_group_100 rfl rfl ?_
  refine z_callV [.ref (F.1 b), .int (zI line)] hG hR (kc101 ) hd_X0_join kw506 kw507 kw508 rfl (zlt hL (by decide)) (zl10 hL) (by decide) (by decide) (by decide) (by decide) rfl rfl (Nat.le_of_ble_eq_true rfl) dX3_group_101 (fun r I' hp => ?_)
  rw [hp.1, hp.2]
  show zW G F 0 0 J101 [(0, .ref (F.1 0)), (1, .int (zI limit)), (2, .int (zI line)), (3, .int (zI ch))] [] 104
  refine z_aload_n 0 hG dX3_group_104 rfl rfl ?_
  refine z_getR (t := 24) hG zcl3 (zlt hL (by decide)) (zl0 hL) 9 (by decide) rfl kw168 dX3_group_105 ?_
  refine z_iload_n 2 hG dX3_group_108 rfl rfl ?_
  refine z_iload_n 3 hG dX3_group_109 rfl rfl ?_
  refine z_iast hG (zlt hL (by decide)) (zl24 hL) (by decide) (by omega) dX3_group_110 ?_
  refine z_iinc (lv' := [(2, .int (zI (line + 1))), (0, .ref (F.1 0)), (1, .int (zI limit)), (3, .int (zI ch))]) 2 hG dX3_group_111 rfl (by decide) rfl ?_
  refine z_goto (tgt := 28) hG dX3_group_114 (by decide) ?_
  refine z_perm (lv' := [(0, .ref (F.1 0)), (1, .int (zI limit)), (2, .int (zI (line + 1)))]) [1, 2, 0] rfl ?_
  exact k6

