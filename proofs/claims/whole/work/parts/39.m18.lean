theorem zs_55_228 : zSite "java/lang/IllegalArgumentException" "the limit is not 0 to 200" ["java/lang/RuntimeException", "java/lang/Exception"] 55 228 59 := ⟨by decide +kernel, by decide +kernel, kw298, kw9, by decide +kernel, (show ∀ w ∈ vx_atS "LineLearner" 59 "java/lang/IllegalArgumentException" ["java/lang/RuntimeException", "java/lang/Exception"], w ∈ lw_tbl ∧ zst w = true by decide +kernel), by decide +kernel⟩
abbrev rm_X3_group : Room := { frames := 6, cells := 1, slots := 6, locals := 151 }
set_option maxRecDepth 100000 in
set_option maxHeartbeats 4000000 in
theorem s_X3_group_0 {G : zCx} {F : zFr} {I : zStore} {post : Option Value → zStore → Prop} {px : String → zStore → Prop}{b : Nat} {limit : Int} (hG : zOK G "LineLearner" cX3_group 4) (hR : zRoom G rm_X3_group) (hE : zRetI G F cX3_group 1 6 post) (hT : zThr G F cX3_group 1 6 px) (hL : zLay F) (hr : zRg I) (hf_b : zFm F b) (hl : -2147483648 ≤ limit ∧ limit < 2147483648)
    (k1 : (limit < 0) → px "java/lang/IllegalArgumentException" I)
    (k2 : (0 ≤ limit) → (limit ≤ 200) → zW G F 0 0 (zup I 0 8 0) [(0, .ref (F.1 0)), (1, .int (zI limit)), (2, .int (zI 0))] [] 28)
    (k3 : (0 ≤ limit) → (200 < limit) → px "java/lang/IllegalArgumentException" I) :
    zW G F 0 0 I [(0, .ref (F.1 0)), (1, .int (zI limit))] [] 0 := by
  have hfb_b := hf_b.1
  refine z_iload_n 1 hG dX3_group_0 rfl rfl ?_
  refine z_if_lt (tgt := 11) hG dX3_group_1 (by decide) (by omega) (fun c1 => ?_) (fun c1 => ?_)
  · skip
    exact hT.1 _ _ _ _ _ _ _ _ _ _ _ _ _ zs_55_228 dX3_group_11 dX3_group_14 dX3_group_15 dX3_group_17 dX3_group_20 hR (by decide) (Nat.le_of_ble_eq_true rfl) (by decide) (by decide) (by decide) (by decide) (k1 c1)
  · skip
    refine z_iload_n 1 hG dX3_group_4 rfl rfl ?_
    refine z_sipush 200 hG dX3_group_5 (by decide) ?_
    refine z_icmp_le (tgt := 21) hG dX3_group_8 (by decide) (by omega) (by decide) (fun c8 => ?_) (fun c8 => ?_)
    · skip
      refine z_aload_n 0 hG dX3_group_21 rfl rfl ?_
      refine z_iconst 0 hG dX3_group_22 ?_
      refine z_putI hG zcl3 (zlt hL (by decide)) (zl0 hL) 8 (by decide) (ki := 8) rfl rfl kw167 rfl rfl dX3_group_23 ?_
      refine z_iconst 0 hG dX3_group_26 ?_
      refine z_istore_n (lv' := [(2, .int (zI 0)), (0, .ref (F.1 0)), (1, .int (zI limit))]) hG dX3_group_27 rfl (by decide) rfl ?_
      refine z_perm (lv' := [(0, .ref (F.1 0)), (1, .int (zI limit)), (2, .int (zI 0))]) [1, 2, 0] rfl ?_
      exact k2 c1 c8
    · skip
      exact hT.1 _ _ _ _ _ _ _ _ _ _ _ _ _ zs_55_228 dX3_group_11 dX3_group_14 dX3_group_15 dX3_group_17 dX3_group_20 hR (by decide) (Nat.le_of_ble_eq_true rfl) (by decide) (by decide) (by decide) (by decide) (k3 c1 c8)

set_option maxRecDepth 100000 in
set_option maxHeartbeats 4000000 in
theorem s_X3_group_28 {G : zCx} {F : zFr} {I : zStore} {post : Option Value → zStore → Prop} {px : String → zStore → Prop}{b : Nat} {limit line : Int} {J42 : zStore} {v42 : Int} (hG : zOK G "LineLearner" cX3_group 4) (hR : zRoom G rm_X3_group) (hE : zRetI G F cX3_group 1 6 post) (hT : zThr G F cX3_group 1 6 px) (hL : zLay F) (hr : zRg I) (hf_b : zFm F b) (h1 : 0 ≤ line ∧ line ≤ 12 ∧ I 2 0 ≤ 12) (hm : 0 ≤ limit ∧ limit ≤ 200) (hc : ∀ _u : Unit, line < I 2 0 → v42 = (-1) → (0 ≤ J42 0 8 ∧ J42 0 8 < 12) ∧ b = 26 + 7 * (J42 0 8).toNat)
    (k1 : ((I 2 0) ≤ line) → post (some (.int (zI ((zup I 0 7 1) 0 8)))) (zup I 0 7 1))
    (kc42 : (line < (I 2 0)) → ∀ (l : Launch) (D : va_G) (cs : Nat → ClassId), l.stackTraces = false → zMt l yX3_nearestGroup cX3_nearestGroup 7 (some .int) rm_X3_nearestGroup D cs F I [.ref (F.1 0), .int (zI line), .int (zI limit)] (fun r I' => r = some (.int (zI v42)) ∧ I' = J42))
    (hrJ42 : zRg J42)
    (hv42 : -2147483648 ≤ v42 ∧ v42 < 2147483648)
    (k5 : (line < (I 2 0)) → (v42 ≠ (-1)) → zW G F 0 0 J42 [(0, .ref (F.1 0)), (1, .int (zI limit)), (2, .int (zI line)), (3, .int (zI v42))] [] 75)
    (k6 : (line < (I 2 0)) → (v42 = (-1)) → zW G F 0 0 (zup (zup (zup J42 b 0 0) b 1 0) 0 8 ((J42 0 8) + 1)) [(0, .ref (F.1 0)), (1, .int (zI limit)), (2, .int (zI line)), (3, .int (zI (J42 0 8)))] [] 75) :
    zW G F 0 0 I [(0, .ref (F.1 0)), (1, .int (zI limit)), (2, .int (zI line))] [] 28 := by
  have hfb_b := hf_b.1
  refine z_iload_n 2 hG dX3_group_28 rfl rfl ?_
  refine z_aload_n 0 hG dX3_group_29 rfl rfl ?_
  refine z_getR (t := 2) hG zcl3 (zlt hL (by decide)) (zl0 hL) 2 (by decide) rfl kw161 dX3_group_30 ?_
  refine z_getIN (v := I 2 0) hG zcl2 (zlt hL (by decide)) (zl2 hL) 0 (by decide) rfl rfl rfl kw29 dX3_group_33 ?_
  refine z_icmp_ge (tgt := 117) hG dX3_group_36 (by decide) (by omega) (hr _ _) (fun c36 => ?_) (fun c36 => ?_)
  · skip
    refine z_aload_n 0 hG dX3_group_117 rfl rfl ?_
    refine z_iconst 1 hG dX3_group_118 ?_
    refine z_putZ hG zcl3 (zlt hL (by decide)) (zl0 hL) 7 (by decide) (ki := 7) rfl rfl kw166 rfl rfl (by decide) dX3_group_119 ?_
    refine z_aload_n 0 hG dX3_group_122 rfl rfl ?_
    refine z_getI (v := (zup I 0 7 1) 0 8) hG zcl3 (zlt hL (by decide)) (zl0 hL) 8 (by decide) rfl rfl rfl kw167 dX3_group_123 ?_
    refine z_widen (k := 1) (n := 6) (by decide) (by decide) hR (by decide) (by decide) ?_
    exact hE _ _ _ _ dX3_group_126 (k1 c36)
  · skip
    refine z_aload_n 0 hG dX3_group_39 rfl rfl ?_
    refine z_iload_n 2 hG dX3_group_40 rfl rfl ?_
    refine z_iload_n 1 hG dX3_group_41 rfl rfl ?_
    refine z_callV [.int (zI line), .int (zI limit)] hG hR (kc42 c36) hd_X3_nearestGroup kw647 kw649 kp21 rfl (zlt hL (by decide)) (zl0 hL) (by decide) (by decide) (by decide) (by decide) rfl rfl (Nat.le_of_ble_eq_true rfl) dX3_group_42 (fun r I' hp => ?_)
    rw [hp.1, hp.2]
    show zW G F 0 0 J42 [(0, .ref (F.1 0)), (1, .int (zI limit)), (2, .int (zI line))] [.int (zI v42)] 45
    refine z_istore_n (lv' := [(3, .int (zI v42)), (0, .ref (F.1 0)), (1, .int (zI limit)), (2, .int (zI line))]) hG dX3_group_45 rfl (by decide) rfl ?_
    refine z_iload_n 0 hG dX3_group_46 rfl rfl ?_
    refine z_iconst (-1) hG dX3_group_47 ?_
    refine z_icmp_ne (tgt := 75) hG dX3_group_48 (by decide) (by omega) (by decide) (fun c48 => ?_) (fun c48 => ?_)
    · skip
      refine z_perm (lv' := [(0, .ref (F.1 0)), (1, .int (zI limit)), (2, .int (zI line)), (3, .int (zI v42))]) [1, 2, 3, 0] rfl ?_
      exact k5 c36 c48
    · skip
      have hb8 := hc () c36 c48
      have hb9 := hb8.2
      refine z_aload_n 1 hG dX3_group_51 rfl rfl ?_
      refine z_getI (v := J42 0 8) hG zcl3 (zlt hL (by decide)) (zl0 hL) 8 (by decide) rfl rfl rfl kw167 dX3_group_52 ?_
      refine z_istore_n (lv' := [(3, .int (zI (J42 0 8))), (0, .ref (F.1 0)), (1, .int (zI limit)), (2, .int (zI line))]) hG dX3_group_55 rfl (by decide) rfl ?_
      refine z_aload_n 1 hG dX3_group_56 rfl rfl ?_
      refine z_getR (t := 25) hG zcl3 (zlt hL (by decide)) (zl0 hL) 10 (by decide) rfl kw169 dX3_group_57 ?_
      refine z_iload_n 0 hG dX3_group_60 rfl rfl ?_
      refine z_aald (t := b) (j := (J42 0 8).toNat) hG (zlt hL (by decide)) (zl25 hL) (by decide) (by omega) (by rw [hb9]; exact zgf (F := F) (by omega)) dX3_group_61 ?_
      refine z_callV [] hG hR (c_X1_makeEmpty hrJ42 hf_b) hd_X1_makeEmpty kw201 kw202 kw203 rfl (zfN0 hf_b) (zf0 hf_b) (by decide) (by decide) (by decide) (by decide) rfl rfl (Nat.le_of_ble_eq_true rfl) dX3_group_62 (fun r I' hp => ?_)
      rw [hp.1, hp.2]
      show zW G F 0 0 (zup (zup J42 b 0 0) b 1 0) [(3, .int (zI (J42 0 8))), (0, .ref (F.1 0)), (1, .int (zI limit)), (2, .int (zI line))] [] 65
      refine z_aload_n 1 hG dX3_group_65 rfl rfl ?_
      refine z_dup hG dX3_group_66 rfl ?_
      refine z_getI (v := J42 0 8) hG zcl3 (zlt hL (by decide)) (zl0 hL) 8 (by decide) rfl rfl ((zup_k (by omega)).trans (zup_k (by omega))) kw167 dX3_group_67 ?_
      refine z_iconst 1 hG dX3_group_70 ?_
      refine z_iadd hG dX3_group_71 ?_
      refine z_putI hG zcl3 (zlt hL (by decide)) (zl0 hL) 8 (by decide) (ki := 8) rfl rfl kw167 rfl rfl dX3_group_72 ?_
      refine z_perm (lv' := [(0, .ref (F.1 0)), (1, .int (zI limit)), (2, .int (zI line)), (3, .int (zI (J42 0 8)))]) [1, 2, 3, 0] rfl ?_
      exact k6 c36 c48

set_option maxRecDepth 100000 in
set_option maxHeartbeats 4000000 in
theorem s_X3_group_75 {G : zCx} {F : zFr} {I : zStore} {post : Option Value → zStore → Prop} {px : String → zStore → Prop}{b : Nat} {limit line ch : Int} {J86 : zStore} {v86 : Int} {J101 : zStore} (hG : zOK G "LineLearner" cX3_group 4) (hR : zRoom G rm_X3_group) (hE : zRetI G F cX3_group 1 6 post) (hT : zThr G F cX3_group 1 6 px) (hL : zLay F) (hr : zRg I) (hf_b : zFm F b) (h1 : 0 ≤ line ∧ line < 12) (hm : 0 ≤ limit ∧ limit ≤ 200) (h3 : 0 ≤ ch ∧ ch < 12) (hb9 : b = 26 + 7 * ch.toNat)
    (kc86 : ∀ (l : Launch) (D : va_G) (cs : Nat → ClassId), l.stackTraces = false → zMt l yX0_align cX0_align 8 (some .int) rm_X0_align D cs F I [.ref (F.1 10), .ref (F.1 b), .int (zI line)] (fun r I' => r = some (.int (zI v86)) ∧ I' = J86))
    (hrJ86 : zRg J86)
    (hv86 : -2147483648 ≤ v86 ∧ v86 < 2147483648)
    (kc101 : ∀ (l : Launch) (D : va_G) (cs : Nat → ClassId), l.stackTraces = false → zMt l yX0_join cX0_join 8 none rm_X0_join D cs F J86 [.ref (F.1 10), .ref (F.1 b), .int (zI line)] (fun r I' => r = none ∧ I' = J101))
    (hrJ101 : zRg J101)
    (k6 : zW G F 0 0 (zup J101 24 line ch) [(0, .ref (F.1 0)), (1, .int (zI limit)), (2, .int (zI (line + 1)))] [] 28) :
    zW G F 0 0 I [(0, .ref (F.1 0)), (1, .int (zI limit)), (2, .int (zI line)), (3, .int (zI ch))] [] 75 := by
  have hfb_b := hf_b.1
  refine z_aload_n 0 hG dX3_group_75 rfl rfl ?_
  refine z_getR (t := 10) hG zcl3 (zlt hL (by decide)) (zl0 hL) 3 (by decide) rfl kw162 dX3_group_76 ?_
  refine z_aload_n 0 hG dX3_group_79 rfl rfl ?_
  refine z_getR (t := 25) hG zcl3 (zlt hL (by decide)) (zl0 hL) 10 (by decide) rfl kw169 dX3_group_80 ?_
  refine z_iload_n 3 hG dX3_group_83 rfl rfl ?_
  refine z_aald (t := b) (j := (ch).toNat) hG (zlt hL (by decide)) (zl25 hL) (by decide) (by omega) (by rw [hb9]; exact zgf (F := F) (by omega)) dX3_group_84 ?_
  refine z_iload_n 2 hG dX3_group_85 rfl rfl ?_
  refine z_callV [.ref (F.1 b), .int (zI line)] hG hR (kc86 ) hd_X0_align kw492 kw493 kw494 rfl (zlt hL (by decide)) (zl10 hL) (by decide) (by decide) (by decide) (by decide) rfl rfl (Nat.le_of_ble_eq_true rfl) dX3_group_86 (fun r I' hp => ?_)
  rw [hp.1, hp.2]
  show zW G F 0 0 J86 [(0, .ref (F.1 0)), (1, .int (zI limit)), (2, .int (zI line)), (3, .int (zI ch))] [.int (zI v86)] 89
  refine z_pop hG dX3_group_89 rfl ?_
  refine z_aload_n 0 hG dX3_group_90 rfl rfl ?_
  refine z_getR (t := 10) hG zcl3 (zlt hL (by decide)) (zl0 hL) 3 (by decide) rfl kw162 dX3_group_91 ?_
  refine z_aload_n 0 hG dX3_group_94 rfl rfl ?_
  refine z_getR (t := 25) hG zcl3 (zlt hL (by decide)) (zl0 hL) 10 (by decide) rfl kw169 dX3_group_95 ?_
  refine z_iload_n 3 hG dX3_group_98 rfl rfl ?_
  refine z_aald (t := b) (j := (ch).toNat) hG (zlt hL (by decide)) (zl25 hL) (by decide) (by omega) (by rw [hb9]; exact zgf (F := F) (by omega)) dX3_group_99 ?_
  refine z_iload_n 2 hG dX3_group_100 rfl rfl ?_
  refine z_callV [.ref (F.1 b), .int (zI line)] hG hR (kc101 ) hd_X0_join kw506 kw507 kw508 rfl (zlt hL (by decide)) (zl10 hL) (by decide) (by decide) (by decide) (by decide) rfl rfl (Nat.le_of_ble_eq_true rfl) dX3_group_101 (fun r I' hp => ?_)
  rw [hp.1, hp.2]
  show zW G F 0 0 J101 [(0, .ref (F.1 0)), (1, .int (zI limit)), (2, .int (zI line)), (3, .int (zI ch))] [] 104
  refine z_aload_n 0 hG dX3_group_104 rfl rfl ?_
  refine z_getR (t := 24) hG zcl3 (zlt hL (by decide)) (zl0 hL) 9 (by decide) rfl kw168 dX3_group_105 ?_
  refine z_iload_n 2 hG dX3_group_108 rfl rfl ?_
  refine z_iload_n 3 hG dX3_group_109 rfl rfl ?_
  refine z_iast hG (zlt hL (by decide)) (zl24 hL) (by decide) (by omega) dX3_group_110 ?_
  refine z_iinc (lv' := [(2, .int (zI (line + 1))), (0, .ref (F.1 0)), (1, .int (zI limit)), (3, .int (zI ch))]) 2 hG dX3_group_111 rfl (by decide) rfl ?_
  refine z_goto (tgt := 28) hG dX3_group_114 (by decide) ?_
  refine z_perm (lv' := [(0, .ref (F.1 0)), (1, .int (zI limit)), (2, .int (zI (line + 1)))]) [1, 2, 0] rfl ?_
  exact k6

/-- what nearestGroup answers for the line -/
def zgv (S : zStore) (limit : Int) (l : Nat) : Int := (znr (fun g => zCC S (26 + 7 * g) l (S (26 + 7 * g) 0).toNat (S 4 l).toNat) (fun g => zK S (26 + 7 * g) l (S (26 + 7 * g) 0).toNat (S 4 l).toNat) limit (S 0 8).toNat).1
/-- the store behind it -/
def zgn (S : zStore) (l : Nat) : zStore := zns S l (S 4 l).toNat (fun g => (S (26 + 7 * g) 0).toNat) (S 0 8).toNat
/-- the chosen group -/
def zgh (S : zStore) (limit : Int) (l : Nat) : Nat := if zgv S limit l = (-1) then (S 0 8).toNat else (zgv S limit l).toNat
/-- the store when the group is chosen -/
def zgc (S : zStore) (limit : Int) (l : Nat) : zStore := if zgv S limit l = (-1) then zup (zup (zup (zgn S l) (26 + 7 * zgh S limit l) 0 0) (26 + 7 * zgh S limit l) 1 0) 0 8 ((zgn S l) 0 8 + 1) else zgn S l
/-- the store when the line has joined its group -/
def zgt (S : zStore) (limit : Int) (l : Nat) : zStore := zup (zaj (zgc S limit l) (26 + 7 * zgh S limit l) l (zgc S limit l (26 + 7 * zgh S limit l) 0).toNat (S 4 l).toNat) 24 l (zgh S limit l)
/-- the store after l lines -/
def zgp (I : zStore) (limit : Int) : Nat → zStore
  | 0 => zup I 0 8 0
  | l + 1 => zgt (zgp I limit l) limit l
/-- what must hold when the line's turn comes -/
def zGl (S : zStore) (limit : Int) (l : Nat) : Prop := (0 ≤ S 0 8 ∧ S 0 8 < 12) ∧ (∀ g : Nat, g < (S 0 8).toNat → zAl S (26 + 7 * g) l (S (26 + 7 * g) 0).toNat (S 4 l).toNat) ∧ zAl (zgc S limit l) (26 + 7 * zgh S limit l) l (zgc S limit l (26 + 7 * zgh S limit l) 0).toNat (S 4 l).toNat ∧ zFo (zgc S limit l) (26 + 7 * zgh S limit l) (zgc S limit l (26 + 7 * zgh S limit l) 0).toNat ∧ zK (zgc S limit l) (26 + 7 * zgh S limit l) l (zgc S limit l (26 + 7 * zgh S limit l) 0).toNat (S 4 l).toNat ≤ 40
theorem zgh_lt {S : zStore} {limit : Int} {l : Nat} (hl : 0 ≤ limit ∧ limit ≤ 200) (h : zGl S limit l) : zgh S limit l < 12 ∧ -1 ≤ zgv S limit l ∧ zgv S limit l < 12 := by
  obtain ⟨h1, h2, -⟩ := h
  have hb := znr_bd (C := fun g => zCC S (26 + 7 * g) l (S (26 + 7 * g) 0).toNat (S 4 l).toNat) (K := fun g => zK S (26 + 7 * g) l (S (26 + 7 * g) 0).toNat (S 4 l).toNat) hl (S 0 8).toNat fun g hg => by
    have h3 := zCC_bd (h2 g hg) (S (26 + 7 * g) 0).toNat (S 4 l).toNat
    have h4 := (h2 g hg).2.2.1
    have h5 := (h2 g hg).2.2.2.2.1
    omega
  have hv : -1 ≤ zgv S limit l ∧ zgv S limit l < (S 0 8).toNat := hb.1
  unfold zgh
  split <;> omega
theorem zgn_rg {S : zStore} {limit : Int} {l : Nat} (hr : zRg S) (h : zGl S limit l) : zRg (zgn S l) := zns_rg hr h.2.1 _ (Nat.le_refl _)
theorem zgn_8 {S : zStore} {l : Nat} : zgn S l 0 8 = S 0 8 := (zns_s _).o (by decide) (by decide) (by decide)
theorem zgc_rg {S : zStore} {limit : Int} {l : Nat} (hr : zRg S) (h : zGl S limit l) : zRg (zgc S limit l) := by
  have h1 := zgn_rg hr h
  have h2 := zgn_8 (S := S) (l := l)
  have h3 := h.1
  unfold zgc
  split
  · exact zRg_up (zRg_up (zRg_up h1 (by decide)) (by decide)) (by omega)
  · exact h1
theorem zgt_rg {S : zStore} {limit : Int} {l : Nat} (hl : 0 ≤ limit ∧ limit ≤ 200) (hr : zRg S) (h : zGl S limit l) : zRg (zgt S limit l) := by
  have h1 := zgh_lt hl h
  exact zRg_up (zRg_aj (by omega) (zgc_rg hr h) h.2.2.1 h.2.2.2.1 h.2.2.2.2) (by omega)
theorem zgp_rg {I : zStore} {limit : Int} (hl : 0 ≤ limit ∧ limit ≤ 200) (hr : zRg I) : ∀ l : Nat, (∀ x : Nat, x < l → zGl (zgp I limit x) limit x) → zRg (zgp I limit l)
  | 0, _ => zRg_up hr (by decide)
  | l + 1, h => zgt_rg hl (zgp_rg hl hr l fun x hx => h x (by omega)) (h l (by omega))
set_option maxHeartbeats 4000000 in
theorem c_X3_group {F : zFr} {I : zStore} {limit : Int} {N : Nat} (hL : zLay F) (hr : zRg I) (hl : -2147483648 ≤ limit ∧ limit < 2147483648) (hN2 : N ≤ 12) (hN : ∀ l : Nat, l ≤ N → zgp I limit l 2 0 = N) (hG : 0 ≤ limit → limit ≤ 200 → ∀ l : Nat, l < N → zGl (zgp I limit l) limit l) : ∀ (l : Launch) (D : va_G) (cs : Nat → ClassId), l.stackTraces = false → zMx l yX3_group cX3_group 4 (some .int) rm_X3_group D cs F I [.ref (F.1 0), .int (zI limit)] (fun r I' => (0 ≤ limit ∧ limit ≤ 200) ∧ r = some (.int (zI (zgp I limit N 0 8))) ∧ I' = zup (zgp I limit N) 0 7 1) (fun E I' => E = "java/lang/IllegalArgumentException" ∧ ¬ (0 ≤ limit ∧ limit ≤ 200) ∧ I' = I) := by
  intro l D cs hst
  refine zMx.ofI hst (by decide +kernel) rfl (Nat.le_of_ble_eq_true rfl) fun G hG1 hR hE hT => ?_
  refine s_X3_group_0 hG1 hR hE hT hL hr (zFm.at hL) hl (fun e => ⟨rfl, by omega, rfl⟩) (fun e1 e2 => ?_) (fun _ e => ⟨rfl, by omega, rfl⟩)
  have hm : 0 ≤ limit ∧ limit ≤ 200 := ⟨e1, e2⟩
  have hg := hG e1 e2
  have key : ∀ (d i : Nat), i + d = N → zW G F 0 0 (zgp I limit i) [(0, .ref (F.1 0)), (1, .int (zI limit)), (2, .int (zI i))] [] 28 := by
    intro d
    induction d with
    | zero =>
      intro i hi
      have e : i = N := by omega
      subst e
      have hn := hN i (Nat.le_refl _)
      have hrS := zgp_rg hm hr i hg
      refine s_X3_group_28 (J42 := I) (v42 := 0) hG1 hR hE hT hL hrS (zFm.at hL) (by omega) hm (fun _ h => absurd h (by omega)) (fun _ => ⟨hm, ?_, rfl⟩) (fun h => absurd h (by omega)) hr (by omega) (fun h => absurd h (by omega)) (fun h => absurd h (by omega))
      rw [zup_i (by decide)]
    | succ d ih =>
      intro i hi
      have h := ih (i + 1) (by omega)
      have hn := hN i (by omega)
      have hi2 := hg i (by omega)
      have hrS := zgp_rg hm hr i fun x hx => hg x (by omega)
      have hs : zgp I limit (i + 1) = zgt (zgp I limit i) limit i := rfl
      rw [hs] at h
      generalize zgp I limit i = S at *
      have hh := zgh_lt hm hi2
      have hrn := zgn_rg hrS hi2
      have hrc := zgc_rg hrS hi2
      have h8 := zgn_8 (S := S) (l := i)
      obtain ⟨g1, g2, g3, g4, g5⟩ := hi2
      have hb15 : 15 ≤ 26 + 7 * zgh S limit i := by omega
      have hc := c_X3_nearestGroup (m := (S 4 i).toNat) (n := fun g => (S (26 + 7 * g) 0).toNat) (line := i) hL hrS hm (show S 0 8 = ((S 0 8).toNat : Nat) by omega) (by omega) g2
      have h75 : zW G F 0 0 (zgc S limit i) [(0, .ref (F.1 0)), (1, .int (zI limit)), (2, .int (zI i)), (3, .int (zI (zgh S limit i)))] [] 75 := by
        have hv := zCC_bd g3 (zgc S limit i (26 + 7 * zgh S limit i) 0).toNat (S 4 i).toNat
        have hn2 := g3.2.2.1
        have hm2 := g3.2.2.2.2.1
        have hJ := zJo_of hb15 g3 g5 g4.1 g4.2.1 g4.2.2
        have h4 : zAe (zgc S limit i) (26 + 7 * zgh S limit i) i (zgc S limit i (26 + 7 * zgh S limit i) 0).toNat (S 4 i).toNat 4 i = (S 4 i).toNat := by
          rw [zAe_o (by decide) (by decide) (by decide)]
          exact g3.2.2.2.1
        exact s_X3_group_75 (b := 26 + 7 * zgh S limit i) hG1 hR hE hT hL hrc (zFm.gr hL _ hh.1) (by omega) hm (by omega) (by omega) (c_X0_align hL hrc (zFm.gr hL _ hh.1) g3) (zRg_Ae g3 hrc) (by omega) (c_X0_join hL (zRg_Ae g3 hrc) (zFm.gr hL _ hh.1) g3.1 hn2 hJ h4 rfl zAe_7) (zRg_aj hb15 hrc g3 g4 g5) h
      refine s_X3_group_28 (b := 26 + 7 * zgh S limit i) (J42 := zgn S i) (v42 := zgv S limit i) hG1 hR hE hT hL hrS (zFm.gr hL _ hh.1) (by omega) hm (fun _ _ e => ⟨by omega, ?_⟩) (fun e => absurd e (by omega)) (fun _ => hc) hrn (by omega) (fun _ e => ?_) (fun _ e => ?_)
      · rw [h8]
        unfold zgh
        rw [if_pos e]
      · have e3 : (zgh S limit i : Int) = zgv S limit i := by
          unfold zgh
          rw [if_neg e]
          omega
        have e4 : zgc S limit i = zgn S i := by
          unfold zgc
          rw [if_neg e]
        rw [e3, e4] at h75
        exact h75
      · have e3 : (zgh S limit i : Int) = zgn S i 0 8 := by
          unfold zgh
          rw [if_pos e, h8]
          omega
        have e4 : zgc S limit i = zup (zup (zup (zgn S i) (26 + 7 * zgh S limit i) 0 0) (26 + 7 * zgh S limit i) 1 0) 0 8 ((zgn S i) 0 8 + 1) := by
          unfold zgc
          rw [if_pos e]
        rw [e4, e3] at h75
        exact h75
  exact key N 0 (by omega)
