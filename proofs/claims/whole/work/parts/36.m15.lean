theorem zs_174_239 : zSite "java/lang/IndexOutOfBoundsException" "there is no such group" ["java/lang/RuntimeException", "java/lang/Exception"] 174 239 178 := ⟨by decide +kernel, by decide +kernel, kw426, kw11, by decide +kernel, (show ∀ w ∈ vx_atS "LineLearner" 178 "java/lang/IndexOutOfBoundsException" ["java/lang/RuntimeException", "java/lang/Exception"], w ∈ lw_tbl ∧ zst w = true by decide +kernel), by decide +kernel⟩
theorem zs_66_141 : zSite "java/lang/IllegalStateException" "the format would have more than 40 slots" ["java/lang/RuntimeException", "java/lang/Exception"] 66 141 70 := ⟨by decide +kernel, by decide +kernel, kw365, kw10, by decide +kernel, (show ∀ w ∈ vx_atS "LineLearner" 70 "java/lang/IllegalStateException" ["java/lang/RuntimeException", "java/lang/Exception"], w ∈ lw_tbl ∧ zst w = true by decide +kernel), by decide +kernel⟩
theorem zs_66_131 : zSite "java/lang/IllegalStateException" "the line is merged already" ["java/lang/RuntimeException", "java/lang/Exception"] 66 131 70 := ⟨by decide +kernel, by decide +kernel, kw365, kw10, by decide +kernel, (show ∀ w ∈ vx_atS "LineLearner" 70 "java/lang/IllegalStateException" ["java/lang/RuntimeException", "java/lang/Exception"], w ∈ lw_tbl ∧ zst w = true by decide +kernel), by decide +kernel⟩
abbrev rm_X3_groupSlots : Room := { frames := 7, cells := 2, slots := 12, locals := 102 }
set_option maxRecDepth 100000 in
set_option maxHeartbeats 4000000 in
theorem s_X3_groupSlots {G : zCx} {F : zFr} {I : zStore} {post : Option Value → zStore → Prop} {px : String → zStore → Prop}{b : Nat} {g : Int} (hG : zOK G "LineLearner" cX3_groupSlots 2) (hR : zRoom G rm_X3_groupSlots) (hE : zRetI G F cX3_groupSlots 2 12 post) (hT : zThr G F cX3_groupSlots 2 12 px) (hL : zLay F) (hr : zRg I) (hf_b : zFm F b) (hg : -2147483648 ≤ g ∧ g < 2147483648) (hc : 0 ≤ I 0 8 ∧ I 0 8 ≤ 12) (hb : ∀ _u : Unit, 0 ≤ g → g < I 0 8 → b = 26 + 7 * g.toNat)
    (k1 : (¬ (I 0 7 ≠ 0)) → px "java/lang/IllegalStateException" I)
    (k2 : (I 0 7 ≠ 0) → (g < 0) → px "java/lang/IndexOutOfBoundsException" I)
    (k3 : (I 0 7 ≠ 0) → (0 ≤ g) → (g < (I 0 8)) → post (some (.int (zI (I b 0)))) I)
    (k4 : (I 0 7 ≠ 0) → (0 ≤ g) → ((I 0 8) ≤ g) → px "java/lang/IndexOutOfBoundsException" I) :
    zW G F 0 0 I [(0, .ref (F.1 0)), (1, .int (zI g))] [] 0 := by
  have hfb_b := hf_b.1
  refine z_aload_n 0 hG dX3_groupSlots_0 rfl rfl ?_
  refine z_callVX [] hG hR (c_X3_needGrouping hL hr) hd_X3_needGrouping kw658 kw660 kp22 rfl (zlt hL (by decide)) (zl0 hL) (by decide) (by decide) (by decide) (by decide) rfl rfl (Nat.le_of_ble_eq_true rfl) dX3_groupSlots_1 (fun E I' hp => ?_) (fun r I' hp => ?_)
  · obtain ⟨hI, hx⟩ := hp
    rw [hI]
    obtain ⟨hE9, h⟩ := hx
    subst hE9
    exact hT.2.2 _ _ _ _ _ _ (by decide) (by decide) (k1 h)
  have p1 : I 0 7 ≠ 0 := hp.1
  rw [hp.2.1, hp.2.2]
  show zW G F 1 6 I [(0, .ref (F.1 0)), (1, .int (zI g))] [] 4
  refine z_iload_n 1 hG dX3_groupSlots_4 rfl rfl ?_
  refine z_if_lt (tgt := 16) hG dX3_groupSlots_5 (by decide) (by omega) (fun c5 => ?_) (fun c5 => ?_)
  · skip
    exact hT.1 _ _ _ _ _ _ _ _ _ _ _ _ _ zs_174_239 dX3_groupSlots_16 dX3_groupSlots_19 dX3_groupSlots_20 dX3_groupSlots_22 dX3_groupSlots_25 hR (by decide) (Nat.le_of_ble_eq_true rfl) (by decide) (by decide) (by decide) (by decide) (k2 p1 c5)
  · skip
    refine z_iload_n 1 hG dX3_groupSlots_8 rfl rfl ?_
    refine z_aload_n 0 hG dX3_groupSlots_9 rfl rfl ?_
    refine z_getI (v := I 0 8) hG zcl3 (zlt hL (by decide)) (zl0 hL) 8 (by decide) rfl rfl rfl kw167 dX3_groupSlots_10 ?_
    refine z_icmp_lt (tgt := 26) hG dX3_groupSlots_13 (by decide) (by omega) (hr _ _) (fun c13 => ?_) (fun c13 => ?_)
    · skip
      have hb9 := hb () c5 c13
      refine z_aload_n 0 hG dX3_groupSlots_26 rfl rfl ?_
      refine z_getR (t := 25) hG zcl3 (zlt hL (by decide)) (zl0 hL) 10 (by decide) rfl kw169 dX3_groupSlots_27 ?_
      refine z_iload_n 1 hG dX3_groupSlots_30 rfl rfl ?_
      refine z_aald (t := b) (j := g.toNat) hG (zlt hL (by decide)) (zl25 hL) (by decide) (by omega) (by rw [hb9]; exact zgf (F := F) (by omega)) dX3_groupSlots_31 ?_
      refine z_getIN (v := I b 0) hG zcl1 (zfN0 hf_b) (zf0 hf_b) 0 (by decide) rfl rfl rfl kw120 dX3_groupSlots_32 ?_
      refine z_widen (k := 2) (n := 12) (by decide) (by decide) hR (by decide) (by decide) ?_
      exact hE _ _ _ _ dX3_groupSlots_35 (k3 p1 c5 c13)
    · skip
      exact hT.1 _ _ _ _ _ _ _ _ _ _ _ _ _ zs_174_239 dX3_groupSlots_16 dX3_groupSlots_19 dX3_groupSlots_20 dX3_groupSlots_22 dX3_groupSlots_25 hR (by decide) (Nat.le_of_ble_eq_true rfl) (by decide) (by decide) (by decide) (by decide) (k4 p1 c5 c13)

theorem c_X3_groupSlots {F : zFr} {I : zStore} {b : Nat} {g : Int}  (hL : zLay F) (hr : zRg I) (hf_b : zFm F b) (hg : -2147483648 ≤ g ∧ g < 2147483648) (hc : 0 ≤ I 0 8 ∧ I 0 8 ≤ 12) (hb : ∀ _u : Unit, 0 ≤ g → g < I 0 8 → b = 26 + 7 * g.toNat) : ∀ (l : Launch) (D : va_G) (cs : Nat → ClassId), l.stackTraces = false → zMx l yX3_groupSlots cX3_groupSlots 2 (some .int) rm_X3_groupSlots D cs F I [.ref (F.1 0), .int (zI g)] (fun r I' => ((I 0 7 ≠ 0) ∧ 0 ≤ g ∧ g < I 0 8) ∧ r = some (.int (zI (I b 0))) ∧ I' = I) (fun E I' => I' = I ∧ ((E = "java/lang/IllegalStateException" ∧ ¬ (I 0 7 ≠ 0)) ∨ (E = "java/lang/IndexOutOfBoundsException" ∧ (I 0 7 ≠ 0) ∧ ¬ (0 ≤ g ∧ g < I 0 8)))) :=
  fun l D cs hst => zMx.ofI hst (by decide +kernel) rfl (Nat.le_of_ble_eq_true rfl) fun G hG hR hE hT => s_X3_groupSlots hG hR hE hT hL hr hf_b hg hc hb
    (by intros; refine ⟨rfl, ?_⟩; first | exact ⟨rfl, by omega⟩ | exact Or.inl ⟨rfl, by omega⟩ | exact Or.inr ⟨rfl, by omega⟩)
    (by intros; refine ⟨rfl, ?_⟩; first | exact ⟨rfl, by omega⟩ | exact Or.inl ⟨rfl, by omega⟩ | exact Or.inr ⟨rfl, by omega⟩)
    (by intros; refine ⟨by omega, ?_, ?_⟩ <;> (repeat' split) <;> first | rfl | (exfalso; omega) | (simp only [zup_self]; done))
    (by intros; refine ⟨rfl, ?_⟩; first | exact ⟨rfl, by omega⟩ | exact Or.inl ⟨rfl, by omega⟩ | exact Or.inr ⟨rfl, by omega⟩)
abbrev rm_X3_merge : Room := { frames := 7, cells := 2, slots := 12, locals := 125 }
set_option maxRecDepth 100000 in
set_option maxHeartbeats 4000000 in
theorem s_X3_merge_0 {G : zCx} {F : zFr} {I : zStore} {post : Option Value → zStore → Prop} {px : String → zStore → Prop}{line : Int} {J33 : zStore} {v33 : Int} {J70 : zStore} (hG : zOK G "LineLearner" cX3_merge 5) (hR : zRoom G rm_X3_merge) (hE : zRetI G F cX3_merge 2 12 post) (hT : zThr G F cX3_merge 2 12 px) (hL : zLay F) (hr : zRg I) (hl : -2147483648 ≤ line ∧ line < 2147483648) (hn : 0 ≤ I 2 0 ∧ I 2 0 ≤ 12) (hm : ∀ _u : Unit, 0 ≤ line → line < I 2 0 → 0 ≤ I 22 line ∧ I 22 line ≤ 1) (hj1 : 0 ≤ J33 15 0 ∧ J33 15 0 ≤ 40) (hj2 : 0 ≤ J33 10 7 ∧ J33 10 7 ≤ 70)
    (k1 : (¬ (0 ≤ line ∧ line < I 2 0)) → px "java/lang/IndexOutOfBoundsException" I)
    (kc33 : (0 ≤ line ∧ line < I 2 0) → ((I 22 line) = 0) → ∀ (l : Launch) (D : va_G) (cs : Nat → ClassId), l.stackTraces = false → zMt l yX0_align cX0_align 8 (some .int) rm_X0_align D cs F I [.ref (F.1 10), .ref (F.1 15), .int (zI line)] (fun r I' => r = some (.int (zI v33)) ∧ I' = J33))
    (hrJ33 : zRg J33)
    (hv33 : -2147483648 ≤ v33 ∧ v33 < 2147483648)
    (kc70 : (0 ≤ line ∧ line < I 2 0) → ((I 22 line) = 0) → (J33 15 0 + J33 10 7 ≤ 40) → ∀ (l : Launch) (D : va_G) (cs : Nat → ClassId), l.stackTraces = false → zMt l yX0_join cX0_join 8 none rm_X0_join D cs F J33 [.ref (F.1 10), .ref (F.1 15), .int (zI line)] (fun r I' => r = none ∧ I' = J70))
    (hrJ70 : zRg J70)
    (k7 : (0 ≤ line ∧ line < I 2 0) → ((I 22 line) = 0) → (J33 15 0 + J33 10 7 ≤ 40) → zW G F 1 6 J70 [(0, .ref (F.1 0)), (1, .int (zI line)), (2, .int (zI v33)), (3, .int (zI (J70 4 line))), (4, .int (zI 0))] [] 86)
    (k8 : (0 ≤ line ∧ line < I 2 0) → ((I 22 line) = 0) → (¬ (J33 15 0 + J33 10 7 ≤ 40)) → px "java/lang/IllegalStateException" J33)
    (k9 : (0 ≤ line ∧ line < I 2 0) → ((I 22 line) ≠ 0) → px "java/lang/IllegalStateException" I) :
    zW G F 0 0 I [(0, .ref (F.1 0)), (1, .int (zI line))] [] 0 := by
  refine z_aload_n 0 hG dX3_merge_0 rfl rfl ?_
  refine z_iload_n 1 hG dX3_merge_1 rfl rfl ?_
  refine z_callVX [.int (zI line)] hG hR (c_X3_needLine hL hr (by omega)) hd_X3_needLine kw422 kw424 kp12 rfl (zlt hL (by decide)) (zl0 hL) (by decide) (by decide) (by decide) (by decide) rfl rfl (Nat.le_of_ble_eq_true rfl) dX3_merge_2 (fun E I' hp => ?_) (fun r I' hp => ?_)
  · obtain ⟨hI, hx⟩ := hp
    rw [hI]
    obtain ⟨hE9, h⟩ := hx
    subst hE9
    exact hT.2.2 _ _ _ _ _ _ (by decide) (by decide) (k1 h)
  have p2 : 0 ≤ line ∧ line < I 2 0 := hp.1
  rw [hp.2.1, hp.2.2]
  show zW G F 1 6 I [(0, .ref (F.1 0)), (1, .int (zI line))] [] 5
  have q9 := hm () p2.1 p2.2
  refine z_aload_n 0 hG dX3_merge_5 rfl rfl ?_
  refine z_getR (t := 22) hG zcl3 (zlt hL (by decide)) (zl0 hL) 5 (by decide) rfl kw164 dX3_merge_6 ?_
  refine z_iload_n 1 hG dX3_merge_9 rfl rfl ?_
  refine z_zald (v := I 22 line) hG (zlt hL (by decide)) (zl22 hL) (by decide) (by omega) rfl dX3_merge_10 ?_
  refine z_if_eq (tgt := 24) hG dX3_merge_11 (by decide) (hr _ _) (fun c11 => ?_) (fun c11 => ?_)
  · skip
    refine z_aload_n 0 hG dX3_merge_24 rfl rfl ?_
    refine z_getR (t := 10) hG zcl3 (zlt hL (by decide)) (zl0 hL) 3 (by decide) rfl kw162 dX3_merge_25 ?_
    refine z_aload_n 0 hG dX3_merge_28 rfl rfl ?_
    refine z_getR (t := 15) hG zcl3 (zlt hL (by decide)) (zl0 hL) 4 (by decide) rfl kw163 dX3_merge_29 ?_
    refine z_iload_n 1 hG dX3_merge_32 rfl rfl ?_
    refine z_callV [.ref (F.1 15), .int (zI line)] hG hR (kc33 p2 c11) hd_X0_align kw492 kw493 kw494 rfl (zlt hL (by decide)) (zl10 hL) (by decide) (by decide) (by decide) (by decide) rfl rfl (Nat.le_of_ble_eq_true rfl) dX3_merge_33 (fun r I' hp => ?_)
    rw [hp.1, hp.2]
    show zW G F 1 6 J33 [(0, .ref (F.1 0)), (1, .int (zI line))] [.int (zI v33)] 36
    refine z_istore_n (lv' := [(2, .int (zI v33)), (0, .ref (F.1 0)), (1, .int (zI line))]) hG dX3_merge_36 rfl (by decide) rfl ?_
    refine z_aload_n 1 hG dX3_merge_37 rfl rfl ?_
    refine z_getR (t := 10) hG zcl3 (zlt hL (by decide)) (zl0 hL) 3 (by decide) rfl kw162 dX3_merge_38 ?_
    refine z_aload_n 1 hG dX3_merge_41 rfl rfl ?_
    refine z_getR (t := 15) hG zcl3 (zlt hL (by decide)) (zl0 hL) 4 (by decide) rfl kw163 dX3_merge_42 ?_
    refine z_callV [.ref (F.1 15)] hG hR (c_X0_hasRoom hL hrJ33 (zFm.at hL) (by omega) (by omega)) hd_X0_hasRoom kw501 kw502 kw503 rfl (zlt hL (by decide)) (zl10 hL) (by decide) (by decide) (by decide) (by decide) rfl rfl (Nat.le_of_ble_eq_true rfl) dX3_merge_45 (fun r I' hp => ?_)
    rw [hp.1, hp.2]
    show zW G F 1 6 J33 [(2, .int (zI v33)), (0, .ref (F.1 0)), (1, .int (zI line))] [.int (zI (if J33 15 0 + J33 10 7 ≤ 40 then 1 else 0))] 48
    refine z_if_ne (tgt := 61) hG dX3_merge_48 (by decide) (by omega) (fun c48 => ?_) (fun c48 => ?_)
    · skip
      have c48b := zif_y c48
      refine z_aload_n 1 hG dX3_merge_61 rfl rfl ?_
      refine z_getR (t := 10) hG zcl3 (zlt hL (by decide)) (zl0 hL) 3 (by decide) rfl kw162 dX3_merge_62 ?_
      refine z_aload_n 1 hG dX3_merge_65 rfl rfl ?_
      refine z_getR (t := 15) hG zcl3 (zlt hL (by decide)) (zl0 hL) 4 (by decide) rfl kw163 dX3_merge_66 ?_
      refine z_iload_n 2 hG dX3_merge_69 rfl rfl ?_
      refine z_callV [.ref (F.1 15), .int (zI line)] hG hR (kc70 p2 c11 c48b) hd_X0_join kw506 kw507 kw508 rfl (zlt hL (by decide)) (zl10 hL) (by decide) (by decide) (by decide) (by decide) rfl rfl (Nat.le_of_ble_eq_true rfl) dX3_merge_70 (fun r I' hp => ?_)
      rw [hp.1, hp.2]
      show zW G F 1 6 J70 [(2, .int (zI v33)), (0, .ref (F.1 0)), (1, .int (zI line))] [] 73
      refine z_aload_n 1 hG dX3_merge_73 rfl rfl ?_
      refine z_getR (t := 2) hG zcl3 (zlt hL (by decide)) (zl0 hL) 2 (by decide) rfl kw161 dX3_merge_74 ?_
      refine z_getRN (t := 4) hG zcl2 (zlt hL (by decide)) (zl2 hL) 2 (by decide) rfl kw34 dX3_merge_77 ?_
      refine z_iload_n 2 hG dX3_merge_80 rfl rfl ?_
      refine z_iald (v := J70 4 line) hG (zlt hL (by decide)) (zl4 hL) (by decide) (by omega) rfl dX3_merge_81 ?_
      refine z_istore_n (lv' := [(3, .int (zI (J70 4 line))), (2, .int (zI v33)), (0, .ref (F.1 0)), (1, .int (zI line))]) hG dX3_merge_82 rfl (by decide) rfl ?_
      refine z_iconst 0 hG dX3_merge_83 ?_
      refine z_istore (lv' := [(4, .int (zI 0)), (3, .int (zI (J70 4 line))), (2, .int (zI v33)), (0, .ref (F.1 0)), (1, .int (zI line))]) hG dX3_merge_84 (by decide) rfl ?_
      refine z_perm (lv' := [(0, .ref (F.1 0)), (1, .int (zI line)), (2, .int (zI v33)), (3, .int (zI (J70 4 line))), (4, .int (zI 0))]) [3, 4, 2, 1, 0] rfl ?_
      exact k7 p2 c11 c48b
    · skip
      have c48b := zif_n c48
      exact hT.1 _ _ _ _ _ _ _ _ _ _ _ _ _ zs_66_141 dX3_merge_51 dX3_merge_54 dX3_merge_55 dX3_merge_57 dX3_merge_60 hR (by decide) (Nat.le_of_ble_eq_true rfl) (by decide) (by decide) (by decide) (by decide) (k8 p2 c11 c48b)
  · skip
    exact hT.1 _ _ _ _ _ _ _ _ _ _ _ _ _ zs_66_131 dX3_merge_14 dX3_merge_17 dX3_merge_18 dX3_merge_20 dX3_merge_23 hR (by decide) (Nat.le_of_ble_eq_true rfl) (by decide) (by decide) (by decide) (by decide) (k9 p2 c11)

set_option maxRecDepth 100000 in
set_option maxHeartbeats 4000000 in
theorem s_X3_merge_86 {G : zCx} {F : zFr} {I : zStore} {post : Option Value → zStore → Prop} {px : String → zStore → Prop}{line cost tk t : Int} (hG : zOK G "LineLearner" cX3_merge 5) (hR : zRoom G rm_X3_merge) (hE : zRetI G F cX3_merge 2 12 post) (hT : zThr G F cX3_merge 2 12 px) (hL : zLay F) (hr : zRg I) (h1 : 0 ≤ line ∧ line < 12) (h2 : 0 ≤ t ∧ t ≤ tk ∧ tk ≤ 30) (h3 : -2147483648 ≤ cost ∧ cost < 2147483648)
    (k1 : (tk ≤ t) → post (some (.int (zI cost))) (zup I 22 line 1))
    (k2 : (t < tk) → zW G F 1 6 (zup I 23 ((line * 30) + t) (I 13 t)) [(0, .ref (F.1 0)), (1, .int (zI line)), (2, .int (zI cost)), (3, .int (zI tk)), (4, .int (zI (t + 1)))] [] 86) :
    zW G F 1 6 I [(0, .ref (F.1 0)), (1, .int (zI line)), (2, .int (zI cost)), (3, .int (zI tk)), (4, .int (zI t))] [] 86 := by
  refine z_iload 4 hG dX3_merge_86 rfl ?_
  refine z_iload_n 3 hG dX3_merge_88 rfl rfl ?_
  refine z_icmp_ge (tgt := 119) hG dX3_merge_89 (by decide) (by omega) (by omega) (fun c89 => ?_) (fun c89 => ?_)
  · skip
    refine z_aload_n 0 hG dX3_merge_119 rfl rfl ?_
    refine z_getR (t := 22) hG zcl3 (zlt hL (by decide)) (zl0 hL) 5 (by decide) rfl kw164 dX3_merge_120 ?_
    refine z_iload_n 1 hG dX3_merge_123 rfl rfl ?_
    refine z_iconst 1 hG dX3_merge_124 ?_
    refine z_zast hG (zlt hL (by decide)) (zl22 hL) (by decide) (by omega) (by first | decide | omega) dX3_merge_125 ?_
    refine z_iload_n 2 hG dX3_merge_126 rfl rfl ?_
    refine z_widen (k := 2) (n := 12) (by decide) (by decide) hR (by decide) (by decide) ?_
    exact hE _ _ _ _ dX3_merge_127 (k1 c89)
  · skip
    refine z_aload_n 0 hG dX3_merge_92 rfl rfl ?_
    refine z_getR (t := 23) hG zcl3 (zlt hL (by decide)) (zl0 hL) 6 (by decide) rfl kw165 dX3_merge_93 ?_
    refine z_iload_n 1 hG dX3_merge_96 rfl rfl ?_
    refine z_iload 4 hG dX3_merge_97 rfl ?_
    refine z_callS [.int (zI line), .int (zI t)] hG hR (c_X3_placeOf hr) hd_X3_placeOf kw255 kw229 (by decide) (by decide) (by decide) (by decide) rfl rfl (Nat.le_of_ble_eq_true rfl) dX3_merge_99 (fun r I' hp => ?_)
    rw [hp.1, hp.2]
    show zW G F 1 6 I [(0, .ref (F.1 0)), (1, .int (zI line)), (2, .int (zI cost)), (3, .int (zI tk)), (4, .int (zI t))] [.int (zI ((line * 30) + t)), .ref (F.1 23)] 102
    refine z_aload_n 0 hG dX3_merge_102 rfl rfl ?_
    refine z_getR (t := 10) hG zcl3 (zlt hL (by decide)) (zl0 hL) 3 (by decide) rfl kw162 dX3_merge_103 ?_
    refine z_getRN (t := 13) hG zcl0 (zlt hL (by decide)) (zl10 hL) 8 (by decide) rfl kw88 dX3_merge_106 ?_
    refine z_iload 4 hG dX3_merge_109 rfl ?_
    refine z_iald (v := I 13 t) hG (zlt hL (by decide)) (zl13 hL) (by decide) (by omega) rfl dX3_merge_111 ?_
    refine z_iast hG (zlt hL (by decide)) (zl23 hL) (by decide) (by omega) dX3_merge_112 ?_
    refine z_iinc (lv' := [(4, .int (zI (t + 1))), (0, .ref (F.1 0)), (1, .int (zI line)), (2, .int (zI cost)), (3, .int (zI tk))]) 4 hG dX3_merge_113 rfl (by decide) rfl ?_
    refine z_goto (tgt := 86) hG dX3_merge_116 (by decide) ?_
    refine z_perm (lv' := [(0, .ref (F.1 0)), (1, .int (zI line)), (2, .int (zI cost)), (3, .int (zI tk)), (4, .int (zI (t + 1)))]) [1, 2, 3, 4, 0] rfl ?_
    exact k2 c89

abbrev rm_X3_nearestGroup : Room := { frames := 5, cells := 0, slots := 0, locals := 125 }
set_option maxRecDepth 100000 in
set_option maxHeartbeats 4000000 in
theorem s_X3_nearestGroup_0 {G : zCx} {F : zFr} {I : zStore} {post : Option Value → zStore → Prop}{b : Nat} {line : Int} {limit : Int} (hG : zOK G "LineLearner" cX3_nearestGroup 7) (hR : zRoom G rm_X3_nearestGroup) (hE : zRetI G F cX3_nearestGroup 0 0 post) (hL : zLay F) (hr : zRg I) (hf_b : zFm F b) (h1 : 0 ≤ limit ∧ limit ≤ 200)
    (k1 : zW G F 0 0 I [(0, .ref (F.1 0)), (1, .int (zI line)), (2, .int (zI limit)), (3, .int (zI (-1))), (4, .int (zI (limit + 1))), (5, .int (zI 0))] [] 10) :
    zW G F 0 0 I [(0, .ref (F.1 0)), (1, .int (zI line)), (2, .int (zI limit))] [] 0 := by
  have hfb_b := hf_b.1
  refine z_iconst (-1) hG dX3_nearestGroup_0 ?_
  refine z_istore_n (lv' := [(3, .int (zI (-1))), (0, .ref (F.1 0)), (1, .int (zI line)), (2, .int (zI limit))]) hG dX3_nearestGroup_1 rfl (by decide) rfl ?_
  refine z_iload_n 3 hG dX3_nearestGroup_2 rfl rfl ?_
  refine z_iconst 1 hG dX3_nearestGroup_3 ?_
  refine z_iadd hG dX3_nearestGroup_4 ?_
  refine z_istore (lv' := [(4, .int (zI (limit + 1))), (3, .int (zI (-1))), (0, .ref (F.1 0)), (1, .int (zI line)), (2, .int (zI limit))]) hG dX3_nearestGroup_5 (by decide) rfl ?_
  refine z_iconst 0 hG dX3_nearestGroup_7 ?_
  refine z_istore (lv' := [(5, .int (zI 0)), (4, .int (zI (limit + 1))), (3, .int (zI (-1))), (0, .ref (F.1 0)), (1, .int (zI line)), (2, .int (zI limit))]) hG dX3_nearestGroup_8 (by decide) rfl ?_
  refine z_perm (lv' := [(0, .ref (F.1 0)), (1, .int (zI line)), (2, .int (zI limit)), (3, .int (zI (-1))), (4, .int (zI (limit + 1))), (5, .int (zI 0))]) [3, 4, 5, 2, 1, 0] rfl ?_
  exact k1

set_option maxRecDepth 100000 in
set_option maxHeartbeats 4000000 in
theorem s_X3_nearestGroup_10 {G : zCx} {F : zFr} {I : zStore} {post : Option Value → zStore → Prop}{b : Nat} {line limit found least g : Int} {J31 : zStore} {v31 : Int} (hG : zOK G "LineLearner" cX3_nearestGroup 7) (hR : zRoom G rm_X3_nearestGroup) (hE : zRetI G F cX3_nearestGroup 0 0 post) (hL : zLay F) (hr : zRg I) (hf_b : zFm F b) (h1 : 0 ≤ g ∧ g ≤ 12 ∧ I 0 8 ≤ 12) (h2 : -2147483648 ≤ least ∧ least < 2147483648) (hb : ∀ _u : Unit, g < I 0 8 → b = 26 + 7 * g.toNat) (hj1 : 0 ≤ J31 b 0 ∧ J31 b 0 ≤ 40) (hj2 : 0 ≤ J31 10 7 ∧ J31 10 7 ≤ 70)
    (k1 : ((I 0 8) ≤ g) → post (some (.int (zI found))) I)
    (kc31 : (g < (I 0 8)) → ∀ (l : Launch) (D : va_G) (cs : Nat → ClassId), l.stackTraces = false → zMt l yX0_align cX0_align 8 (some .int) rm_X0_align D cs F I [.ref (F.1 10), .ref (F.1 b), .int (zI line)] (fun r I' => r = some (.int (zI v31)) ∧ I' = J31))
    (hrJ31 : zRg J31)
    (hv31 : -2147483648 ≤ v31 ∧ v31 < 2147483648)
    (k5 : (g < (I 0 8)) → (least ≤ v31) → zW G F 0 0 J31 [(0, .ref (F.1 0)), (1, .int (zI line)), (2, .int (zI limit)), (3, .int (zI found)), (4, .int (zI least)), (5, .int (zI (g + 1)))] [] 10)
    (k6 : (g < (I 0 8)) → (v31 < least) → (¬ (J31 b 0 + J31 10 7 ≤ 40)) → zW G F 0 0 J31 [(0, .ref (F.1 0)), (1, .int (zI line)), (2, .int (zI limit)), (3, .int (zI found)), (4, .int (zI least)), (5, .int (zI (g + 1)))] [] 10)
    (k7 : (g < (I 0 8)) → (v31 < least) → (J31 b 0 + J31 10 7 ≤ 40) → zW G F 0 0 J31 [(0, .ref (F.1 0)), (1, .int (zI line)), (2, .int (zI limit)), (3, .int (zI g)), (4, .int (zI v31)), (5, .int (zI (g + 1)))] [] 10) :
    zW G F 0 0 I [(0, .ref (F.1 0)), (1, .int (zI line)), (2, .int (zI limit)), (3, .int (zI found)), (4, .int (zI least)), (5, .int (zI g))] [] 10 := by
  have hfb_b := hf_b.1
  refine z_iload 5 hG dX3_nearestGroup_10 rfl ?_
  refine z_aload_n 0 hG dX3_nearestGroup_12 rfl rfl ?_
  refine z_getI (v := I 0 8) hG zcl3 (zlt hL (by decide)) (zl0 hL) 8 (by decide) rfl rfl rfl kw167 dX3_nearestGroup_13 ?_
  refine z_icmp_ge (tgt := 73) hG dX3_nearestGroup_16 (by decide) (by omega) (hr _ _) (fun c16 => ?_) (fun c16 => ?_)
  · skip
    refine z_iload_n 3 hG dX3_nearestGroup_73 rfl rfl ?_
    exact hE _ _ _ _ dX3_nearestGroup_74 (k1 c16)
  · skip
    have hb9 := hb () c16
    refine z_aload_n 0 hG dX3_nearestGroup_19 rfl rfl ?_
    refine z_getR (t := 10) hG zcl3 (zlt hL (by decide)) (zl0 hL) 3 (by decide) rfl kw162 dX3_nearestGroup_20 ?_
    refine z_aload_n 0 hG dX3_nearestGroup_23 rfl rfl ?_
    refine z_getR (t := 25) hG zcl3 (zlt hL (by decide)) (zl0 hL) 10 (by decide) rfl kw169 dX3_nearestGroup_24 ?_
    refine z_iload 5 hG dX3_nearestGroup_27 rfl ?_
    refine z_aald (t := b) (j := (g).toNat) hG (zlt hL (by decide)) (zl25 hL) (by decide) (by omega) (by rw [hb9]; exact zgf (F := F) (by omega)) dX3_nearestGroup_29 ?_
    refine z_iload_n 1 hG dX3_nearestGroup_30 rfl rfl ?_
    refine z_callV [.ref (F.1 b), .int (zI line)] hG hR (kc31 c16) hd_X0_align kw492 kw493 kw494 rfl (zlt hL (by decide)) (zl10 hL) (by decide) (by decide) (by decide) (by decide) rfl rfl (Nat.le_of_ble_eq_true rfl) dX3_nearestGroup_31 (fun r I' hp => ?_)
    rw [hp.1, hp.2]
    show zW G F 0 0 J31 [(0, .ref (F.1 0)), (1, .int (zI line)), (2, .int (zI limit)), (3, .int (zI found)), (4, .int (zI least)), (5, .int (zI g))] [.int (zI v31)] 34
    refine z_istore (lv' := [(6, .int (zI v31)), (0, .ref (F.1 0)), (1, .int (zI line)), (2, .int (zI limit)), (3, .int (zI found)), (4, .int (zI least)), (5, .int (zI g))]) hG dX3_nearestGroup_34 (by decide) rfl ?_
    refine z_iload 0 hG dX3_nearestGroup_36 rfl ?_
    refine z_iload 5 hG dX3_nearestGroup_38 rfl ?_
    refine z_icmp_ge (tgt := 67) hG dX3_nearestGroup_40 (by decide) (by omega) (by omega) (fun c40 => ?_) (fun c40 => ?_)
    · skip
      refine z_iinc (lv' := [(5, .int (zI (g + 1))), (6, .int (zI v31)), (0, .ref (F.1 0)), (1, .int (zI line)), (2, .int (zI limit)), (3, .int (zI found)), (4, .int (zI least))]) 6 hG dX3_nearestGroup_67 rfl (by decide) rfl ?_
      refine z_goto (tgt := 10) hG dX3_nearestGroup_70 (by decide) ?_
      refine z_perm (lv' := [(0, .ref (F.1 0)), (1, .int (zI line)), (2, .int (zI limit)), (3, .int (zI found)), (4, .int (zI least)), (5, .int (zI (g + 1)))]) [2, 3, 4, 5, 6, 0] rfl ?_
      exact k5 c16 c40
    · skip
      refine z_aload_n 1 hG dX3_nearestGroup_43 rfl rfl ?_
      refine z_getR (t := 10) hG zcl3 (zlt hL (by decide)) (zl0 hL) 3 (by decide) rfl kw162 dX3_nearestGroup_44 ?_
      refine z_aload_n 1 hG dX3_nearestGroup_47 rfl rfl ?_
      refine z_getR (t := 25) hG zcl3 (zlt hL (by decide)) (zl0 hL) 10 (by decide) rfl kw169 dX3_nearestGroup_48 ?_
      refine z_iload 6 hG dX3_nearestGroup_51 rfl ?_
      refine z_aald (t := b) (j := (g).toNat) hG (zlt hL (by decide)) (zl25 hL) (by decide) (by omega) (by rw [hb9]; exact zgf (F := F) (by omega)) dX3_nearestGroup_53 ?_
      refine z_callV [.ref (F.1 b)] hG hR (c_X0_hasRoom hL hrJ31 hf_b (by omega) (by omega)) hd_X0_hasRoom kw501 kw502 kw503 rfl (zlt hL (by decide)) (zl10 hL) (by decide) (by decide) (by decide) (by decide) rfl rfl (Nat.le_of_ble_eq_true rfl) dX3_nearestGroup_54 (fun r I' hp => ?_)
      rw [hp.1, hp.2]
      show zW G F 0 0 J31 [(6, .int (zI v31)), (0, .ref (F.1 0)), (1, .int (zI line)), (2, .int (zI limit)), (3, .int (zI found)), (4, .int (zI least)), (5, .int (zI g))] [.int (zI (if J31 b 0 + J31 10 7 ≤ 40 then 1 else 0))] 57
      refine z_if_eq (tgt := 67) hG dX3_nearestGroup_57 (by decide) (by omega) (fun c57 => ?_) (fun c57 => ?_)
      · skip
        have c57b := zif_n c57
        refine z_iinc (lv' := [(5, .int (zI (g + 1))), (6, .int (zI v31)), (0, .ref (F.1 0)), (1, .int (zI line)), (2, .int (zI limit)), (3, .int (zI found)), (4, .int (zI least))]) 6 hG dX3_nearestGroup_67 rfl (by decide) rfl ?_
        refine z_goto (tgt := 10) hG dX3_nearestGroup_70 (by decide) ?_
        refine z_perm (lv' := [(0, .ref (F.1 0)), (1, .int (zI line)), (2, .int (zI limit)), (3, .int (zI found)), (4, .int (zI least)), (5, .int (zI (g + 1)))]) [2, 3, 4, 5, 6, 0] rfl ?_
        exact k6 c16 c40 c57b
      · skip
        have c57b := zif_y c57
        refine z_iload 0 hG dX3_nearestGroup_60 rfl ?_
        refine z_istore (lv' := [(4, .int (zI v31)), (6, .int (zI v31)), (0, .ref (F.1 0)), (1, .int (zI line)), (2, .int (zI limit)), (3, .int (zI found)), (5, .int (zI g))]) hG dX3_nearestGroup_62 (by decide) rfl ?_
        refine z_iload 6 hG dX3_nearestGroup_64 rfl ?_
        refine z_istore_n (lv' := [(3, .int (zI g)), (4, .int (zI v31)), (6, .int (zI v31)), (0, .ref (F.1 0)), (1, .int (zI line)), (2, .int (zI limit)), (5, .int (zI g))]) hG dX3_nearestGroup_66 rfl (by decide) rfl ?_
        refine z_iinc (lv' := [(5, .int (zI (g + 1))), (3, .int (zI g)), (4, .int (zI v31)), (6, .int (zI v31)), (0, .ref (F.1 0)), (1, .int (zI line)), (2, .int (zI limit))]) 6 hG dX3_nearestGroup_67 rfl (by decide) rfl ?_
        refine z_goto (tgt := 10) hG dX3_nearestGroup_70 (by decide) ?_
        refine z_perm (lv' := [(0, .ref (F.1 0)), (1, .int (zI line)), (2, .int (zI limit)), (3, .int (zI g)), (4, .int (zI v31)), (5, .int (zI (g + 1)))]) [4, 5, 6, 1, 2, 0] rfl ?_
        exact k7 c16 c40 c57b

