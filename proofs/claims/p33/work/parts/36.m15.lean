theorem zs_66_141 : zSite "java/lang/IllegalStateException" "the format would have more than 40 slots" ["java/lang/RuntimeException", "java/lang/Exception"] 66 141 70 := ⟨by decide +kernel, by decide +kernel, kw365, kw10, by decide +kernel, (show ∀ w ∈ vx_atS "LineLearner" 70 "java/lang/IllegalStateException" ["java/lang/RuntimeException", "java/lang/Exception"], w ∈ lw_tbl ∧ zst w = true by decide +kernel), by decide +kernel⟩
theorem zs_66_131 : zSite "java/lang/IllegalStateException" "the line is merged already" ["java/lang/RuntimeException", "java/lang/Exception"] 66 131 70 := ⟨by decide +kernel, by decide +kernel, kw365, kw10, by decide +kernel, (show ∀ w ∈ vx_atS "LineLearner" 70 "java/lang/IllegalStateException" ["java/lang/RuntimeException", "java/lang/Exception"], w ∈ lw_tbl ∧ zst w = true by decide +kernel), by decide +kernel⟩
abbrev rm_X3_groupSlots : Room := { frames := 7, cells := 2, slots := 12, locals := 102 }
abbrev rm_X3_merge : Room := { frames := 7, cells := 2, slots := 12, locals := 125 }
set_option maxRecDepth 100000 in
set_option maxHeartbeats 4000000 in
theorem s_X3_merge_0 {G : zCx} {F : zFr} {I : zStore} {post : Option Value → zStore → Prop} {px : String → zStore → Prop}{line : Int} {J33 : zStore} {v33 : Int} {J70 : zStore} (hG : zOK G "LineLearner" cX3_merge 5) (hR : zRoom G rm_X3_merge) (hE : zRetI G F cX3_merge 2 12 post) (hT : zThr G F cX3_merge 2 12 px) (hL : zLay F) (hr : zRg I) (hl : -2147483648 ≤ line ∧ line < 2147483648) (hn : 0 ≤ I 2 0 ∧ I 2 0 ≤ 12) (hm : ∀ _u : Unit, 0 ≤ line → line < I 2 0 → 0 ≤ I 22 line ∧ I 22 line ≤ 1) (hj1 : 0 ≤ J33 15 0 ∧ J33 15 0 ≤ 40) (hj2 : 0 ≤ J33 10 7 ∧ J33 10 7 ≤ 70)
    (k1 : (¬ (0 ≤ line ∧ line < I 2 0)) → px "java/lang/IndexOutOfBoundsException" I)
    (kc33 : (0 ≤ line ∧ line < I 2 0) → ((I 22 line) = 0) → ∀ (l : Launch) (D : va_G) (cs : Nat → ClassId), l.stackTraces = false → zMt l yX0_align cX0_align 8 (some .int) rm_X0_align D cs F I [.ref (F.1 10), .ref (F.1 15), .int (zI line)] (fun r I' => r = some (.int (zI v33)) ∧ I' = J33))
    (hrJ33 : zRg J33)
    (hv33 : -2147483648 ≤ v33 ∧ v33 < 2147483648)
    (kc70 : (0 ≤ line ∧ line < I 2 0) → ((I 22 line) = 0) → (J33 15 0 + J33 10 7 ≤ 40) → ∀ (l : Launch) (D : va_G) (cs : Nat → ClassId), l.stackTraces = false → zMt l yX0_join cX0_join 8 none rm_X0_join D cs F J33 [.ref (F.1 10), .ref (F.1 15), .int (zI line)] (fun r I' => r = none ∧ I' = J70))
    (hrJ70 : zRg J70)
    (k7 : (0 ≤ line ∧ line < I 2 0) → ((I 22 line) = 0) → (J33 15 0 + J33 10 7 ≤ 40) → zW G F 1 6 J70 [(0, .ref (F.1 0)), (1, .int (zI line)), (2, .int (zI v33)), (3, .int (zI (J70 4 line))), (4, .int (zI 0))] [] 86)
    (k8 : (0 ≤ line ∧ line < I 2 0) → ((I 22 line) = 0) → (¬ (J33 15 0 + J33 10 7 ≤ 40)) → px "java/lang/IllegalStateException" J33)
    (k9 : (0 ≤ line ∧ line < I 2 0) → ((I 22 line) ≠ 0) → px "java/lang/IllegalStateException" I) :
    zW G F 0 0 I [(0, .ref (F.1 0)), (1, .int (zI line))] [] 0 := by
  refine z_aload_n 0 hG dX3_merge_0 rfl rfl ?_
  refine z_iload_n 1 hG dX3_merge_1 rfl rfl ?_
  refine z_callVX [.int (zI line)] hG hR (c_X3_needLine hL hr (by omega)) hd_X3_needLine kw422 kw424 kp12 rfl (zlt hL (by decide)) (zl0 hL) (by decide) (by decide) (by decide) (by decide) rfl rfl (Nat.le_of_ble_eq_true rfl) dX3_merge_2 (fun E I' hp => ?_) (fun r I' hp => ?_)
  · obtain ⟨hI, hx⟩ := hp
    rw [hI]
    obtain ⟨hE9, h⟩ := hx
    subst hE9
    exact hT.2.2 _ _ _ _ _ _ (by decide) (by decide) (k1 h)
  have p2 : 0 ≤ line ∧ line < I 2 0 := hp.1
  rw [hp.2.1, hp.2.2]
  show zW G F 1 6 I [(0, .ref (F.1 0)), (1, .int (zI line))] [] 5
  have q9 := hm () p2.1 p2.2
  refine z_aload_n 0 hG dX3_merge_5 rfl rfl ?_
  refine z_getR (t := 22) hG zcl3 (zlt hL (by decide)) (zl0 hL) 5 (by decide) rfl kw164 dX3_merge_6 ?_
  refine z_iload_n 1 hG dX3_merge_9 rfl rfl ?_
  refine z_zald (v := I 22 line) hG (zlt hL (by decide)) (zl22 hL) (by decide) (by omega) rfl dX3_merge_10 ?_
  refine z_if_eq (tgt := 24) hG dX3_merge_11 (by decide) (hr _ _) (fun c11 => ?_) (fun c11 => ?_)
  · skip
    refine z_aload_n 0 hG dX3_merge_24 rfl rfl ?_
    refine z_getR (t := 10) hG zcl3 (zlt hL (by decide)) (zl0 hL) 3 (by decide) rfl kw162 dX3_merge_25 ?_
    refine z_aload_n 0 hG dX3_merge_28 rfl rfl ?_
    refine z_getR (t := 15) hG zcl3 (zlt hL (by decide)) (zl0 hL) 4 (by decide) rfl kw163 dX3_merge_29 ?_
    refine z_iload_n 1 hG dX3_merge_32 rfl rfl ?_
    refine z_callV [.ref (F.1 15), .int (zI line)] hG hR (kc33 p2 c11) hd_X0_align kw492 kw493 kw494 rfl (zlt hL (by decide)) (zl10 hL) (by decide) (by decide) (by decide) (by decide) rfl rfl (Nat.le_of_ble_eq_true rfl) dX3_merge_33 (fun r I' hp => ?_)
    rw [hp.1, hp.2]
    show zW G F 1 6 J33 [(0, .ref (F.1 0)), (1, .int (zI line))] [.int (zI v33)] 36
    refine z_istore_n (lv' := [(2, .int (zI v33)), (0, .ref (F.1 0)), (1, .int (zI line))]) hG dX3_merge_36 rfl (by decide) rfl ?_
    refine z_aload_n 1 hG dX3_merge_37 rfl rfl ?_
    refine z_getR (t := 10) hG zcl3 (zlt hL (by decide)) (zl0 hL) 3 (by decide) rfl kw162 dX3_merge_38 ?_
    refine z_aload_n 1 hG dX3_merge_41 rfl rfl ?_
    refine z_getR (t := 15) hG zcl3 (zlt hL (by decide)) (zl0 hL) 4 (by decide) rfl kw163 dX3_merge_42 ?_
    refine z_callV [.ref (F.1 15)] hG hR (c_X0_hasRoom hL hrJ33 (zFm.at hL) (by omega) (by omega)) hd_X0_hasRoom kw501 kw502 kw503 rfl (zlt hL (by decide)) (zl10 hL) (by decide) (by decide) (by decide) (by decide) rfl rfl (Nat.le_of_ble_eq_true rfl) dX3_merge_45 (fun r I' hp => ?_)
    rw [hp.1, hp.2]
    show zW G F 1 6 J33 [(2, .int (zI v33)), (0, .ref (F.1 0)), (1, .int (zI line))] [.int (zI (if J33 15 0 + J33 10 7 ≤ 40 then 1 else 0))] 48
    refine z_if_ne (tgt := 61) hG dX3_merge_48 (by decide) (by omega) (fun c48 => ?_) (fun c48 => ?_)
    · skip
      have c48b := zif_y c48
      refine z_aload_n 1 hG dX3_merge_61 rfl rfl ?_
      refine z_getR (t := 10) hG zcl3 (zlt hL (by decide)) (zl0 hL) 3 (by decide) rfl kw162 dX3_merge_62 ?_
      refine z_aload_n 1 hG dX3_merge_65 rfl rfl ?_
      refine z_getR (t := 15) hG zcl3 (zlt hL (by decide)) (zl0 hL) 4 (by decide) rfl kw163 dX3_merge_66 ?_
      refine z_iload_n 2 hG dX3_merge_69 rfl rfl ?_
      refine z_callV [.ref (F.1 15), .int (zI line)] hG hR (kc70 p2 c11 c48b) hd_X0_join kw506 kw507 kw508 rfl (zlt hL (by decide)) (zl10 hL) (by decide) (by decide) (by decide) (by decide) rfl rfl (Nat.le_of_ble_eq_true rfl) dX3_merge_70 (fun r I' hp => ?_)
      rw [hp.1, hp.2]
      show zW G F 1 6 J70 [(2, .int (zI v33)), (0, .ref (F.1 0)), (1, .int (zI line))] [] 73
      refine z_aload_n 1 hG dX3_merge_73 rfl rfl ?_
      refine z_getR (t := 2) hG zcl3 (zlt hL (by decide)) (zl0 hL) 2 (by decide) rfl kw161 dX3_merge_74 ?_
      refine z_getRN (t := 4) hG zcl2 (zlt hL (by decide)) (zl2 hL) 2 (by decide) rfl kw34 dX3_merge_77 ?_
      refine z_iload_n 2 hG dX3_merge_80 rfl rfl ?_
      refine z_iald (v := J70 4 line) hG (zlt hL (by decide)) (zl4 hL) (by decide) (by omega) rfl dX3_merge_81 ?_
      refine z_istore_n (lv' := [(3, .int (zI (J70 4 line))), (2, .int (zI v33)), (0, .ref (F.1 0)), (1, .int (zI line))]) hG dX3_merge_82 rfl (by decide) rfl ?_
      refine z_iconst 0 hG dX3_merge_83 ?_
      refine z_istore (lv' := [(4, .int (zI 0)), (3, .int (zI (J70 4 line))), (2, .int (zI v33)), (0, .ref (F.1 0)), (1, .int (zI line))]) hG dX3_merge_84 (by decide) rfl ?_
      refine z_perm (lv' := [(0, .ref (F.1 0)), (1, .int (zI line)), (2, .int (zI v33)), (3, .int (zI (J70 4 line))), (4, .int (zI 0))]) [3, 4, 2, 1, 0] rfl ?_
      exact k7 p2 c11 c48b
    · skip
      have c48b := zif_n c48
      exact hT.1 _ _ _ _ _ _ _ _ _ _ _ _ _ zs_66_141 dX3_merge_51 dX3_merge_54 dX3_merge_55 dX3_merge_57 dX3_merge_60 hR (by decide) (Nat.le_of_ble_eq_true rfl) (by decide) (by decide) (by decide) (by decide) (k8 p2 c11 c48b)
  · skip
    exact hT.1 _ _ _ _ _ _ _ _ _ _ _ _ _ zs_66_131 dX3_merge_14 dX3_merge_17 dX3_merge_18 dX3_merge_20 dX3_merge_23 hR (by decide) (Nat.le_of_ble_eq_true rfl) (by decide) (by decide) (by decide) (by decide) (k9 p2 c11)

set_option maxRecDepth 100000 in
set_option maxHeartbeats 4000000 in
theorem s_X3_merge_86 {G : zCx} {F : zFr} {I : zStore} {post : Option Value → zStore → Prop} {px : String → zStore → Prop}{line cost tk t : Int} (hG : zOK G "LineLearner" cX3_merge 5) (hR : zRoom G rm_X3_merge) (hE : zRetI G F cX3_merge 2 12 post) (hT : zThr G F cX3_merge 2 12 px) (hL : zLay F) (hr : zRg I) (h1 : 0 ≤ line ∧ line < 12) (h2 : 0 ≤ t ∧ t ≤ tk ∧ tk ≤ 30) (h3 : -2147483648 ≤ cost ∧ cost < 2147483648)
    (k1 : (tk ≤ t) → post (some (.int (zI cost))) (zup I 22 line 1))
    (k2 : (t < tk) → zW G F 1 6 (zup I 23 ((line * 30) + t) (I 13 t)) [(0, .ref (F.1 0)), (1, .int (zI line)), (2, .int (zI cost)), (3, .int (zI tk)), (4, .int (zI (t + 1)))] [] 86) :
    zW G F 1 6 I [(0, .ref (F.1 0)), (1, .int (zI line)), (2, .int (zI cost)), (3, .int (zI tk)), (4, .int (zI t))] [] 86 := by
  refine z_iload 4 hG dX3_merge_86 rfl ?_
  refine z_iload_n 3 hG dX3_merge_88 rfl rfl ?_
  refine z_icmp_ge (tgt := 119) hG dX3_merge_89 (by decide) (by omega) (by omega) (fun c89 => ?_) (fun c89 => ?_)
  · skip
    refine z_aload_n 0 hG dX3_merge_119 rfl rfl ?_
    refine z_getR (t := 22) hG zcl3 (zlt hL (by decide)) (zl0 hL) 5 (by decide) rfl kw164 dX3_merge_120 ?_
    refine z_iload_n 1 hG dX3_merge_123 rfl rfl ?_
    refine z_iconst 1 hG dX3_merge_124 ?_
    refine z_zast hG (zlt hL (by decide)) (zl22 hL) (by decide) (by omega) (by first | decide | omega) dX3_merge_125 ?_
    refine z_iload_n 2 hG dX3_merge_126 rfl rfl ?_
    refine z_widen (k := 2) (n := 12) (by decide) (by decide) hR (by decide) (by decide) ?_
    exact hE _ _ _ _ dX3_merge_127 (k1 c89)
  · skip
    refine z_aload_n 0 hG dX3_merge_92 rfl rfl ?_
    refine z_getR (t := 23) hG zcl3 (zlt hL (by decide)) (zl0 hL) 6 (by decide) rfl kw165 dX3_merge_93 ?_
    refine z_iload_n 1 hG dX3_merge_96 rfl rfl ?_
    refine z_iload 4 hG dX3_merge_97 rfl ?_
    refine z_callS [.int (zI line), .int (zI t)] hG hR (c_X3_placeOf hr) hd_X3_placeOf kw255 kw229 (by decide) (by decide) (by decide) (by decide) rfl rfl (Nat.le_of_ble_eq_true rfl) dX3_merge_99 (fun r I' hp => ?_)
    rw [hp.1, hp.2]
    show zW G F 1 6 I [(0, .ref (F.1 0)), (1, .int (zI line)), (2, .int (zI cost)), (3, .int (zI tk)), (4, .int (zI t))] [.int (zI ((line * 30) + t)), .ref (F.1 23)] 102
    refine z_aload_n 0 hG dX3_merge_102 rfl rfl ?_
    refine z_getR (t := 10) hG zcl3 (zlt hL (by decide)) (zl0 hL) 3 (by decide) rfl kw162 dX3_merge_103 ?_
    refine z_getRN (t := 13) hG zcl0 (zlt hL (by decide)) (zl10 hL) 8 (by decide) rfl kw88 dX3_merge_106 ?_
    refine z_iload 4 hG dX3_merge_109 rfl ?_
    refine z_iald (v := I 13 t) hG (zlt hL (by decide)) (zl13 hL) (by decide) (by omega) rfl dX3_merge_111 ?_
    refine z_iast hG (zlt hL (by decide)) (zl23 hL) (by decide) (by omega) dX3_merge_112 ?_
    refine z_iinc (lv' := [(4, .int (zI (t + 1))), (0, .ref (F.1 0)), (1, .int (zI line)), (2, .int (zI cost)), (3, .int (zI tk))]) 4 hG dX3_merge_113 rfl (by decide) rfl ?_
    refine z_goto (tgt := 86) hG dX3_merge_116 (by decide) ?_
    refine z_perm (lv' := [(0, .ref (F.1 0)), (1, .int (zI line)), (2, .int (zI cost)), (3, .int (zI tk)), (4, .int (zI (t + 1)))]) [1, 2, 3, 4, 0] rfl ?_
    exact k2 c89

abbrev rm_X3_nearestGroup : Room := { frames := 5, cells := 0, slots := 0, locals := 125 }
