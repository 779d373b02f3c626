theorem zm_X0_60 : zMath "LineLearner$Aligner" 60 Lib.Math.min.name Lib.Math.min.code := ⟨kw225, kw226, kw12, kw227⟩
abbrev rm_X0_fillRow : Room := { frames := 2, cells := 0, slots := 0, locals := 43 }
set_option maxRecDepth 100000 in
set_option maxHeartbeats 4000000 in
theorem s_X0_fillRow_0 {G : zCx} {F : zFr} {I : zStore} {post : Option Value → zStore → Prop}{b : Nat} {slot : Int} {line : Int} (hG : zOK G "LineLearner$Aligner" cX0_fillRow 12) (hR : zRoom G rm_X0_fillRow) (hE : zRetV G F cX0_fillRow 0 0 post) (hL : zLay F) (hr : zRg I) (hf_b : zFm F b) (h1 : 0 ≤ line ∧ line < 12) (h2 : 0 ≤ slot ∧ slot < 40) (h3 : 0 ≤ I (b + 1) slot ∧ I (b + 1) slot < 40) (h4 : 0 ≤ I 10 2 ∧ I 10 2 ≤ 20) (h5 : 0 ≤ I 11 (slot * 31) ∧ I 11 (slot * 31) ≤ 100000)
    (k1 : zW G F 0 0 (zup I 11 ((slot * 31) + 31) ((I 11 (slot * 31)) + (zsk I b (I (b + 1) slot)))) [(0, .ref (F.1 10)), (1, .ref (F.1 b)), (2, .int (zI slot)), (3, .int (zI line)), (4, .int (zI (I (b + 1) slot))), (5, .int (zI (I 4 line))), (6, .int (zI (zsk I b (I (b + 1) slot)))), (7, .int (zI (slot * 31))), (8, .int (zI ((slot * 31) + 31))), (9, .int (zI 0))] [] 61) :
    zW G F 0 0 I [(0, .ref (F.1 10)), (1, .ref (F.1 b)), (2, .int (zI slot)), (3, .int (zI line))] [] 0 := by
  have hfb_b := hf_b.1
  refine z_aload_n 1 hG dX0_fillRow_0 rfl rfl ?_
  refine z_getRN (t := (b + 1)) hG zcl1 (zfN0 hf_b) (zf0 hf_b) 2 (by decide) rfl kw125 dX0_fillRow_1 ?_
  refine z_iload_n 2 hG dX0_fillRow_4 rfl rfl ?_
  refine z_iald (v := I (b + 1) slot) hG (zfN1 hf_b) (zf1 hf_b) (by decide) (by omega) rfl dX0_fillRow_5 ?_
  refine z_istore (lv' := [(4, .int (zI (I (b + 1) slot))), (0, .ref (F.1 10)), (1, .ref (F.1 b)), (2, .int (zI slot)), (3, .int (zI line))]) hG dX0_fillRow_6 (by decide) rfl ?_
  refine z_aload_n 1 hG dX0_fillRow_8 rfl rfl ?_
  refine z_getR (t := 2) hG zcl0 (zlt hL (by decide)) (zl10 hL) 0 (by decide) rfl kw76 dX0_fillRow_9 ?_
  refine z_getRN (t := 4) hG zcl2 (zlt hL (by decide)) (zl2 hL) 2 (by decide) rfl kw33 dX0_fillRow_12 ?_
  refine z_iload_n 4 hG dX0_fillRow_15 rfl rfl ?_
  refine z_iald (v := I 4 line) hG (zlt hL (by decide)) (zl4 hL) (by decide) (by omega) rfl dX0_fillRow_16 ?_
  refine z_istore (lv' := [(5, .int (zI (I 4 line))), (4, .int (zI (I (b + 1) slot))), (0, .ref (F.1 10)), (1, .ref (F.1 b)), (2, .int (zI slot)), (3, .int (zI line))]) hG dX0_fillRow_17 (by decide) rfl ?_
  refine z_aload_n 2 hG dX0_fillRow_19 rfl rfl ?_
  refine z_aload_n 3 hG dX0_fillRow_20 rfl rfl ?_
  refine z_iload 1 hG dX0_fillRow_21 rfl ?_
  refine z_callV [.ref (F.1 b), .int (zI (I (b + 1) slot))] hG hR (c_X0_skipCost hL hr hf_b (by omega) (by omega)) hd_X0_skipCost kw217 kw219 kp1 rfl (zlt hL (by decide)) (zl10 hL) (by decide) (by decide) (by decide) (by decide) rfl rfl (Nat.le_of_ble_eq_true rfl) dX0_fillRow_23 (fun r I' hp => ?_)
  rw [hp.1, hp.2]
  have ha23_0 : 0 ≤ (zsk I b (I (b + 1) slot)) ∧ (zsk I b (I (b + 1) slot)) ≤ 20 := zsk_bd (by omega)
  show zW G F 0 0 I [(5, .int (zI (I 4 line))), (4, .int (zI (I (b + 1) slot))), (0, .ref (F.1 10)), (1, .ref (F.1 b)), (2, .int (zI slot)), (3, .int (zI line))] [.int (zI (zsk I b (I (b + 1) slot)))] 26
  refine z_istore (lv' := [(6, .int (zI (zsk I b (I (b + 1) slot)))), (5, .int (zI (I 4 line))), (4, .int (zI (I (b + 1) slot))), (0, .ref (F.1 10)), (1, .ref (F.1 b)), (2, .int (zI slot)), (3, .int (zI line))]) hG dX0_fillRow_26 (by decide) rfl ?_
  refine z_iload_n 5 hG dX0_fillRow_28 rfl rfl ?_
  refine z_bipush 31 hG dX0_fillRow_29 (by decide) ?_
  refine z_imul hG dX0_fillRow_31 ?_
  refine z_istore (lv' := [(7, .int (zI (slot * 31))), (6, .int (zI (zsk I b (I (b + 1) slot)))), (5, .int (zI (I 4 line))), (4, .int (zI (I (b + 1) slot))), (0, .ref (F.1 10)), (1, .ref (F.1 b)), (2, .int (zI slot)), (3, .int (zI line))]) hG dX0_fillRow_32 (by decide) rfl ?_
  refine z_iload 0 hG dX0_fillRow_34 rfl ?_
  refine z_bipush 31 hG dX0_fillRow_36 (by decide) ?_
  refine z_iadd hG dX0_fillRow_38 ?_
  refine z_istore (lv' := [(8, .int (zI ((slot * 31) + 31))), (7, .int (zI (slot * 31))), (6, .int (zI (zsk I b (I (b + 1) slot)))), (5, .int (zI (I 4 line))), (4, .int (zI (I (b + 1) slot))), (0, .ref (F.1 10)), (1, .ref (F.1 b)), (2, .int (zI slot)), (3, .int (zI line))]) hG dX0_fillRow_39 (by decide) rfl ?_
  refine z_aload_n 5 hG dX0_fillRow_41 rfl rfl ?_
  refine z_getR (t := 11) hG zcl0 (zlt hL (by decide)) (zl10 hL) 4 (by decide) rfl kw83 dX0_fillRow_42 ?_
  refine z_iload 0 hG dX0_fillRow_45 rfl ?_
  refine z_aload_n 5 hG dX0_fillRow_47 rfl rfl ?_
  refine z_getR (t := 11) hG zcl0 (zlt hL (by decide)) (zl10 hL) 4 (by decide) rfl kw83 dX0_fillRow_48 ?_
  refine z_iload 1 hG dX0_fillRow_51 rfl ?_
  refine z_iald (v := I 11 (slot * 31)) hG (zlt hL (by decide)) (zl11 hL) (by decide) (by omega) rfl dX0_fillRow_53 ?_
  refine z_iload 2 hG dX0_fillRow_54 rfl ?_
  refine z_iadd hG dX0_fillRow_56 ?_
  refine z_iast hG (zlt hL (by decide)) (zl11 hL) (by decide) (by omega) dX0_fillRow_57 ?_
  refine z_iconst 0 hG dX0_fillRow_58 ?_
  refine z_istore (lv' := [(9, .int (zI 0)), (8, .int (zI ((slot * 31) + 31))), (7, .int (zI (slot * 31))), (6, .int (zI (zsk I b (I (b + 1) slot)))), (5, .int (zI (I 4 line))), (4, .int (zI (I (b + 1) slot))), (0, .ref (F.1 10)), (1, .ref (F.1 b)), (2, .int (zI slot)), (3, .int (zI line))]) hG dX0_fillRow_59 (by decide) rfl ?_
  refine z_perm (lv' := [(0, .ref (F.1 10)), (1, .ref (F.1 b)), (2, .int (zI slot)), (3, .int (zI line)), (4, .int (zI (I (b + 1) slot))), (5, .int (zI (I 4 line))), (6, .int (zI (zsk I b (I (b + 1) slot)))), (7, .int (zI (slot * 31))), (8, .int (zI ((slot * 31) + 31))), (9, .int (zI 0))]) [6, 7, 8, 9, 5, 4, 3, 2, 1, 0] rfl ?_
  exact k1

set_option maxRecDepth 100000 in
set_option maxHeartbeats 4000000 in
theorem s_X0_fillRow_61 {G : zCx} {F : zFr} {I : zStore} {post : Option Value → zStore → Prop}{b : Nat} {slot line id m sk before row t : Int} (hG : zOK G "LineLearner$Aligner" cX0_fillRow 12) (hR : zRoom G rm_X0_fillRow) (hE : zRetV G F cX0_fillRow 0 0 post) (hL : zLay F) (hr : zRg I) (hf_b : zFm F b) (h1 : 0 ≤ line ∧ line < 12) (h2 : 0 ≤ id ∧ id < 40) (h3 : 0 ≤ t ∧ t ≤ m ∧ m ≤ 30) (h4 : 0 ≤ before ∧ row = before + 31 ∧ row + 30 < 1271) (h5 : 0 ≤ sk ∧ sk ≤ 20) (h6 : 0 ≤ I 10 1 ∧ I 10 1 ≤ 20) (h7 : 0 ≤ I 10 3 ∧ I 10 3 ≤ 20) (hc : ∀ j : Int, (before ≤ j ∧ j ≤ before + m) ∨ (row ≤ j ∧ j ≤ row + t) → 0 ≤ I 11 j ∧ I 11 j ≤ 100000)
    (k1 : (m ≤ t) → post (none) I)
    (k2 : (t < m) → ((zpc I b id ((line * 30) + t)) = (-1)) → zW G F 0 0 (zup I 11 ((row + t) + 1) (min ((I 11 ((before + t) + 1)) + sk) ((I 11 (row + t)) + (I 10 3)))) [(0, .ref (F.1 10)), (1, .ref (F.1 b)), (2, .int (zI slot)), (3, .int (zI line)), (4, .int (zI id)), (5, .int (zI m)), (6, .int (zI sk)), (7, .int (zI before)), (8, .int (zI row)), (9, .int (zI (t + 1)))] [] 61)
    (k3 : (t < m) → ((zpc I b id ((line * 30) + t)) ≠ (-1)) → zW G F 0 0 (zup I 11 ((row + t) + 1) (min (min ((I 11 ((before + t) + 1)) + sk) ((I 11 (row + t)) + (I 10 3))) ((I 11 (before + t)) + (zpc I b id ((line * 30) + t))))) [(0, .ref (F.1 10)), (1, .ref (F.1 b)), (2, .int (zI slot)), (3, .int (zI line)), (4, .int (zI id)), (5, .int (zI m)), (6, .int (zI sk)), (7, .int (zI before)), (8, .int (zI row)), (9, .int (zI (t + 1)))] [] 61) :
    zW G F 0 0 I [(0, .ref (F.1 10)), (1, .ref (F.1 b)), (2, .int (zI slot)), (3, .int (zI line)), (4, .int (zI id)), (5, .int (zI m)), (6, .int (zI sk)), (7, .int (zI before)), (8, .int (zI row)), (9, .int (zI t))] [] 61 := by
  have hfb_b := hf_b.1
  refine z_iload 9 hG dX0_fillRow_61 rfl ?_
  refine z_iload 5 hG dX0_fillRow_63 rfl ?_
  refine z_icmp_ge (tgt := 164) hG dX0_fillRow_65 (by decide) (by omega) (by omega) (fun c65 => ?_) (fun c65 => ?_)
  · skip
    exact hE _ _ _ dX0_fillRow_164 (k1 c65)
  · skip
    refine z_aload_n 0 hG dX0_fillRow_68 rfl rfl ?_
    refine z_getR (t := 11) hG zcl0 (zlt hL (by decide)) (zl10 hL) 4 (by decide) rfl kw83 dX0_fillRow_69 ?_
    refine z_iload 7 hG dX0_fillRow_72 rfl ?_
    refine z_iload 9 hG dX0_fillRow_74 rfl ?_
    refine z_iadd hG dX0_fillRow_76 ?_
    refine z_iconst 1 hG dX0_fillRow_77 ?_
    refine z_iadd hG dX0_fillRow_78 ?_
    have hi79 := hc ((before + t) + 1)
    refine z_iald (v := I 11 ((before + t) + 1)) hG (zlt hL (by decide)) (zl11 hL) (by decide) (by omega) rfl dX0_fillRow_79 ?_
    refine z_iload 6 hG dX0_fillRow_80 rfl ?_
    refine z_iadd hG dX0_fillRow_82 ?_
    refine z_aload_n 0 hG dX0_fillRow_83 rfl rfl ?_
    refine z_getR (t := 11) hG zcl0 (zlt hL (by decide)) (zl10 hL) 4 (by decide) rfl kw83 dX0_fillRow_84 ?_
    refine z_iload 8 hG dX0_fillRow_87 rfl ?_
    refine z_iload 9 hG dX0_fillRow_89 rfl ?_
    refine z_iadd hG dX0_fillRow_91 ?_
    have hi92 := hc (row + t)
    refine z_iald (v := I 11 (row + t)) hG (zlt hL (by decide)) (zl11 hL) (by decide) (by omega) rfl dX0_fillRow_92 ?_
    refine z_aload_n 0 hG dX0_fillRow_93 rfl rfl ?_
    refine z_getI (v := I 10 3) hG zcl0 (zlt hL (by decide)) (zl10 hL) 3 (by decide) rfl rfl rfl kw81 dX0_fillRow_94 ?_
    refine z_iadd hG dX0_fillRow_97 ?_
    refine z_min hG hR zm_X0_60 (by decide) (Nat.le_of_ble_eq_true rfl) (by omega) (by omega) dX0_fillRow_98 ?_
    refine z_istore (lv' := [(10, .int (zI (min ((I 11 ((before + t) + 1)) + sk) ((I 11 (row + t)) + (I 10 3))))), (0, .ref (F.1 10)), (1, .ref (F.1 b)), (2, .int (zI slot)), (3, .int (zI line)), (4, .int (zI id)), (5, .int (zI m)), (6, .int (zI sk)), (7, .int (zI before)), (8, .int (zI row)), (9, .int (zI t))]) hG dX0_fillRow_101 (by decide) rfl ?_
    refine z_aload_n 1 hG dX0_fillRow_103 rfl rfl ?_
    refine z_aload_n 2 hG dX0_fillRow_104 rfl rfl ?_
    refine z_iload 5 hG dX0_fillRow_105 rfl ?_
    refine z_iload_n 4 hG dX0_fillRow_107 rfl rfl ?_
    refine z_iload 10 hG dX0_fillRow_108 rfl ?_
    refine z_callSN [.int (zI line), .int (zI t)] hG hR (c_X3_placeOf hr) hd_X3_placeOf kw228 kw229 (by decide) (by decide) (by decide) (by decide) rfl rfl (Nat.le_of_ble_eq_true rfl) dX0_fillRow_110 (fun r I' hp => ?_)
    rw [hp.1, hp.2]
    show zW G F 0 0 I [(10, .int (zI (min ((I 11 ((before + t) + 1)) + sk) ((I 11 (row + t)) + (I 10 3))))), (0, .ref (F.1 10)), (1, .ref (F.1 b)), (2, .int (zI slot)), (3, .int (zI line)), (4, .int (zI id)), (5, .int (zI m)), (6, .int (zI sk)), (7, .int (zI before)), (8, .int (zI row)), (9, .int (zI t))] [.int (zI ((line * 30) + t)), .int (zI id), .ref (F.1 b), .ref (F.1 10)] 113
    refine z_callV [.ref (F.1 b), .int (zI id), .int (zI ((line * 30) + t))] hG hR (c_X0_pairCost hL hr hf_b (by omega) (by omega) (by omega)) hd_X0_pairCost kw231 kw233 kp2 rfl (zlt hL (by decide)) (zl10 hL) (by decide) (by decide) (by decide) (by decide) rfl rfl (Nat.le_of_ble_eq_true rfl) dX0_fillRow_113 (fun r I' hp => ?_)
    rw [hp.1, hp.2]
    have ha113_0 : -1 ≤ (zpc I b id ((line * 30) + t)) ∧ (zpc I b id ((line * 30) + t)) ≤ 20 := zpc_bd (by omega)
    show zW G F 0 0 I [(10, .int (zI (min ((I 11 ((before + t) + 1)) + sk) ((I 11 (row + t)) + (I 10 3))))), (0, .ref (F.1 10)), (1, .ref (F.1 b)), (2, .int (zI slot)), (3, .int (zI line)), (4, .int (zI id)), (5, .int (zI m)), (6, .int (zI sk)), (7, .int (zI before)), (8, .int (zI row)), (9, .int (zI t))] [.int (zI (zpc I b id ((line * 30) + t)))] 116
    refine z_istore (lv' := [(11, .int (zI (zpc I b id ((line * 30) + t)))), (10, .int (zI (min ((I 11 ((before + t) + 1)) + sk) ((I 11 (row + t)) + (I 10 3))))), (0, .ref (F.1 10)), (1, .ref (F.1 b)), (2, .int (zI slot)), (3, .int (zI line)), (4, .int (zI id)), (5, .int (zI m)), (6, .int (zI sk)), (7, .int (zI before)), (8, .int (zI row)), (9, .int (zI t))]) hG dX0_fillRow_116 (by decide) rfl ?_
    refine z_iload 0 hG dX0_fillRow_118 rfl ?_
    refine z_iconst (-1) hG dX0_fillRow_120 ?_
    refine z_icmp_eq (tgt := 144) hG dX0_fillRow_121 (by decide) (by omega) (by decide) (fun c121 => ?_) (fun c121 => ?_)
    · skip
      refine z_aload_n 2 hG dX0_fillRow_144 rfl rfl ?_
      refine z_getR (t := 11) hG zcl0 (zlt hL (by decide)) (zl10 hL) 4 (by decide) rfl kw83 dX0_fillRow_145 ?_
      refine z_iload 10 hG dX0_fillRow_148 rfl ?_
      refine z_iload 11 hG dX0_fillRow_150 rfl ?_
      refine z_iadd hG dX0_fillRow_152 ?_
      refine z_iconst 1 hG dX0_fillRow_153 ?_
      refine z_iadd hG dX0_fillRow_154 ?_
      refine z_iload 1 hG dX0_fillRow_155 rfl ?_
      refine z_iast hG (zlt hL (by decide)) (zl11 hL) (by decide) (by omega) dX0_fillRow_157 ?_
      refine z_iinc (lv' := [(9, .int (zI (t + 1))), (11, .int (zI (zpc I b id ((line * 30) + t)))), (10, .int (zI (min ((I 11 ((before + t) + 1)) + sk) ((I 11 (row + t)) + (I 10 3))))), (0, .ref (F.1 10)), (1, .ref (F.1 b)), (2, .int (zI slot)), (3, .int (zI line)), (4, .int (zI id)), (5, .int (zI m)), (6, .int (zI sk)), (7, .int (zI before)), (8, .int (zI row))]) 11 hG dX0_fillRow_158 rfl (by decide) rfl ?_
      refine z_goto (tgt := 61) hG dX0_fillRow_161 (by decide) ?_
      refine z_perm (lv' := [(0, .ref (F.1 10)), (1, .ref (F.1 b)), (2, .int (zI slot)), (3, .int (zI line)), (4, .int (zI id)), (5, .int (zI m)), (6, .int (zI sk)), (7, .int (zI before)), (8, .int (zI row)), (9, .int (zI (t + 1)))]) [3, 4, 5, 6, 7, 8, 9, 10, 11, 0] rfl ?_
      exact k2 c65 c121
    · skip
      refine z_iload 1 hG dX0_fillRow_124 rfl ?_
      refine z_aload_n 2 hG dX0_fillRow_126 rfl rfl ?_
      refine z_getR (t := 11) hG zcl0 (zlt hL (by decide)) (zl10 hL) 4 (by decide) rfl kw83 dX0_fillRow_127 ?_
      refine z_iload 9 hG dX0_fillRow_130 rfl ?_
      refine z_iload 11 hG dX0_fillRow_132 rfl ?_
      refine z_iadd hG dX0_fillRow_134 ?_
      have hi135 := hc (before + t)
      refine z_iald (v := I 11 (before + t)) hG (zlt hL (by decide)) (zl11 hL) (by decide) (by omega) rfl dX0_fillRow_135 ?_
      refine z_iload 0 hG dX0_fillRow_136 rfl ?_
      refine z_iadd hG dX0_fillRow_138 ?_
      refine z_min hG hR zm_X0_60 (by decide) (Nat.le_of_ble_eq_true rfl) (by omega) (by omega) dX0_fillRow_139 ?_
      refine z_istore (lv' := [(10, .int (zI (min (min ((I 11 ((before + t) + 1)) + sk) ((I 11 (row + t)) + (I 10 3))) ((I 11 (before + t)) + (zpc I b id ((line * 30) + t)))))), (11, .int (zI (zpc I b id ((line * 30) + t)))), (0, .ref (F.1 10)), (1, .ref (F.1 b)), (2, .int (zI slot)), (3, .int (zI line)), (4, .int (zI id)), (5, .int (zI m)), (6, .int (zI sk)), (7, .int (zI before)), (8, .int (zI row)), (9, .int (zI t))]) hG dX0_fillRow_142 (by decide) rfl ?_
      refine z_aload_n 2 hG dX0_fillRow_144 rfl rfl ?_
      refine z_getR (t := 11) hG zcl0 (zlt hL (by decide)) (zl10 hL) 4 (by decide) rfl kw83 dX0_fillRow_145 ?_
      refine z_iload 10 hG dX0_fillRow_148 rfl ?_
      refine z_iload 11 hG dX0_fillRow_150 rfl ?_
      refine z_iadd hG dX0_fillRow_152 ?_
      refine z_iconst 1 hG dX0_fillRow_153 ?_
      refine z_iadd hG dX0_fillRow_154 ?_
      refine z_iload 0 hG dX0_fillRow_155 rfl ?_
      refine z_iast hG (zlt hL (by decide)) (zl11 hL) (by decide) (by omega) dX0_fillRow_157 ?_
      refine z_iinc (lv' := [(9, .int (zI (t + 1))), (10, .int (zI (min (min ((I 11 ((before + t) + 1)) + sk) ((I 11 (row + t)) + (I 10 3))) ((I 11 (before + t)) + (zpc I b id ((line * 30) + t)))))), (11, .int (zI (zpc I b id ((line * 30) + t)))), (0, .ref (F.1 10)), (1, .ref (F.1 b)), (2, .int (zI slot)), (3, .int (zI line)), (4, .int (zI id)), (5, .int (zI m)), (6, .int (zI sk)), (7, .int (zI before)), (8, .int (zI row))]) 11 hG dX0_fillRow_158 rfl (by decide) rfl ?_
      refine z_goto (tgt := 61) hG dX0_fillRow_161 (by decide) ?_
      refine z_perm (lv' := [(0, .ref (F.1 10)), (1, .ref (F.1 b)), (2, .int (zI slot)), (3, .int (zI line)), (4, .int (zI id)), (5, .int (zI m)), (6, .int (zI sk)), (7, .int (zI before)), (8, .int (zI row)), (9, .int (zI (t + 1)))]) [3, 4, 5, 6, 7, 8, 9, 10, 11, 0] rfl ?_
      exact k3 c65 c121

theorem zpc_c {I J : zStore} {b k : Nat} {id p : Int} (h : ∀ c j, c ≠ k → J c j = I c j) (h1 : b + 2 ≠ k) (h2 : b + 3 ≠ k) (h3 : 6 ≠ k) (h4 : 9 ≠ k) (h5 : 10 ≠ k) : zpc J b id p = zpc I b id p := by
  unfold zpc
  rw [h _ _ h1, h _ _ h2, h _ _ h3, h _ _ h4, h _ _ h5]
theorem zsk_c {I J : zStore} {b k : Nat} {id : Int} (h : ∀ c j, c ≠ k → J c j = I c j) (h1 : b + 6 ≠ k) (h2 : b ≠ k) (h5 : 10 ≠ k) : zsk J b id = zsk I b id := by
  unfold zsk
  rw [h _ _ h1, h _ _ h2, h _ _ h5]
set_option maxHeartbeats 4000000 in
theorem l_X0_fillRow {G : zCx} {F : zFr} {I : zStore} {post : Option Value → zStore → Prop} {b : Nat} {slot line id sk : Int} {m : Nat} {P : Nat → Int} (hG : zOK G "LineLearner$Aligner" cX0_fillRow 12) (hR : zRoom G rm_X0_fillRow) (hE : zRetV G F cX0_fillRow 0 0 post) (hL : zLay F) (hr : zRg I) (hf_b : zFm F b)
    (h1 : 0 ≤ line ∧ line < 12) (h2 : 0 ≤ slot ∧ slot < 40) (hid : 0 ≤ id ∧ id < 40) (hm : m ≤ 30) (hsk : 0 ≤ sk ∧ sk ≤ 20) (hch : 0 ≤ I 10 1 ∧ I 10 1 ≤ 20) (hfr : 0 ≤ I 10 3 ∧ I 10 3 ≤ 20)
    (hP : ∀ t : Nat, t ≤ m → I 11 (slot * 31 + t) = P t) (hB : ∀ t : Nat, 0 ≤ P t ∧ P t ≤ 1000 + 20 * t)
    (hp : post none (zfl I 11 (slot * 31 + 31) (m + 1) (zrow P sk (I 10 3) (fun t => zpc I b id (line * 30 + t))))) :
    ∀ d t : Nat, t + d = m → zW G F 0 0 (zfl I 11 (slot * 31 + 31) (t + 1) (zrow P sk (I 10 3) (fun t => zpc I b id (line * 30 + t)))) [(0, .ref (F.1 10)), (1, .ref (F.1 b)), (2, .int (zI slot)), (3, .int (zI line)), (4, .int (zI id)), (5, .int (zI m)), (6, .int (zI sk)), (7, .int (zI (slot * 31))), (8, .int (zI (slot * 31 + 31))), (9, .int (zI t))] [] 61 := by
  have hb := hf_b.1
  have hq : ∀ t : Nat, -1 ≤ (fun t : Nat => zpc I b id (line * 30 + t)) t := fun t => (zpc_bd hch).1
  have hrow := zrow_bd (P := P) (s := sk) (f := I 10 3) (q := fun t => zpc I b id (line * 30 + t)) (B := 1000) hB hsk hfr hq
  have hother : ∀ (n c : Nat) (j : Int), c ≠ 11 → zfl I 11 (slot * 31 + 31) n (zrow P sk (I 10 3) (fun t => zpc I b id (line * 30 + t))) c j = I c j := fun n c j h => zfl_k h
  have hcc : ∀ (t : Nat), t ≤ m → ∀ j : Int, (slot * 31 ≤ j ∧ j ≤ slot * 31 + m) ∨ (slot * 31 + 31 ≤ j ∧ j ≤ slot * 31 + 31 + t) → 0 ≤ zfl I 11 (slot * 31 + 31) (t + 1) (zrow P sk (I 10 3) (fun t => zpc I b id (line * 30 + t))) 11 j ∧ zfl I 11 (slot * 31 + 31) (t + 1) (zrow P sk (I 10 3) (fun t => zpc I b id (line * 30 + t))) 11 j ≤ 100000 := by
    intro t ht j hj
    rcases hj with hj | hj
    · rw [zfl_out (Or.inl (by omega)), show j = slot * 31 + ((j - slot * 31).toNat : Int) by omega, hP _ (by omega)]
      have := hB (j - slot * 31).toNat
      omega
    · rw [zfl_in (m := (j - (slot * 31 + 31)).toNat) (by omega) (by omega)]
      have := hrow (j - (slot * 31 + 31)).toNat
      omega
  intro d
  induction d with
  | zero =>
    intro t ht
    have htm : t = m := by omega
    subst htm
    exact s_X0_fillRow_61 hG hR hE hL (zRg_fl hr (fun k hk => by have := hrow k; omega)) hf_b h1 hid (by omega) (by omega) hsk (by rw [hother _ _ _ (by decide)]; exact hch) (by rw [hother _ _ _ (by decide)]; exact hfr) (hcc _ (by omega)) (fun _ => hp) (fun h => absurd h (by omega)) (fun h => absurd h (by omega))
  | succ d ih =>
    intro t ht
    have hz : ∀ p, zpc (zfl I 11 (slot * 31 + 31) (t + 1) (zrow P sk (I 10 3) (fun t => zpc I b id (line * 30 + t)))) b id p = zpc I b id p := fun p => zpc_c (hother _) (by omega) (by omega) (by decide) (by decide) (by decide)
    have e1 : zfl I 11 (slot * 31 + 31) (t + 1) (zrow P sk (I 10 3) (fun t => zpc I b id (line * 30 + t))) 11 ((slot * 31 + t) + 1) = P (t + 1) := by
      rw [zfl_out (Or.inl (by omega)), show slot * 31 + (t : Int) + 1 = slot * 31 + ((t + 1 : Nat) : Int) by omega, hP _ (by omega)]
    have e2 : zfl I 11 (slot * 31 + 31) (t + 1) (zrow P sk (I 10 3) (fun t => zpc I b id (line * 30 + t))) 11 (slot * 31 + t) = P t := by
      rw [zfl_out (Or.inl (by omega)), hP _ (by omega)]
    have e3 : zfl I 11 (slot * 31 + 31) (t + 1) (zrow P sk (I 10 3) (fun t => zpc I b id (line * 30 + t))) 11 ((slot * 31 + 31) + t) = zrow P sk (I 10 3) (fun t => zpc I b id (line * 30 + t)) t := zfl_in (by omega) rfl
    refine s_X0_fillRow_61 hG hR hE hL (zRg_fl hr (fun k hk => by have := hrow k; omega)) hf_b h1 hid (by omega) (by omega) hsk (by rw [hother _ _ _ (by decide)]; exact hch) (by rw [hother _ _ _ (by decide)]; exact hfr) (hcc _ (by omega)) (fun h => absurd h (by omega)) (fun _ h => ?_) (fun _ h => ?_)
    · rw [hz] at h
      rw [zfl_up (by rw [e1, e3, hother _ _ _ (by decide)]; simp only [zrow]; rw [if_pos h]) (by omega)]
      exact ih (t + 1) (by omega)
    · rw [hz] at h ⊢
      rw [zfl_up (by rw [e1, e2, e3, hother _ _ _ (by decide)]; simp only [zrow]; rw [if_neg h]) (by omega)]
      exact ih (t + 1) (by omega)
theorem zfl_1 {I : zStore} {k : Nat} {a v : Int} {f : Nat → Int} (hv : v = f 0) : zup I k a v = zfl I k a 1 f := by
  have h := zfl_up (I := I) (k := k) (n := 0) (a := a) (i := a) (v := v) (f := f) hv (by omega)
  rwa [zfl_0] at h
theorem c_X0_fillRow {F : zFr} {I : zStore} {b : Nat} {slot line id : Int} {m : Nat} {P : Nat → Int} (hL : zLay F) (hr : zRg I) (hf_b : zFm F b) (h1 : 0 ≤ line ∧ line < 12) (h2 : 0 ≤ slot ∧ slot < 40) (hi : I (b + 1) slot = id) (hid : 0 ≤ id ∧ id < 40) (hm : m ≤ 30) (hm2 : I 4 line = m) (hch : 0 ≤ I 10 1 ∧ I 10 1 ≤ 20) (hsk : 0 ≤ I 10 2 ∧ I 10 2 ≤ 20) (hfr : 0 ≤ I 10 3 ∧ I 10 3 ≤ 20)
    (hP : ∀ t : Nat, t ≤ m → I 11 (slot * 31 + t) = P t) (hB : ∀ t : Nat, 0 ≤ P t ∧ P t ≤ 1000 + 20 * t) : ∀ (l : Launch) (D : va_G) (cs : Nat → ClassId), l.stackTraces = false → zMt l yX0_fillRow cX0_fillRow 12 none rm_X0_fillRow D cs F I [.ref (F.1 10), .ref (F.1 b), .int (zI slot), .int (zI line)] (fun r I' => r = none ∧ I' = zfl I 11 (slot * 31 + 31) (m + 1) (zrow P (zsk I b id) (I 10 3) (fun t => zpc I b id (line * 30 + t)))) := by
  intro l D cs hst
  refine zMt.ofV hst (by decide +kernel) (Nat.le_of_ble_eq_true rfl) fun G hG hR hE => ?_
  subst hi
  have h0 := hP 0 (by omega)
  have h0b := hB 0
  have h00 : I 11 (slot * 31) = P 0 := by rw [← h0]; congr 1; omega
  refine s_X0_fillRow_0 hG hR hE hL hr hf_b h1 h2 hid hsk (by rw [h00]; omega) ?_
  rw [hm2, zfl_1 (f := zrow P (zsk I b (I (b + 1) slot)) (I 10 3) (fun t => zpc I b (I (b + 1) slot) (line * 30 + t))) (by rw [h00]; rfl)]
  exact l_X0_fillRow hG hR hE hL hr hf_b h1 h2 hid hm (zsk_bd hsk) hch hfr hP hB ⟨rfl, rfl⟩ m 0 (by omega)
