abbrev rm_X4_mergeInto : Room := { frames := 1, cells := 0, slots := 0, locals := 25 }
set_option maxRecDepth 100000 in
set_option maxHeartbeats 4000000 in
theorem s_X4_mergeInto_0 {G : zCx} {F : zFr} {I : zStore} {post : Option Value → zStore → Prop}{f : Int} {line : Int} (hG : zOK G "LineLearnerModel" cX4_mergeInto 10) (hR : zRoom G rm_X4_mergeInto) (hE : zRetV G F cX4_mergeInto 0 0 post) (hL : zLayM F) (hr : zRg I) (hk0 : 0 ≤ I 110 22 ∧ I 110 22 ≤ 70)
    (k1 : zW G F 0 0 I [(0, .ref (F.1 110)), (1, .int (zI f)), (2, .int (zI line)), (3, .int (zI 0)), (4, .int (zI 0)), (5, .int (zI 0)), (6, .int (zI ((I 110 22) - 1)))] [] 16) :
    zW G F 0 0 I [(0, .ref (F.1 110)), (1, .int (zI f)), (2, .int (zI line))] [] 0 := by
  refine z_iconst 0 hG dX4_mergeInto_0 ?_
  refine z_istore_n (lv' := [(3, .int (zI 0)), (0, .ref (F.1 110)), (1, .int (zI f)), (2, .int (zI line))]) hG dX4_mergeInto_1 rfl (by decide) rfl ?_
  refine z_iconst 0 hG dX4_mergeInto_2 ?_
  refine z_istore (lv' := [(4, .int (zI 0)), (3, .int (zI 0)), (0, .ref (F.1 110)), (1, .int (zI f)), (2, .int (zI line))]) hG dX4_mergeInto_3 (by decide) rfl ?_
  refine z_iconst 0 hG dX4_mergeInto_5 ?_
  refine z_istore (lv' := [(5, .int (zI 0)), (4, .int (zI 0)), (3, .int (zI 0)), (0, .ref (F.1 110)), (1, .int (zI f)), (2, .int (zI line))]) hG dX4_mergeInto_6 (by decide) rfl ?_
  refine z_aload_n 3 hG dX4_mergeInto_8 rfl rfl ?_
  refine z_getI (v := I 110 22) hG zcl4 (zltM hL (by decide)) (zl110 hL) 22 (by decide) rfl rfl rfl kw699 dX4_mergeInto_9 ?_
  refine z_iconst 1 hG dX4_mergeInto_12 ?_
  refine z_isub hG dX4_mergeInto_13 ?_
  refine z_istore (lv' := [(6, .int (zI ((I 110 22) - 1))), (5, .int (zI 0)), (4, .int (zI 0)), (3, .int (zI 0)), (0, .ref (F.1 110)), (1, .int (zI f)), (2, .int (zI line))]) hG dX4_mergeInto_14 (by decide) rfl ?_
  refine z_perm (lv' := [(0, .ref (F.1 110)), (1, .int (zI f)), (2, .int (zI line)), (3, .int (zI 0)), (4, .int (zI 0)), (5, .int (zI 0)), (6, .int (zI ((I 110 22) - 1)))]) [4, 5, 6, 3, 2, 1, 0] rfl ?_
  exact k1

set_option maxRecDepth 100000 in
set_option maxHeartbeats 4000000 in
theorem s_X4_mergeInto_16 {G : zCx} {F : zFr} {I : zStore} {post : Option Value → zStore → Prop}{f line slot token made k : Int} (hG : zOK G "LineLearnerModel" cX4_mergeInto 10) (hR : zRoom G rm_X4_mergeInto) (hE : zRetV G F cX4_mergeInto 0 0 post) (hL : zLayM F) (hr : zRg I) (hf : 0 ≤ f ∧ f < 13) (hl : 0 ≤ line ∧ line < 12) (h3 : 0 ≤ slot ∧ slot ≤ 40) (h4 : 0 ≤ token ∧ token ≤ 30) (h5 : 0 ≤ made ∧ made ≤ 40) (h6 : -1 ≤ k ∧ k < 70)
    (k1 : (k < 0) → zW G F 0 0 I [(0, .ref (F.1 110)), (1, .int (zI f)), (2, .int (zI line)), (3, .int (zI slot)), (4, .int (zI token)), (5, .int (zI made)), (6, .int (zI 0))] [] 281)
    (k2 : (0 ≤ k) → zW G F 0 0 I [(0, .ref (F.1 110)), (1, .int (zI f)), (2, .int (zI line)), (3, .int (zI slot)), (4, .int (zI token)), (5, .int (zI made)), (6, .int (zI k)), (7, .int (zI ((30 * line) + token))), (8, .int (zI (40 * f + slot))), (9, .int (zI 0))] [] 40) :
    zW G F 0 0 I [(0, .ref (F.1 110)), (1, .int (zI f)), (2, .int (zI line)), (3, .int (zI slot)), (4, .int (zI token)), (5, .int (zI made)), (6, .int (zI k))] [] 16 := by
  refine z_iload 6 hG dX4_mergeInto_16 rfl ?_
  refine z_if_lt (tgt := 278) hG dX4_mergeInto_18 (by decide) (by omega) (fun c18 => ?_) (fun c18 => ?_)
  · skip
    refine z_iconst 0 hG dX4_mergeInto_278 ?_
    refine z_istore (lv' := [(6, .int (zI 0)), (0, .ref (F.1 110)), (1, .int (zI f)), (2, .int (zI line)), (3, .int (zI slot)), (4, .int (zI token)), (5, .int (zI made))]) hG dX4_mergeInto_279 (by decide) rfl ?_
    refine z_perm (lv' := [(0, .ref (F.1 110)), (1, .int (zI f)), (2, .int (zI line)), (3, .int (zI slot)), (4, .int (zI token)), (5, .int (zI made)), (6, .int (zI 0))]) [1, 2, 3, 4, 5, 6, 0] rfl ?_
    exact k1 c18
  · skip
    refine z_bipush 30 hG dX4_mergeInto_21 (by decide) ?_
    refine z_iload_n 2 hG dX4_mergeInto_23 rfl rfl ?_
    refine z_imul hG dX4_mergeInto_24 ?_
    refine z_iload 4 hG dX4_mergeInto_25 rfl ?_
    refine z_iadd hG dX4_mergeInto_27 ?_
    refine z_istore (lv' := [(7, .int (zI ((30 * line) + token))), (0, .ref (F.1 110)), (1, .int (zI f)), (2, .int (zI line)), (3, .int (zI slot)), (4, .int (zI token)), (5, .int (zI made)), (6, .int (zI k))]) hG dX4_mergeInto_28 (by decide) rfl ?_
    refine z_iload_n 2 hG dX4_mergeInto_30 rfl rfl ?_
    refine z_iload_n 4 hG dX4_mergeInto_31 rfl rfl ?_
    refine z_callS [.int (zI f), .int (zI slot)] hG hR (c_X4_at hr) hd_X4_at kw830 kw831 (by decide) (by decide) (by decide) (by decide) rfl rfl (Nat.le_of_ble_eq_true rfl) dX4_mergeInto_32 (fun r I' hp => ?_)
    rw [hp.1, hp.2]
    show zW G F 0 0 I [(7, .int (zI ((30 * line) + token))), (0, .ref (F.1 110)), (1, .int (zI f)), (2, .int (zI line)), (3, .int (zI slot)), (4, .int (zI token)), (5, .int (zI made)), (6, .int (zI k))] [.int (zI (40 * f + slot))] 35
    refine z_istore (lv' := [(8, .int (zI (40 * f + slot))), (7, .int (zI ((30 * line) + token))), (0, .ref (F.1 110)), (1, .int (zI f)), (2, .int (zI line)), (3, .int (zI slot)), (4, .int (zI token)), (5, .int (zI made)), (6, .int (zI k))]) hG dX4_mergeInto_35 (by decide) rfl ?_
    refine z_iconst 0 hG dX4_mergeInto_37 ?_
    refine z_istore (lv' := [(9, .int (zI 0)), (8, .int (zI (40 * f + slot))), (7, .int (zI ((30 * line) + token))), (0, .ref (F.1 110)), (1, .int (zI f)), (2, .int (zI line)), (3, .int (zI slot)), (4, .int (zI token)), (5, .int (zI made)), (6, .int (zI k))]) hG dX4_mergeInto_38 (by decide) rfl ?_
    refine z_perm (lv' := [(0, .ref (F.1 110)), (1, .int (zI f)), (2, .int (zI line)), (3, .int (zI slot)), (4, .int (zI token)), (5, .int (zI made)), (6, .int (zI k)), (7, .int (zI ((30 * line) + token))), (8, .int (zI (40 * f + slot))), (9, .int (zI 0))]) [3, 4, 5, 6, 7, 8, 9, 2, 1, 0] rfl ?_
    exact k2 c18

set_option maxRecDepth 100000 in
set_option maxHeartbeats 4000000 in
theorem s_X4_mergeInto_40 {G : zCx} {F : zFr} {I : zStore} {post : Option Value → zStore → Prop}{f line slot token made k own place other : Int} (hG : zOK G "LineLearnerModel" cX4_mergeInto 10) (hR : zRoom G rm_X4_mergeInto) (hE : zRetV G F cX4_mergeInto 0 0 post) (hL : zLayM F) (hr : zRg I) (h5 : 0 ≤ made ∧ made < 40) (h6 : 0 ≤ k ∧ k < 70) (hp : ∀ _u : Unit, I 125 k ≠ 2 → 0 ≤ place ∧ place < 520) (hw : ∀ _u : Unit, I 125 k = 2 → 0 ≤ own ∧ own < 360) (ho : 0 ≤ other ∧ other ≤ 12)
    (k1 : (12 ≤ other) → ((I 125 k) ≠ 2) → zW G F 0 0 (zup I 126 made (I 120 place)) [(0, .ref (F.1 110)), (1, .int (zI f)), (2, .int (zI line)), (3, .int (zI slot)), (4, .int (zI token)), (5, .int (zI made)), (6, .int (zI k)), (7, .int (zI own)), (8, .int (zI place))] [] 129)
    (k2 : (12 ≤ other) → ((I 125 k) = 2) → zW G F 0 0 (zup I 126 made (I 115 own)) [(0, .ref (F.1 110)), (1, .int (zI f)), (2, .int (zI line)), (3, .int (zI slot)), (4, .int (zI token)), (5, .int (zI made)), (6, .int (zI k)), (7, .int (zI own)), (8, .int (zI place))] [] 129)
    (k3 : (other < 12) → ((I 125 k) ≠ 2) → zW G F 0 0 (zup I 128 ((12 * made) + other) (I 122 ((12 * place) + other))) [(0, .ref (F.1 110)), (1, .int (zI f)), (2, .int (zI line)), (3, .int (zI slot)), (4, .int (zI token)), (5, .int (zI made)), (6, .int (zI k)), (7, .int (zI own)), (8, .int (zI place)), (9, .int (zI (other + 1)))] [] 40)
    (k4 : (other < 12) → ((I 125 k) = 2) → zW G F 0 0 (zup I 128 ((12 * made) + other) (-1)) [(0, .ref (F.1 110)), (1, .int (zI f)), (2, .int (zI line)), (3, .int (zI slot)), (4, .int (zI token)), (5, .int (zI made)), (6, .int (zI k)), (7, .int (zI own)), (8, .int (zI place)), (9, .int (zI (other + 1)))] [] 40) :
    zW G F 0 0 I [(0, .ref (F.1 110)), (1, .int (zI f)), (2, .int (zI line)), (3, .int (zI slot)), (4, .int (zI token)), (5, .int (zI made)), (6, .int (zI k)), (7, .int (zI own)), (8, .int (zI place)), (9, .int (zI other))] [] 40 := by
  refine z_iload 9 hG dX4_mergeInto_40 rfl ?_
  refine z_bipush 12 hG dX4_mergeInto_42 (by decide) ?_
  refine z_icmp_ge (tgt := 94) hG dX4_mergeInto_44 (by decide) (by omega) (by decide) (fun c44 => ?_) (fun c44 => ?_)
  · skip
    refine z_aload_n 0 hG dX4_mergeInto_94 rfl rfl ?_
    refine z_getR (t := 126) hG zcl4 (zltM hL (by decide)) (zl110 hL) 24 (by decide) rfl kw701 dX4_mergeInto_95 ?_
    refine z_iload 5 hG dX4_mergeInto_98 rfl ?_
    refine z_aload_n 0 hG dX4_mergeInto_100 rfl rfl ?_
    refine z_getR (t := 125) hG zcl4 (zltM hL (by decide)) (zl110 hL) 23 (by decide) rfl kw700 dX4_mergeInto_101 ?_
    refine z_iload 6 hG dX4_mergeInto_104 rfl ?_
    refine z_iald (v := I 125 k) hG (zltM hL (by decide)) (zl125 hL) (by decide) (by omega) rfl dX4_mergeInto_106 ?_
    refine z_iconst 2 hG dX4_mergeInto_107 ?_
    refine z_icmp_ne (tgt := 121) hG dX4_mergeInto_108 (by decide) (hr _ _) (by decide) (fun c108 => ?_) (fun c108 => ?_)
    · skip
      have hp2 := hp () c108
      refine z_aload_n 0 hG dX4_mergeInto_121 rfl rfl ?_
      refine z_getR (t := 120) hG zcl4 (zltM hL (by decide)) (zl110 hL) 15 (by decide) rfl kw692 dX4_mergeInto_122 ?_
      refine z_iload 8 hG dX4_mergeInto_125 rfl ?_
      refine z_iald (v := I 120 place) hG (zltM hL (by decide)) (zl120 hL) (by decide) (by omega) rfl dX4_mergeInto_127 ?_
      refine z_iast hG (zltM hL (by decide)) (zl126 hL) (by decide) (by omega) dX4_mergeInto_128 ?_
      refine z_perm (lv' := [(0, .ref (F.1 110)), (1, .int (zI f)), (2, .int (zI line)), (3, .int (zI slot)), (4, .int (zI token)), (5, .int (zI made)), (6, .int (zI k)), (7, .int (zI own)), (8, .int (zI place))]) [0, 1, 2, 3, 4, 5, 6, 7, 8] rfl ?_
      exact k1 c44 c108
    · skip
      have hw1 := hw () c108
      refine z_aload_n 0 hG dX4_mergeInto_111 rfl rfl ?_
      refine z_getR (t := 115) hG zcl4 (zltM hL (by decide)) (zl110 hL) 7 (by decide) rfl kw684 dX4_mergeInto_112 ?_
      refine z_iload 7 hG dX4_mergeInto_115 rfl ?_
      refine z_iald (v := I 115 own) hG (zltM hL (by decide)) (zl115 hL) (by decide) (by omega) rfl dX4_mergeInto_117 ?_
      refine z_goto (tgt := 128) hG dX4_mergeInto_118 (by decide) ?_
      refine z_iast hG (zltM hL (by decide)) (zl126 hL) (by decide) (by omega) dX4_mergeInto_128 ?_
      refine z_perm (lv' := [(0, .ref (F.1 110)), (1, .int (zI f)), (2, .int (zI line)), (3, .int (zI slot)), (4, .int (zI token)), (5, .int (zI made)), (6, .int (zI k)), (7, .int (zI own)), (8, .int (zI place))]) [0, 1, 2, 3, 4, 5, 6, 7, 8] rfl ?_
      exact k2 c44 c108
  · skip
    refine z_aload_n 0 hG dX4_mergeInto_47 rfl rfl ?_
    refine z_getR (t := 128) hG zcl4 (zltM hL (by decide)) (zl110 hL) 26 (by decide) rfl kw703 dX4_mergeInto_48 ?_
    refine z_bipush 12 hG dX4_mergeInto_51 (by decide) ?_
    refine z_iload 5 hG dX4_mergeInto_53 rfl ?_
    refine z_imul hG dX4_mergeInto_55 ?_
    refine z_iload 9 hG dX4_mergeInto_56 rfl ?_
    refine z_iadd hG dX4_mergeInto_58 ?_
    refine z_aload_n 0 hG dX4_mergeInto_59 rfl rfl ?_
    refine z_getR (t := 125) hG zcl4 (zltM hL (by decide)) (zl110 hL) 23 (by decide) rfl kw700 dX4_mergeInto_60 ?_
    refine z_iload 6 hG dX4_mergeInto_63 rfl ?_
    refine z_iald (v := I 125 k) hG (zltM hL (by decide)) (zl125 hL) (by decide) (by omega) rfl dX4_mergeInto_65 ?_
    refine z_iconst 2 hG dX4_mergeInto_66 ?_
    refine z_icmp_ne (tgt := 74) hG dX4_mergeInto_67 (by decide) (hr _ _) (by decide) (fun c67 => ?_) (fun c67 => ?_)
    · skip
      have hp1 := hp () c67
      refine z_aload_n 0 hG dX4_mergeInto_74 rfl rfl ?_
      refine z_getR (t := 122) hG zcl4 (zltM hL (by decide)) (zl110 hL) 17 (by decide) rfl kw694 dX4_mergeInto_75 ?_
      refine z_bipush 12 hG dX4_mergeInto_78 (by decide) ?_
      refine z_iload 8 hG dX4_mergeInto_80 rfl ?_
      refine z_imul hG dX4_mergeInto_82 ?_
      refine z_iload 9 hG dX4_mergeInto_83 rfl ?_
      refine z_iadd hG dX4_mergeInto_85 ?_
      refine z_iald (v := I 122 ((12 * place) + other)) hG (zltM hL (by decide)) (zl122 hL) (by decide) (by omega) rfl dX4_mergeInto_86 ?_
      refine z_iast hG (zltM hL (by decide)) (zl128 hL) (by decide) (by omega) dX4_mergeInto_87 ?_
      refine z_iinc (lv' := [(9, .int (zI (other + 1))), (0, .ref (F.1 110)), (1, .int (zI f)), (2, .int (zI line)), (3, .int (zI slot)), (4, .int (zI token)), (5, .int (zI made)), (6, .int (zI k)), (7, .int (zI own)), (8, .int (zI place))]) 9 hG dX4_mergeInto_88 rfl (by decide) rfl ?_
      refine z_goto (tgt := 40) hG dX4_mergeInto_91 (by decide) ?_
      refine z_perm (lv' := [(0, .ref (F.1 110)), (1, .int (zI f)), (2, .int (zI line)), (3, .int (zI slot)), (4, .int (zI token)), (5, .int (zI made)), (6, .int (zI k)), (7, .int (zI own)), (8, .int (zI place)), (9, .int (zI (other + 1)))]) [1, 2, 3, 4, 5, 6, 7, 8, 9, 0] rfl ?_
      exact k3 c44 c67
    · skip
      refine z_iconst (-1) hG dX4_mergeInto_70 ?_
      refine z_goto (tgt := 87) hG dX4_mergeInto_71 (by decide) ?_
      refine z_iast hG (zltM hL (by decide)) (zl128 hL) (by decide) (by omega) dX4_mergeInto_87 ?_
      refine z_iinc (lv' := [(9, .int (zI (other + 1))), (0, .ref (F.1 110)), (1, .int (zI f)), (2, .int (zI line)), (3, .int (zI slot)), (4, .int (zI token)), (5, .int (zI made)), (6, .int (zI k)), (7, .int (zI own)), (8, .int (zI place))]) 9 hG dX4_mergeInto_88 rfl (by decide) rfl ?_
      refine z_goto (tgt := 40) hG dX4_mergeInto_91 (by decide) ?_
      refine z_perm (lv' := [(0, .ref (F.1 110)), (1, .int (zI f)), (2, .int (zI line)), (3, .int (zI slot)), (4, .int (zI token)), (5, .int (zI made)), (6, .int (zI k)), (7, .int (zI own)), (8, .int (zI place)), (9, .int (zI (other + 1)))]) [1, 2, 3, 4, 5, 6, 7, 8, 9, 0] rfl ?_
      exact k4 c44 c67

set_option maxRecDepth 100000 in
set_option maxHeartbeats 4000000 in
theorem s_X4_mergeInto_129 {G : zCx} {F : zFr} {I : zStore} {post : Option Value → zStore → Prop}{f line slot token made k own place : Int} (hG : zOK G "LineLearnerModel" cX4_mergeInto 10) (hR : zRoom G rm_X4_mergeInto) (hE : zRetV G F cX4_mergeInto 0 0 post) (hL : zLayM F) (hr : zRg I) (h5 : 0 ≤ made ∧ made < 40) (h6 : 0 ≤ k ∧ k < 70) (hp : ∀ _u : Unit, I 125 k ≠ 2 → 0 ≤ place ∧ place < 520)
    (k1 : ((I 125 k) ≠ 2) → zW G F 0 0 (zup I 127 made (I 121 place)) [(0, .ref (F.1 110)), (1, .int (zI f)), (2, .int (zI line)), (3, .int (zI slot)), (4, .int (zI token)), (5, .int (zI made)), (6, .int (zI k)), (7, .int (zI own)), (8, .int (zI place))] [] 159)
    (k2 : ((I 125 k) = 2) → zW G F 0 0 (zup I 127 made own) [(0, .ref (F.1 110)), (1, .int (zI f)), (2, .int (zI line)), (3, .int (zI slot)), (4, .int (zI token)), (5, .int (zI made)), (6, .int (zI k)), (7, .int (zI own)), (8, .int (zI place))] [] 159) :
    zW G F 0 0 I [(0, .ref (F.1 110)), (1, .int (zI f)), (2, .int (zI line)), (3, .int (zI slot)), (4, .int (zI token)), (5, .int (zI made)), (6, .int (zI k)), (7, .int (zI own)), (8, .int (zI place))] [] 129 := by
  refine z_aload_n 0 hG dX4_mergeInto_129 rfl rfl ?_
  refine z_getR (t := 127) hG zcl4 (zltM hL (by decide)) (zl110 hL) 25 (by decide) rfl kw702 dX4_mergeInto_130 ?_
  refine z_iload 5 hG dX4_mergeInto_133 rfl ?_
  refine z_aload_n 0 hG dX4_mergeInto_135 rfl rfl ?_
  refine z_getR (t := 125) hG zcl4 (zltM hL (by decide)) (zl110 hL) 23 (by decide) rfl kw700 dX4_mergeInto_136 ?_
  refine z_iload 6 hG dX4_mergeInto_139 rfl ?_
  refine z_iald (v := I 125 k) hG (zltM hL (by decide)) (zl125 hL) (by decide) (by omega) rfl dX4_mergeInto_141 ?_
  refine z_iconst 2 hG dX4_mergeInto_142 ?_
  refine z_icmp_ne (tgt := 151) hG dX4_mergeInto_143 (by decide) (hr _ _) (by decide) (fun c143 => ?_) (fun c143 => ?_)
  · skip
    have hp1 := hp () c143
    refine z_aload_n 0 hG dX4_mergeInto_151 rfl rfl ?_
    refine z_getR (t := 121) hG zcl4 (zltM hL (by decide)) (zl110 hL) 16 (by decide) rfl kw693 dX4_mergeInto_152 ?_
    refine z_iload 8 hG dX4_mergeInto_155 rfl ?_
    refine z_iald (v := I 121 place) hG (zltM hL (by decide)) (zl121 hL) (by decide) (by omega) rfl dX4_mergeInto_157 ?_
    refine z_iast hG (zltM hL (by decide)) (zl127 hL) (by decide) (by omega) dX4_mergeInto_158 ?_
    exact k1 c143
  · skip
    refine z_iload 7 hG dX4_mergeInto_146 rfl ?_
    refine z_goto (tgt := 158) hG dX4_mergeInto_148 (by decide) ?_
    refine z_iast hG (zltM hL (by decide)) (zl127 hL) (by decide) (by omega) dX4_mergeInto_158 ?_
    exact k2 c143

set_option maxRecDepth 100000 in
set_option maxHeartbeats 4000000 in
theorem s_X4_mergeInto_159 {G : zCx} {F : zFr} {I : zStore} {post : Option Value → zStore → Prop}{f line slot token made k own place : Int} {v190 : Int} (hG : zOK G "LineLearnerModel" cX4_mergeInto 10) (hR : zRoom G rm_X4_mergeInto) (hE : zRetV G F cX4_mergeInto 0 0 post) (hL : zLayM F) (hr : zRg I) (h5 : 0 ≤ made ∧ made < 40) (h6 : 0 ≤ k ∧ k < 70) (hp : ∀ _u : Unit, I 125 k = 0 → 0 ≤ place ∧ place < 520)
    (k1 : ((I 125 k) ≠ 0) → zW G F 0 0 I [(0, .ref (F.1 110)), (1, .int (zI f)), (2, .int (zI line)), (3, .int (zI slot)), (4, .int (zI token)), (5, .int (zI made)), (6, .int (zI k)), (7, .int (zI own)), (8, .int (zI place))] [] 204)
    (k2 : ((I 125 k) = 0) → ((I 121 place) = (-1)) → zW G F 0 0 I [(0, .ref (F.1 110)), (1, .int (zI f)), (2, .int (zI line)), (3, .int (zI slot)), (4, .int (zI token)), (5, .int (zI made)), (6, .int (zI k)), (7, .int (zI own)), (8, .int (zI place))] [] 204)
    (kc190 : ((I 125 k) = 0) → ((I 121 place) ≠ (-1)) → ∀ (l : Launch) (D : va_G) (cs : Nat → ClassId), l.stackTraces = false → zMt l yX4_areSame cX4_areSame 6 (some .boolean) rm_X4_areSame D cs F I [.ref (F.1 110), .int (zI (I 121 place)), .int (zI own)] (fun r I' => r = some (.int (zI v190)) ∧ I' = I))
    (hv190 : v190 = 0 ∨ v190 = 1)
    (k5 : ((I 125 k) = 0) → ((I 121 place) ≠ (-1)) → (v190 ≠ 0) → zW G F 0 0 I [(0, .ref (F.1 110)), (1, .int (zI f)), (2, .int (zI line)), (3, .int (zI slot)), (4, .int (zI token)), (5, .int (zI made)), (6, .int (zI k)), (7, .int (zI own)), (8, .int (zI place))] [] 204)
    (k6 : ((I 125 k) = 0) → ((I 121 place) ≠ (-1)) → (v190 = 0) → zW G F 0 0 (zup I 127 made (-1)) [(0, .ref (F.1 110)), (1, .int (zI f)), (2, .int (zI line)), (3, .int (zI slot)), (4, .int (zI token)), (5, .int (zI made)), (6, .int (zI k)), (7, .int (zI own)), (8, .int (zI place))] [] 204) :
    zW G F 0 0 I [(0, .ref (F.1 110)), (1, .int (zI f)), (2, .int (zI line)), (3, .int (zI slot)), (4, .int (zI token)), (5, .int (zI made)), (6, .int (zI k)), (7, .int (zI own)), (8, .int (zI place))] [] 159 := by
  refine z_aload_n 0 hG dX4_mergeInto_159 rfl rfl ?_
  refine z_getR (t := 125) hG zcl4 (zltM hL (by decide)) (zl110 hL) 23 (by decide) rfl kw700 dX4_mergeInto_160 ?_
  refine z_iload 6 hG dX4_mergeInto_163 rfl ?_
  refine z_iald (v := I 125 k) hG (zltM hL (by decide)) (zl125 hL) (by decide) (by omega) rfl dX4_mergeInto_165 ?_
  refine z_if_ne (tgt := 204) hG dX4_mergeInto_166 (by decide) (hr _ _) (fun c166 => ?_) (fun c166 => ?_)
  · skip
    exact k1 c166
  · skip
    have hp1 := hp () c166
    refine z_aload_n 0 hG dX4_mergeInto_169 rfl rfl ?_
    refine z_getR (t := 121) hG zcl4 (zltM hL (by decide)) (zl110 hL) 16 (by decide) rfl kw693 dX4_mergeInto_170 ?_
    refine z_iload 8 hG dX4_mergeInto_173 rfl ?_
    refine z_iald (v := I 121 place) hG (zltM hL (by decide)) (zl121 hL) (by decide) (by omega) rfl dX4_mergeInto_175 ?_
    refine z_iconst (-1) hG dX4_mergeInto_176 ?_
    refine z_icmp_eq (tgt := 204) hG dX4_mergeInto_177 (by decide) (hr _ _) (by decide) (fun c177 => ?_) (fun c177 => ?_)
    · skip
      exact k2 c166 c177
    · skip
      refine z_aload_n 0 hG dX4_mergeInto_180 rfl rfl ?_
      refine z_aload_n 0 hG dX4_mergeInto_181 rfl rfl ?_
      refine z_getR (t := 121) hG zcl4 (zltM hL (by decide)) (zl110 hL) 16 (by decide) rfl kw693 dX4_mergeInto_182 ?_
      refine z_iload 8 hG dX4_mergeInto_185 rfl ?_
      refine z_iald (v := I 121 place) hG (zltM hL (by decide)) (zl121 hL) (by decide) (by omega) rfl dX4_mergeInto_187 ?_
      refine z_iload 7 hG dX4_mergeInto_188 rfl ?_
      refine z_callV [.int (zI (I 121 place)), .int (zI own)] hG hR (kc190 c166 c177) hd_X4_areSame kw807 kw809 kp26 rfl (zltM hL (by decide)) (zl110 hL) (by decide) (by decide) (by decide) (by decide) rfl rfl (Nat.le_of_ble_eq_true rfl) dX4_mergeInto_190 (fun r I' hp => ?_)
      rw [hp.1, hp.2]
      show zW G F 0 0 I [(0, .ref (F.1 110)), (1, .int (zI f)), (2, .int (zI line)), (3, .int (zI slot)), (4, .int (zI token)), (5, .int (zI made)), (6, .int (zI k)), (7, .int (zI own)), (8, .int (zI place))] [.int (zI v190)] 193
      refine z_if_ne (tgt := 204) hG dX4_mergeInto_193 (by decide) (by omega) (fun c193 => ?_) (fun c193 => ?_)
      · skip
        exact k5 c166 c177 c193
      · skip
        refine z_aload_n 0 hG dX4_mergeInto_196 rfl rfl ?_
        refine z_getR (t := 127) hG zcl4 (zltM hL (by decide)) (zl110 hL) 25 (by decide) rfl kw702 dX4_mergeInto_197 ?_
        refine z_iload 5 hG dX4_mergeInto_200 rfl ?_
        refine z_iconst (-1) hG dX4_mergeInto_202 ?_
        refine z_iast hG (zltM hL (by decide)) (zl127 hL) (by decide) (by omega) dX4_mergeInto_203 ?_
        exact k6 c166 c177 c193

set_option maxRecDepth 100000 in
set_option maxHeartbeats 4000000 in
theorem s_X4_mergeInto_204 {G : zCx} {F : zFr} {I : zStore} {post : Option Value → zStore → Prop}{f line slot token made k own place : Int} (hG : zOK G "LineLearnerModel" cX4_mergeInto 10) (hR : zRoom G rm_X4_mergeInto) (hE : zRetV G F cX4_mergeInto 0 0 post) (hL : zLayM F) (hr : zRg I) (h5 : 0 ≤ made ∧ made < 40) (h6 : 0 ≤ k ∧ k < 70) (hl : 0 ≤ line ∧ line < 12)
    (k1 : ((I 125 k) = 1) → zW G F 0 0 I [(0, .ref (F.1 110)), (1, .int (zI f)), (2, .int (zI line)), (3, .int (zI slot)), (4, .int (zI token)), (5, .int (zI made)), (6, .int (zI k)), (7, .int (zI own)), (8, .int (zI place))] [] 229)
    (k2 : ((I 125 k) ≠ 1) → zW G F 0 0 (zup I 128 ((12 * made) + line) token) [(0, .ref (F.1 110)), (1, .int (zI f)), (2, .int (zI line)), (3, .int (zI slot)), (4, .int (zI token)), (5, .int (zI made)), (6, .int (zI k)), (7, .int (zI own)), (8, .int (zI place))] [] 229) :
    zW G F 0 0 I [(0, .ref (F.1 110)), (1, .int (zI f)), (2, .int (zI line)), (3, .int (zI slot)), (4, .int (zI token)), (5, .int (zI made)), (6, .int (zI k)), (7, .int (zI own)), (8, .int (zI place))] [] 204 := by
  refine z_aload_n 0 hG dX4_mergeInto_204 rfl rfl ?_
  refine z_getR (t := 125) hG zcl4 (zltM hL (by decide)) (zl110 hL) 23 (by decide) rfl kw700 dX4_mergeInto_205 ?_
  refine z_iload 6 hG dX4_mergeInto_208 rfl ?_
  refine z_iald (v := I 125 k) hG (zltM hL (by decide)) (zl125 hL) (by decide) (by omega) rfl dX4_mergeInto_210 ?_
  refine z_iconst 1 hG dX4_mergeInto_211 ?_
  refine z_icmp_eq (tgt := 229) hG dX4_mergeInto_212 (by decide) (hr _ _) (by decide) (fun c212 => ?_) (fun c212 => ?_)
  · skip
    exact k1 c212
  · skip
    refine z_aload_n 0 hG dX4_mergeInto_215 rfl rfl ?_
    refine z_getR (t := 128) hG zcl4 (zltM hL (by decide)) (zl110 hL) 26 (by decide) rfl kw703 dX4_mergeInto_216 ?_
    refine z_bipush 12 hG dX4_mergeInto_219 (by decide) ?_
    refine z_iload 5 hG dX4_mergeInto_221 rfl ?_
    refine z_imul hG dX4_mergeInto_223 ?_
    refine z_iload_n 2 hG dX4_mergeInto_224 rfl rfl ?_
    refine z_iadd hG dX4_mergeInto_225 ?_
    refine z_iload 4 hG dX4_mergeInto_226 rfl ?_
    refine z_iast hG (zltM hL (by decide)) (zl128 hL) (by decide) (by omega) dX4_mergeInto_228 ?_
    exact k2 c212

set_option maxRecDepth 100000 in
set_option maxHeartbeats 4000000 in
theorem s_X4_mergeInto_229 {G : zCx} {F : zFr} {I : zStore} {post : Option Value → zStore → Prop}{f line slot token made k own place : Int} (hG : zOK G "LineLearnerModel" cX4_mergeInto 10) (hR : zRoom G rm_X4_mergeInto) (hE : zRetV G F cX4_mergeInto 0 0 post) (hL : zLayM F) (hr : zRg I) (h5 : 0 ≤ made ∧ made < 40) (h6 : 0 ≤ k ∧ k < 70)
    (k1 : ((I 125 k) ≠ 2) → ((I 125 k) ≠ 1) → zW G F 0 0 I [(0, .ref (F.1 110)), (1, .int (zI f)), (2, .int (zI line)), (3, .int (zI (slot + 1))), (4, .int (zI (token + 1))), (5, .int (zI (made + 1))), (6, .int (zI (k + (-1))))] [] 16)
    (k2 : ((I 125 k) ≠ 2) → ((I 125 k) = 1) → zW G F 0 0 I [(0, .ref (F.1 110)), (1, .int (zI f)), (2, .int (zI line)), (3, .int (zI (slot + 1))), (4, .int (zI (token + 0))), (5, .int (zI (made + 1))), (6, .int (zI (k + (-1))))] [] 16)
    (k3 : ((I 125 k) = 2) → ((I 125 k) ≠ 1) → zW G F 0 0 I [(0, .ref (F.1 110)), (1, .int (zI f)), (2, .int (zI line)), (3, .int (zI (slot + 0))), (4, .int (zI (token + 1))), (5, .int (zI (made + 1))), (6, .int (zI (k + (-1))))] [] 16)
    (k4 : ((I 125 k) = 2) → ((I 125 k) = 1) → zW G F 0 0 I [(0, .ref (F.1 110)), (1, .int (zI f)), (2, .int (zI line)), (3, .int (zI (slot + 0))), (4, .int (zI (token + 0))), (5, .int (zI (made + 1))), (6, .int (zI (k + (-1))))] [] 16) :
    zW G F 0 0 I [(0, .ref (F.1 110)), (1, .int (zI f)), (2, .int (zI line)), (3, .int (zI slot)), (4, .int (zI token)), (5, .int (zI made)), (6, .int (zI k)), (7, .int (zI own)), (8, .int (zI place))] [] 229 := by
  refine z_iload_n 3 hG dX4_mergeInto_229 rfl rfl ?_
  refine z_aload_n 0 hG dX4_mergeInto_230 rfl rfl ?_
  refine z_getR (t := 125) hG zcl4 (zltM hL (by decide)) (zl110 hL) 23 (by decide) rfl kw700 dX4_mergeInto_231 ?_
  refine z_iload 6 hG dX4_mergeInto_234 rfl ?_
  refine z_iald (v := I 125 k) hG (zltM hL (by decide)) (zl125 hL) (by decide) (by omega) rfl dX4_mergeInto_236 ?_
  refine z_iconst 2 hG dX4_mergeInto_237 ?_
  refine z_icmp_ne (tgt := 245) hG dX4_mergeInto_238 (by decide) (hr _ _) (by decide) (fun c238 => ?_) (fun c238 => ?_)
  · skip
    refine z_iconst 1 hG dX4_mergeInto_245 ?_
    refine z_iadd hG dX4_mergeInto_246 ?_
    refine z_istore_n (lv' := [(3, .int (zI (slot + 1))), (0, .ref (F.1 110)), (1, .int (zI f)), (2, .int (zI line)), (4, .int (zI token)), (5, .int (zI made)), (6, .int (zI k)), (7, .int (zI own)), (8, .int (zI place))]) hG dX4_mergeInto_247 rfl (by decide) rfl ?_
    refine z_iload 4 hG dX4_mergeInto_248 rfl ?_
    refine z_aload_n 1 hG dX4_mergeInto_250 rfl rfl ?_
    refine z_getR (t := 125) hG zcl4 (zltM hL (by decide)) (zl110 hL) 23 (by decide) rfl kw700 dX4_mergeInto_251 ?_
    refine z_iload 6 hG dX4_mergeInto_254 rfl ?_
    refine z_iald (v := I 125 k) hG (zltM hL (by decide)) (zl125 hL) (by decide) (by omega) rfl dX4_mergeInto_256 ?_
    refine z_iconst 1 hG dX4_mergeInto_257 ?_
    refine z_icmp_ne (tgt := 265) hG dX4_mergeInto_258 (by decide) (hr _ _) (by decide) (fun c258 => ?_) (fun c258 => ?_)
    · skip
      refine z_iconst 1 hG dX4_mergeInto_265 ?_
      refine z_iadd hG dX4_mergeInto_266 ?_
      refine z_istore (lv' := [(4, .int (zI (token + 1))), (3, .int (zI (slot + 1))), (0, .ref (F.1 110)), (1, .int (zI f)), (2, .int (zI line)), (5, .int (zI made)), (6, .int (zI k)), (7, .int (zI own)), (8, .int (zI place))]) hG dX4_mergeInto_267 (by decide) rfl ?_
      refine z_iinc (lv' := [(5, .int (zI (made + 1))), (4, .int (zI (token + 1))), (3, .int (zI (slot + 1))), (0, .ref (F.1 110)), (1, .int (zI f)), (2, .int (zI line)), (6, .int (zI k)), (7, .int (zI own)), (8, .int (zI place))]) 5 hG dX4_mergeInto_269 rfl (by decide) rfl ?_
      refine z_iinc (lv' := [(6, .int (zI (k + (-1)))), (5, .int (zI (made + 1))), (4, .int (zI (token + 1))), (3, .int (zI (slot + 1))), (0, .ref (F.1 110)), (1, .int (zI f)), (2, .int (zI line)), (7, .int (zI own)), (8, .int (zI place))]) 6 hG dX4_mergeInto_272 rfl (by decide) rfl ?_
      refine z_goto (tgt := 16) hG dX4_mergeInto_275 (by decide) ?_
      refine z_perm (lv' := [(0, .ref (F.1 110)), (1, .int (zI f)), (2, .int (zI line)), (3, .int (zI (slot + 1))), (4, .int (zI (token + 1))), (5, .int (zI (made + 1))), (6, .int (zI (k + (-1))))]) [4, 5, 6, 3, 2, 1, 0] rfl ?_
      exact k1 c238 c258
    · skip
      refine z_iconst 0 hG dX4_mergeInto_261 ?_
      refine z_goto (tgt := 266) hG dX4_mergeInto_262 (by decide) ?_
      refine z_iadd hG dX4_mergeInto_266 ?_
      refine z_istore (lv' := [(4, .int (zI (token + 0))), (3, .int (zI (slot + 1))), (0, .ref (F.1 110)), (1, .int (zI f)), (2, .int (zI line)), (5, .int (zI made)), (6, .int (zI k)), (7, .int (zI own)), (8, .int (zI place))]) hG dX4_mergeInto_267 (by decide) rfl ?_
      refine z_iinc (lv' := [(5, .int (zI (made + 1))), (4, .int (zI (token + 0))), (3, .int (zI (slot + 1))), (0, .ref (F.1 110)), (1, .int (zI f)), (2, .int (zI line)), (6, .int (zI k)), (7, .int (zI own)), (8, .int (zI place))]) 5 hG dX4_mergeInto_269 rfl (by decide) rfl ?_
      refine z_iinc (lv' := [(6, .int (zI (k + (-1)))), (5, .int (zI (made + 1))), (4, .int (zI (token + 0))), (3, .int (zI (slot + 1))), (0, .ref (F.1 110)), (1, .int (zI f)), (2, .int (zI line)), (7, .int (zI own)), (8, .int (zI place))]) 6 hG dX4_mergeInto_272 rfl (by decide) rfl ?_
      refine z_goto (tgt := 16) hG dX4_mergeInto_275 (by decide) ?_
      refine z_perm (lv' := [(0, .ref (F.1 110)), (1, .int (zI f)), (2, .int (zI line)), (3, .int (zI (slot + 1))), (4, .int (zI (token + 0))), (5, .int (zI (made + 1))), (6, .int (zI (k + (-1))))]) [4, 5, 6, 3, 2, 1, 0] rfl ?_
      exact k2 c238 c258
  · skip
    refine z_iconst 0 hG dX4_mergeInto_241 ?_
    refine z_goto (tgt := 246) hG dX4_mergeInto_242 (by decide) ?_
    refine z_iadd hG dX4_mergeInto_246 ?_
    refine z_istore_n (lv' := [(3, .int (zI (slot + 0))), (0, .ref (F.1 110)), (1, .int (zI f)), (2, .int (zI line)), (4, .int (zI token)), (5, .int (zI made)), (6, .int (zI k)), (7, .int (zI own)), (8, .int (zI place))]) hG dX4_mergeInto_247 rfl (by decide) rfl ?_
    refine z_iload 4 hG dX4_mergeInto_248 rfl ?_
    refine z_aload_n 1 hG dX4_mergeInto_250 rfl rfl ?_
    refine z_getR (t := 125) hG zcl4 (zltM hL (by decide)) (zl110 hL) 23 (by decide) rfl kw700 dX4_mergeInto_251 ?_
    refine z_iload 6 hG dX4_mergeInto_254 rfl ?_
    refine z_iald (v := I 125 k) hG (zltM hL (by decide)) (zl125 hL) (by decide) (by omega) rfl dX4_mergeInto_256 ?_
    refine z_iconst 1 hG dX4_mergeInto_257 ?_
    refine z_icmp_ne (tgt := 265) hG dX4_mergeInto_258 (by decide) (hr _ _) (by decide) (fun c258 => ?_) (fun c258 => ?_)
    · skip
      refine z_iconst 1 hG dX4_mergeInto_265 ?_
      refine z_iadd hG dX4_mergeInto_266 ?_
      refine z_istore (lv' := [(4, .int (zI (token + 1))), (3, .int (zI (slot + 0))), (0, .ref (F.1 110)), (1, .int (zI f)), (2, .int (zI line)), (5, .int (zI made)), (6, .int (zI k)), (7, .int (zI own)), (8, .int (zI place))]) hG dX4_mergeInto_267 (by decide) rfl ?_
      refine z_iinc (lv' := [(5, .int (zI (made + 1))), (4, .int (zI (token + 1))), (3, .int (zI (slot + 0))), (0, .ref (F.1 110)), (1, .int (zI f)), (2, .int (zI line)), (6, .int (zI k)), (7, .int (zI own)), (8, .int (zI place))]) 5 hG dX4_mergeInto_269 rfl (by decide) rfl ?_
      refine z_iinc (lv' := [(6, .int (zI (k + (-1)))), (5, .int (zI (made + 1))), (4, .int (zI (token + 1))), (3, .int (zI (slot + 0))), (0, .ref (F.1 110)), (1, .int (zI f)), (2, .int (zI line)), (7, .int (zI own)), (8, .int (zI place))]) 6 hG dX4_mergeInto_272 rfl (by decide) rfl ?_
      refine z_goto (tgt := 16) hG dX4_mergeInto_275 (by decide) ?_
      refine z_perm (lv' := [(0, .ref (F.1 110)), (1, .int (zI f)), (2, .int (zI line)), (3, .int (zI (slot + 0))), (4, .int (zI (token + 1))), (5, .int (zI (made + 1))), (6, .int (zI (k + (-1))))]) [4, 5, 6, 3, 2, 1, 0] rfl ?_
      exact k3 c238 c258
    · skip
      refine z_iconst 0 hG dX4_mergeInto_261 ?_
      refine z_goto (tgt := 266) hG dX4_mergeInto_262 (by decide) ?_
      refine z_iadd hG dX4_mergeInto_266 ?_
      refine z_istore (lv' := [(4, .int (zI (token + 0))), (3, .int (zI (slot + 0))), (0, .ref (F.1 110)), (1, .int (zI f)), (2, .int (zI line)), (5, .int (zI made)), (6, .int (zI k)), (7, .int (zI own)), (8, .int (zI place))]) hG dX4_mergeInto_267 (by decide) rfl ?_
      refine z_iinc (lv' := [(5, .int (zI (made + 1))), (4, .int (zI (token + 0))), (3, .int (zI (slot + 0))), (0, .ref (F.1 110)), (1, .int (zI f)), (2, .int (zI line)), (6, .int (zI k)), (7, .int (zI own)), (8, .int (zI place))]) 5 hG dX4_mergeInto_269 rfl (by decide) rfl ?_
      refine z_iinc (lv' := [(6, .int (zI (k + (-1)))), (5, .int (zI (made + 1))), (4, .int (zI (token + 0))), (3, .int (zI (slot + 0))), (0, .ref (F.1 110)), (1, .int (zI f)), (2, .int (zI line)), (7, .int (zI own)), (8, .int (zI place))]) 6 hG dX4_mergeInto_272 rfl (by decide) rfl ?_
      refine z_goto (tgt := 16) hG dX4_mergeInto_275 (by decide) ?_
      refine z_perm (lv' := [(0, .ref (F.1 110)), (1, .int (zI f)), (2, .int (zI line)), (3, .int (zI (slot + 0))), (4, .int (zI (token + 0))), (5, .int (zI (made + 1))), (6, .int (zI (k + (-1))))]) [4, 5, 6, 3, 2, 1, 0] rfl ?_
      exact k4 c238 c258

set_option maxRecDepth 100000 in
set_option maxHeartbeats 4000000 in
theorem s_X4_mergeInto_281 {G : zCx} {F : zFr} {I : zStore} {post : Option Value → zStore → Prop}{f line slot token made k : Int} (hG : zOK G "LineLearnerModel" cX4_mergeInto 10) (hR : zRoom G rm_X4_mergeInto) (hE : zRetV G F cX4_mergeInto 0 0 post) (hL : zLayM F) (hr : zRg I) (hf : 0 ≤ f ∧ f < 13) (hl : 0 ≤ line ∧ line < 12) (h5 : 0 ≤ made ∧ made ≤ 40) (h6 : 0 ≤ k ∧ k ≤ made)
    (k1 : (made ≤ k) → post (none) (zup (zup I 118 f made) 119 f (zor (I 119 f) (zshl 1 line))))
    (k2 : (k < made) → zW G F 0 0 (zup (zup I 120 (40 * f + k) (I 126 k)) 121 (40 * f + k) (I 127 k)) [(0, .ref (F.1 110)), (1, .int (zI f)), (2, .int (zI line)), (3, .int (zI slot)), (4, .int (zI token)), (5, .int (zI made)), (6, .int (zI k)), (7, .int (zI 0))] [] 327) :
    zW G F 0 0 I [(0, .ref (F.1 110)), (1, .int (zI f)), (2, .int (zI line)), (3, .int (zI slot)), (4, .int (zI token)), (5, .int (zI made)), (6, .int (zI k))] [] 281 := by
  refine z_iload 6 hG dX4_mergeInto_281 rfl ?_
  refine z_iload 5 hG dX4_mergeInto_283 rfl ?_
  refine z_icmp_ge (tgt := 376) hG dX4_mergeInto_285 (by decide) (by omega) (by omega) (fun c285 => ?_) (fun c285 => ?_)
  · skip
    refine z_aload_n 0 hG dX4_mergeInto_376 rfl rfl ?_
    refine z_getR (t := 118) hG zcl4 (zltM hL (by decide)) (zl110 hL) 13 (by decide) rfl kw690 dX4_mergeInto_377 ?_
    refine z_iload_n 1 hG dX4_mergeInto_380 rfl rfl ?_
    refine z_iload 5 hG dX4_mergeInto_381 rfl ?_
    refine z_iast hG (zltM hL (by decide)) (zl118 hL) (by decide) (by omega) dX4_mergeInto_383 ?_
    refine z_aload_n 0 hG dX4_mergeInto_384 rfl rfl ?_
    refine z_getR (t := 119) hG zcl4 (zltM hL (by decide)) (zl110 hL) 14 (by decide) rfl kw691 dX4_mergeInto_385 ?_
    refine z_iload_n 1 hG dX4_mergeInto_388 rfl rfl ?_
    refine z_dup2 hG dX4_mergeInto_389 rfl rfl ?_
    refine z_iald (v := I 119 f) hG (zltM hL (by decide)) (zl119 hL) (by decide) (by omega) (zup_k (by decide)) dX4_mergeInto_390 ?_
    refine z_iconst 1 hG dX4_mergeInto_391 ?_
    refine z_iload_n 2 hG dX4_mergeInto_392 rfl rfl ?_
    refine z_ishl hG dX4_mergeInto_393 ?_
    refine z_ior hG dX4_mergeInto_394 ?_
    refine z_iast hG (zltM hL (by decide)) (zl119 hL) (by decide) (by omega) dX4_mergeInto_395 ?_
    exact hE _ _ _ dX4_mergeInto_396 (k1 c285)
  · skip
    refine z_aload_n 0 hG dX4_mergeInto_288 rfl rfl ?_
    refine z_getR (t := 120) hG zcl4 (zltM hL (by decide)) (zl110 hL) 15 (by decide) rfl kw692 dX4_mergeInto_289 ?_
    refine z_iload_n 1 hG dX4_mergeInto_292 rfl rfl ?_
    refine z_iload 6 hG dX4_mergeInto_293 rfl ?_
    refine z_callS [.int (zI f), .int (zI k)] hG hR (c_X4_at hr) hd_X4_at kw830 kw831 (by decide) (by decide) (by decide) (by decide) rfl rfl (Nat.le_of_ble_eq_true rfl) dX4_mergeInto_295 (fun r I' hp => ?_)
    rw [hp.1, hp.2]
    show zW G F 0 0 I [(0, .ref (F.1 110)), (1, .int (zI f)), (2, .int (zI line)), (3, .int (zI slot)), (4, .int (zI token)), (5, .int (zI made)), (6, .int (zI k))] [.int (zI (40 * f + k)), .ref (F.1 120)] 298
    refine z_aload_n 0 hG dX4_mergeInto_298 rfl rfl ?_
    refine z_getR (t := 126) hG zcl4 (zltM hL (by decide)) (zl110 hL) 24 (by decide) rfl kw701 dX4_mergeInto_299 ?_
    refine z_iload 6 hG dX4_mergeInto_302 rfl ?_
    refine z_iald (v := I 126 k) hG (zltM hL (by decide)) (zl126 hL) (by decide) (by omega) rfl dX4_mergeInto_304 ?_
    refine z_iast hG (zltM hL (by decide)) (zl120 hL) (by decide) (by omega) dX4_mergeInto_305 ?_
    refine z_aload_n 0 hG dX4_mergeInto_306 rfl rfl ?_
    refine z_getR (t := 121) hG zcl4 (zltM hL (by decide)) (zl110 hL) 16 (by decide) rfl kw693 dX4_mergeInto_307 ?_
    refine z_iload_n 1 hG dX4_mergeInto_310 rfl rfl ?_
    refine z_iload 6 hG dX4_mergeInto_311 rfl ?_
    refine z_callS [.int (zI f), .int (zI k)] hG hR (c_X4_at (zRg_up hr (hr _ _))) hd_X4_at kw830 kw831 (by decide) (by decide) (by decide) (by decide) rfl rfl (Nat.le_of_ble_eq_true rfl) dX4_mergeInto_313 (fun r I' hp => ?_)
    rw [hp.1, hp.2]
    show zW G F 0 0 (zup I 120 (40 * f + k) (I 126 k)) [(0, .ref (F.1 110)), (1, .int (zI f)), (2, .int (zI line)), (3, .int (zI slot)), (4, .int (zI token)), (5, .int (zI made)), (6, .int (zI k))] [.int (zI (40 * f + k)), .ref (F.1 121)] 316
    refine z_aload_n 0 hG dX4_mergeInto_316 rfl rfl ?_
    refine z_getR (t := 127) hG zcl4 (zltM hL (by decide)) (zl110 hL) 25 (by decide) rfl kw702 dX4_mergeInto_317 ?_
    refine z_iload 6 hG dX4_mergeInto_320 rfl ?_
    refine z_iald (v := I 127 k) hG (zltM hL (by decide)) (zl127 hL) (by decide) (by omega) (zup_k (by decide)) dX4_mergeInto_322 ?_
    refine z_iast hG (zltM hL (by decide)) (zl121 hL) (by decide) (by omega) dX4_mergeInto_323 ?_
    refine z_iconst 0 hG dX4_mergeInto_324 ?_
    refine z_istore (lv' := [(7, .int (zI 0)), (0, .ref (F.1 110)), (1, .int (zI f)), (2, .int (zI line)), (3, .int (zI slot)), (4, .int (zI token)), (5, .int (zI made)), (6, .int (zI k))]) hG dX4_mergeInto_325 (by decide) rfl ?_
    refine z_perm (lv' := [(0, .ref (F.1 110)), (1, .int (zI f)), (2, .int (zI line)), (3, .int (zI slot)), (4, .int (zI token)), (5, .int (zI made)), (6, .int (zI k)), (7, .int (zI 0))]) [1, 2, 3, 4, 5, 6, 7, 0] rfl ?_
    exact k2 c285

set_option maxRecDepth 100000 in
set_option maxHeartbeats 4000000 in
theorem s_X4_mergeInto_327 {G : zCx} {F : zFr} {I : zStore} {post : Option Value → zStore → Prop}{f line slot token made k other : Int} (hG : zOK G "LineLearnerModel" cX4_mergeInto 10) (hR : zRoom G rm_X4_mergeInto) (hE : zRetV G F cX4_mergeInto 0 0 post) (hL : zLayM F) (hr : zRg I) (hf : 0 ≤ f ∧ f < 13) (h5 : 0 ≤ made ∧ made ≤ 40) (h6 : 0 ≤ k ∧ k < made) (ho : 0 ≤ other ∧ other ≤ 12)
    (k1 : (12 ≤ other) → zW G F 0 0 I [(0, .ref (F.1 110)), (1, .int (zI f)), (2, .int (zI line)), (3, .int (zI slot)), (4, .int (zI token)), (5, .int (zI made)), (6, .int (zI (k + 1)))] [] 281)
    (k2 : (other < 12) → zW G F 0 0 (zup I 122 ((12 * (40 * f + k)) + other) (I 128 ((12 * k) + other))) [(0, .ref (F.1 110)), (1, .int (zI f)), (2, .int (zI line)), (3, .int (zI slot)), (4, .int (zI token)), (5, .int (zI made)), (6, .int (zI k)), (7, .int (zI (other + 1)))] [] 327) :
    zW G F 0 0 I [(0, .ref (F.1 110)), (1, .int (zI f)), (2, .int (zI line)), (3, .int (zI slot)), (4, .int (zI token)), (5, .int (zI made)), (6, .int (zI k)), (7, .int (zI other))] [] 327 := by
  refine z_iload 7 hG dX4_mergeInto_327 rfl ?_
  refine z_bipush 12 hG dX4_mergeInto_329 (by decide) ?_
  refine z_icmp_ge (tgt := 370) hG dX4_mergeInto_331 (by decide) (by omega) (by decide) (fun c331 => ?_) (fun c331 => ?_)
  · skip
    refine z_iinc (lv' := [(6, .int (zI (k + 1))), (0, .ref (F.1 110)), (1, .int (zI f)), (2, .int (zI line)), (3, .int (zI slot)), (4, .int (zI token)), (5, .int (zI made)), (7, .int (zI other))]) 6 hG dX4_mergeInto_370 rfl (by decide) rfl ?_
    refine z_goto (tgt := 281) hG dX4_mergeInto_373 (by decide) ?_
    refine z_perm (lv' := [(0, .ref (F.1 110)), (1, .int (zI f)), (2, .int (zI line)), (3, .int (zI slot)), (4, .int (zI token)), (5, .int (zI made)), (6, .int (zI (k + 1)))]) [1, 2, 3, 4, 5, 6, 0] rfl ?_
    exact k1 c331
  · skip
    refine z_aload_n 0 hG dX4_mergeInto_334 rfl rfl ?_
    refine z_getR (t := 122) hG zcl4 (zltM hL (by decide)) (zl110 hL) 17 (by decide) rfl kw694 dX4_mergeInto_335 ?_
    refine z_bipush 12 hG dX4_mergeInto_338 (by decide) ?_
    refine z_iload_n 1 hG dX4_mergeInto_340 rfl rfl ?_
    refine z_iload 6 hG dX4_mergeInto_341 rfl ?_
    refine z_callS [.int (zI f), .int (zI k)] hG hR (c_X4_at hr) hd_X4_at kw830 kw831 (by decide) (by decide) (by decide) (by decide) rfl rfl (Nat.le_of_ble_eq_true rfl) dX4_mergeInto_343 (fun r I' hp => ?_)
    rw [hp.1, hp.2]
    show zW G F 0 0 I [(0, .ref (F.1 110)), (1, .int (zI f)), (2, .int (zI line)), (3, .int (zI slot)), (4, .int (zI token)), (5, .int (zI made)), (6, .int (zI k)), (7, .int (zI other))] [.int (zI (40 * f + k)), .int (zI 12), .ref (F.1 122)] 346
    refine z_imul hG dX4_mergeInto_346 ?_
    refine z_iload 7 hG dX4_mergeInto_347 rfl ?_
    refine z_iadd hG dX4_mergeInto_349 ?_
    refine z_aload_n 0 hG dX4_mergeInto_350 rfl rfl ?_
    refine z_getR (t := 128) hG zcl4 (zltM hL (by decide)) (zl110 hL) 26 (by decide) rfl kw703 dX4_mergeInto_351 ?_
    refine z_bipush 12 hG dX4_mergeInto_354 (by decide) ?_
    refine z_iload 6 hG dX4_mergeInto_356 rfl ?_
    refine z_imul hG dX4_mergeInto_358 ?_
    refine z_iload 7 hG dX4_mergeInto_359 rfl ?_
    refine z_iadd hG dX4_mergeInto_361 ?_
    refine z_iald (v := I 128 ((12 * k) + other)) hG (zltM hL (by decide)) (zl128 hL) (by decide) (by omega) rfl dX4_mergeInto_362 ?_
    refine z_iast hG (zltM hL (by decide)) (zl122 hL) (by decide) (by omega) dX4_mergeInto_363 ?_
    refine z_iinc (lv' := [(7, .int (zI (other + 1))), (0, .ref (F.1 110)), (1, .int (zI f)), (2, .int (zI line)), (3, .int (zI slot)), (4, .int (zI token)), (5, .int (zI made)), (6, .int (zI k))]) 7 hG dX4_mergeInto_364 rfl (by decide) rfl ?_
    refine z_goto (tgt := 327) hG dX4_mergeInto_367 (by decide) ?_
    refine z_perm (lv' := [(0, .ref (F.1 110)), (1, .int (zI f)), (2, .int (zI line)), (3, .int (zI slot)), (4, .int (zI token)), (5, .int (zI made)), (6, .int (zI k)), (7, .int (zI (other + 1)))]) [1, 2, 3, 4, 5, 6, 7, 0] rfl ?_
    exact k2 c331

/-! three rows that are filled beside each other, in the cells k, k + 1, k + 2 -/
theorem zup_flc {T : zStore} {k k' n : Nat} {a i v : Int} {f : Nat → Int} (h : k' ≠ k) : zup (zfl T k a n f) k' i v = zfl (zup T k' i v) k a n f := by
  funext c j
  unfold zup zfl
  by_cases h1 : c = k' ∧ j = i
  · rw [if_pos h1, if_neg (by omega)]
    show v = if c = k' ∧ j = i then v else T c j
    rw [if_pos h1]
  · rw [if_neg h1]
    show _ = if _ then _ else (if c = k' ∧ j = i then v else T c j)
    rw [if_neg h1]
def zm3 (T : zStore) (k : Nat) (a b c : Int) (na nb nc : Nat) (f g h : Nat → Int) : zStore := zfl (zfl (zfl T k a na f) (k + 1) b nb g) (k + 2) c nc h
section ZM3
variable {T : zStore} {k na nb nc : Nat} {a b c i v : Int} {f g h : Nat → Int}
theorem zm3_1 (hv : v = f na) (hi : i = a + na) : zup (zm3 T k a b c na nb nc f g h) k i v = zm3 T k a b c (na + 1) nb nc f g h := by
  unfold zm3
  rw [zup_flc (by omega), zup_flc (by omega), zfl_up hv hi]
theorem zm3_2 (hv : v = g nb) (hi : i = b + nb) : zup (zm3 T k a b c na nb nc f g h) (k + 1) i v = zm3 T k a b c na (nb + 1) nc f g h := by
  unfold zm3
  rw [zup_flc (by omega), zfl_up hv hi]
theorem zm3_3 (hv : v = h nc) (hi : i = c + nc) : zup (zm3 T k a b c na nb nc f g h) (k + 2) i v = zm3 T k a b c na nb (nc + 1) f g h := by
  unfold zm3
  rw [zfl_up hv hi]
theorem zm3_3s {t : Nat} (ht : t < nc) (hi : i = c + t) : zup (zm3 T k a b c na nb nc f g h) (k + 2) i v = zm3 T k a b c na nb nc f g (fun x => if x = t then v else h x) := by
  unfold zm3
  rw [zfl_set ht hi]
theorem zm3_c {h2 : Nat → Int} (hh : ∀ x, x < nc → h x = h2 x) : zm3 T k a b c na nb nc f g h = zm3 T k a b c na nb nc f g h2 := by
  unfold zm3
  rw [zfl_congr hh]
theorem zm3_o {d : Nat} {j : Int} (hd : d ≠ k) (hd1 : d ≠ k + 1) (hd2 : d ≠ k + 2) : zm3 T k a b c na nb nc f g h d j = T d j := by
  unfold zm3
  rw [zfl_k hd2, zfl_k hd1, zfl_k hd]
theorem zm3_r1 {x : Nat} {j : Int} (hx : x < na) (hj : j = a + x) : zm3 T k a b c na nb nc f g h k j = f x := by
  unfold zm3
  rw [zfl_k (by omega), zfl_k (by omega), zfl_in hx hj]
theorem zm3_r2 {x : Nat} {j : Int} (hx : x < nb) (hj : j = b + x) : zm3 T k a b c na nb nc f g h (k + 1) j = g x := by
  unfold zm3
  rw [zfl_k (by omega), zfl_in hx hj]
theorem zm3_r3 {x : Nat} {j : Int} (hx : x < nc) (hj : j = c + x) : zm3 T k a b c na nb nc f g h (k + 2) j = h x := by
  unfold zm3
  rw [zfl_in hx hj]
theorem zm3_q1 {j : Int} (hj : j < a ∨ a + na ≤ j) : zm3 T k a b c na nb nc f g h k j = T k j := by
  unfold zm3
  rw [zfl_k (by omega), zfl_k (by omega), zfl_out hj]
theorem zm3_q2 {j : Int} (hj : j < b ∨ b + nb ≤ j) : zm3 T k a b c na nb nc f g h (k + 1) j = T (k + 1) j := by
  unfold zm3
  rw [zfl_k (by omega), zfl_out hj, zfl_k (by omega)]
theorem zm3_q3 {j : Int} (hj : j < c ∨ c + nc ≤ j) : zm3 T k a b c na nb nc f g h (k + 2) j = T (k + 2) j := by
  unfold zm3
  rw [zfl_out hj, zfl_k (by omega), zfl_k (by omega)]
theorem zRg_m3 (hr : zRg T) (hf : ∀ x, x < na → -2147483648 ≤ f x ∧ f x < 2147483648) (hg : ∀ x, x < nb → -2147483648 ≤ g x ∧ g x < 2147483648) (hh : ∀ x, x < nc → -2147483648 ≤ h x ∧ h x < 2147483648) : zRg (zm3 T k a b c na nb nc f g h) := zRg_fl (zRg_fl (zRg_fl hr hf) hg) hh
end ZM3
/-- the new rows of the model's mergeInto: kinds, texts, used of the slot j -/
def zmnk (T : zStore) (f line : Int) (K : Nat) (w : Nat → Int) (P : Nat → Nat × Nat) (j : Nat) : Int := if w (K - 1 - j) = 2 then T 115 (30 * line + (P (K - j)).2) else T 120 (40 * f + (P (K - j)).1)
def zmnt (T : zStore) (f line : Int) (K : Nat) (w : Nat → Int) (P : Nat → Nat × Nat) (j : Nat) : Int := if w (K - 1 - j) = 2 then 30 * line + (P (K - j)).2 else if w (K - 1 - j) = 0 ∧ T 121 (40 * f + (P (K - j)).1) ≠ (-1) ∧ zmS (T 117) (T 116) (T 113) (T 121 (40 * f + (P (K - j)).1)) (30 * line + (P (K - j)).2) = false then (-1) else T 121 (40 * f + (P (K - j)).1)
def zmn0 (T : zStore) (f : Int) (K : Nat) (w : Nat → Int) (P : Nat → Nat × Nat) (y : Nat) : Int := if w (K - 1 - y / 12) = 2 then (-1) else T 122 (12 * (40 * f + (P (K - y / 12)).1) + (y % 12 : Nat))
def zmnu (T : zStore) (f line : Int) (K : Nat) (w : Nat → Int) (P : Nat → Nat × Nat) (y : Nat) : Int := if ((y % 12 : Nat) : Int) = line ∧ w (K - 1 - y / 12) ≠ 1 then ((P (K - y / 12)).2 : Int) else zmn0 T f K w P y
def zmN (T : zStore) (f line : Int) (w : Nat → Int) (P : Nat → Nat × Nat) (K j : Nat) : zStore := zm3 T 126 0 0 0 j j (12 * j) (zmnk T f line K w P) (zmnt T f line K w P) (zmnu T f line K w P)
def zmO (T : zStore) (f line : Int) (w : Nat → Int) (P : Nat → Nat × Nat) (K j : Nat) : zStore := zm3 (zmN T f line w P K K) 120 (40 * f) (40 * f) (480 * f) j j (12 * j) (zmnk T f line K w P) (zmnt T f line K w P) (zmnu T f line K w P)
def zmM (T : zStore) (f line : Int) (w : Nat → Int) (P : Nat → Nat × Nat) (K : Nat) : zStore := zup (zup (zmO T f line w P K K) 118 f K) 119 f (zor (T 119 f) (zshl 1 line))
/-- what mergeInto asks of the way -/
def zmG (T : zStore) (f line : Int) (w : Nat → Int) (P : Nat → Nat × Nat) (K : Nat) : Prop := (0 ≤ f ∧ f < 13) ∧ (0 ≤ line ∧ line < 12) ∧ (T 110 22 = K ∧ K ≤ 40) ∧ (∀ k : Nat, k < K → T 125 k = w k ∧ (w k = 0 ∨ w k = 1 ∨ w k = 2)) ∧ P K = (0, 0) ∧ (∀ k : Nat, k < K → (P k).1 = (P (k + 1)).1 + (if w k = 2 then 0 else 1) ∧ (P k).2 = (P (k + 1)).2 + (if w k = 1 then 0 else 1)) ∧ (∀ k : Nat, k ≤ K → (P k).1 ≤ 40 ∧ (P k).2 ≤ 30) ∧ (∀ k : Nat, k < K → w k = 0 → T 121 (40 * f + (P (k + 1)).1) ≠ (-1) → zmT T (T 121 (40 * f + (P (k + 1)).1))) ∧ ∀ k : Nat, k < K → w k ≠ 1 → zmT T (30 * line + (P (k + 1)).2)
theorem zor_rg (a b : Int) : -2147483648 ≤ zor a b ∧ zor a b < 2147483648 := zI_rng _
section ZMG
variable {T : zStore} {f line : Int} {w : Nat → Int} {P : Nat → Nat × Nat} {K : Nat}
theorem zmnk_rg (hr : zRg T) (j : Nat) : -2147483648 ≤ zmnk T f line K w P j ∧ zmnk T f line K w P j < 2147483648 := by
  unfold zmnk
  split <;> exact hr _ _
theorem zmnt_rg (hr : zRg T) (hG : zmG T f line w P K) (j : Nat) : -2147483648 ≤ zmnt T f line K w P j ∧ zmnt T f line K w P j < 2147483648 := by
  have h2 := hG.2.1
  have h := (hG.2.2.2.2.2.2.1 (K - j) (by omega)).2
  have := hr 121 (40 * f + (P (K - j)).1)
  unfold zmnt
  repeat' split
  all_goals omega
theorem zmn0_rg (hr : zRg T) (y : Nat) : -2147483648 ≤ zmn0 T f K w P y ∧ zmn0 T f K w P y < 2147483648 := by
  unfold zmn0
  split
  · decide
  · exact hr _ _
theorem zmnu_rg (hr : zRg T) (hG : zmG T f line w P K) (y : Nat) : -2147483648 ≤ zmnu T f line K w P y ∧ zmnu T f line K w P y < 2147483648 := by
  have h := (hG.2.2.2.2.2.2.1 (K - y / 12) (by omega)).2
  unfold zmnu
  split
  · omega
  · exact zmn0_rg hr _
theorem zmN_rg (hr : zRg T) (hG : zmG T f line w P K) (j : Nat) : zRg (zmN T f line w P K j) := zRg_m3 hr (fun x _ => zmnk_rg hr x) (fun x _ => zmnt_rg hr hG x) (fun x _ => zmnu_rg hr hG x)
theorem zmN_o {j : Nat} {c : Nat} {i : Int} (h : c < 126) : zmN T f line w P K j c i = T c i := zm3_o (by omega) (by omega) (by omega)
theorem zmO_rg (hr : zRg T) (hG : zmG T f line w P K) (j : Nat) : zRg (zmO T f line w P K j) := zRg_m3 (zmN_rg hr hG K) (fun x _ => zmnk_rg hr x) (fun x _ => zmnt_rg hr hG x) (fun x _ => zmnu_rg hr hG x)
theorem zmO_0 : zmO T f line w P K 0 = zmN T f line w P K K := by
  unfold zmO zm3
  rw [zfl_0, zfl_0, zfl_0]
theorem zmN_0 : zmN T f line w P K 0 = T := by
  unfold zmN zm3
  rw [zfl_0, zfl_0, zfl_0]
theorem zmO_hi {j c : Nat} {i : Int} (h : c = 126 ∨ c = 127 ∨ c = 128) : zmO T f line w P K j c i = zmN T f line w P K K c i := zm3_o (by omega) (by omega) (by omega)
end ZMG
set_option maxHeartbeats 16000000 in
theorem c_X4_mergeInto {F : zFr} {T : zStore} {f line : Int} {w : Nat → Int} {P : Nat → Nat × Nat} {K : Nat} (hL : zLayM F) (hr : zRg T) (hG0 : zmG T f line w P K) : ∀ (l : Launch) (D : va_G) (cs : Nat → ClassId), l.stackTraces = false → zMt l yX4_mergeInto cX4_mergeInto 10 none rm_X4_mergeInto D cs F T [.ref (F.1 110), .int (zI f), .int (zI line)] (fun r I' => r = none ∧ I' = zmM T f line w P K) := by
  intro l D cs hst
  refine zMt.ofV hst (by decide +kernel) (Nat.le_of_ble_eq_true rfl) fun G hG hR hE => ?_
  obtain ⟨g1, g2, g3, g4, g5, g6, g7, g8, g9⟩ := id hG0
  refine s_X4_mergeInto_0 hG hR hE hL hr (by omega) ?_
  rw [g3.1]
  have copy : ∀ (d j : Nat), j + d = K → ∀ s9 t9 : Int, zW G F 0 0 (zmO T f line w P K j) [(0, .ref (F.1 110)), (1, .int (zI f)), (2, .int (zI line)), (3, .int (zI s9)), (4, .int (zI t9)), (5, .int (zI K)), (6, .int (zI j))] [] 281 := by
    intro d
    induction d with
    | zero =>
      intro j hj s9 t9
      have e : j = K := by omega
      subst e
      have hrO := zmO_rg hr hG0 j
      have e1 : zmO T f line w P j j 119 f = T 119 f := by
        unfold zmO
        rw [zm3_o (by decide) (by decide) (by decide)]
        exact zmN_o (by decide)
      refine s_X4_mergeInto_281 hG hR hE hL hrO g1 g2 (by omega) (by omega) (fun _ => ⟨rfl, ?_⟩) (fun q => absurd q (by omega))
      rw [e1]
      rfl
    | succ d ih =>
      intro j hj s9 t9
      have hrO := zmO_rg hr hG0 j
      refine s_X4_mergeInto_281 hG hR hE hL hrO g1 g2 (by omega) (by omega) (fun q => absurd q (by omega)) (fun _ => ?_)
      have v1 : zmO T f line w P K j 126 j = zmnk T f line K w P j := by
        rw [zmO_hi (Or.inl rfl)]
        exact zm3_r1 (by omega) (by omega)
      have v2 : zmO T f line w P K j 127 j = zmnt T f line K w P j := by
        rw [zmO_hi (Or.inr (Or.inl rfl))]
        exact zm3_r2 (by omega) (by omega)
      rw [v1, v2]
      have e1 : zup (zup (zmO T f line w P K j) 120 (40 * f + j) (zmnk T f line K w P j)) 121 (40 * f + j) (zmnt T f line K w P j) = zm3 (zmN T f line w P K K) 120 (40 * f) (40 * f) (480 * f) (j + 1) (j + 1) (12 * j + 0) (zmnk T f line K w P) (zmnt T f line K w P) (zmnu T f line K w P) := by
        unfold zmO
        rw [zm3_1 rfl rfl, zm3_2 rfl rfl]
        rfl
      rw [e1]
      have inner : ∀ (e o : Nat), o + e = 12 → zW G F 0 0 (zm3 (zmN T f line w P K K) 120 (40 * f) (40 * f) (480 * f) (j + 1) (j + 1) (12 * j + o) (zmnk T f line K w P) (zmnt T f line K w P) (zmnu T f line K w P)) [(0, .ref (F.1 110)), (1, .int (zI f)), (2, .int (zI line)), (3, .int (zI s9)), (4, .int (zI t9)), (5, .int (zI K)), (6, .int (zI j)), (7, .int (zI o))] [] 327 := by
        intro e
        induction e with
        | zero =>
          intro o ho
          have e9 : o = 12 := by omega
          subst e9
          have hrX : zRg (zm3 (zmN T f line w P K K) 120 (40 * f) (40 * f) (480 * f) (j + 1) (j + 1) (12 * j + 12) (zmnk T f line K w P) (zmnt T f line K w P) (zmnu T f line K w P)) := zRg_m3 (zmN_rg hr hG0 K) (fun x _ => zmnk_rg hr x) (fun x _ => zmnt_rg hr hG0 x) (fun x _ => zmnu_rg hr hG0 x)
          have h := ih (j + 1) (by omega) s9 t9
          exact s_X4_mergeInto_327 hG hR hE hL hrX g1 (by omega) (by omega) (by omega) (fun _ => h) (fun q => absurd q (by omega))
        | succ e ih2 =>
          intro o ho
          have hrX : zRg (zm3 (zmN T f line w P K K) 120 (40 * f) (40 * f) (480 * f) (j + 1) (j + 1) (12 * j + o) (zmnk T f line K w P) (zmnt T f line K w P) (zmnu T f line K w P)) := zRg_m3 (zmN_rg hr hG0 K) (fun x _ => zmnk_rg hr x) (fun x _ => zmnt_rg hr hG0 x) (fun x _ => zmnu_rg hr hG0 x)
          refine s_X4_mergeInto_327 hG hR hE hL hrX g1 (by omega) (by omega) (by omega) (fun q => absurd q (by omega)) (fun _ => ?_)
          have h := ih2 (o + 1) (by omega)
          have v3 : zm3 (zmN T f line w P K K) 120 (40 * f) (40 * f) (480 * f) (j + 1) (j + 1) (12 * j + o) (zmnk T f line K w P) (zmnt T f line K w P) (zmnu T f line K w P) 128 (12 * (j : Int) + o) = zmnu T f line K w P (12 * j + o) := by
            rw [zm3_o (by decide) (by decide) (by decide)]
            exact zm3_r3 (by omega) (by omega)
          rw [v3]
          rw [show zup (zm3 (zmN T f line w P K K) 120 (40 * f) (40 * f) (480 * f) (j + 1) (j + 1) (12 * j + o) (zmnk T f line K w P) (zmnt T f line K w P) (zmnu T f line K w P)) 122 (12 * (40 * f + (j : Int)) + o) (zmnu T f line K w P (12 * j + o)) = zm3 (zmN T f line w P K K) 120 (40 * f) (40 * f) (480 * f) (j + 1) (j + 1) (12 * j + o + 1) (zmnk T f line K w P) (zmnt T f line K w P) (zmnu T f line K w P) from zm3_3 rfl (by omega)]
          exact h
      exact inner 12 0 (by omega)
  have main : ∀ (k : Nat), k ≤ K → zW G F 0 0 (zmN T f line w P K (K - k)) [(0, .ref (F.1 110)), (1, .int (zI f)), (2, .int (zI line)), (3, .int (zI (P k).1)), (4, .int (zI (P k).2)), (5, .int (zI ((K - k : Nat) : Int))), (6, .int (zI ((k : Int) - 1)))] [] 16 := by
    intro k
    induction k with
    | zero =>
      intro hk
      have b := g7 0 (by omega)
      refine s_X4_mergeInto_16 hG hR hE hL (zmN_rg hr hG0 _) g1 g2 (by omega) (by omega) (by omega) (by omega) (fun _ => ?_) (fun q => absurd q (by omega))
      have h := copy K 0 (by omega) (P 0).1 (P 0).2
      rw [zmO_0] at h
      exact h
    | succ k ih =>
      intro hk
      have hn := ih (by omega)
      have hp := g6 k (by omega)
      have hwk := g4 k (by omega)
      have h8 := g8 k (by omega)
      have h9 := g9 k (by omega)
      have b := g7 (k + 1) hk
      have b0 := g7 k (by omega)
      obtain ⟨j, hj⟩ : ∃ j, j = K - (k + 1) := ⟨_, rfl⟩
      have hj1 : K - k = j + 1 := by omega
      have hjK : K - 1 - j = k := by omega
      have hjP : K - j = k + 1 := by omega
      rw [hj1] at hn
      rw [← hj]
      rw [show (((k + 1 : Nat) : Int) - 1) = (k : Int) by omega]
      generalize hPk : P k = p0 at *
      generalize hPk1 : P (k + 1) = p1 at *
      obtain ⟨i0, t0⟩ := p0
      obtain ⟨i, t⟩ := p1
      dsimp only at *
      have nkj : zmnk T f line K w P j = if w k = 2 then T 115 (30 * line + t) else T 120 (40 * f + i) := by unfold zmnk; rw [hjK, hjP, hPk1]
      have ntj : zmnt T f line K w P j = if w k = 2 then 30 * line + (t : Int) else if w k = 0 ∧ T 121 (40 * f + i) ≠ (-1) ∧ zmS (T 117) (T 116) (T 113) (T 121 (40 * f + i)) (30 * line + t) = false then (-1) else T 121 (40 * f + i) := by unfold zmnt; rw [hjK, hjP, hPk1]
      have n0j : ∀ o : Nat, o < 12 → zmn0 T f K w P (12 * j + o) = if w k = 2 then (-1) else T 122 (12 * (40 * f + i) + o) := fun o ho => by
        unfold zmn0
        rw [show (12 * j + o) / 12 = j by omega, show (12 * j + o) % 12 = o by omega, hjK, hjP, hPk1]
      have nuj : ∀ o : Nat, o < 12 → zmnu T f line K w P (12 * j + o) = if (o : Int) = line ∧ w k ≠ 1 then (t : Int) else zmn0 T f K w P (12 * j + o) := fun o ho => by
        unfold zmnu
        rw [show (12 * j + o) / 12 = j by omega, show (12 * j + o) % 12 = o by omega, hjK, hjP, hPk1]
      have nu_lt : ∀ x : Nat, x < 12 * j → (if x < 12 * j then zmnu T f line K w P x else zmn0 T f K w P x) = zmnu T f line K w P x := fun x hx => by rw [if_pos hx]
      -- the used row, base values
      generalize hg : (fun x : Nat => if x < 12 * j then zmnu T f line K w P x else zmn0 T f K w P x) = g
      have g_lt : ∀ x : Nat, x < 12 * j → g x = zmnu T f line K w P x := fun x hx => by rw [← hg]; exact if_pos hx
      have g_ge : ∀ o : Nat, g (12 * j + o) = zmn0 T f K w P (12 * j + o) := fun o => by rw [← hg]; exact if_neg (by omega)
      have g_rg : ∀ x : Nat, -2147483648 ≤ g x ∧ g x < 2147483648 := fun x => by
        rw [← hg]
        show -2147483648 ≤ (if x < 12 * j then _ else _) ∧ (if x < 12 * j then _ else _) < 2147483648
        split
        · exact zmnu_rg hr hG0 x
        · exact zmn0_rg hr x
      have eN : zmN T f line w P K j = zm3 T 126 0 0 0 j j (12 * j + 0) (zmnk T f line K w P) (zmnt T f line K w P) g := zm3_c fun x hx => (g_lt x (by omega)).symm
      have h125 : ∀ (na nb nc : Nat) (h : Nat → Int), zm3 T 126 0 0 0 na nb nc (zmnk T f line K w P) (zmnt T f line K w P) h 125 k = w k := fun na nb nc h => by
        rw [zm3_o (by decide) (by decide) (by decide)]
        exact hwk.1
      have rgX : ∀ (na nb nc : Nat), zRg (zm3 T 126 0 0 0 na nb nc (zmnk T f line K w P) (zmnt T f line K w P) g) := fun na nb nc => zRg_m3 hr (fun x _ => zmnk_rg hr x) (fun x _ => zmnt_rg hr hG0 x) (fun x _ => g_rg x)
      -- behind the used row has got its own token
      have h229 : zW G F 0 0 (zmN T f line w P K (j + 1)) [(0, .ref (F.1 110)), (1, .int (zI f)), (2, .int (zI line)), (3, .int (zI i)), (4, .int (zI t)), (5, .int (zI j)), (6, .int (zI k)), (7, .int (zI (30 * line + t))), (8, .int (zI (40 * f + i)))] [] 229 := by
        have e5 : zmN T f line w P K (j + 1) 125 k = w k := h125 _ _ _ _
        refine s_X4_mergeInto_229 hG hR hE hL (zmN_rg hr hG0 _) (by omega) (by omega) (fun q1 q2 => ?_) (fun q1 q2 => ?_) (fun q1 q2 => ?_) (fun q1 q2 => ?_)
        all_goals rw [e5] at q1 q2
        all_goals rw [hp.1, hp.2] at hn
        · rw [if_neg q1, if_neg q2] at hn
          exact hn
        · rw [if_neg q1, if_pos q2] at hn
          exact hn
        · rw [if_pos q1, if_neg q2] at hn
          exact hn
        · omega
      have h204 : zW G F 0 0 (zm3 T 126 0 0 0 (j + 1) (j + 1) (12 * j + 12) (zmnk T f line K w P) (zmnt T f line K w P) g) [(0, .ref (F.1 110)), (1, .int (zI f)), (2, .int (zI line)), (3, .int (zI i)), (4, .int (zI t)), (5, .int (zI j)), (6, .int (zI k)), (7, .int (zI (30 * line + t))), (8, .int (zI (40 * f + i)))] [] 204 := by
        have e5 := h125 (j + 1) (j + 1) (12 * j + 12) g
        refine s_X4_mergeInto_204 hG hR hE hL (rgX _ _ _) (by omega) (by omega) g2 (fun q => ?_) (fun q => ?_)
        all_goals rw [e5] at q
        · have e6 : zm3 T 126 0 0 0 (j + 1) (j + 1) (12 * j + 12) (zmnk T f line K w P) (zmnt T f line K w P) g = zmN T f line w P K (j + 1) := zm3_c fun x hx => by
            by_cases hx2 : x < 12 * j
            · exact g_lt x hx2
            · obtain ⟨o, rfl⟩ : ∃ o, x = 12 * j + o := ⟨x - 12 * j, by omega⟩
              rw [g_ge, nuj o (by omega), if_neg (fun q2 => q2.2 q)]
          rw [e6]
          exact h229
        · have e6 : zup (zm3 T 126 0 0 0 (j + 1) (j + 1) (12 * j + 12) (zmnk T f line K w P) (zmnt T f line K w P) g) 128 (12 * (j : Int) + line) t = zmN T f line w P K (j + 1) := by
            refine (zm3_3s (t := 12 * j + line.toNat) (by omega) (by omega)).trans (zm3_c fun x hx => ?_)
            by_cases hx2 : x < 12 * j
            · rw [if_neg (by omega)]
              exact g_lt x hx2
            · obtain ⟨o, rfl⟩ : ∃ o, x = 12 * j + o := ⟨x - 12 * j, by omega⟩
              rw [nuj o (by omega)]
              by_cases ho : (o : Int) = line
              · rw [if_pos (by omega), if_pos ⟨ho, q⟩]
              · rw [if_neg (by omega), if_neg (fun q2 => ho q2.1), g_ge]
          rw [e6]
          exact h229
      have h159 : ∀ v0 : Int, v0 = (if w k = 2 then 30 * line + (t : Int) else T 121 (40 * f + i)) → zW G F 0 0 (zup (zm3 T 126 0 0 0 (j + 1) j (12 * j + 12) (zmnk T f line K w P) (zmnt T f line K w P) g) 127 j v0) [(0, .ref (F.1 110)), (1, .int (zI f)), (2, .int (zI line)), (3, .int (zI i)), (4, .int (zI t)), (5, .int (zI j)), (6, .int (zI k)), (7, .int (zI (30 * line + t))), (8, .int (zI (40 * f + i)))] [] 159 := by
        intro v0 hv0
        have hv0r : -2147483648 ≤ v0 ∧ v0 < 2147483648 := by
          have := hr 121 (40 * f + i)
          rw [hv0]
          split <;> omega
        have hrX := zRg_up (k := 127) (i := j) (rgX (j + 1) j (12 * j + 12)) hv0r
        have rd : ∀ (c : Nat) (x : Int), c < 126 → (zup (zm3 T 126 0 0 0 (j + 1) j (12 * j + 12) (zmnk T f line K w P) (zmnt T f line K w P) g) 127 j v0) c x = T c x := fun c x hc => by
          rw [zup_k (by omega), zm3_o (by omega) (by omega) (by omega)]
        have hok : ∀ v : Int, v = zmnt T f line K w P j → zup (zm3 T 126 0 0 0 (j + 1) j (12 * j + 12) (zmnk T f line K w P) (zmnt T f line K w P) g) 127 j v = zm3 T 126 0 0 0 (j + 1) (j + 1) (12 * j + 12) (zmnk T f line K w P) (zmnt T f line K w P) g := fun v hv => zm3_2 hv (by omega)
        have hup2 : zup (zup (zm3 T 126 0 0 0 (j + 1) j (12 * j + 12) (zmnk T f line K w P) (zmnt T f line K w P) g) 127 j v0) 127 j (-1) = zup (zm3 T 126 0 0 0 (j + 1) j (12 * j + 12) (zmnk T f line K w P) (zmnt T f line K w P) g) 127 j (-1) := zup_up _ _ _ _ _
        have r0 := hok v0
        have r1 := hok (-1)
        generalize zup (zm3 T 126 0 0 0 (j + 1) j (12 * j + 12) (zmnk T f line K w P) (zmnt T f line K w P) g) 127 j v0 = X at *
        have x5 : X 125 k = w k := (rd 125 k (by decide)).trans hwk.1
        have x1 : X 121 (40 * f + i) = T 121 (40 * f + i) := rd _ _ (by decide)
        have xT : ∀ p, zmT T p → zmT X p := fun p hp2 => by
          unfold zmT at *
          rw [rd 116 p (by decide), rd 117 p (by decide)]
          exact hp2
        have xS : zmS (X 117) (X 116) (X 113) (T 121 (40 * f + i)) (30 * line + t) = zmS (T 117) (T 116) (T 113) (T 121 (40 * f + i)) (30 * line + t) := by
          rw [show X 117 = T 117 from funext fun x => rd 117 x (by decide), show X 116 = T 116 from funext fun x => rd 116 x (by decide), show X 113 = T 113 from funext fun x => rd 113 x (by decide)]
        have fin0 : v0 = zmnt T f line K w P j → zW G F 0 0 X [(0, .ref (F.1 110)), (1, .int (zI f)), (2, .int (zI line)), (3, .int (zI i)), (4, .int (zI t)), (5, .int (zI j)), (6, .int (zI k)), (7, .int (zI (30 * line + t))), (8, .int (zI (40 * f + i)))] [] 204 := fun q => by
          rw [r0 q]
          exact h204
        refine s_X4_mergeInto_159 (v190 := zb (zmS (X 117) (X 116) (X 113) (T 121 (40 * f + i)) (30 * line + t))) hG hR hE hL hrX (by omega) (by omega) (fun _ q => by rw [x5] at q; rw [if_neg (by omega)] at hp; omega) (fun q => ?_) (fun q q2 => ?_) (fun q q2 => ?_) (zb_bd _) (fun q q2 q3 => ?_) (fun q q2 q3 => ?_)
        · rw [x5] at q
          refine fin0 ?_
          rw [hv0, ntj]
          by_cases hw2 : w k = 2
          · rw [if_pos hw2, if_pos hw2]
          · rw [if_neg hw2, if_neg hw2, if_neg (fun q4 => q q4.1)]
        · rw [x5] at q
          rw [x1] at q2
          refine fin0 ?_
          rw [hv0, ntj, if_neg (by omega), if_neg (by omega), if_neg (fun q4 => q4.2.1 q2)]
        · rw [x5] at q
          rw [x1] at q2 ⊢
          exact c_X4_areSame hL hrX (xT _ (h8 q q2)) (xT _ (h9 (by omega)))
        · rw [x5] at q
          rw [x1] at q2
          rw [xS] at q3
          refine fin0 ?_
          rw [hv0, ntj, if_neg (by omega), if_neg (by omega), if_neg (fun q4 => by rw [zb1_ q3] at q4; exact absurd q4.2.2 (by decide))]
        · rw [x5] at q
          rw [x1] at q2
          rw [xS] at q3
          rw [hup2, r1 (by rw [ntj, if_neg (by omega), if_pos ⟨q, q2, zb0 q3⟩])]
          exact h204
      have h129 : zW G F 0 0 (zm3 T 126 0 0 0 (j + 1) j (12 * j + 12) (zmnk T f line K w P) (zmnt T f line K w P) g) [(0, .ref (F.1 110)), (1, .int (zI f)), (2, .int (zI line)), (3, .int (zI i)), (4, .int (zI t)), (5, .int (zI j)), (6, .int (zI k)), (7, .int (zI (30 * line + t))), (8, .int (zI (40 * f + i)))] [] 129 := by
        have e5 := h125 (j + 1) j (12 * j + 12) g
        have e6 : zm3 T 126 0 0 0 (j + 1) j (12 * j + 12) (zmnk T f line K w P) (zmnt T f line K w P) g 121 (40 * f + i) = T 121 (40 * f + i) := zm3_o (by decide) (by decide) (by decide)
        refine s_X4_mergeInto_129 hG hR hE hL (rgX _ _ _) (by omega) (by omega) (fun _ q => by rw [e5] at q; rw [if_neg q] at hp; omega) (fun q => ?_) (fun q => ?_)
        all_goals rw [e5] at q
        · rw [e6]
          exact h159 _ (by rw [if_neg q])
        · exact h159 _ (by rw [if_pos q])
      have h40 : ∀ (e o : Nat), o + e = 12 → zW G F 0 0 (zm3 T 126 0 0 0 j j (12 * j + o) (zmnk T f line K w P) (zmnt T f line K w P) g) [(0, .ref (F.1 110)), (1, .int (zI f)), (2, .int (zI line)), (3, .int (zI i)), (4, .int (zI t)), (5, .int (zI j)), (6, .int (zI k)), (7, .int (zI (30 * line + t))), (8, .int (zI (40 * f + i))), (9, .int (zI o))] [] 40 := by
        intro e
        induction e with
        | zero =>
          intro o ho
          have e9 : o = 12 := by omega
          subst e9
          have e5 := h125 j j (12 * j + 12) g
          have e6 : zm3 T 126 0 0 0 j j (12 * j + 12) (zmnk T f line K w P) (zmnt T f line K w P) g 120 (40 * f + i) = T 120 (40 * f + i) := zm3_o (by decide) (by decide) (by decide)
          have e7 : zm3 T 126 0 0 0 j j (12 * j + 12) (zmnk T f line K w P) (zmnt T f line K w P) g 115 (30 * line + t) = T 115 (30 * line + t) := zm3_o (by decide) (by decide) (by decide)
          have e8 : ∀ v : Int, v = zmnk T f line K w P j → zup (zm3 T 126 0 0 0 j j (12 * j + 12) (zmnk T f line K w P) (zmnt T f line K w P) g) 126 j v = zm3 T 126 0 0 0 (j + 1) j (12 * j + 12) (zmnk T f line K w P) (zmnt T f line K w P) g := fun v hv => zm3_1 hv (by omega)
          refine s_X4_mergeInto_40 hG hR hE hL (rgX _ _ _) (by omega) (by omega) (fun _ q => by rw [e5] at q; rw [if_neg q] at hp; omega) (fun _ q => by rw [e5] at q; have := (h9 (by omega)).1; omega) (by omega) (fun _ q => ?_) (fun _ q => ?_) (fun q => absurd q (by omega)) (fun q => absurd q (by omega))
          all_goals rw [e5] at q
          · rw [e6, e8 _ (by rw [nkj, if_neg q])]
            exact h129
          · rw [e7, e8 _ (by rw [nkj, if_pos q])]
            exact h129
        | succ e ih2 =>
          intro o ho
          have h := ih2 (o + 1) (by omega)
          have e5 := h125 j j (12 * j + o) g
          have e6 : zm3 T 126 0 0 0 j j (12 * j + o) (zmnk T f line K w P) (zmnt T f line K w P) g 122 (12 * (40 * f + i) + o) = T 122 (12 * (40 * f + i) + o) := zm3_o (by decide) (by decide) (by decide)
          have e8 : ∀ v : Int, v = g (12 * j + o) → zup (zm3 T 126 0 0 0 j j (12 * j + o) (zmnk T f line K w P) (zmnt T f line K w P) g) 128 (12 * (j : Int) + o) v = zm3 T 126 0 0 0 j j (12 * j + o + 1) (zmnk T f line K w P) (zmnt T f line K w P) g := fun v hv => zm3_3 hv (by omega)
          refine s_X4_mergeInto_40 hG hR hE hL (rgX _ _ _) (by omega) (by omega) (fun _ q => by rw [e5] at q; rw [if_neg q] at hp; omega) (fun _ q => by rw [e5] at q; have := (h9 (by omega)).1; omega) (by omega) (fun q => absurd q (by omega)) (fun q => absurd q (by omega)) (fun _ q => ?_) (fun _ q => ?_)
          all_goals rw [e5] at q
          · rw [e6, e8 _ (by rw [g_ge, n0j o (by omega), if_neg q])]
            exact h
          · rw [e8 _ (by rw [g_ge, n0j o (by omega), if_pos q])]
            exact h
      refine s_X4_mergeInto_16 hG hR hE hL (zmN_rg hr hG0 _) g1 g2 (by omega) (by omega) (by omega) (by omega) (fun q => absurd q (by omega)) (fun _ => ?_)
      rw [eN]
      exact h40 12 0 (by omega)
  have h := main K (Nat.le_refl _)
  rw [g5, Nat.sub_self, zmN_0] at h
  exact h
