abbrev rm_X4_group : Room := { frames := 6, cells := 0, slots := 0, locals := 144 }
set_option maxRecDepth 100000 in
set_option maxHeartbeats 4000000 in
theorem s_X4_group_0 {G : zCx} {F : zFr} {I : zStore} {post : Option Value → zStore → Prop}{limit : Int} (hG : zOK G "LineLearnerModel" cX4_group 7) (hR : zRoom G rm_X4_group) (hE : zRetI G F cX4_group 0 0 post) (hL : zLayM F) (hr : zRg I) (hl : -2147483648 ≤ limit ∧ limit < 2147483648)
    (k1 : (limit < 0) → ((1 : Int) ≠ 0) → post (some (.int (zI 0))) (zup I 110 0 1))
    (k2 : (0 ≤ limit) → (limit ≤ 200) → ((0 : Int) = 0) → zW G F 0 0 (zup (zup I 110 0 0) 110 19 0) [(0, .ref (F.1 110)), (1, .int (zI limit)), (2, .int (zI 0))] [] 36)
    (k3 : (0 ≤ limit) → (200 < limit) → ((1 : Int) ≠ 0) → post (some (.int (zI 0))) (zup I 110 0 1)) :
    zW G F 0 0 I [(0, .ref (F.1 110)), (1, .int (zI limit))] [] 0 := by
  refine z_aload_n 0 hG dX4_group_0 rfl rfl ?_
  refine z_iload_n 1 hG dX4_group_1 rfl rfl ?_
  refine z_if_lt (tgt := 12) hG dX4_group_2 (by decide) (by omega) (fun c2 => ?_) (fun c2 => ?_)
  · skip
    refine z_iconst 1 hG dX4_group_12 ?_
    refine z_goto (tgt := 17) hG dX4_group_13 (by decide) ?_
    refine z_putI hG zcl4 (zltM hL (by decide)) (zl110 hL) 0 (by decide) (ki := 0) rfl rfl kw677 rfl rfl dX4_group_17 ?_
    refine z_aload_n 0 hG dX4_group_20 rfl rfl ?_
    refine z_getI (v := 1) hG zcl4 (zltM hL (by decide)) (zl110 hL) 0 (by decide) rfl rfl (zup_at _ _ _ _) kw677 dX4_group_21 ?_
    refine z_if_eq (tgt := 29) hG dX4_group_24 (by decide) (by decide) (fun c24 => ?_) (fun c24 => ?_)
    · skip
      exact absurd c24 (by decide)
    · skip
      refine z_iconst 0 hG dX4_group_27 ?_
      exact hE _ _ _ _ dX4_group_28 (k1 c2 c24)
  · skip
    refine z_iload_n 1 hG dX4_group_5 rfl rfl ?_
    refine z_sipush 200 hG dX4_group_6 (by decide) ?_
    refine z_icmp_le (tgt := 16) hG dX4_group_9 (by decide) (by omega) (by decide) (fun c9 => ?_) (fun c9 => ?_)
    · skip
      refine z_iconst 0 hG dX4_group_16 ?_
      refine z_putI hG zcl4 (zltM hL (by decide)) (zl110 hL) 0 (by decide) (ki := 0) rfl rfl kw677 rfl rfl dX4_group_17 ?_
      refine z_aload_n 0 hG dX4_group_20 rfl rfl ?_
      refine z_getI (v := 0) hG zcl4 (zltM hL (by decide)) (zl110 hL) 0 (by decide) rfl rfl (zup_at _ _ _ _) kw677 dX4_group_21 ?_
      refine z_if_eq (tgt := 29) hG dX4_group_24 (by decide) (by decide) (fun c24 => ?_) (fun c24 => ?_)
      · skip
        refine z_aload_n 0 hG dX4_group_29 rfl rfl ?_
        refine z_iconst 0 hG dX4_group_30 ?_
        refine z_putI hG zcl4 (zltM hL (by decide)) (zl110 hL) 19 (by decide) (ki := 19) rfl rfl kw696 rfl rfl dX4_group_31 ?_
        refine z_iconst 0 hG dX4_group_34 ?_
        refine z_istore_n (lv' := [(2, .int (zI 0)), (0, .ref (F.1 110)), (1, .int (zI limit))]) hG dX4_group_35 rfl (by decide) rfl ?_
        refine z_perm (lv' := [(0, .ref (F.1 110)), (1, .int (zI limit)), (2, .int (zI 0))]) [1, 2, 0] rfl ?_
        exact k2 c2 c9 c24
      · skip
        exact absurd c24 (by decide)
    · skip
      refine z_iconst 1 hG dX4_group_12 ?_
      refine z_goto (tgt := 17) hG dX4_group_13 (by decide) ?_
      refine z_putI hG zcl4 (zltM hL (by decide)) (zl110 hL) 0 (by decide) (ki := 0) rfl rfl kw677 rfl rfl dX4_group_17 ?_
      refine z_aload_n 0 hG dX4_group_20 rfl rfl ?_
      refine z_getI (v := 1) hG zcl4 (zltM hL (by decide)) (zl110 hL) 0 (by decide) rfl rfl (zup_at _ _ _ _) kw677 dX4_group_21 ?_
      refine z_if_eq (tgt := 29) hG dX4_group_24 (by decide) (by decide) (fun c24 => ?_) (fun c24 => ?_)
      · skip
        exact absurd c24 (by decide)
      · skip
        refine z_iconst 0 hG dX4_group_27 ?_
        exact hE _ _ _ _ dX4_group_28 (k3 c2 c9 c24)

set_option maxRecDepth 100000 in
set_option maxHeartbeats 4000000 in
theorem s_X4_group_36 {G : zCx} {F : zFr} {I : zStore} {post : Option Value → zStore → Prop}{limit line : Int} (hG : zOK G "LineLearnerModel" cX4_group 7) (hR : zRoom G rm_X4_group) (hE : zRetI G F cX4_group 0 0 post) (hL : zLayM F) (hr : zRg I) (h1 : 0 ≤ line ∧ line ≤ 12) (hn : 0 ≤ I 110 3 ∧ I 110 3 ≤ 12) (hm : 0 ≤ limit ∧ limit ≤ 200)
    (k1 : ((I 110 3) ≤ line) → post (some (.int (zI (I 110 19)))) (zup I 110 18 1))
    (k2 : (line < (I 110 3)) → zW G F 0 0 I [(0, .ref (F.1 110)), (1, .int (zI limit)), (2, .int (zI line)), (3, .int (zI (-1))), (4, .int (zI 0)), (5, .int (zI 0))] [] 52) :
    zW G F 0 0 I [(0, .ref (F.1 110)), (1, .int (zI limit)), (2, .int (zI line))] [] 36 := by
  refine z_iload_n 2 hG dX4_group_36 rfl rfl ?_
  refine z_aload_n 0 hG dX4_group_37 rfl rfl ?_
  refine z_getI (v := I 110 3) hG zcl4 (zltM hL (by decide)) (zl110 hL) 3 (by decide) rfl rfl rfl kw680 dX4_group_38 ?_
  refine z_icmp_ge (tgt := 210) hG dX4_group_41 (by decide) (by omega) (hr _ _) (fun c41 => ?_) (fun c41 => ?_)
  · skip
    refine z_aload_n 0 hG dX4_group_210 rfl rfl ?_
    refine z_iconst 1 hG dX4_group_211 ?_
    refine z_putZ hG zcl4 (zltM hL (by decide)) (zl110 hL) 18 (by decide) (ki := 18) rfl rfl kw695 rfl rfl (by decide) dX4_group_212 ?_
    refine z_aload_n 0 hG dX4_group_215 rfl rfl ?_
    refine z_getI (v := I 110 19) hG zcl4 (zltM hL (by decide)) (zl110 hL) 19 (by decide) rfl rfl (zup_i (by decide)) kw696 dX4_group_216 ?_
    exact hE _ _ _ _ dX4_group_219 (k1 c41)
  · skip
    refine z_iconst (-1) hG dX4_group_44 ?_
    refine z_istore_n (lv' := [(3, .int (zI (-1))), (0, .ref (F.1 110)), (1, .int (zI limit)), (2, .int (zI line))]) hG dX4_group_45 rfl (by decide) rfl ?_
    refine z_iconst 0 hG dX4_group_46 ?_
    refine z_istore (lv' := [(4, .int (zI 0)), (3, .int (zI (-1))), (0, .ref (F.1 110)), (1, .int (zI limit)), (2, .int (zI line))]) hG dX4_group_47 (by decide) rfl ?_
    refine z_iconst 0 hG dX4_group_49 ?_
    refine z_istore (lv' := [(5, .int (zI 0)), (4, .int (zI 0)), (3, .int (zI (-1))), (0, .ref (F.1 110)), (1, .int (zI limit)), (2, .int (zI line))]) hG dX4_group_50 (by decide) rfl ?_
    refine z_perm (lv' := [(0, .ref (F.1 110)), (1, .int (zI limit)), (2, .int (zI line)), (3, .int (zI (-1))), (4, .int (zI 0)), (5, .int (zI 0))]) [3, 4, 5, 2, 1, 0] rfl ?_
    exact k2 c41

set_option maxRecDepth 100000 in
set_option maxHeartbeats 4000000 in
theorem s_X4_group_52 {G : zCx} {F : zFr} {I : zStore} {post : Option Value → zStore → Prop}{limit line best least g : Int} {J67 : zStore} {v67 : Int} {J78 : zStore} (hG : zOK G "LineLearnerModel" cX4_group 7) (hR : zRoom G rm_X4_group) (hE : zRetI G F cX4_group 0 0 post) (hL : zLayM F) (hr : zRg I) (h1 : 0 ≤ line ∧ line < 12) (hm : 0 ≤ limit ∧ limit ≤ 200) (h3 : -1 ≤ best ∧ best < 12) (h4 : 0 ≤ least ∧ least ≤ 1400) (h5 : 0 ≤ g ∧ g ≤ 12) (h6 : 0 ≤ I 110 19 ∧ I 110 19 ≤ 12)
    (k1 : ((I 110 19) ≤ g) → zW G F 0 0 I [(0, .ref (F.1 110)), (1, .int (zI limit)), (2, .int (zI line)), (3, .int (zI best)), (4, .int (zI least))] [] 128)
    (kc67 : (g < (I 110 19)) → ∀ (l : Launch) (D : va_G) (cs : Nat → ClassId), l.stackTraces = false → zMt l yX4_align cX4_align 8 (some .int) rm_X4_align D cs F I [.ref (F.1 110), .int (zI (1 + g)), .int (zI line)] (fun r I' => r = some (.int (zI v67)) ∧ I' = J67))
    (hrJ67 : zRg J67)
    (hv67 : -2147483648 ≤ v67 ∧ v67 < 2147483648)
    (kc78 : (g < (I 110 19)) → ∀ (l : Launch) (D : va_G) (cs : Nat → ClassId), l.stackTraces = false → zMt l yX4_follow cX4_follow 6 none rm_X4_follow D cs F J67 [.ref (F.1 110), .int (zI (1 + g)), .int (zI line)] (fun r I' => r = none ∧ I' = J78))
    (hrJ78 : zRg J78)
    (k7 : (g < (I 110 19)) → zW G F 0 0 J78 [(0, .ref (F.1 110)), (1, .int (zI limit)), (2, .int (zI line)), (3, .int (zI best)), (4, .int (zI least)), (5, .int (zI g)), (6, .int (zI v67))] [] 81) :
    zW G F 0 0 I [(0, .ref (F.1 110)), (1, .int (zI limit)), (2, .int (zI line)), (3, .int (zI best)), (4, .int (zI least)), (5, .int (zI g))] [] 52 := by
  refine z_iload 5 hG dX4_group_52 rfl ?_
  refine z_aload_n 0 hG dX4_group_54 rfl rfl ?_
  refine z_getI (v := I 110 19) hG zcl4 (zltM hL (by decide)) (zl110 hL) 19 (by decide) rfl rfl rfl kw696 dX4_group_55 ?_
  refine z_icmp_ge (tgt := 128) hG dX4_group_58 (by decide) (by omega) (hr _ _) (fun c58 => ?_) (fun c58 => ?_)
  · skip
    refine z_perm (lv' := [(0, .ref (F.1 110)), (1, .int (zI limit)), (2, .int (zI line)), (3, .int (zI best)), (4, .int (zI least))]) [0, 1, 2, 3, 4] rfl ?_
    exact k1 c58
  · skip
    refine z_aload_n 0 hG dX4_group_61 rfl rfl ?_
    refine z_iconst 1 hG dX4_group_62 ?_
    refine z_iload 5 hG dX4_group_63 rfl ?_
    refine z_iadd hG dX4_group_65 ?_
    refine z_iload_n 2 hG dX4_group_66 rfl rfl ?_
    refine z_callV [.int (zI (1 + g)), .int (zI line)] hG hR (kc67 c58) hd_X4_align kw821 kw823 kp27 rfl (zltM hL (by decide)) (zl110 hL) (by decide) (by decide) (by decide) (by decide) rfl rfl (Nat.le_of_ble_eq_true rfl) dX4_group_67 (fun r I' hp => ?_)
    rw [hp.1, hp.2]
    show zW G F 0 0 J67 [(0, .ref (F.1 110)), (1, .int (zI limit)), (2, .int (zI line)), (3, .int (zI best)), (4, .int (zI least)), (5, .int (zI g))] [.int (zI v67)] 70
    refine z_istore (lv' := [(6, .int (zI v67)), (0, .ref (F.1 110)), (1, .int (zI limit)), (2, .int (zI line)), (3, .int (zI best)), (4, .int (zI least)), (5, .int (zI g))]) hG dX4_group_70 (by decide) rfl ?_
    refine z_aload_n 1 hG dX4_group_72 rfl rfl ?_
    refine z_iconst 1 hG dX4_group_73 ?_
    refine z_iload 6 hG dX4_group_74 rfl ?_
    refine z_iadd hG dX4_group_76 ?_
    refine z_iload_n 3 hG dX4_group_77 rfl rfl ?_
    refine z_callV [.int (zI (1 + g)), .int (zI line)] hG hR (kc78 c58) hd_X4_follow kw854 kw856 kp32 rfl (zltM hL (by decide)) (zl110 hL) (by decide) (by decide) (by decide) (by decide) rfl rfl (Nat.le_of_ble_eq_true rfl) dX4_group_78 (fun r I' hp => ?_)
    rw [hp.1, hp.2]
    show zW G F 0 0 J78 [(6, .int (zI v67)), (0, .ref (F.1 110)), (1, .int (zI limit)), (2, .int (zI line)), (3, .int (zI best)), (4, .int (zI least)), (5, .int (zI g))] [] 81
    refine z_perm (lv' := [(0, .ref (F.1 110)), (1, .int (zI limit)), (2, .int (zI line)), (3, .int (zI best)), (4, .int (zI least)), (5, .int (zI g)), (6, .int (zI v67))]) [1, 2, 3, 4, 5, 6, 0] rfl ?_
    exact k7 c58

set_option maxRecDepth 100000 in
set_option maxHeartbeats 4000000 in
theorem s_X4_group_81 {G : zCx} {F : zFr} {I : zStore} {post : Option Value → zStore → Prop}{limit line best least g cost : Int} {v91 : Int} (hG : zOK G "LineLearnerModel" cX4_group 7) (hR : zRoom G rm_X4_group) (hE : zRetI G F cX4_group 0 0 post) (hL : zLayM F) (hr : zRg I) (h3 : -1 ≤ best ∧ best < 12) (h4 : 0 ≤ least ∧ least ≤ 1400) (h5 : 0 ≤ g ∧ g < 12) (h7 : 0 ≤ cost ∧ cost ≤ 1400) (h8 : 0 ≤ I 118 (1 + g) ∧ I 118 (1 + g) ≤ 40)
    (kc91 : ∀ (l : Launch) (D : va_G) (cs : Nat → ClassId), l.stackTraces = false → zMt l yX4_freshSteps cX4_freshSteps 3 (some .int) rm_X4_freshSteps D cs F I [.ref (F.1 110)] (fun r I' => r = some (.int (zI v91)) ∧ I' = I))
    (hv91 : 0 ≤ v91 ∧ v91 ≤ 70)
    (k3 : (40 < ((I 118 (1 + g)) + v91)) → zW G F 0 0 I [(0, .ref (F.1 110)), (1, .int (zI limit)), (2, .int (zI line)), (3, .int (zI best)), (4, .int (zI least)), (5, .int (zI (g + 1)))] [] 52)
    (k4 : (((I 118 (1 + g)) + v91) ≤ 40) → (best = (-1)) → zW G F 0 0 I [(0, .ref (F.1 110)), (1, .int (zI limit)), (2, .int (zI line)), (3, .int (zI g)), (4, .int (zI cost)), (5, .int (zI (g + 1)))] [] 52)
    (k5 : (((I 118 (1 + g)) + v91) ≤ 40) → (best ≠ (-1)) → (cost < least) → zW G F 0 0 I [(0, .ref (F.1 110)), (1, .int (zI limit)), (2, .int (zI line)), (3, .int (zI g)), (4, .int (zI cost)), (5, .int (zI (g + 1)))] [] 52)
    (k6 : (((I 118 (1 + g)) + v91) ≤ 40) → (best ≠ (-1)) → (least ≤ cost) → zW G F 0 0 I [(0, .ref (F.1 110)), (1, .int (zI limit)), (2, .int (zI line)), (3, .int (zI best)), (4, .int (zI least)), (5, .int (zI (g + 1)))] [] 52) :
    zW G F 0 0 I [(0, .ref (F.1 110)), (1, .int (zI limit)), (2, .int (zI line)), (3, .int (zI best)), (4, .int (zI least)), (5, .int (zI g)), (6, .int (zI cost))] [] 81 := by
  refine z_aload_n 0 hG dX4_group_81 rfl rfl ?_
  refine z_getR (t := 118) hG zcl4 (zltM hL (by decide)) (zl110 hL) 13 (by decide) rfl kw690 dX4_group_82 ?_
  refine z_iconst 1 hG dX4_group_85 ?_
  refine z_iload 5 hG dX4_group_86 rfl ?_
  refine z_iadd hG dX4_group_88 ?_
  refine z_iald (v := I 118 (1 + g)) hG (zltM hL (by decide)) (zl118 hL) (by decide) (by omega) rfl dX4_group_89 ?_
  refine z_aload_n 0 hG dX4_group_90 rfl rfl ?_
  refine z_callV [] hG hR (kc91 ) hd_X4_freshSteps kw858 kw860 kp33 rfl (zltM hL (by decide)) (zl110 hL) (by decide) (by decide) (by decide) (by decide) rfl rfl (Nat.le_of_ble_eq_true rfl) dX4_group_91 (fun r I' hp => ?_)
  rw [hp.1, hp.2]
  show zW G F 0 0 I [(0, .ref (F.1 110)), (1, .int (zI limit)), (2, .int (zI line)), (3, .int (zI best)), (4, .int (zI least)), (5, .int (zI g)), (6, .int (zI cost))] [.int (zI v91), .int (zI (I 118 (1 + g)))] 94
  refine z_iadd hG dX4_group_94 ?_
  refine z_bipush 40 hG dX4_group_95 (by decide) ?_
  refine z_icmp_gt (tgt := 122) hG dX4_group_97 (by decide) (by omega) (by decide) (fun c97 => ?_) (fun c97 => ?_)
  · skip
    refine z_iinc (lv' := [(5, .int (zI (g + 1))), (0, .ref (F.1 110)), (1, .int (zI limit)), (2, .int (zI line)), (3, .int (zI best)), (4, .int (zI least)), (6, .int (zI cost))]) 5 hG dX4_group_122 rfl (by decide) rfl ?_
    refine z_goto (tgt := 52) hG dX4_group_125 (by decide) ?_
    refine z_perm (lv' := [(0, .ref (F.1 110)), (1, .int (zI limit)), (2, .int (zI line)), (3, .int (zI best)), (4, .int (zI least)), (5, .int (zI (g + 1)))]) [1, 2, 3, 4, 5, 0] rfl ?_
    exact k3 c97
  · skip
    refine z_iload_n 3 hG dX4_group_100 rfl rfl ?_
    refine z_iconst (-1) hG dX4_group_101 ?_
    refine z_icmp_eq (tgt := 115) hG dX4_group_102 (by decide) (by omega) (by decide) (fun c102 => ?_) (fun c102 => ?_)
    · skip
      refine z_iload 5 hG dX4_group_115 rfl ?_
      refine z_istore_n (lv' := [(3, .int (zI g)), (0, .ref (F.1 110)), (1, .int (zI limit)), (2, .int (zI line)), (4, .int (zI least)), (5, .int (zI g)), (6, .int (zI cost))]) hG dX4_group_117 rfl (by decide) rfl ?_
      refine z_iload 6 hG dX4_group_118 rfl ?_
      refine z_istore (lv' := [(4, .int (zI cost)), (3, .int (zI g)), (0, .ref (F.1 110)), (1, .int (zI limit)), (2, .int (zI line)), (5, .int (zI g)), (6, .int (zI cost))]) hG dX4_group_120 (by decide) rfl ?_
      refine z_iinc (lv' := [(5, .int (zI (g + 1))), (4, .int (zI cost)), (3, .int (zI g)), (0, .ref (F.1 110)), (1, .int (zI limit)), (2, .int (zI line)), (6, .int (zI cost))]) 5 hG dX4_group_122 rfl (by decide) rfl ?_
      refine z_goto (tgt := 52) hG dX4_group_125 (by decide) ?_
      refine z_perm (lv' := [(0, .ref (F.1 110)), (1, .int (zI limit)), (2, .int (zI line)), (3, .int (zI g)), (4, .int (zI cost)), (5, .int (zI (g + 1)))]) [3, 4, 5, 2, 1, 0] rfl ?_
      exact k4 c97 c102
    · skip
      refine z_iload 6 hG dX4_group_105 rfl ?_
      refine z_iload 4 hG dX4_group_107 rfl ?_
      refine z_icmp_lt (tgt := 115) hG dX4_group_109 (by decide) (by omega) (by omega) (fun c109 => ?_) (fun c109 => ?_)
      · skip
        refine z_iload 5 hG dX4_group_115 rfl ?_
        refine z_istore_n (lv' := [(3, .int (zI g)), (0, .ref (F.1 110)), (1, .int (zI limit)), (2, .int (zI line)), (4, .int (zI least)), (5, .int (zI g)), (6, .int (zI cost))]) hG dX4_group_117 rfl (by decide) rfl ?_
        refine z_iload 6 hG dX4_group_118 rfl ?_
        refine z_istore (lv' := [(4, .int (zI cost)), (3, .int (zI g)), (0, .ref (F.1 110)), (1, .int (zI limit)), (2, .int (zI line)), (5, .int (zI g)), (6, .int (zI cost))]) hG dX4_group_120 (by decide) rfl ?_
        refine z_iinc (lv' := [(5, .int (zI (g + 1))), (4, .int (zI cost)), (3, .int (zI g)), (0, .ref (F.1 110)), (1, .int (zI limit)), (2, .int (zI line)), (6, .int (zI cost))]) 5 hG dX4_group_122 rfl (by decide) rfl ?_
        refine z_goto (tgt := 52) hG dX4_group_125 (by decide) ?_
        refine z_perm (lv' := [(0, .ref (F.1 110)), (1, .int (zI limit)), (2, .int (zI line)), (3, .int (zI g)), (4, .int (zI cost)), (5, .int (zI (g + 1)))]) [3, 4, 5, 2, 1, 0] rfl ?_
        exact k5 c97 c102 c109
      · skip
        refine z_goto (tgt := 122) hG dX4_group_112 (by decide) ?_
        refine z_iinc (lv' := [(5, .int (zI (g + 1))), (0, .ref (F.1 110)), (1, .int (zI limit)), (2, .int (zI line)), (3, .int (zI best)), (4, .int (zI least)), (6, .int (zI cost))]) 5 hG dX4_group_122 rfl (by decide) rfl ?_
        refine z_goto (tgt := 52) hG dX4_group_125 (by decide) ?_
        refine z_perm (lv' := [(0, .ref (F.1 110)), (1, .int (zI limit)), (2, .int (zI line)), (3, .int (zI best)), (4, .int (zI least)), (5, .int (zI (g + 1)))]) [1, 2, 3, 4, 5, 0] rfl ?_
        exact k6 c97 c102 c109

set_option maxRecDepth 100000 in
set_option maxHeartbeats 4000000 in
theorem s_X4_group_128 {G : zCx} {F : zFr} {I : zStore} {post : Option Value → zStore → Prop}{limit line best least : Int} (hG : zOK G "LineLearnerModel" cX4_group 7) (hR : zRoom G rm_X4_group) (hE : zRetI G F cX4_group 0 0 post) (hL : zLayM F) (hr : zRg I) (hm : 0 ≤ limit ∧ limit ≤ 200) (h3 : -1 ≤ best ∧ best < 12) (h4 : 0 ≤ least ∧ least ≤ 1400) (hg : ∀ _u : Unit, best = (-1) ∨ limit < least → 0 ≤ I 110 19 ∧ I 110 19 < 12)
    (k1 : (best = (-1)) → zW G F 0 0 (zup (zup (zup I 118 (1 + (I 110 19)) 0) 119 (1 + (I 110 19)) 0) 110 19 ((I 110 19) + 1)) [(0, .ref (F.1 110)), (1, .int (zI limit)), (2, .int (zI line)), (3, .int (zI (I 110 19)))] [] 172)
    (k2 : (best ≠ (-1)) → (least ≤ limit) → zW G F 0 0 I [(0, .ref (F.1 110)), (1, .int (zI limit)), (2, .int (zI line)), (3, .int (zI best))] [] 172)
    (k3 : (best ≠ (-1)) → (limit < least) → zW G F 0 0 (zup (zup (zup I 118 (1 + (I 110 19)) 0) 119 (1 + (I 110 19)) 0) 110 19 ((I 110 19) + 1)) [(0, .ref (F.1 110)), (1, .int (zI limit)), (2, .int (zI line)), (3, .int (zI (I 110 19)))] [] 172) :
    zW G F 0 0 I [(0, .ref (F.1 110)), (1, .int (zI limit)), (2, .int (zI line)), (3, .int (zI best)), (4, .int (zI least))] [] 128 := by
  refine z_iload_n 3 hG dX4_group_128 rfl rfl ?_
  refine z_iconst (-1) hG dX4_group_129 ?_
  refine z_icmp_eq (tgt := 139) hG dX4_group_130 (by decide) (by omega) (by decide) (fun c130 => ?_) (fun c130 => ?_)
  · skip
    have q9 := hg () (by omega)
    refine z_aload_n 0 hG dX4_group_139 rfl rfl ?_
    refine z_getI (v := I 110 19) hG zcl4 (zltM hL (by decide)) (zl110 hL) 19 (by decide) rfl rfl rfl kw696 dX4_group_140 ?_
    refine z_istore_n (lv' := [(3, .int (zI (I 110 19))), (0, .ref (F.1 110)), (1, .int (zI limit)), (2, .int (zI line)), (4, .int (zI least))]) hG dX4_group_143 rfl (by decide) rfl ?_
    refine z_aload_n 1 hG dX4_group_144 rfl rfl ?_
    refine z_getR (t := 118) hG zcl4 (zltM hL (by decide)) (zl110 hL) 13 (by decide) rfl kw690 dX4_group_145 ?_
    refine z_iconst 1 hG dX4_group_148 ?_
    refine z_iload_n 0 hG dX4_group_149 rfl rfl ?_
    refine z_iadd hG dX4_group_150 ?_
    refine z_iconst 0 hG dX4_group_151 ?_
    refine z_iast hG (zltM hL (by decide)) (zl118 hL) (by decide) (by omega) dX4_group_152 ?_
    refine z_aload_n 1 hG dX4_group_153 rfl rfl ?_
    refine z_getR (t := 119) hG zcl4 (zltM hL (by decide)) (zl110 hL) 14 (by decide) rfl kw691 dX4_group_154 ?_
    refine z_iconst 1 hG dX4_group_157 ?_
    refine z_iload_n 0 hG dX4_group_158 rfl rfl ?_
    refine z_iadd hG dX4_group_159 ?_
    refine z_iconst 0 hG dX4_group_160 ?_
    refine z_iast hG (zltM hL (by decide)) (zl119 hL) (by decide) (by omega) dX4_group_161 ?_
    refine z_aload_n 1 hG dX4_group_162 rfl rfl ?_
    refine z_dup hG dX4_group_163 rfl ?_
    refine z_getI (v := I 110 19) hG zcl4 (zltM hL (by decide)) (zl110 hL) 19 (by decide) rfl rfl ((zup_k (by decide)).trans (zup_k (by decide))) kw696 dX4_group_164 ?_
    refine z_iconst 1 hG dX4_group_167 ?_
    refine z_iadd hG dX4_group_168 ?_
    refine z_putI hG zcl4 (zltM hL (by decide)) (zl110 hL) 19 (by decide) (ki := 19) rfl rfl kw696 rfl rfl dX4_group_169 ?_
    refine z_perm (lv' := [(0, .ref (F.1 110)), (1, .int (zI limit)), (2, .int (zI line)), (3, .int (zI (I 110 19)))]) [1, 2, 3, 0] rfl ?_
    exact k1 c130
  · skip
    refine z_iload 4 hG dX4_group_133 rfl ?_
    refine z_iload_n 1 hG dX4_group_135 rfl rfl ?_
    refine z_icmp_le (tgt := 172) hG dX4_group_136 (by decide) (by omega) (by omega) (fun c136 => ?_) (fun c136 => ?_)
    · skip
      refine z_perm (lv' := [(0, .ref (F.1 110)), (1, .int (zI limit)), (2, .int (zI line)), (3, .int (zI best))]) [0, 1, 2, 3] rfl ?_
      exact k2 c130 c136
    · skip
      have q9 := hg () (by omega)
      refine z_aload_n 0 hG dX4_group_139 rfl rfl ?_
      refine z_getI (v := I 110 19) hG zcl4 (zltM hL (by decide)) (zl110 hL) 19 (by decide) rfl rfl rfl kw696 dX4_group_140 ?_
      refine z_istore_n (lv' := [(3, .int (zI (I 110 19))), (0, .ref (F.1 110)), (1, .int (zI limit)), (2, .int (zI line)), (4, .int (zI least))]) hG dX4_group_143 rfl (by decide) rfl ?_
      refine z_aload_n 1 hG dX4_group_144 rfl rfl ?_
      refine z_getR (t := 118) hG zcl4 (zltM hL (by decide)) (zl110 hL) 13 (by decide) rfl kw690 dX4_group_145 ?_
      refine z_iconst 1 hG dX4_group_148 ?_
      refine z_iload_n 0 hG dX4_group_149 rfl rfl ?_
      refine z_iadd hG dX4_group_150 ?_
      refine z_iconst 0 hG dX4_group_151 ?_
      refine z_iast hG (zltM hL (by decide)) (zl118 hL) (by decide) (by omega) dX4_group_152 ?_
      refine z_aload_n 1 hG dX4_group_153 rfl rfl ?_
      refine z_getR (t := 119) hG zcl4 (zltM hL (by decide)) (zl110 hL) 14 (by decide) rfl kw691 dX4_group_154 ?_
      refine z_iconst 1 hG dX4_group_157 ?_
      refine z_iload_n 0 hG dX4_group_158 rfl rfl ?_
      refine z_iadd hG dX4_group_159 ?_
      refine z_iconst 0 hG dX4_group_160 ?_
      refine z_iast hG (zltM hL (by decide)) (zl119 hL) (by decide) (by omega) dX4_group_161 ?_
      refine z_aload_n 1 hG dX4_group_162 rfl rfl ?_
      refine z_dup hG dX4_group_163 rfl ?_
      refine z_getI (v := I 110 19) hG zcl4 (zltM hL (by decide)) (zl110 hL) 19 (by decide) rfl rfl ((zup_k (by decide)).trans (zup_k (by decide))) kw696 dX4_group_164 ?_
      refine z_iconst 1 hG dX4_group_167 ?_
      refine z_iadd hG dX4_group_168 ?_
      refine z_putI hG zcl4 (zltM hL (by decide)) (zl110 hL) 19 (by decide) (ki := 19) rfl rfl kw696 rfl rfl dX4_group_169 ?_
      refine z_perm (lv' := [(0, .ref (F.1 110)), (1, .int (zI limit)), (2, .int (zI line)), (3, .int (zI (I 110 19)))]) [1, 2, 3, 0] rfl ?_
      exact k3 c130 c136

set_option maxRecDepth 100000 in
set_option maxHeartbeats 4000000 in
theorem s_X4_group_172 {G : zCx} {F : zFr} {I : zStore} {post : Option Value → zStore → Prop}{limit line best : Int} {J177 : zStore} {v177 : Int} {J186 : zStore} {J194 : zStore} (hG : zOK G "LineLearnerModel" cX4_group 7) (hR : zRoom G rm_X4_group) (hE : zRetI G F cX4_group 0 0 post) (hL : zLayM F) (hr : zRg I) (h1 : 0 ≤ line ∧ line < 12) (h3 : 0 ≤ best ∧ best < 12)
    (kc177 : ∀ (l : Launch) (D : va_G) (cs : Nat → ClassId), l.stackTraces = false → zMt l yX4_align cX4_align 8 (some .int) rm_X4_align D cs F I [.ref (F.1 110), .int (zI (1 + best)), .int (zI line)] (fun r I' => r = some (.int (zI v177)) ∧ I' = J177))
    (hrJ177 : zRg J177)
    (hv177 : -2147483648 ≤ v177 ∧ v177 < 2147483648)
    (kc186 : ∀ (l : Launch) (D : va_G) (cs : Nat → ClassId), l.stackTraces = false → zMt l yX4_follow cX4_follow 6 none rm_X4_follow D cs F J177 [.ref (F.1 110), .int (zI (1 + best)), .int (zI line)] (fun r I' => r = none ∧ I' = J186))
    (hrJ186 : zRg J186)
    (kc194 : ∀ (l : Launch) (D : va_G) (cs : Nat → ClassId), l.stackTraces = false → zMt l yX4_mergeInto cX4_mergeInto 10 none rm_X4_mergeInto D cs F J186 [.ref (F.1 110), .int (zI (1 + best)), .int (zI line)] (fun r I' => r = none ∧ I' = J194))
    (hrJ194 : zRg J194)
    (k8 : zW G F 0 0 (zup J194 123 line best) [(0, .ref (F.1 110)), (1, .int (zI limit)), (2, .int (zI (line + 1)))] [] 36) :
    zW G F 0 0 I [(0, .ref (F.1 110)), (1, .int (zI limit)), (2, .int (zI line)), (3, .int (zI best))] [] 172 := by
  refine z_aload_n 0 hG dX4_group_172 rfl rfl ?_
  refine z_iconst 1 hG dX4_group_173 ?_
  refine z_iload_n 3 hG dX4_group_174 rfl rfl ?_
  refine z_iadd hG dX4_group_175 ?_
  refine z_iload_n 2 hG dX4_group_176 rfl rfl ?_
  refine z_callV [.int (zI (1 + best)), .int (zI line)] hG hR (kc177 ) hd_X4_align kw821 kw823 kp27 rfl (zltM hL (by decide)) (zl110 hL) (by decide) (by decide) (by decide) (by decide) rfl rfl (Nat.le_of_ble_eq_true rfl) dX4_group_177 (fun r I' hp => ?_)
  rw [hp.1, hp.2]
  show zW G F 0 0 J177 [(0, .ref (F.1 110)), (1, .int (zI limit)), (2, .int (zI line)), (3, .int (zI best))] [.int (zI v177)] 180
  refine z_pop hG dX4_group_180 rfl ?_
  refine z_aload_n 0 hG dX4_group_181 rfl rfl ?_
  refine z_iconst 1 hG dX4_group_182 ?_
  refine z_iload_n 3 hG dX4_group_183 rfl rfl ?_
  refine z_iadd hG dX4_group_184 ?_
  refine z_iload_n 2 hG dX4_group_185 rfl rfl ?_
  refine z_callV [.int (zI (1 + best)), .int (zI line)] hG hR (kc186 ) hd_X4_follow kw854 kw856 kp32 rfl (zltM hL (by decide)) (zl110 hL) (by decide) (by decide) (by decide) (by decide) rfl rfl (Nat.le_of_ble_eq_true rfl) dX4_group_186 (fun r I' hp => ?_)
  rw [hp.1, hp.2]
  show zW G F 0 0 J186 [(0, .ref (F.1 110)), (1, .int (zI limit)), (2, .int (zI line)), (3, .int (zI best))] [] 189
  refine z_aload_n 0 hG dX4_group_189 rfl rfl ?_
  refine z_iconst 1 hG dX4_group_190 ?_
  refine z_iload_n 3 hG dX4_group_191 rfl rfl ?_
  refine z_iadd hG dX4_group_192 ?_
  refine z_iload_n 2 hG dX4_group_193 rfl rfl ?_
  refine z_callV [.int (zI (1 + best)), .int (zI line)] hG hR (kc194 ) hd_X4_mergeInto kw862 kw864 kp34 rfl (zltM hL (by decide)) (zl110 hL) (by decide) (by decide) (by decide) (by decide) rfl rfl (Nat.le_of_ble_eq_true rfl) dX4_group_194 (fun r I' hp => ?_)
  rw [hp.1, hp.2]
  show zW G F 0 0 J194 [(0, .ref (F.1 110)), (1, .int (zI limit)), (2, .int (zI line)), (3, .int (zI best))] [] 197
  refine z_aload_n 0 hG dX4_group_197 rfl rfl ?_
  refine z_getR (t := 123) hG zcl4 (zltM hL (by decide)) (zl110 hL) 20 (by decide) rfl kw697 dX4_group_198 ?_
  refine z_iload_n 2 hG dX4_group_201 rfl rfl ?_
  refine z_iload_n 3 hG dX4_group_202 rfl rfl ?_
  refine z_iast hG (zltM hL (by decide)) (zl123 hL) (by decide) (by omega) dX4_group_203 ?_
  refine z_iinc (lv' := [(2, .int (zI (line + 1))), (0, .ref (F.1 110)), (1, .int (zI limit)), (3, .int (zI best))]) 2 hG dX4_group_204 rfl (by decide) rfl ?_
  refine z_goto (tgt := 36) hG dX4_group_207 (by decide) ?_
  refine z_perm (lv' := [(0, .ref (F.1 110)), (1, .int (zI limit)), (2, .int (zI (line + 1)))]) [1, 2, 0] rfl ?_
  exact k8

/-- the model's nearest group of the first g, and its cost -/
def zmnr (C : Nat → Int) (K : Nat → Nat) : Nat → Int × Int
  | 0 => (-1, 0)
  | g + 1 => if 40 < K g ∨ ((zmnr C K g).1 ≠ (-1) ∧ (zmnr C K g).2 ≤ C g) then zmnr C K g else ((g : Int), C g)
theorem zmnr_bd {C : Nat → Int} {K : Nat → Nat} : ∀ g : Nat, (∀ i, i < g → 0 ≤ C i ∧ C i ≤ 1400) → (-1 ≤ (zmnr C K g).1 ∧ (zmnr C K g).1 < g) ∧ 0 ≤ (zmnr C K g).2 ∧ (zmnr C K g).2 ≤ 1400
  | 0, _ => by simp only [zmnr]; omega
  | g + 1, h => by
    have h1 := zmnr_bd (K := K) g fun i hi => h i (by omega)
    have h2 := h g (by omega)
    simp only [zmnr]
    split
    · omega
    · dsimp only
      omega
theorem zmnr_znr {C : Nat → Int} {K : Nat → Nat} {limit : Int} : ∀ g : Nat, (∀ i, i < g → 0 ≤ C i) → znr C K limit g = if (zmnr C K g).1 ≠ (-1) ∧ (zmnr C K g).2 ≤ limit then zmnr C K g else (-1, limit + 1)
  | 0, _ => by simp [znr, zmnr]
  | g + 1, h => by
    have ih := zmnr_znr (C := C) (K := K) (limit := limit) g fun i hi => h i (by omega)
    rcases hp : zmnr C K g with ⟨a, b⟩
    simp only [znr, zmnr, ih, hp]
    by_cases hk : 40 < K g
    · rw [if_pos (Or.inl hk), if_neg (show ¬ K g ≤ 40 by omega)]
      split <;> exact ite_self _
    · rw [if_pos (show K g ≤ 40 by omega)]
      by_cases ha : a = (-1)
      · rw [if_neg (show ¬ (a ≠ (-1) ∧ b ≤ limit) from fun q => q.1 ha), if_neg (show ¬ (40 < K g ∨ (a ≠ (-1) ∧ b ≤ C g)) from fun q => q.elim hk (fun q => q.1 ha))]
        dsimp only
        by_cases hc : limit + 1 ≤ C g
        · rw [if_pos hc, if_neg (by omega)]
        · rw [if_neg hc, if_pos (by omega)]
      · by_cases hb : b ≤ limit
        · rw [if_pos (show a ≠ (-1) ∧ b ≤ limit from ⟨ha, hb⟩)]
          dsimp only
          by_cases hc : b ≤ C g
          · rw [if_pos hc, if_pos (Or.inr ⟨ha, hc⟩)]
            dsimp only
            rw [if_pos ⟨ha, hb⟩]
          · rw [if_neg hc, if_neg (show ¬ (40 < K g ∨ (a ≠ (-1) ∧ b ≤ C g)) from fun q => q.elim hk (fun q => hc q.2))]
            dsimp only
            rw [if_pos (by omega)]
        · rw [if_neg (show ¬ (a ≠ (-1) ∧ b ≤ limit) from fun q => hb q.2)]
          dsimp only
          by_cases hc : b ≤ C g
          · rw [if_pos (Or.inr ⟨ha, hc⟩), if_pos (by omega)]
            dsimp only
            rw [if_neg (fun q => hb q.2)]
          · rw [if_neg (show ¬ (40 < K g ∨ (a ≠ (-1) ∧ b ≤ C g)) from fun q => q.elim hk (fun q => hc q.2))]
            dsimp only
            by_cases hd : limit + 1 ≤ C g
            · rw [if_pos hd, if_neg (by omega)]
            · rw [if_neg hd, if_pos (by omega)]
/-- the store after the first g groups were aligned -/
def zmns (I : zStore) (line : Int) (m : Nat) (n : Nat → Nat) : Nat → zStore
  | 0 => I
  | g + 1 => zmal (zmns I line m n g) (1 + g) line (n g) m
theorem zmns_s {I : zStore} {line : Int} {m : Nat} {n : Nat → Nat} : ∀ g : Nat, zSm I (zmns I line m n g)
  | 0 => zSm.rfl
  | g + 1 => (zmns_s g).trans zmal_sm
theorem zmns_rg {I : zStore} {line : Int} {m N : Nat} {n : Nat → Nat} (hr : zRg I) (hA : ∀ g : Nat, g < N → zmA I (1 + g) line (n g) m) : ∀ g : Nat, g ≤ N → zRg (zmns I line m n g)
  | 0, _ => hr
  | g + 1, h => zRg_mal (zmns_rg hr hA g (by omega)) (zmA_s (zmns_s g) (hA g (by omega)))
/-- the model's choice for the line, the store behind it, the group, the store when the group is chosen, and when the line has joined it -/
def zmgv (S : zStore) (l : Nat) : Int × Int := zmnr (fun g => zmC S (1 + g) l (S 118 (1 + g)).toNat (S 114 l).toNat) (fun g => zmK S (1 + g) l (S 118 (1 + g)).toNat (S 114 l).toNat) (S 110 19).toNat
def zmgn (S : zStore) (l : Nat) : zStore := zmns S l (S 114 l).toNat (fun g => (S 118 (1 + g)).toNat) (S 110 19).toNat
def zmgh (S : zStore) (limit : Int) (l : Nat) : Nat := if (zmgv S l).1 = (-1) ∨ limit < (zmgv S l).2 then (S 110 19).toNat else (zmgv S l).1.toNat
def zmgc (S : zStore) (limit : Int) (l : Nat) : zStore := if (zmgv S l).1 = (-1) ∨ limit < (zmgv S l).2 then zup (zup (zup (zmgn S l) 118 (1 + zmgh S limit l) 0) 119 (1 + zmgh S limit l) 0) 110 19 (zmgn S l 110 19 + 1) else zmgn S l
def zmgt (S : zStore) (limit : Int) (l : Nat) : zStore := zup (zmaj (zmgc S limit l) (1 + zmgh S limit l) l (zmgc S limit l 118 (1 + zmgh S limit l)).toNat (S 114 l).toNat) 123 l (zmgh S limit l)
def zmgp (I : zStore) (limit : Int) : Nat → zStore
  | 0 => zup (zup I 110 0 0) 110 19 0
  | l + 1 => zmgt (zmgp I limit l) limit l
/-- what must hold when the line's turn comes -/
def zmGl (S : zStore) (limit : Int) (l : Nat) : Prop := (0 ≤ S 110 19 ∧ S 110 19 < 12) ∧ (∀ g : Nat, g < (S 110 19).toNat → zmA S (1 + g) l (S 118 (1 + g)).toNat (S 114 l).toNat) ∧ zmA (zmgc S limit l) (1 + zmgh S limit l) l (zmgc S limit l 118 (1 + zmgh S limit l)).toNat (S 114 l).toNat ∧ zmK (zmgc S limit l) (1 + zmgh S limit l) l (zmgc S limit l 118 (1 + zmgh S limit l)).toNat (S 114 l).toNat ≤ 40
section ZMGR
variable {S : zStore} {limit : Int} {l : Nat}
theorem zmgv_bd (h : zmGl S limit l) : (-1 ≤ (zmgv S l).1 ∧ (zmgv S l).1 < (S 110 19).toNat) ∧ 0 ≤ (zmgv S l).2 ∧ (zmgv S l).2 ≤ 1400 := zmnr_bd _ fun g hg => by
  have h2 := h.2.1 g hg
  have h3 := zmC_bd h2 (S 118 (1 + g)).toNat (S 114 l).toNat
  have h4 := h2.2.2.1
  have h5 := h2.2.2.2.1
  omega
theorem zmgh_lt (h : zmGl S limit l) : zmgh S limit l < 12 := by
  have h1 := zmgv_bd h
  have h2 := h.1
  unfold zmgh
  split <;> omega
theorem zmgn_rg (hr : zRg S) (h : zmGl S limit l) : zRg (zmgn S l) := zmns_rg hr h.2.1 _ (Nat.le_refl _)
theorem zmgn_s : zSm S (zmgn S l) := zmns_s _
theorem zmgc_rg (hr : zRg S) (h : zmGl S limit l) : zRg (zmgc S limit l) := by
  have h1 := zmgn_rg hr h
  have h2 := (zmgn_s (S := S) (l := l)).f (j := 19) (by decide)
  have h3 := h.1
  unfold zmgc
  split
  · exact zRg_up (zRg_up (zRg_up h1 (by decide)) (by decide)) (by omega)
  · exact h1
theorem zmgt_rg (hr : zRg S) (h : zmGl S limit l) : zRg (zmgt S limit l) := by
  have h1 := zmgh_lt h
  exact zRg_up (zRg_maj (zmgc_rg hr h) h.2.2.1 h.2.2.2) (by omega)
end ZMGR
theorem zmgp_rg {I : zStore} {limit : Int} (hr : zRg I) : ∀ l : Nat, (∀ x : Nat, x < l → zmGl (zmgp I limit x) limit x) → zRg (zmgp I limit l)
  | 0, _ => zRg_up (zRg_up hr (by decide)) (by decide)
  | l + 1, h => zmgt_rg (zmgp_rg hr l fun x hx => h x (by omega)) (h l (by omega))
theorem c_X4_group_bad {F : zFr} {I : zStore} {limit : Int} (hL : zLayM F) (hr : zRg I) (hl : -2147483648 ≤ limit ∧ limit < 2147483648) (hm : ¬ (0 ≤ limit ∧ limit ≤ 200)) : ∀ (l : Launch) (D : va_G) (cs : Nat → ClassId), l.stackTraces = false → zMt l yX4_group cX4_group 7 (some .int) rm_X4_group D cs F I [.ref (F.1 110), .int (zI limit)] (fun r I' => r = some (.int (zI 0)) ∧ I' = zup I 110 0 1) := by
  intro l D cs hst
  refine zMt.ofI hst (by decide +kernel) (Nat.le_of_ble_eq_true rfl) fun G hG hR hE => ?_
  exact s_X4_group_0 hG hR hE hL hr hl (fun _ _ => ⟨rfl, rfl⟩) (by intros; exfalso; omega) (fun _ _ _ => ⟨rfl, rfl⟩)
set_option maxHeartbeats 8000000 in
theorem c_X4_group {F : zFr} {I : zStore} {limit : Int} {N : Nat} (hL : zLayM F) (hr : zRg I) (hm : 0 ≤ limit ∧ limit ≤ 200) (hN2 : N ≤ 12) (hN : ∀ l : Nat, l ≤ N → zmgp I limit l 110 3 = N) (hg : ∀ l : Nat, l < N → zmGl (zmgp I limit l) limit l) : ∀ (l : Launch) (D : va_G) (cs : Nat → ClassId), l.stackTraces = false → zMt l yX4_group cX4_group 7 (some .int) rm_X4_group D cs F I [.ref (F.1 110), .int (zI limit)] (fun r I' => r = some (.int (zI (zmgp I limit N 110 19))) ∧ I' = zup (zmgp I limit N) 110 18 1) := by
  intro l D cs hst
  refine zMt.ofI hst (by decide +kernel) (Nat.le_of_ble_eq_true rfl) fun G hG hR hE => ?_
  have key : ∀ (d i : Nat), i + d = N → zW G F 0 0 (zmgp I limit i) [(0, .ref (F.1 110)), (1, .int (zI limit)), (2, .int (zI i))] [] 36 := by
    intro d
    induction d with
    | zero =>
      intro i hi
      have e : i = N := by omega
      subst e
      have hn := hN i (Nat.le_refl _)
      have hrS := zmgp_rg hr i hg
      refine s_X4_group_36 hG hR hE hL hrS (by omega) (by omega) hm (fun _ => ⟨?_, rfl⟩) (fun h => absurd h (by omega))
      rfl
    | succ d ih =>
      intro i hi
      have h := ih (i + 1) (by omega)
      have hn := hN i (by omega)
      have hi2 := hg i (by omega)
      have hrS := zmgp_rg hr i fun x hx => hg x (by omega)
      have hs : zmgp I limit (i + 1) = zmgt (zmgp I limit i) limit i := rfl
      rw [hs] at h
      generalize zmgp I limit i = S at *
      have hh := zmgh_lt hi2
      have hv := zmgv_bd hi2
      have hrn := zmgn_rg hrS hi2
      have hrc := zmgc_rg hrS hi2
      have h19 := (zmgn_s (S := S) (l := i)).f (j := 19) (by decide)
      obtain ⟨g1, g2, g3, g4⟩ := id hi2
      have hC := zmC_bd g3 (zmgc S limit i 118 (1 + zmgh S limit i)).toNat (S 114 i).toNat
      have hn3 := g3.2.2.1
      have hm3 := g3.2.2.2.1
      have h172 : zW G F 0 0 (zmgc S limit i) [(0, .ref (F.1 110)), (1, .int (zI limit)), (2, .int (zI i)), (3, .int (zI (zmgh S limit i)))] [] 172 :=
        s_X4_group_172 (J177 := ztab (zmgc S limit i) 124 (S 114 i).toNat (zmgc S limit i 118 (1 + zmgh S limit i)).toNat (zmC (zmgc S limit i) (1 + zmgh S limit i) i)) (v177 := zmC (zmgc S limit i) (1 + zmgh S limit i) i (zmgc S limit i 118 (1 + zmgh S limit i)).toNat (S 114 i).toNat) (J186 := zmal (zmgc S limit i) (1 + zmgh S limit i) i (zmgc S limit i 118 (1 + zmgh S limit i)).toNat (S 114 i).toNat) (J194 := zmaj (zmgc S limit i) (1 + zmgh S limit i) i (zmgc S limit i 118 (1 + zmgh S limit i)).toNat (S 114 i).toNat) hG hR hE hL hrc (by omega) (by omega) (c_X4_align hL hrc g3) (zRg_mtab hrc g3) (by omega) (c_alfo hL hrc g3) (zRg_mal hrc g3) (c_X4_mergeInto hL (zRg_mal hrc g3) (zmG_of g3 g4)) (zRg_maj hrc g3 g4) h
      have h128 : zW G F 0 0 (zmgn S i) [(0, .ref (F.1 110)), (1, .int (zI limit)), (2, .int (zI i)), (3, .int (zI (zmgv S i).1)), (4, .int (zI (zmgv S i).2))] [] 128 := by
        have new : ((zmgv S i).1 = (-1) ∨ limit < (zmgv S i).2) → zW G F 0 0 (zup (zup (zup (zmgn S i) 118 (1 + zmgn S i 110 19) 0) 119 (1 + zmgn S i 110 19) 0) 110 19 (zmgn S i 110 19 + 1)) [(0, .ref (F.1 110)), (1, .int (zI limit)), (2, .int (zI i)), (3, .int (zI (zmgn S i 110 19)))] [] 172 := fun q => by
          have e1 : (zmgh S limit i : Int) = zmgn S i 110 19 := by
            unfold zmgh
            rw [if_pos q, h19]
            omega
          have e2 : zmgc S limit i = zup (zup (zup (zmgn S i) 118 (1 + zmgh S limit i) 0) 119 (1 + zmgh S limit i) 0) 110 19 (zmgn S i 110 19 + 1) := if_pos q
          rw [e2, e1] at h172
          exact h172
        refine s_X4_group_128 hG hR hE hL hrn hm (by omega) (by omega) (fun _ _ => by omega) (fun q => new (Or.inl q)) (fun q1 q2 => ?_) (fun _ q => new (Or.inr q))
        have q3 : ¬ ((zmgv S i).1 = (-1) ∨ limit < (zmgv S i).2) := by omega
        have e1 : (zmgh S limit i : Int) = (zmgv S i).1 := by
          unfold zmgh
          rw [if_neg q3]
          omega
        have e2 : zmgc S limit i = zmgn S i := if_neg q3
        rw [e2, e1] at h172
        exact h172
      have inner : ∀ (e g : Nat), g + e = (S 110 19).toNat → zW G F 0 0 (zmns S i (S 114 i).toNat (fun g => (S 118 (1 + g)).toNat) g) [(0, .ref (F.1 110)), (1, .int (zI limit)), (2, .int (zI i)), (3, .int (zI (zmnr (fun g => zmC S (1 + g) i (S 118 (1 + g)).toNat (S 114 i).toNat) (fun g => zmK S (1 + g) i (S 118 (1 + g)).toNat (S 114 i).toNat) g).1)), (4, .int (zI (zmnr (fun g => zmC S (1 + g) i (S 118 (1 + g)).toNat (S 114 i).toNat) (fun g => zmK S (1 + g) i (S 118 (1 + g)).toNat (S 114 i).toNat) g).2)), (5, .int (zI g))] [] 52 := by
        generalize hC9 : (fun g : Nat => zmC S (1 + g) i (S 118 (1 + g)).toNat (S 114 i).toNat) = C9
        generalize hK9 : (fun g : Nat => zmK S (1 + g) i (S 118 (1 + g)).toNat (S 114 i).toNat) = K9
        have hCb : ∀ x : Nat, x < (S 110 19).toNat → 0 ≤ C9 x ∧ C9 x ≤ 1400 := fun x hx => by
          have b2 := g2 x hx
          have b3 := zmC_bd b2 (S 118 (1 + x)).toNat (S 114 i).toNat
          have b4 := b2.2.2.1
          have b5 := b2.2.2.2.1
          rw [← hC9]
          show 0 ≤ zmC S (1 + x) i (S 118 (1 + x)).toNat (S 114 i).toNat ∧ zmC S (1 + x) i (S 118 (1 + x)).toNat (S 114 i).toNat ≤ 1400
          omega
        intro e
        induction e with
        | zero =>
          intro g hge
          have e9 : g = (S 110 19).toNat := by omega
          have hvd : zmgv S i = zmnr C9 K9 g := by
            rw [e9, ← hC9, ← hK9]
            rfl
          have hnd : zmgn S i = zmns S i (S 114 i).toNat (fun g => (S 118 (1 + g)).toNat) g := by
            rw [e9]
            rfl
          rw [← hvd, ← hnd]
          exact s_X4_group_52 (J67 := I) (v67 := 0) (J78 := I) hG hR hE hL hrn (by omega) hm (by omega) (by omega) (by omega) (by omega) (fun _ => h128) (fun q => absurd q (by omega)) hr (by decide) (fun q => absurd q (by omega)) hr (fun q => absurd q (by omega))
        | succ e ih2 =>
          intro g hge
          have hnx := ih2 (g + 1) (by omega)
          have hgA := g2 g (by omega)
          have hsm := zmns_s (I := S) (line := (i : Int)) (m := (S 114 i).toNat) (n := fun g => (S 118 (1 + g)).toNat) g
          have hrm := zmns_rg (I := S) (line := (i : Int)) (m := (S 114 i).toNat) (n := fun g => (S 118 (1 + g)).toNat) hrS g2 g (by omega)
          have hb := zmnr_bd (C := C9) (K := K9) g fun x hx => hCb x (by omega)
          have hbg := hCb g (by omega)
          have eC : zmC S (1 + (g : Int)) i (S 118 (1 + g)).toNat (S 114 i).toNat = C9 g := by rw [← hC9]
          have eK : zmK S (1 + (g : Int)) i (S 118 (1 + g)).toNat (S 114 i).toNat = K9 g := by rw [← hK9]
          have e1 : zmns S i (S 114 i).toNat (fun g => (S 118 (1 + g)).toNat) (g + 1) = zmal (zmns S i (S 114 i).toNat (fun g => (S 118 (1 + g)).toNat) g) (1 + g) i (S 118 (1 + g)).toNat (S 114 i).toNat := rfl
          have e2 : zmnr C9 K9 (g + 1) = if 40 < K9 g ∨ ((zmnr C9 K9 g).1 ≠ (-1) ∧ (zmnr C9 K9 g).2 ≤ C9 g) then zmnr C9 K9 g else ((g : Int), C9 g) := rfl
          rw [e1, e2] at hnx
          generalize zmns S i (S 114 i).toNat (fun g => (S 118 (1 + g)).toNat) g = J at *
          have hJA := zmA_s hsm hgA
          have hJC : zmC J (1 + (g : Int)) i = zmC S (1 + (g : Int)) i := zmC_s hsm
          have hJK : zmK J (1 + (g : Int)) i (S 118 (1 + g)).toNat (S 114 i).toNat = zmK S (1 + (g : Int)) i (S 118 (1 + g)).toNat (S 114 i).toNat := by
            unfold zmK
            rw [zms_s hsm, zmq_s hsm, hsm.f (j := 12) (by decide)]
          have hJ19 : J 110 19 = S 110 19 := hsm.f (by decide)
          have ca := c_X4_align hL hrm hJA
          rw [hJC, eC] at ca
          have cf := c_alfr hL hrm hJA
          rw [hJK, eK] at cf
          have cfo := c_alfo hL hrm hJA
          rw [hJC] at cfo
          have hr1 := zRg_mtab hrm hJA
          rw [hJC] at hr1
          have hr2 := zRg_mal hrm hJA
          have e118 : zmal J (1 + g) i (S 118 (1 + g)).toNat (S 114 i).toNat 118 (1 + g) = (S 118 (1 + g)).toNat := by
            rw [zmal_sm.o (c := 118) (by decide) (by decide)]
            exact hJA.2.2.1.1
          have kle := zmK_le (I := S) (f := 1 + (g : Int)) (line := i) (n := (S 118 (1 + g)).toNat) (m := (S 114 i).toNat)
          have kn := zmK_n (I := S) (f := 1 + (g : Int)) (line := i) (n := (S 118 (1 + g)).toNat) (m := (S 114 i).toNat)
          have kz := zfc_bd (zmw S (1 + (g : Int)) i (S 118 (1 + g)).toNat (S 114 i).toNat) (zmK S (1 + (g : Int)) i (S 118 (1 + g)).toNat (S 114 i).toNat)
          have n40 := hgA.2.2.1
          have m30 := hgA.2.2.2.1
          rw [eK] at kle kn kz
          have h81 : zW G F 0 0 (zmal J (1 + g) i (S 118 (1 + g)).toNat (S 114 i).toNat) [(0, .ref (F.1 110)), (1, .int (zI limit)), (2, .int (zI i)), (3, .int (zI (zmnr C9 K9 g).1)), (4, .int (zI (zmnr C9 K9 g).2)), (5, .int (zI g)), (6, .int (zI (C9 g)))] [] 81 := by
            generalize zmnr C9 K9 g = p9 at *
            obtain ⟨a9, b9⟩ := p9
            dsimp only at *
            generalize zmal J (1 + g) i (S 118 (1 + g)).toNat (S 114 i).toNat = J2 at *
            refine s_X4_group_81 (v91 := (K9 g : Int) - (S 118 (1 + g)).toNat) hG hR hE hL hr2 (by omega) (by omega) (by omega) (by omega) (by omega) cf (by omega) (by intros; first | (exfalso; omega) | (rw [if_pos (by omega)] at hnx; exact hnx) | (rw [if_neg (by omega)] at hnx; exact hnx)) (by intros; first | (exfalso; omega) | (rw [if_pos (by omega)] at hnx; exact hnx) | (rw [if_neg (by omega)] at hnx; exact hnx)) (by intros; first | (exfalso; omega) | (rw [if_pos (by omega)] at hnx; exact hnx) | (rw [if_neg (by omega)] at hnx; exact hnx)) (by intros; first | (exfalso; omega) | (rw [if_pos (by omega)] at hnx; exact hnx) | (rw [if_neg (by omega)] at hnx; exact hnx))
          exact s_X4_group_52 (J67 := ztab J 124 (S 114 i).toNat (S 118 (1 + g)).toNat (zmC S (1 + (g : Int)) i)) (v67 := C9 g) (J78 := zmal J (1 + g) i (S 118 (1 + g)).toNat (S 114 i).toNat) hG hR hE hL hrm (by omega) hm (by omega) (by omega) (by omega) (by omega) (fun q => absurd q (by omega)) (fun _ => ca) hr1 (by omega) (fun _ => cfo) hr2 (fun _ => h81)
      have h52 := inner (S 110 19).toNat 0 (by omega)
      exact s_X4_group_36 hG hR hE hL hrS (by omega) (by omega) hm (fun q => absurd q (by omega)) (fun _ => h52)
  exact s_X4_group_0 hG hR hE hL hr (by omega) (by intros; exfalso; omega) (fun _ _ _ => key N 0 (by omega)) (by intros; exfalso; omega)
